theorem dX8_count_96 : decode cX8_count 96 = .ok (.bipush 9, 2) := by decide +kernel
theorem dX8_count_98 : decode cX8_count 98 = .ok (.iaload, 1) := by decide +kernel
theorem dX8_count_99 : decode cX8_count 99 = .ok (.ireturn, 1) := by decide +kernel
theorem dX8_count_100 : decode cX8_count 100 = .ok (.aload_n 0, 1) := by decide +kernel
theorem dX8_count_101 : decode cX8_count 101 = .ok (.getfield 9, 3) := by decide +kernel
theorem dX8_count_104 : decode cX8_count 104 = .ok (.iconst 5, 1) := by decide +kernel
theorem dX8_count_105 : decode cX8_count 105 = .ok (.iaload, 1) := by decide +kernel
theorem dX8_count_106 : decode cX8_count 106 = .ok (.ireturn, 1) := by decide +kernel
theorem dX8_count_107 : decode cX8_count 107 = .ok (.aload_n 0, 1) := by decide +kernel
theorem dX8_count_108 : decode cX8_count 108 = .ok (.getfield 219, 3) := by decide +kernel
theorem dX8_count_111 : decode cX8_count 111 = .ok (.ireturn, 1) := by decide +kernel
theorem dX8_count_112 : decode cX8_count 112 = .ok (.aload_n 0, 1) := by decide +kernel
theorem dX8_count_113 : decode cX8_count 113 = .ok (.iload_n 1, 1) := by decide +kernel
theorem dX8_count_114 : decode cX8_count 114 = .ok (.iconst 4, 1) := by decide +kernel
theorem dX8_count_115 : decode cX8_count 115 = .ok (.isub, 1) := by decide +kernel
theorem dX8_count_116 : decode cX8_count 116 = .ok (.invokevirtual 238, 3) := by decide +kernel
theorem dX8_count_119 : decode cX8_count 119 = .ok (.ireturn, 1) := by decide +kernel
set_option maxRecDepth 20000 in
theorem ggX8_setting_X8_in : GoodIn wsX8_setting wsX8_in := goodIn_r _ [6] (by decide +kernel) (by decide +kernel)
set_option maxRecDepth 20000 in
theorem gX8_setting_X8_in : GoodIn wsX8_setting (va_wsS RX8 52 yX8_in wsX8_in) := goodIn_app (goodIn_of _ (by decide +kernel)) ggX8_setting_X8_in
set_option maxRecDepth 20000 in
theorem ggX8_setting_X8_isThrown : GoodIn wsX8_setting wsX8_isThrown := goodIn_r _ [10, 11, 12, 13, 14, 15, 16, 17, 18, 19, 20, 21, 22, 23, 24, 25, 26, 27, 28, 29, 30, 31, 32, 33, 34] (by decide +kernel) (by decide +kernel)
set_option maxRecDepth 20000 in
theorem gX8_setting_X8_isThrown : GoodIn wsX8_setting (wsV RX8 226 RX8 yX8_isThrown wsX8_isThrown) := goodIn_app (goodIn_of _ (by decide +kernel)) ggX8_setting_X8_isThrown
theorem dX8_setting_0 : decode cX8_setting 0 = .ok (.aload_n 0, 1) := by decide +kernel
theorem dX8_setting_1 : decode cX8_setting 1 = .ok (.iload_n 1, 1) := by decide +kernel
theorem dX8_setting_2 : decode cX8_setting 2 = .ok (.i2l, 1) := by decide +kernel
theorem dX8_setting_3 : decode cX8_setting 3 = .ok (.lconst 0, 1) := by decide +kernel
theorem dX8_setting_4 : decode cX8_setting 4 = .ok (.ldc2_w 241, 3) := by decide +kernel
theorem dX8_setting_7 : decode cX8_setting 7 = .ok (.invokestatic 52, 3) := by decide +kernel
theorem dX8_setting_10 : decode cX8_setting 10 = .ok (.iconst 1, 1) := by decide +kernel
theorem dX8_setting_11 : decode cX8_setting 11 = .ok (.invokevirtual 226, 3) := by decide +kernel
theorem dX8_setting_14 : decode cX8_setting 14 = .ok (.ifCond .eq 7, 3) := by decide +kernel
theorem dX8_setting_17 : decode cX8_setting 17 = .ok (.iconst 0, 1) := by decide +kernel
theorem dX8_setting_18 : decode cX8_setting 18 = .ok (.goto 9, 3) := by decide +kernel
theorem dX8_setting_21 : decode cX8_setting 21 = .ok (.aload_n 0, 1) := by decide +kernel
theorem dX8_setting_22 : decode cX8_setting 22 = .ok (.getfield 9, 3) := by decide +kernel
theorem dX8_setting_25 : decode cX8_setting 25 = .ok (.iload_n 1, 1) := by decide +kernel
theorem dX8_setting_26 : decode cX8_setting 26 = .ok (.iaload, 1) := by decide +kernel
theorem dX8_setting_27 : decode cX8_setting 27 = .ok (.ireturn, 1) := by decide +kernel
set_option maxRecDepth 20000 in
theorem ggX8_station_X8_isStation : GoodIn wsX8_station wsX8_isStation := goodIn_r _ [6, 7, 8, 9, 5, 10, 20, 21, 22, 23, 24, 25, 26, 27, 28, 29, 30, 31, 32, 33, 34, 35, 36, 37, 38, 39, 40, 41, 42] (by decide +kernel) (by decide +kernel)
set_option maxRecDepth 20000 in
theorem gX8_station_X8_isStation : GoodIn wsX8_station (wsV RX8 243 RX8 yX8_isStation wsX8_isStation) := goodIn_app (goodIn_of _ (by decide +kernel)) ggX8_station_X8_isStation
set_option maxRecDepth 20000 in
theorem ggX8_station_X8_isThrown : GoodIn wsX8_station wsX8_isThrown := goodIn_r _ [14, 15, 20, 21, 22, 23, 24, 25, 26, 27, 28, 29, 30, 31, 32, 33, 34, 35, 36, 37, 38, 39, 40, 41, 42] (by decide +kernel) (by decide +kernel)
set_option maxRecDepth 20000 in
theorem gX8_station_X8_isThrown : GoodIn wsX8_station (wsV RX8 226 RX8 yX8_isThrown wsX8_isThrown) := goodIn_app (goodIn_of _ (by decide +kernel)) ggX8_station_X8_isThrown
set_option maxRecDepth 20000 in
theorem ggX8_station_X8_in : GoodIn wsX8_station wsX8_in := goodIn_r _ [10] (by decide +kernel) (by decide +kernel)
set_option maxRecDepth 20000 in
theorem gX8_station_X8_in : GoodIn wsX8_station (va_wsS RX8 52 yX8_in wsX8_in) := goodIn_app (goodIn_of _ (by decide +kernel)) ggX8_station_X8_in
set_option maxRecDepth 20000 in
theorem ggX8_station_X8_of : GoodIn wsX8_station wsX8_of := goodIn_r _ [19, 7, 20, 21, 22, 23, 24, 25, 26, 27, 28, 29, 30, 31, 32, 33, 34, 35, 36, 37, 38, 39, 40, 41, 42] (by decide +kernel) (by decide +kernel)
set_option maxRecDepth 20000 in
theorem gX8_station_X8_of : GoodIn wsX8_station (wsV RX8 248 RX8 yX8_of wsX8_of) := goodIn_app (goodIn_of _ (by decide +kernel)) ggX8_station_X8_of
theorem dX8_station_0 : decode cX8_station 0 = .ok (.aload_n 0, 1) := by decide +kernel
theorem dX8_station_1 : decode cX8_station 1 = .ok (.aload_n 0, 1) := by decide +kernel
theorem dX8_station_2 : decode cX8_station 2 = .ok (.iload_n 1, 1) := by decide +kernel
theorem dX8_station_3 : decode cX8_station 3 = .ok (.invokevirtual 243, 3) := by decide +kernel
theorem dX8_station_6 : decode cX8_station 6 = .ok (.iconst 1, 1) := by decide +kernel
theorem dX8_station_7 : decode cX8_station 7 = .ok (.invokevirtual 226, 3) := by decide +kernel
theorem dX8_station_10 : decode cX8_station 10 = .ok (.ifCond .ne 20, 3) := by decide +kernel
theorem dX8_station_13 : decode cX8_station 13 = .ok (.aload_n 0, 1) := by decide +kernel
theorem dX8_station_14 : decode cX8_station 14 = .ok (.iload_n 2, 1) := by decide +kernel
theorem dX8_station_15 : decode cX8_station 15 = .ok (.i2l, 1) := by decide +kernel
theorem dX8_station_16 : decode cX8_station 16 = .ok (.lconst 0, 1) := by decide +kernel
theorem dX8_station_17 : decode cX8_station 17 = .ok (.ldc2_w 246, 3) := by decide +kernel
theorem dX8_station_20 : decode cX8_station 20 = .ok (.invokestatic 52, 3) := by decide +kernel
theorem dX8_station_23 : decode cX8_station 23 = .ok (.iconst 2, 1) := by decide +kernel
theorem dX8_station_24 : decode cX8_station 24 = .ok (.invokevirtual 226, 3) := by decide +kernel
theorem dX8_station_27 : decode cX8_station 27 = .ok (.ifCond .eq 5, 3) := by decide +kernel
theorem dX8_station_30 : decode cX8_station 30 = .ok (.iconst 0, 1) := by decide +kernel
theorem dX8_station_31 : decode cX8_station 31 = .ok (.ireturn, 1) := by decide +kernel
theorem dX8_station_32 : decode cX8_station 32 = .ok (.aload_n 0, 1) := by decide +kernel
theorem dX8_station_33 : decode cX8_station 33 = .ok (.iload_n 1, 1) := by decide +kernel
theorem dX8_station_34 : decode cX8_station 34 = .ok (.iload_n 2, 1) := by decide +kernel
theorem dX8_station_35 : decode cX8_station 35 = .ok (.invokevirtual 248, 3) := by decide +kernel
theorem dX8_station_38 : decode cX8_station 38 = .ok (.ireturn, 1) := by decide +kernel
set_option maxRecDepth 20000 in
theorem ggX8_card_X8_isCard : GoodIn wsX8_card wsX8_isCard := goodIn_r _ [6, 7, 8, 9, 5, 10, 20, 21, 22, 23, 24, 25, 26, 27, 28, 29, 30, 31, 32, 33, 34, 35, 36, 37, 38, 39, 40, 41, 42] (by decide +kernel) (by decide +kernel)
set_option maxRecDepth 20000 in
theorem gX8_card_X8_isCard : GoodIn wsX8_card (wsV RX8 251 RX8 yX8_isCard wsX8_isCard) := goodIn_app (goodIn_of _ (by decide +kernel)) ggX8_card_X8_isCard
set_option maxRecDepth 20000 in
theorem ggX8_card_X8_isThrown : GoodIn wsX8_card wsX8_isThrown := goodIn_r _ [14, 15, 20, 21, 22, 23, 24, 25, 26, 27, 28, 29, 30, 31, 32, 33, 34, 35, 36, 37, 38, 39, 40, 41, 42] (by decide +kernel) (by decide +kernel)
set_option maxRecDepth 20000 in
theorem gX8_card_X8_isThrown : GoodIn wsX8_card (wsV RX8 226 RX8 yX8_isThrown wsX8_isThrown) := goodIn_app (goodIn_of _ (by decide +kernel)) ggX8_card_X8_isThrown
set_option maxRecDepth 20000 in
theorem ggX8_card_X8_in : GoodIn wsX8_card wsX8_in := goodIn_r _ [10] (by decide +kernel) (by decide +kernel)
set_option maxRecDepth 20000 in
theorem gX8_card_X8_in : GoodIn wsX8_card (va_wsS RX8 52 yX8_in wsX8_in) := goodIn_app (goodIn_of _ (by decide +kernel)) ggX8_card_X8_in
set_option maxRecDepth 20000 in
theorem ggX8_card_X8_ofCard : GoodIn wsX8_card wsX8_ofCard := goodIn_r _ [19, 7, 20, 21, 22, 23, 24, 25, 26, 27, 28, 29, 30, 31, 32, 33, 34, 35, 36, 37, 38, 39, 40, 41, 42] (by decide +kernel) (by decide +kernel)
set_option maxRecDepth 20000 in
theorem gX8_card_X8_ofCard : GoodIn wsX8_card (wsV RX8 233 RX8 yX8_ofCard wsX8_ofCard) := goodIn_app (goodIn_of _ (by decide +kernel)) ggX8_card_X8_ofCard
theorem dX8_card_0 : decode cX8_card 0 = .ok (.aload_n 0, 1) := by decide +kernel
theorem dX8_card_1 : decode cX8_card 1 = .ok (.aload_n 0, 1) := by decide +kernel
theorem dX8_card_2 : decode cX8_card 2 = .ok (.iload_n 1, 1) := by decide +kernel
theorem dX8_card_3 : decode cX8_card 3 = .ok (.invokevirtual 251, 3) := by decide +kernel
theorem dX8_card_6 : decode cX8_card 6 = .ok (.iconst 1, 1) := by decide +kernel
theorem dX8_card_7 : decode cX8_card 7 = .ok (.invokevirtual 226, 3) := by decide +kernel
theorem dX8_card_10 : decode cX8_card 10 = .ok (.ifCond .ne 20, 3) := by decide +kernel
theorem dX8_card_13 : decode cX8_card 13 = .ok (.aload_n 0, 1) := by decide +kernel
theorem dX8_card_14 : decode cX8_card 14 = .ok (.iload_n 2, 1) := by decide +kernel
theorem dX8_card_15 : decode cX8_card 15 = .ok (.i2l, 1) := by decide +kernel
theorem dX8_card_16 : decode cX8_card 16 = .ok (.lconst 0, 1) := by decide +kernel
theorem dX8_card_17 : decode cX8_card 17 = .ok (.ldc2_w 254, 3) := by decide +kernel
theorem dX8_card_20 : decode cX8_card 20 = .ok (.invokestatic 52, 3) := by decide +kernel
theorem dX8_card_23 : decode cX8_card 23 = .ok (.iconst 2, 1) := by decide +kernel
theorem dX8_card_24 : decode cX8_card 24 = .ok (.invokevirtual 226, 3) := by decide +kernel
theorem dX8_card_27 : decode cX8_card 27 = .ok (.ifCond .eq 5, 3) := by decide +kernel
theorem dX8_card_30 : decode cX8_card 30 = .ok (.iconst 0, 1) := by decide +kernel
theorem dX8_card_31 : decode cX8_card 31 = .ok (.ireturn, 1) := by decide +kernel
theorem dX8_card_32 : decode cX8_card 32 = .ok (.aload_n 0, 1) := by decide +kernel
theorem dX8_card_33 : decode cX8_card 33 = .ok (.iload_n 1, 1) := by decide +kernel
theorem dX8_card_34 : decode cX8_card 34 = .ok (.iload_n 2, 1) := by decide +kernel
theorem dX8_card_35 : decode cX8_card 35 = .ok (.invokevirtual 233, 3) := by decide +kernel
theorem dX8_card_38 : decode cX8_card 38 = .ok (.ireturn, 1) := by decide +kernel
set_option maxRecDepth 20000 in
theorem ggX8_letter_X8_isCard : GoodIn wsX8_letter wsX8_isCard := goodIn_r _ [5, 6, 7, 8, 4, 9, 19, 20, 21, 22, 23, 24, 25, 26, 27, 28, 29, 30, 31, 32, 33, 34, 35, 36, 37, 38, 39, 40, 41] (by decide +kernel) (by decide +kernel)
set_option maxRecDepth 20000 in
theorem gX8_letter_X8_isCard : GoodIn wsX8_letter (wsV RX8 251 RX8 yX8_isCard wsX8_isCard) := goodIn_app (goodIn_of _ (by decide +kernel)) ggX8_letter_X8_isCard
set_option maxRecDepth 20000 in
theorem ggX8_letter_X8_isThrown : GoodIn wsX8_letter wsX8_isThrown := goodIn_r _ [13, 14, 19, 20, 21, 22, 23, 24, 25, 26, 27, 28, 29, 30, 31, 32, 33, 34, 35, 36, 37, 38, 39, 40, 41] (by decide +kernel) (by decide +kernel)
set_option maxRecDepth 20000 in
theorem gX8_letter_X8_isThrown : GoodIn wsX8_letter (wsV RX8 226 RX8 yX8_isThrown wsX8_isThrown) := goodIn_app (goodIn_of _ (by decide +kernel)) ggX8_letter_X8_isThrown
set_option maxRecDepth 20000 in
theorem ggX8_letter_X8_ofCard : GoodIn wsX8_letter wsX8_ofCard := goodIn_r _ [18, 6, 19, 20, 21, 22, 23, 24, 25, 26, 27, 28, 29, 30, 31, 32, 33, 34, 35, 36, 37, 38, 39, 40, 41] (by decide +kernel) (by decide +kernel)
set_option maxRecDepth 20000 in
theorem gX8_letter_X8_ofCard : GoodIn wsX8_letter (wsV RX8 233 RX8 yX8_ofCard wsX8_ofCard) := goodIn_app (goodIn_of _ (by decide +kernel)) ggX8_letter_X8_ofCard
set_option maxRecDepth 20000 in
theorem ggX8_letter_X8_in : GoodIn wsX8_letter wsX8_in := goodIn_r _ [9] (by decide +kernel) (by decide +kernel)
set_option maxRecDepth 20000 in
theorem gX8_letter_X8_in : GoodIn wsX8_letter (va_wsS RX8 52 yX8_in wsX8_in) := goodIn_app (goodIn_of _ (by decide +kernel)) ggX8_letter_X8_in
theorem dX8_letter_0 : decode cX8_letter 0 = .ok (.aload_n 0, 1) := by decide +kernel
theorem dX8_letter_1 : decode cX8_letter 1 = .ok (.aload_n 0, 1) := by decide +kernel
theorem dX8_letter_2 : decode cX8_letter 2 = .ok (.iload_n 1, 1) := by decide +kernel
theorem dX8_letter_3 : decode cX8_letter 3 = .ok (.invokevirtual 251, 3) := by decide +kernel
theorem dX8_letter_6 : decode cX8_letter 6 = .ok (.iconst 1, 1) := by decide +kernel
theorem dX8_letter_7 : decode cX8_letter 7 = .ok (.invokevirtual 226, 3) := by decide +kernel
theorem dX8_letter_10 : decode cX8_letter 10 = .ok (.ifCond .eq 5, 3) := by decide +kernel
theorem dX8_letter_13 : decode cX8_letter 13 = .ok (.iconst 0, 1) := by decide +kernel
theorem dX8_letter_14 : decode cX8_letter 14 = .ok (.ireturn, 1) := by decide +kernel
theorem dX8_letter_15 : decode cX8_letter 15 = .ok (.iload_n 2, 1) := by decide +kernel
theorem dX8_letter_16 : decode cX8_letter 16 = .ok (.i2l, 1) := by decide +kernel
theorem dX8_letter_17 : decode cX8_letter 17 = .ok (.lconst 0, 1) := by decide +kernel
theorem dX8_letter_18 : decode cX8_letter 18 = .ok (.aload_n 0, 1) := by decide +kernel
theorem dX8_letter_19 : decode cX8_letter 19 = .ok (.iload_n 1, 1) := by decide +kernel
theorem dX8_letter_20 : decode cX8_letter 20 = .ok (.iconst 2, 1) := by decide +kernel
theorem dX8_letter_21 : decode cX8_letter 21 = .ok (.invokevirtual 233, 3) := by decide +kernel
theorem dX8_letter_24 : decode cX8_letter 24 = .ok (.iconst 1, 1) := by decide +kernel
theorem dX8_letter_25 : decode cX8_letter 25 = .ok (.isub, 1) := by decide +kernel
theorem dX8_letter_26 : decode cX8_letter 26 = .ok (.i2l, 1) := by decide +kernel
theorem dX8_letter_27 : decode cX8_letter 27 = .ok (.invokestatic 52, 3) := by decide +kernel
theorem dX8_letter_30 : decode cX8_letter 30 = .ok (.ifCond .eq 15, 3) := by decide +kernel
theorem dX8_letter_33 : decode cX8_letter 33 = .ok (.aload_n 0, 1) := by decide +kernel
theorem dX8_letter_34 : decode cX8_letter 34 = .ok (.iload_n 1, 1) := by decide +kernel
theorem dX8_letter_35 : decode cX8_letter 35 = .ok (.bipush 9, 2) := by decide +kernel
theorem dX8_letter_37 : decode cX8_letter 37 = .ok (.iload_n 2, 1) := by decide +kernel
theorem dX8_letter_38 : decode cX8_letter 38 = .ok (.iadd, 1) := by decide +kernel
theorem dX8_letter_39 : decode cX8_letter 39 = .ok (.invokevirtual 233, 3) := by decide +kernel
theorem dX8_letter_42 : decode cX8_letter 42 = .ok (.goto 4, 3) := by decide +kernel
theorem dX8_letter_45 : decode cX8_letter 45 = .ok (.iconst (-1), 1) := by decide +kernel
theorem dX8_letter_46 : decode cX8_letter 46 = .ok (.ireturn, 1) := by decide +kernel
set_option maxRecDepth 20000 in
theorem ggX8_isFinished_X8_ofCard : GoodIn wsX8_isFinished wsX8_ofCard := goodIn_r _ [5, 6, 7, 8, 9, 10, 11, 12, 13, 14, 15, 16, 17, 18, 19, 20, 21, 22, 23, 24, 25, 26, 27, 28, 29] (by decide +kernel) (by decide +kernel)
set_option maxRecDepth 20000 in
theorem gX8_isFinished_X8_ofCard : GoodIn wsX8_isFinished (wsV RX8 233 RX8 yX8_ofCard wsX8_ofCard) := goodIn_app (goodIn_of _ (by decide +kernel)) ggX8_isFinished_X8_ofCard
theorem dX8_isFinished_0 : decode cX8_isFinished 0 = .ok (.aload_n 0, 1) := by decide +kernel
theorem dX8_isFinished_1 : decode cX8_isFinished 1 = .ok (.iload_n 1, 1) := by decide +kernel
theorem dX8_isFinished_2 : decode cX8_isFinished 2 = .ok (.iconst 3, 1) := by decide +kernel
theorem dX8_isFinished_3 : decode cX8_isFinished 3 = .ok (.invokevirtual 233, 3) := by decide +kernel
theorem dX8_isFinished_6 : decode cX8_isFinished 6 = .ok (.iconst 3, 1) := by decide +kernel
theorem dX8_isFinished_7 : decode cX8_isFinished 7 = .ok (.if_icmp .lt 7, 3) := by decide +kernel
theorem dX8_isFinished_10 : decode cX8_isFinished 10 = .ok (.iconst 1, 1) := by decide +kernel
theorem dX8_isFinished_11 : decode cX8_isFinished 11 = .ok (.goto 4, 3) := by decide +kernel
theorem dX8_isFinished_14 : decode cX8_isFinished 14 = .ok (.iconst 0, 1) := by decide +kernel
theorem dX8_isFinished_15 : decode cX8_isFinished 15 = .ok (.ireturn, 1) := by decide +kernel
set_option maxRecDepth 20000 in
theorem ggX8_at_X8_ofCard : GoodIn wsX8_at wsX8_ofCard := goodIn_r _ [6, 1, 7, 8, 9, 10, 11, 12, 13, 14, 15, 16, 17, 18, 19, 20, 21, 22, 23, 24, 25, 26, 27, 28, 29] (by decide +kernel) (by decide +kernel)
set_option maxRecDepth 20000 in
theorem gX8_at_X8_ofCard : GoodIn wsX8_at (wsV RX8 233 RX8 yX8_ofCard wsX8_ofCard) := goodIn_app (goodIn_of _ (by decide +kernel)) ggX8_at_X8_ofCard
theorem dX8_at_0 : decode cX8_at 0 = .ok (.iconst 0, 1) := by decide +kernel
theorem dX8_at_1 : decode cX8_at 1 = .ok (.istore_n 3, 1) := by decide +kernel
theorem dX8_at_2 : decode cX8_at 2 = .ok (.iload_n 3, 1) := by decide +kernel
theorem dX8_at_3 : decode cX8_at 3 = .ok (.aload_n 0, 1) := by decide +kernel
theorem dX8_at_4 : decode cX8_at 4 = .ok (.getfield 9, 3) := by decide +kernel
theorem dX8_at_7 : decode cX8_at 7 = .ok (.bipush 9, 2) := by decide +kernel
theorem dX8_at_9 : decode cX8_at 9 = .ok (.iaload, 1) := by decide +kernel
theorem dX8_at_10 : decode cX8_at 10 = .ok (.if_icmp .ge 31, 3) := by decide +kernel
theorem dX8_at_13 : decode cX8_at 13 = .ok (.aload_n 0, 1) := by decide +kernel
theorem dX8_at_14 : decode cX8_at 14 = .ok (.iload_n 3, 1) := by decide +kernel
theorem dX8_at_15 : decode cX8_at 15 = .ok (.iconst 0, 1) := by decide +kernel
theorem dX8_at_16 : decode cX8_at 16 = .ok (.invokevirtual 233, 3) := by decide +kernel
theorem dX8_at_19 : decode cX8_at 19 = .ok (.iload_n 1, 1) := by decide +kernel
theorem dX8_at_20 : decode cX8_at 20 = .ok (.if_icmp .ne 15, 3) := by decide +kernel
theorem dX8_at_23 : decode cX8_at 23 = .ok (.aload_n 0, 1) := by decide +kernel
theorem dX8_at_24 : decode cX8_at 24 = .ok (.iload_n 3, 1) := by decide +kernel
theorem dX8_at_25 : decode cX8_at 25 = .ok (.iconst 1, 1) := by decide +kernel
theorem dX8_at_26 : decode cX8_at 26 = .ok (.invokevirtual 233, 3) := by decide +kernel
theorem dX8_at_29 : decode cX8_at 29 = .ok (.iload_n 2, 1) := by decide +kernel
theorem dX8_at_30 : decode cX8_at 30 = .ok (.if_icmp .ne 5, 3) := by decide +kernel
theorem dX8_at_33 : decode cX8_at 33 = .ok (.iload_n 3, 1) := by decide +kernel
theorem dX8_at_34 : decode cX8_at 34 = .ok (.ireturn, 1) := by decide +kernel
theorem dX8_at_35 : decode cX8_at 35 = .ok (.iinc 3 1, 3) := by decide +kernel
theorem dX8_at_38 : decode cX8_at 38 = .ok (.goto (-36), 3) := by decide +kernel
theorem dX8_at_41 : decode cX8_at 41 = .ok (.iconst (-1), 1) := by decide +kernel
theorem dX8_at_42 : decode cX8_at 42 = .ok (.ireturn, 1) := by decide +kernel
set_option maxRecDepth 20000 in
theorem ggX8_nextOf_X8_ofCard : GoodIn wsX8_nextOf wsX8_ofCard := goodIn_r _ [6, 1, 11, 12, 13, 14, 15, 16, 17, 18, 19, 20, 21, 22, 23, 24, 25, 26, 27, 28, 29, 30, 31, 32, 33] (by decide +kernel) (by decide +kernel)
set_option maxRecDepth 20000 in
theorem gX8_nextOf_X8_ofCard : GoodIn wsX8_nextOf (wsV RX8 233 RX8 yX8_ofCard wsX8_ofCard) := goodIn_app (goodIn_of _ (by decide +kernel)) ggX8_nextOf_X8_ofCard
set_option maxRecDepth 20000 in
theorem ggX8_nextOf_X8_isFinished : GoodIn wsX8_nextOf wsX8_isFinished := goodIn_r _ [10, 2, 3, 4, 5, 6, 1, 11, 12, 13, 14, 15, 16, 17, 18, 19, 20, 21, 22, 23, 24, 25, 26, 27, 28, 29, 30, 31, 32, 33] (by decide +kernel) (by decide +kernel)
set_option maxRecDepth 20000 in
theorem gX8_nextOf_X8_isFinished : GoodIn wsX8_nextOf (wsV RX8 256 RX8 yX8_isFinished wsX8_isFinished) := goodIn_app (goodIn_of _ (by decide +kernel)) ggX8_nextOf_X8_isFinished
theorem dX8_nextOf_0 : decode cX8_nextOf 0 = .ok (.iconst (-1), 1) := by decide +kernel
theorem dX8_nextOf_1 : decode cX8_nextOf 1 = .ok (.istore_n 2, 1) := by decide +kernel
theorem dX8_nextOf_2 : decode cX8_nextOf 2 = .ok (.iconst 0, 1) := by decide +kernel
theorem dX8_nextOf_3 : decode cX8_nextOf 3 = .ok (.istore_n 3, 1) := by decide +kernel
theorem dX8_nextOf_4 : decode cX8_nextOf 4 = .ok (.iload_n 3, 1) := by decide +kernel
theorem dX8_nextOf_5 : decode cX8_nextOf 5 = .ok (.aload_n 0, 1) := by decide +kernel
theorem dX8_nextOf_6 : decode cX8_nextOf 6 = .ok (.getfield 9, 3) := by decide +kernel
theorem dX8_nextOf_9 : decode cX8_nextOf 9 = .ok (.bipush 9, 2) := by decide +kernel
theorem dX8_nextOf_11 : decode cX8_nextOf 11 = .ok (.iaload, 1) := by decide +kernel
theorem dX8_nextOf_12 : decode cX8_nextOf 12 = .ok (.if_icmp .ge 61, 3) := by decide +kernel
theorem dX8_nextOf_15 : decode cX8_nextOf 15 = .ok (.aload_n 0, 1) := by decide +kernel
theorem dX8_nextOf_16 : decode cX8_nextOf 16 = .ok (.iload_n 3, 1) := by decide +kernel
theorem dX8_nextOf_17 : decode cX8_nextOf 17 = .ok (.iconst 0, 1) := by decide +kernel
theorem dX8_nextOf_18 : decode cX8_nextOf 18 = .ok (.invokevirtual 233, 3) := by decide +kernel
theorem dX8_nextOf_21 : decode cX8_nextOf 21 = .ok (.iload_n 1, 1) := by decide +kernel
theorem dX8_nextOf_22 : decode cX8_nextOf 22 = .ok (.if_icmp .ne 15, 3) := by decide +kernel
theorem dX8_nextOf_25 : decode cX8_nextOf 25 = .ok (.aload_n 0, 1) := by decide +kernel
theorem dX8_nextOf_26 : decode cX8_nextOf 26 = .ok (.iload_n 3, 1) := by decide +kernel
theorem dX8_nextOf_27 : decode cX8_nextOf 27 = .ok (.invokevirtual 256, 3) := by decide +kernel
theorem dX8_nextOf_30 : decode cX8_nextOf 30 = .ok (.ifCond .ne 7, 3) := by decide +kernel
theorem dX8_nextOf_33 : decode cX8_nextOf 33 = .ok (.iconst 1, 1) := by decide +kernel
theorem dX8_nextOf_34 : decode cX8_nextOf 34 = .ok (.goto 4, 3) := by decide +kernel
theorem dX8_nextOf_37 : decode cX8_nextOf 37 = .ok (.iconst 0, 1) := by decide +kernel
theorem dX8_nextOf_38 : decode cX8_nextOf 38 = .ok (.istore 4, 2) := by decide +kernel
theorem dX8_nextOf_40 : decode cX8_nextOf 40 = .ok (.iload 4, 2) := by decide +kernel
theorem dX8_nextOf_42 : decode cX8_nextOf 42 = .ok (.ifCond .eq 25, 3) := by decide +kernel
theorem dX8_nextOf_45 : decode cX8_nextOf 45 = .ok (.iload_n 2, 1) := by decide +kernel
theorem dX8_nextOf_46 : decode cX8_nextOf 46 = .ok (.iconst (-1), 1) := by decide +kernel
theorem dX8_nextOf_47 : decode cX8_nextOf 47 = .ok (.if_icmp .eq 18, 3) := by decide +kernel
theorem dX8_nextOf_50 : decode cX8_nextOf 50 = .ok (.aload_n 0, 1) := by decide +kernel
theorem dX8_nextOf_51 : decode cX8_nextOf 51 = .ok (.iload_n 3, 1) := by decide +kernel
theorem dX8_nextOf_52 : decode cX8_nextOf 52 = .ok (.iconst 1, 1) := by decide +kernel
theorem dX8_nextOf_53 : decode cX8_nextOf 53 = .ok (.invokevirtual 233, 3) := by decide +kernel
theorem dX8_nextOf_56 : decode cX8_nextOf 56 = .ok (.aload_n 0, 1) := by decide +kernel
theorem dX8_nextOf_57 : decode cX8_nextOf 57 = .ok (.iload_n 2, 1) := by decide +kernel
theorem dX8_nextOf_58 : decode cX8_nextOf 58 = .ok (.iconst 1, 1) := by decide +kernel
theorem dX8_nextOf_59 : decode cX8_nextOf 59 = .ok (.invokevirtual 233, 3) := by decide +kernel
theorem dX8_nextOf_62 : decode cX8_nextOf 62 = .ok (.if_icmp .ge 5, 3) := by decide +kernel
theorem dX8_nextOf_65 : decode cX8_nextOf 65 = .ok (.iload_n 3, 1) := by decide +kernel
theorem dX8_nextOf_66 : decode cX8_nextOf 66 = .ok (.istore_n 2, 1) := by decide +kernel
theorem dX8_nextOf_67 : decode cX8_nextOf 67 = .ok (.iinc 3 1, 3) := by decide +kernel
theorem dX8_nextOf_70 : decode cX8_nextOf 70 = .ok (.goto (-66), 3) := by decide +kernel
theorem dX8_nextOf_73 : decode cX8_nextOf 73 = .ok (.iload_n 2, 1) := by decide +kernel
theorem dX8_nextOf_74 : decode cX8_nextOf 74 = .ok (.ireturn, 1) := by decide +kernel
set_option maxRecDepth 20000 in
theorem ggX8_sumOf_X8_ofCard : GoodIn wsX8_sumOf wsX8_ofCard := goodIn_r _ [6, 1, 7, 8, 9, 10, 11, 12, 13, 14, 15, 16, 17, 18, 19, 20, 21, 22, 23, 24, 25, 26, 27, 28, 29] (by decide +kernel) (by decide +kernel)
set_option maxRecDepth 20000 in
theorem gX8_sumOf_X8_ofCard : GoodIn wsX8_sumOf (wsV RX8 233 RX8 yX8_ofCard wsX8_ofCard) := goodIn_app (goodIn_of _ (by decide +kernel)) ggX8_sumOf_X8_ofCard
theorem dX8_sumOf_0 : decode cX8_sumOf 0 = .ok (.iconst 0, 1) := by decide +kernel
theorem dX8_sumOf_1 : decode cX8_sumOf 1 = .ok (.istore_n 3, 1) := by decide +kernel
theorem dX8_sumOf_2 : decode cX8_sumOf 2 = .ok (.iconst 0, 1) := by decide +kernel
theorem dX8_sumOf_3 : decode cX8_sumOf 3 = .ok (.istore 4, 2) := by decide +kernel
theorem dX8_sumOf_5 : decode cX8_sumOf 5 = .ok (.iload 4, 2) := by decide +kernel
theorem dX8_sumOf_7 : decode cX8_sumOf 7 = .ok (.aload_n 0, 1) := by decide +kernel
theorem dX8_sumOf_8 : decode cX8_sumOf 8 = .ok (.getfield 9, 3) := by decide +kernel
theorem dX8_sumOf_11 : decode cX8_sumOf 11 = .ok (.bipush 9, 2) := by decide +kernel
theorem dX8_sumOf_13 : decode cX8_sumOf 13 = .ok (.iaload, 1) := by decide +kernel
theorem dX8_sumOf_14 : decode cX8_sumOf 14 = .ok (.if_icmp .ge 34, 3) := by decide +kernel
theorem dX8_sumOf_17 : decode cX8_sumOf 17 = .ok (.iload_n 3, 1) := by decide +kernel
theorem dX8_sumOf_18 : decode cX8_sumOf 18 = .ok (.aload_n 0, 1) := by decide +kernel
theorem dX8_sumOf_19 : decode cX8_sumOf 19 = .ok (.iload 4, 2) := by decide +kernel
theorem dX8_sumOf_21 : decode cX8_sumOf 21 = .ok (.iconst 0, 1) := by decide +kernel
theorem dX8_sumOf_22 : decode cX8_sumOf 22 = .ok (.invokevirtual 233, 3) := by decide +kernel
theorem dX8_sumOf_25 : decode cX8_sumOf 25 = .ok (.iload_n 1, 1) := by decide +kernel
theorem dX8_sumOf_26 : decode cX8_sumOf 26 = .ok (.if_icmp .ne 13, 3) := by decide +kernel
theorem dX8_sumOf_29 : decode cX8_sumOf 29 = .ok (.aload_n 0, 1) := by decide +kernel
theorem dX8_sumOf_30 : decode cX8_sumOf 30 = .ok (.iload 4, 2) := by decide +kernel
theorem dX8_sumOf_32 : decode cX8_sumOf 32 = .ok (.iload_n 2, 1) := by decide +kernel
theorem dX8_sumOf_33 : decode cX8_sumOf 33 = .ok (.invokevirtual 233, 3) := by decide +kernel
theorem dX8_sumOf_36 : decode cX8_sumOf 36 = .ok (.goto 4, 3) := by decide +kernel
theorem dX8_sumOf_39 : decode cX8_sumOf 39 = .ok (.iconst 0, 1) := by decide +kernel
theorem dX8_sumOf_40 : decode cX8_sumOf 40 = .ok (.iadd, 1) := by decide +kernel
theorem dX8_sumOf_41 : decode cX8_sumOf 41 = .ok (.istore_n 3, 1) := by decide +kernel
theorem dX8_sumOf_42 : decode cX8_sumOf 42 = .ok (.iinc 4 1, 3) := by decide +kernel
theorem dX8_sumOf_45 : decode cX8_sumOf 45 = .ok (.goto (-40), 3) := by decide +kernel
theorem dX8_sumOf_48 : decode cX8_sumOf 48 = .ok (.iload_n 3, 1) := by decide +kernel
theorem dX8_sumOf_49 : decode cX8_sumOf 49 = .ok (.ireturn, 1) := by decide +kernel
set_option maxRecDepth 20000 in
theorem ggX8_inStateOf_X8_ofCard : GoodIn wsX8_inStateOf wsX8_ofCard := goodIn_r _ [6, 1, 7, 8, 9, 10, 11, 12, 13, 14, 15, 16, 17, 18, 19, 20, 21, 22, 23, 24, 25, 26, 27, 28, 29] (by decide +kernel) (by decide +kernel)
set_option maxRecDepth 20000 in
theorem gX8_inStateOf_X8_ofCard : GoodIn wsX8_inStateOf (wsV RX8 233 RX8 yX8_ofCard wsX8_ofCard) := goodIn_app (goodIn_of _ (by decide +kernel)) ggX8_inStateOf_X8_ofCard
theorem dX8_inStateOf_0 : decode cX8_inStateOf 0 = .ok (.iconst 0, 1) := by decide +kernel
theorem dX8_inStateOf_1 : decode cX8_inStateOf 1 = .ok (.istore_n 3, 1) := by decide +kernel
theorem dX8_inStateOf_2 : decode cX8_inStateOf 2 = .ok (.iconst 0, 1) := by decide +kernel
theorem dX8_inStateOf_3 : decode cX8_inStateOf 3 = .ok (.istore 4, 2) := by decide +kernel
theorem dX8_inStateOf_5 : decode cX8_inStateOf 5 = .ok (.iload 4, 2) := by decide +kernel
theorem dX8_inStateOf_7 : decode cX8_inStateOf 7 = .ok (.aload_n 0, 1) := by decide +kernel
theorem dX8_inStateOf_8 : decode cX8_inStateOf 8 = .ok (.getfield 9, 3) := by decide +kernel
theorem dX8_inStateOf_11 : decode cX8_inStateOf 11 = .ok (.bipush 9, 2) := by decide +kernel
theorem dX8_inStateOf_13 : decode cX8_inStateOf 13 = .ok (.iaload, 1) := by decide +kernel
theorem dX8_inStateOf_14 : decode cX8_inStateOf 14 = .ok (.if_icmp .ge 39, 3) := by decide +kernel
theorem dX8_inStateOf_17 : decode cX8_inStateOf 17 = .ok (.iload_n 3, 1) := by decide +kernel
theorem dX8_inStateOf_18 : decode cX8_inStateOf 18 = .ok (.aload_n 0, 1) := by decide +kernel
theorem dX8_inStateOf_19 : decode cX8_inStateOf 19 = .ok (.iload 4, 2) := by decide +kernel
theorem dX8_inStateOf_21 : decode cX8_inStateOf 21 = .ok (.iconst 0, 1) := by decide +kernel
theorem dX8_inStateOf_22 : decode cX8_inStateOf 22 = .ok (.invokevirtual 233, 3) := by decide +kernel
theorem dX8_inStateOf_25 : decode cX8_inStateOf 25 = .ok (.iload_n 1, 1) := by decide +kernel
theorem dX8_inStateOf_26 : decode cX8_inStateOf 26 = .ok (.if_icmp .ne 18, 3) := by decide +kernel
theorem dX8_inStateOf_29 : decode cX8_inStateOf 29 = .ok (.aload_n 0, 1) := by decide +kernel
theorem dX8_inStateOf_30 : decode cX8_inStateOf 30 = .ok (.iload 4, 2) := by decide +kernel
theorem dX8_inStateOf_32 : decode cX8_inStateOf 32 = .ok (.iconst 3, 1) := by decide +kernel
theorem dX8_inStateOf_33 : decode cX8_inStateOf 33 = .ok (.invokevirtual 233, 3) := by decide +kernel
theorem dX8_inStateOf_36 : decode cX8_inStateOf 36 = .ok (.iload_n 2, 1) := by decide +kernel
theorem dX8_inStateOf_37 : decode cX8_inStateOf 37 = .ok (.if_icmp .ne 7, 3) := by decide +kernel
theorem dX8_inStateOf_40 : decode cX8_inStateOf 40 = .ok (.iconst 1, 1) := by decide +kernel
theorem dX8_inStateOf_41 : decode cX8_inStateOf 41 = .ok (.goto 4, 3) := by decide +kernel
theorem dX8_inStateOf_44 : decode cX8_inStateOf 44 = .ok (.iconst 0, 1) := by decide +kernel
theorem dX8_inStateOf_45 : decode cX8_inStateOf 45 = .ok (.iadd, 1) := by decide +kernel
theorem dX8_inStateOf_46 : decode cX8_inStateOf 46 = .ok (.istore_n 3, 1) := by decide +kernel
theorem dX8_inStateOf_47 : decode cX8_inStateOf 47 = .ok (.iinc 4 1, 3) := by decide +kernel
theorem dX8_inStateOf_50 : decode cX8_inStateOf 50 = .ok (.goto (-45), 3) := by decide +kernel
theorem dX8_inStateOf_53 : decode cX8_inStateOf 53 = .ok (.iload_n 3, 1) := by decide +kernel
theorem dX8_inStateOf_54 : decode cX8_inStateOf 54 = .ok (.ireturn, 1) := by decide +kernel
set_option maxRecDepth 20000 in
theorem ggX8_lot_X8_isLot : GoodIn wsX8_lot wsX8_isLot := goodIn_r _ [6, 7, 8, 9, 5, 10, 40, 41, 42, 43, 44, 45, 46, 47, 48, 49, 50, 51, 52, 53, 54, 55, 56, 57, 58, 59, 60, 61, 62] (by decide +kernel) (by decide +kernel)
set_option maxRecDepth 20000 in
theorem gX8_lot_X8_isLot : GoodIn wsX8_lot (wsV RX8 222 RX8 yX8_isLot wsX8_isLot) := goodIn_app (goodIn_of _ (by decide +kernel)) ggX8_lot_X8_isLot
set_option maxRecDepth 20000 in
theorem ggX8_lot_X8_isThrown : GoodIn wsX8_lot wsX8_isThrown := goodIn_r _ [14, 15, 40, 41, 42, 43, 44, 45, 46, 47, 48, 49, 50, 51, 52, 53, 54, 55, 56, 57, 58, 59, 60, 61, 62] (by decide +kernel) (by decide +kernel)
set_option maxRecDepth 20000 in
theorem gX8_lot_X8_isThrown : GoodIn wsX8_lot (wsV RX8 226 RX8 yX8_isThrown wsX8_isThrown) := goodIn_app (goodIn_of _ (by decide +kernel)) ggX8_lot_X8_isThrown
set_option maxRecDepth 20000 in
theorem ggX8_lot_X8_in : GoodIn wsX8_lot wsX8_in := goodIn_r _ [10] (by decide +kernel) (by decide +kernel)
set_option maxRecDepth 20000 in
theorem gX8_lot_X8_in : GoodIn wsX8_lot (va_wsS RX8 52 yX8_in wsX8_in) := goodIn_app (goodIn_of _ (by decide +kernel)) ggX8_lot_X8_in
set_option maxRecDepth 20000 in
theorem ggX8_lot_X8_ofLot : GoodIn wsX8_lot wsX8_ofLot := goodIn_r _ [19, 7, 40, 41, 42, 43, 44, 45, 46, 47, 48, 49, 50, 51, 52, 53, 54, 55, 56, 57, 58, 59, 60, 61, 62] (by decide +kernel) (by decide +kernel)
set_option maxRecDepth 20000 in
theorem gX8_lot_X8_ofLot : GoodIn wsX8_lot (wsV RX8 134 RX8 yX8_ofLot wsX8_ofLot) := goodIn_app (goodIn_of _ (by decide +kernel)) ggX8_lot_X8_ofLot
set_option maxRecDepth 20000 in
theorem ggX8_lot_X8_inStateOf : GoodIn wsX8_lot wsX8_inStateOf := goodIn_r _ [23, 7, 24, 25, 26, 5, 27, 40, 41, 42, 43, 44, 45, 46, 47, 48, 49, 50, 51, 52, 53, 54, 55, 56, 57, 58, 59, 60, 61, 62] (by decide +kernel) (by decide +kernel)
set_option maxRecDepth 20000 in
theorem gX8_lot_X8_inStateOf : GoodIn wsX8_lot (wsV RX8 261 RX8 yX8_inStateOf wsX8_inStateOf) := goodIn_app (goodIn_of _ (by decide +kernel)) ggX8_lot_X8_inStateOf
set_option maxRecDepth 20000 in
theorem ggX8_lot_X8_sumOf : GoodIn wsX8_lot wsX8_sumOf := goodIn_r _ [31, 7, 24, 25, 26, 5, 27, 40, 41, 42, 43, 44, 45, 46, 47, 48, 49, 50, 51, 52, 53, 54, 55, 56, 57, 58, 59, 60, 61, 62] (by decide +kernel) (by decide +kernel)
set_option maxRecDepth 20000 in
theorem gX8_lot_X8_sumOf : GoodIn wsX8_lot (wsV RX8 264 RX8 yX8_sumOf wsX8_sumOf) := goodIn_app (goodIn_of _ (by decide +kernel)) ggX8_lot_X8_sumOf
set_option maxRecDepth 20000 in
theorem ggX8_lot_X8_nextOf : GoodIn wsX8_lot wsX8_nextOf := goodIn_r _ [35, 7, 24, 25, 26, 5, 27, 36, 37, 38, 39, 40, 41, 42, 43, 44, 45, 46, 47, 48, 49, 50, 51, 52, 53, 54, 55, 56, 57, 58, 59, 60, 61, 62] (by decide +kernel) (by decide +kernel)
set_option maxRecDepth 20000 in
theorem gX8_lot_X8_nextOf : GoodIn wsX8_lot (wsV RX8 267 RX8 yX8_nextOf wsX8_nextOf) := goodIn_app (goodIn_of _ (by decide +kernel)) ggX8_lot_X8_nextOf
theorem dX8_lot_0 : decode cX8_lot 0 = .ok (.aload_n 0, 1) := by decide +kernel
theorem dX8_lot_1 : decode cX8_lot 1 = .ok (.aload_n 0, 1) := by decide +kernel
theorem dX8_lot_2 : decode cX8_lot 2 = .ok (.iload_n 1, 1) := by decide +kernel
theorem dX8_lot_3 : decode cX8_lot 3 = .ok (.invokevirtual 222, 3) := by decide +kernel
theorem dX8_lot_6 : decode cX8_lot 6 = .ok (.iconst 1, 1) := by decide +kernel
theorem dX8_lot_7 : decode cX8_lot 7 = .ok (.invokevirtual 226, 3) := by decide +kernel
theorem dX8_lot_10 : decode cX8_lot 10 = .ok (.ifCond .ne 20, 3) := by decide +kernel
theorem dX8_lot_13 : decode cX8_lot 13 = .ok (.aload_n 0, 1) := by decide +kernel
theorem dX8_lot_14 : decode cX8_lot 14 = .ok (.iload_n 2, 1) := by decide +kernel
theorem dX8_lot_15 : decode cX8_lot 15 = .ok (.i2l, 1) := by decide +kernel
theorem dX8_lot_16 : decode cX8_lot 16 = .ok (.lconst 0, 1) := by decide +kernel
theorem dX8_lot_17 : decode cX8_lot 17 = .ok (.ldc2_w 259, 3) := by decide +kernel
theorem dX8_lot_20 : decode cX8_lot 20 = .ok (.invokestatic 52, 3) := by decide +kernel
theorem dX8_lot_23 : decode cX8_lot 23 = .ok (.iconst 2, 1) := by decide +kernel
theorem dX8_lot_24 : decode cX8_lot 24 = .ok (.invokevirtual 226, 3) := by decide +kernel
theorem dX8_lot_27 : decode cX8_lot 27 = .ok (.ifCond .eq 5, 3) := by decide +kernel
theorem dX8_lot_30 : decode cX8_lot 30 = .ok (.iconst 0, 1) := by decide +kernel
theorem dX8_lot_31 : decode cX8_lot 31 = .ok (.ireturn, 1) := by decide +kernel
theorem dX8_lot_32 : decode cX8_lot 32 = .ok (.iload_n 2, 1) := by decide +kernel
theorem dX8_lot_33 : decode cX8_lot 33 = .ok (.tableswitch 82 0 5 #[39, 46, 53, 60, 67, 74], 39) := by decide +kernel
theorem dX8_lot_72 : decode cX8_lot 72 = .ok (.aload_n 0, 1) := by decide +kernel
theorem dX8_lot_73 : decode cX8_lot 73 = .ok (.iload_n 1, 1) := by decide +kernel
theorem dX8_lot_74 : decode cX8_lot 74 = .ok (.iconst 0, 1) := by decide +kernel
theorem dX8_lot_75 : decode cX8_lot 75 = .ok (.invokevirtual 134, 3) := by decide +kernel
theorem dX8_lot_78 : decode cX8_lot 78 = .ok (.ireturn, 1) := by decide +kernel
theorem dX8_lot_79 : decode cX8_lot 79 = .ok (.aload_n 0, 1) := by decide +kernel
theorem dX8_lot_80 : decode cX8_lot 80 = .ok (.iload_n 1, 1) := by decide +kernel
theorem dX8_lot_81 : decode cX8_lot 81 = .ok (.iconst 1, 1) := by decide +kernel
theorem dX8_lot_82 : decode cX8_lot 82 = .ok (.invokevirtual 134, 3) := by decide +kernel
theorem dX8_lot_85 : decode cX8_lot 85 = .ok (.ireturn, 1) := by decide +kernel
theorem dX8_lot_86 : decode cX8_lot 86 = .ok (.aload_n 0, 1) := by decide +kernel
theorem dX8_lot_87 : decode cX8_lot 87 = .ok (.iload_n 1, 1) := by decide +kernel
theorem dX8_lot_88 : decode cX8_lot 88 = .ok (.iconst 3, 1) := by decide +kernel
theorem dX8_lot_89 : decode cX8_lot 89 = .ok (.invokevirtual 261, 3) := by decide +kernel
theorem dX8_lot_92 : decode cX8_lot 92 = .ok (.ireturn, 1) := by decide +kernel
theorem dX8_lot_93 : decode cX8_lot 93 = .ok (.aload_n 0, 1) := by decide +kernel
theorem dX8_lot_94 : decode cX8_lot 94 = .ok (.iload_n 1, 1) := by decide +kernel
theorem dX8_lot_95 : decode cX8_lot 95 = .ok (.iconst 4, 1) := by decide +kernel
theorem dX8_lot_96 : decode cX8_lot 96 = .ok (.invokevirtual 261, 3) := by decide +kernel
theorem dX8_lot_99 : decode cX8_lot 99 = .ok (.ireturn, 1) := by decide +kernel
theorem dX8_lot_100 : decode cX8_lot 100 = .ok (.aload_n 0, 1) := by decide +kernel
theorem dX8_lot_101 : decode cX8_lot 101 = .ok (.iload_n 1, 1) := by decide +kernel
theorem dX8_lot_102 : decode cX8_lot 102 = .ok (.iconst 5, 1) := by decide +kernel
theorem dX8_lot_103 : decode cX8_lot 103 = .ok (.invokevirtual 264, 3) := by decide +kernel
theorem dX8_lot_106 : decode cX8_lot 106 = .ok (.ireturn, 1) := by decide +kernel
theorem dX8_lot_107 : decode cX8_lot 107 = .ok (.aload_n 0, 1) := by decide +kernel
theorem dX8_lot_108 : decode cX8_lot 108 = .ok (.iload_n 1, 1) := by decide +kernel
theorem dX8_lot_109 : decode cX8_lot 109 = .ok (.bipush 6, 2) := by decide +kernel
theorem dX8_lot_111 : decode cX8_lot 111 = .ok (.invokevirtual 264, 3) := by decide +kernel
theorem dX8_lot_114 : decode cX8_lot 114 = .ok (.ireturn, 1) := by decide +kernel
theorem dX8_lot_115 : decode cX8_lot 115 = .ok (.aload_n 0, 1) := by decide +kernel
theorem dX8_lot_116 : decode cX8_lot 116 = .ok (.iload_n 1, 1) := by decide +kernel
theorem dX8_lot_117 : decode cX8_lot 117 = .ok (.invokevirtual 267, 3) := by decide +kernel
theorem dX8_lot_120 : decode cX8_lot 120 = .ok (.ireturn, 1) := by decide +kernel
set_option maxRecDepth 20000 in
theorem ggX8_cardOf_X8_isLot : GoodIn wsX8_cardOf wsX8_isLot := goodIn_r _ [5, 6, 7, 8, 4, 9, 23, 24, 25, 26, 27, 28, 29, 30, 31, 32, 33, 34, 35, 36, 37, 38, 39, 40, 41, 42, 43, 44, 45] (by decide +kernel) (by decide +kernel)
set_option maxRecDepth 20000 in
theorem gX8_cardOf_X8_isLot : GoodIn wsX8_cardOf (wsV RX8 222 RX8 yX8_isLot wsX8_isLot) := goodIn_app (goodIn_of _ (by decide +kernel)) ggX8_cardOf_X8_isLot
set_option maxRecDepth 20000 in
theorem ggX8_cardOf_X8_isThrown : GoodIn wsX8_cardOf wsX8_isThrown := goodIn_r _ [13, 14, 23, 24, 25, 26, 27, 28, 29, 30, 31, 32, 33, 34, 35, 36, 37, 38, 39, 40, 41, 42, 43, 44, 45] (by decide +kernel) (by decide +kernel)
set_option maxRecDepth 20000 in
theorem gX8_cardOf_X8_isThrown : GoodIn wsX8_cardOf (wsV RX8 226 RX8 yX8_isThrown wsX8_isThrown) := goodIn_app (goodIn_of _ (by decide +kernel)) ggX8_cardOf_X8_isThrown
set_option maxRecDepth 20000 in
theorem ggX8_cardOf_X8_at : GoodIn wsX8_cardOf wsX8_at := goodIn_r _ [18, 6, 19, 20, 21, 4, 22, 23, 24, 25, 26, 27, 28, 29, 30, 31, 32, 33, 34, 35, 36, 37, 38, 39, 40, 41, 42, 43, 44, 45] (by decide +kernel) (by decide +kernel)
set_option maxRecDepth 20000 in
theorem gX8_cardOf_X8_at : GoodIn wsX8_cardOf (wsV RX8 270 RX8 yX8_at wsX8_at) := goodIn_app (goodIn_of _ (by decide +kernel)) ggX8_cardOf_X8_at
theorem dX8_cardOf_0 : decode cX8_cardOf 0 = .ok (.aload_n 0, 1) := by decide +kernel
theorem dX8_cardOf_1 : decode cX8_cardOf 1 = .ok (.aload_n 0, 1) := by decide +kernel
theorem dX8_cardOf_2 : decode cX8_cardOf 2 = .ok (.iload_n 1, 1) := by decide +kernel
theorem dX8_cardOf_3 : decode cX8_cardOf 3 = .ok (.invokevirtual 222, 3) := by decide +kernel
theorem dX8_cardOf_6 : decode cX8_cardOf 6 = .ok (.iconst 1, 1) := by decide +kernel
theorem dX8_cardOf_7 : decode cX8_cardOf 7 = .ok (.invokevirtual 226, 3) := by decide +kernel
theorem dX8_cardOf_10 : decode cX8_cardOf 10 = .ok (.ifCond .eq 7, 3) := by decide +kernel
theorem dX8_cardOf_13 : decode cX8_cardOf 13 = .ok (.iconst 0, 1) := by decide +kernel
theorem dX8_cardOf_14 : decode cX8_cardOf 14 = .ok (.goto 9, 3) := by decide +kernel
theorem dX8_cardOf_17 : decode cX8_cardOf 17 = .ok (.aload_n 0, 1) := by decide +kernel
theorem dX8_cardOf_18 : decode cX8_cardOf 18 = .ok (.iload_n 1, 1) := by decide +kernel
theorem dX8_cardOf_19 : decode cX8_cardOf 19 = .ok (.iload_n 2, 1) := by decide +kernel
theorem dX8_cardOf_20 : decode cX8_cardOf 20 = .ok (.invokevirtual 270, 3) := by decide +kernel
theorem dX8_cardOf_23 : decode cX8_cardOf 23 = .ok (.ireturn, 1) := by decide +kernel
set_option maxRecDepth 20000 in
theorem ggX8_trayAt_X8_ofCard : GoodIn wsX8_trayAt wsX8_ofCard := goodIn_r _ [7, 2, 8, 9, 10, 11, 12, 13, 14, 15, 16, 17, 18, 19, 20, 21, 22, 23, 24, 25, 26, 27, 28, 29, 30] (by decide +kernel) (by decide +kernel)
set_option maxRecDepth 20000 in
theorem gX8_trayAt_X8_ofCard : GoodIn wsX8_trayAt (wsV RX8 233 RX8 yX8_ofCard wsX8_ofCard) := goodIn_app (goodIn_of _ (by decide +kernel)) ggX8_trayAt_X8_ofCard
theorem dX8_trayAt_0 : decode cX8_trayAt 0 = .ok (.aload_n 0, 1) := by decide +kernel
theorem dX8_trayAt_1 : decode cX8_trayAt 1 = .ok (.iconst 0, 1) := by decide +kernel
theorem dX8_trayAt_2 : decode cX8_trayAt 2 = .ok (.putfield 49, 3) := by decide +kernel
theorem dX8_trayAt_5 : decode cX8_trayAt 5 = .ok (.iload_n 1, 1) := by decide +kernel
theorem dX8_trayAt_6 : decode cX8_trayAt 6 = .ok (.istore_n 2, 1) := by decide +kernel
theorem dX8_trayAt_7 : decode cX8_trayAt 7 = .ok (.iconst 0, 1) := by decide +kernel
theorem dX8_trayAt_8 : decode cX8_trayAt 8 = .ok (.istore_n 3, 1) := by decide +kernel
theorem dX8_trayAt_9 : decode cX8_trayAt 9 = .ok (.iload_n 3, 1) := by decide +kernel
theorem dX8_trayAt_10 : decode cX8_trayAt 10 = .ok (.aload_n 0, 1) := by decide +kernel
theorem dX8_trayAt_11 : decode cX8_trayAt 11 = .ok (.getfield 9, 3) := by decide +kernel
theorem dX8_trayAt_14 : decode cX8_trayAt 14 = .ok (.bipush 9, 2) := by decide +kernel
theorem dX8_trayAt_16 : decode cX8_trayAt 16 = .ok (.iaload, 1) := by decide +kernel
theorem dX8_trayAt_17 : decode cX8_trayAt 17 = .ok (.if_icmp .ge 32, 3) := by decide +kernel
theorem dX8_trayAt_20 : decode cX8_trayAt 20 = .ok (.iload_n 2, 1) := by decide +kernel
theorem dX8_trayAt_21 : decode cX8_trayAt 21 = .ok (.ifCond .lt 28, 3) := by decide +kernel
theorem dX8_trayAt_24 : decode cX8_trayAt 24 = .ok (.aload_n 0, 1) := by decide +kernel
theorem dX8_trayAt_25 : decode cX8_trayAt 25 = .ok (.iload_n 3, 1) := by decide +kernel
theorem dX8_trayAt_26 : decode cX8_trayAt 26 = .ok (.iconst 3, 1) := by decide +kernel
theorem dX8_trayAt_27 : decode cX8_trayAt 27 = .ok (.invokevirtual 233, 3) := by decide +kernel
theorem dX8_trayAt_30 : decode cX8_trayAt 30 = .ok (.iconst 2, 1) := by decide +kernel
theorem dX8_trayAt_31 : decode cX8_trayAt 31 = .ok (.if_icmp .ne 12, 3) := by decide +kernel
theorem dX8_trayAt_34 : decode cX8_trayAt 34 = .ok (.iload_n 2, 1) := by decide +kernel
theorem dX8_trayAt_35 : decode cX8_trayAt 35 = .ok (.ifCond .ne 5, 3) := by decide +kernel
theorem dX8_trayAt_38 : decode cX8_trayAt 38 = .ok (.iload_n 3, 1) := by decide +kernel
theorem dX8_trayAt_39 : decode cX8_trayAt 39 = .ok (.ireturn, 1) := by decide +kernel
theorem dX8_trayAt_40 : decode cX8_trayAt 40 = .ok (.iinc 2 (-1), 3) := by decide +kernel
theorem dX8_trayAt_43 : decode cX8_trayAt 43 = .ok (.iinc 3 1, 3) := by decide +kernel
theorem dX8_trayAt_46 : decode cX8_trayAt 46 = .ok (.goto (-37), 3) := by decide +kernel
theorem dX8_trayAt_49 : decode cX8_trayAt 49 = .ok (.iconst (-1), 1) := by decide +kernel
theorem dX8_trayAt_50 : decode cX8_trayAt 50 = .ok (.ireturn, 1) := by decide +kernel
set_option maxRecDepth 20000 in
theorem ggX8_leftAt_X8_in : GoodIn wsX8_leftAt wsX8_in := goodIn_r _ [6] (by decide +kernel) (by decide +kernel)
set_option maxRecDepth 20000 in
theorem gX8_leftAt_X8_in : GoodIn wsX8_leftAt (va_wsS RX8 52 yX8_in wsX8_in) := goodIn_app (goodIn_of _ (by decide +kernel)) ggX8_leftAt_X8_in
theorem dX8_leftAt_0 : decode cX8_leftAt 0 = .ok (.aload_n 0, 1) := by decide +kernel
theorem dX8_leftAt_1 : decode cX8_leftAt 1 = .ok (.iconst 0, 1) := by decide +kernel
theorem dX8_leftAt_2 : decode cX8_leftAt 2 = .ok (.putfield 49, 3) := by decide +kernel
theorem dX8_leftAt_5 : decode cX8_leftAt 5 = .ok (.iload_n 1, 1) := by decide +kernel
theorem dX8_leftAt_6 : decode cX8_leftAt 6 = .ok (.i2l, 1) := by decide +kernel
theorem dX8_leftAt_7 : decode cX8_leftAt 7 = .ok (.lconst 0, 1) := by decide +kernel
theorem dX8_leftAt_8 : decode cX8_leftAt 8 = .ok (.aload_n 0, 1) := by decide +kernel
theorem dX8_leftAt_9 : decode cX8_leftAt 9 = .ok (.getfield 9, 3) := by decide +kernel
theorem dX8_leftAt_12 : decode cX8_leftAt 12 = .ok (.bipush 10, 2) := by decide +kernel
theorem dX8_leftAt_14 : decode cX8_leftAt 14 = .ok (.iaload, 1) := by decide +kernel
theorem dX8_leftAt_15 : decode cX8_leftAt 15 = .ok (.iconst 1, 1) := by decide +kernel
theorem dX8_leftAt_16 : decode cX8_leftAt 16 = .ok (.isub, 1) := by decide +kernel
theorem dX8_leftAt_17 : decode cX8_leftAt 17 = .ok (.i2l, 1) := by decide +kernel
theorem dX8_leftAt_18 : decode cX8_leftAt 18 = .ok (.invokestatic 52, 3) := by decide +kernel
theorem dX8_leftAt_21 : decode cX8_leftAt 21 = .ok (.ifCond .eq 16, 3) := by decide +kernel
theorem dX8_leftAt_24 : decode cX8_leftAt 24 = .ok (.aload_n 0, 1) := by decide +kernel
theorem dX8_leftAt_25 : decode cX8_leftAt 25 = .ok (.getfield 9, 3) := by decide +kernel
theorem dX8_leftAt_28 : decode cX8_leftAt 28 = .ok (.sipush 887, 3) := by decide +kernel
theorem dX8_leftAt_31 : decode cX8_leftAt 31 = .ok (.iload_n 1, 1) := by decide +kernel
theorem dX8_leftAt_32 : decode cX8_leftAt 32 = .ok (.iadd, 1) := by decide +kernel
theorem dX8_leftAt_33 : decode cX8_leftAt 33 = .ok (.iaload, 1) := by decide +kernel
theorem dX8_leftAt_34 : decode cX8_leftAt 34 = .ok (.goto 4, 3) := by decide +kernel
theorem dX8_leftAt_37 : decode cX8_leftAt 37 = .ok (.iconst (-1), 1) := by decide +kernel
theorem dX8_leftAt_38 : decode cX8_leftAt 38 = .ok (.ireturn, 1) := by decide +kernel
set_option maxRecDepth 20000 in
theorem ggX8_classOf_X8_ofCard : GoodIn wsX8_classOf wsX8_ofCard := goodIn_r _ [5, 6, 7, 8, 9, 10, 11, 12, 13, 14, 15, 16, 17, 18, 19, 20, 21, 22, 23, 24, 25, 26, 27, 28, 29] (by decide +kernel) (by decide +kernel)
set_option maxRecDepth 20000 in
theorem gX8_classOf_X8_ofCard : GoodIn wsX8_classOf (wsV RX8 233 RX8 yX8_ofCard wsX8_ofCard) := goodIn_app (goodIn_of _ (by decide +kernel)) ggX8_classOf_X8_ofCard
theorem dX8_classOf_0 : decode cX8_classOf 0 = .ok (.aload_n 0, 1) := by decide +kernel
theorem dX8_classOf_1 : decode cX8_classOf 1 = .ok (.iload_n 1, 1) := by decide +kernel
theorem dX8_classOf_2 : decode cX8_classOf 2 = .ok (.bipush 8, 2) := by decide +kernel
theorem dX8_classOf_4 : decode cX8_classOf 4 = .ok (.invokevirtual 233, 3) := by decide +kernel
theorem dX8_classOf_7 : decode cX8_classOf 7 = .ok (.iconst 1, 1) := by decide +kernel
theorem dX8_classOf_8 : decode cX8_classOf 8 = .ok (.if_icmp .ne 7, 3) := by decide +kernel
theorem dX8_classOf_11 : decode cX8_classOf 11 = .ok (.iconst 0, 1) := by decide +kernel
theorem dX8_classOf_12 : decode cX8_classOf 12 = .ok (.goto 25, 3) := by decide +kernel
theorem dX8_classOf_15 : decode cX8_classOf 15 = .ok (.aload_n 0, 1) := by decide +kernel
theorem dX8_classOf_16 : decode cX8_classOf 16 = .ok (.iload_n 1, 1) := by decide +kernel
theorem dX8_classOf_17 : decode cX8_classOf 17 = .ok (.iconst 5, 1) := by decide +kernel
theorem dX8_classOf_18 : decode cX8_classOf 18 = .ok (.invokevirtual 233, 3) := by decide +kernel
theorem dX8_classOf_21 : decode cX8_classOf 21 = .ok (.aload_n 0, 1) := by decide +kernel
theorem dX8_classOf_22 : decode cX8_classOf 22 = .ok (.iload_n 1, 1) := by decide +kernel
theorem dX8_classOf_23 : decode cX8_classOf 23 = .ok (.bipush 6, 2) := by decide +kernel
theorem dX8_classOf_25 : decode cX8_classOf 25 = .ok (.invokevirtual 233, 3) := by decide +kernel
theorem dX8_classOf_28 : decode cX8_classOf 28 = .ok (.iadd, 1) := by decide +kernel
theorem dX8_classOf_29 : decode cX8_classOf 29 = .ok (.ifCond .le 7, 3) := by decide +kernel
theorem dX8_classOf_32 : decode cX8_classOf 32 = .ok (.iconst 1, 1) := by decide +kernel
theorem dX8_classOf_33 : decode cX8_classOf 33 = .ok (.goto 4, 3) := by decide +kernel
theorem dX8_classOf_36 : decode cX8_classOf 36 = .ok (.iconst 2, 1) := by decide +kernel
theorem dX8_classOf_37 : decode cX8_classOf 37 = .ok (.ireturn, 1) := by decide +kernel
set_option maxRecDepth 20000 in
theorem ggX8_rankOf_X8_ofCard : GoodIn wsX8_rankOf wsX8_ofCard := goodIn_r _ [5, 6, 11, 12, 13, 14, 15, 16, 17, 18, 19, 20, 21, 22, 23, 24, 25, 26, 27, 28, 29, 30, 31, 32, 33] (by decide +kernel) (by decide +kernel)
set_option maxRecDepth 20000 in
theorem gX8_rankOf_X8_ofCard : GoodIn wsX8_rankOf (wsV RX8 233 RX8 yX8_ofCard wsX8_ofCard) := goodIn_app (goodIn_of _ (by decide +kernel)) ggX8_rankOf_X8_ofCard
set_option maxRecDepth 20000 in
theorem ggX8_rankOf_X8_ofLot : GoodIn wsX8_rankOf wsX8_ofLot := goodIn_r _ [10, 6, 11, 12, 13, 14, 15, 16, 17, 18, 19, 20, 21, 22, 23, 24, 25, 26, 27, 28, 29, 30, 31, 32, 33] (by decide +kernel) (by decide +kernel)
set_option maxRecDepth 20000 in
theorem gX8_rankOf_X8_ofLot : GoodIn wsX8_rankOf (wsV RX8 134 RX8 yX8_ofLot wsX8_ofLot) := goodIn_app (goodIn_of _ (by decide +kernel)) ggX8_rankOf_X8_ofLot
theorem dX8_rankOf_0 : decode cX8_rankOf 0 = .ok (.aload_n 0, 1) := by decide +kernel
theorem dX8_rankOf_1 : decode cX8_rankOf 1 = .ok (.aload_n 0, 1) := by decide +kernel
theorem dX8_rankOf_2 : decode cX8_rankOf 2 = .ok (.iload_n 1, 1) := by decide +kernel
theorem dX8_rankOf_3 : decode cX8_rankOf 3 = .ok (.iconst 0, 1) := by decide +kernel
theorem dX8_rankOf_4 : decode cX8_rankOf 4 = .ok (.invokevirtual 233, 3) := by decide +kernel
theorem dX8_rankOf_7 : decode cX8_rankOf 7 = .ok (.iconst 0, 1) := by decide +kernel
theorem dX8_rankOf_8 : decode cX8_rankOf 8 = .ok (.invokevirtual 134, 3) := by decide +kernel
theorem dX8_rankOf_11 : decode cX8_rankOf 11 = .ok (.ireturn, 1) := by decide +kernel
set_option maxRecDepth 20000 in
theorem ggX8_isAhead_X8_classOf : GoodIn wsX8_isAhead wsX8_classOf := goodIn_r _ [5, 6, 7, 8, 4, 9, 10, 19, 20, 21, 22, 23, 24, 25, 26, 27, 28, 29, 30, 31, 32, 33, 34, 35, 36, 37, 38, 39, 40, 41] (by decide +kernel) (by decide +kernel)
set_option maxRecDepth 20000 in
theorem gX8_isAhead_X8_classOf : GoodIn wsX8_isAhead (wsV RX8 272 RX8 yX8_classOf wsX8_classOf) := goodIn_app (goodIn_of _ (by decide +kernel)) ggX8_isAhead_X8_classOf
set_option maxRecDepth 20000 in
theorem ggX8_isAhead_X8_rankOf : GoodIn wsX8_isAhead wsX8_rankOf := goodIn_r _ [14, 6, 7, 8, 4, 9, 10, 15, 16, 17, 18, 19, 20, 21, 22, 23, 24, 25, 26, 27, 28, 29, 30, 31, 32, 33, 34, 35, 36, 37, 38, 39, 40, 41] (by decide +kernel) (by decide +kernel)
set_option maxRecDepth 20000 in
theorem gX8_isAhead_X8_rankOf : GoodIn wsX8_isAhead (wsV RX8 275 RX8 yX8_rankOf wsX8_rankOf) := goodIn_app (goodIn_of _ (by decide +kernel)) ggX8_isAhead_X8_rankOf
theorem dX8_isAhead_0 : decode cX8_isAhead 0 = .ok (.aload_n 0, 1) := by decide +kernel
theorem dX8_isAhead_1 : decode cX8_isAhead 1 = .ok (.iload_n 1, 1) := by decide +kernel
theorem dX8_isAhead_2 : decode cX8_isAhead 2 = .ok (.invokevirtual 272, 3) := by decide +kernel
theorem dX8_isAhead_5 : decode cX8_isAhead 5 = .ok (.istore_n 3, 1) := by decide +kernel
theorem dX8_isAhead_6 : decode cX8_isAhead 6 = .ok (.aload_n 0, 1) := by decide +kernel
theorem dX8_isAhead_7 : decode cX8_isAhead 7 = .ok (.iload_n 2, 1) := by decide +kernel
theorem dX8_isAhead_8 : decode cX8_isAhead 8 = .ok (.invokevirtual 272, 3) := by decide +kernel
theorem dX8_isAhead_11 : decode cX8_isAhead 11 = .ok (.istore 4, 2) := by decide +kernel
theorem dX8_isAhead_13 : decode cX8_isAhead 13 = .ok (.iload_n 3, 1) := by decide +kernel
theorem dX8_isAhead_14 : decode cX8_isAhead 14 = .ok (.iload 4, 2) := by decide +kernel
theorem dX8_isAhead_16 : decode cX8_isAhead 16 = .ok (.if_icmp .eq 15, 3) := by decide +kernel
theorem dX8_isAhead_19 : decode cX8_isAhead 19 = .ok (.iload_n 3, 1) := by decide +kernel
theorem dX8_isAhead_20 : decode cX8_isAhead 20 = .ok (.iload 4, 2) := by decide +kernel
theorem dX8_isAhead_22 : decode cX8_isAhead 22 = .ok (.if_icmp .ge 7, 3) := by decide +kernel
theorem dX8_isAhead_25 : decode cX8_isAhead 25 = .ok (.iconst 1, 1) := by decide +kernel
theorem dX8_isAhead_26 : decode cX8_isAhead 26 = .ok (.goto 4, 3) := by decide +kernel
theorem dX8_isAhead_29 : decode cX8_isAhead 29 = .ok (.iconst 0, 1) := by decide +kernel
theorem dX8_isAhead_30 : decode cX8_isAhead 30 = .ok (.ireturn, 1) := by decide +kernel
theorem dX8_isAhead_31 : decode cX8_isAhead 31 = .ok (.iload_n 3, 1) := by decide +kernel
theorem dX8_isAhead_32 : decode cX8_isAhead 32 = .ok (.iconst 2, 1) := by decide +kernel
theorem dX8_isAhead_33 : decode cX8_isAhead 33 = .ok (.if_icmp .ne 20, 3) := by decide +kernel
theorem dX8_isAhead_36 : decode cX8_isAhead 36 = .ok (.aload_n 0, 1) := by decide +kernel
theorem dX8_isAhead_37 : decode cX8_isAhead 37 = .ok (.iload_n 1, 1) := by decide +kernel
theorem dX8_isAhead_38 : decode cX8_isAhead 38 = .ok (.invokevirtual 275, 3) := by decide +kernel
theorem dX8_isAhead_41 : decode cX8_isAhead 41 = .ok (.aload_n 0, 1) := by decide +kernel
theorem dX8_isAhead_42 : decode cX8_isAhead 42 = .ok (.iload_n 2, 1) := by decide +kernel
theorem dX8_isAhead_43 : decode cX8_isAhead 43 = .ok (.invokevirtual 275, 3) := by decide +kernel
theorem dX8_isAhead_46 : decode cX8_isAhead 46 = .ok (.if_icmp .le 7, 3) := by decide +kernel
theorem dX8_isAhead_49 : decode cX8_isAhead 49 = .ok (.iconst 1, 1) := by decide +kernel
theorem dX8_isAhead_50 : decode cX8_isAhead 50 = .ok (.goto 4, 3) := by decide +kernel
theorem dX8_isAhead_53 : decode cX8_isAhead 53 = .ok (.iconst 0, 1) := by decide +kernel
theorem dX8_isAhead_54 : decode cX8_isAhead 54 = .ok (.ireturn, 1) := by decide +kernel
set_option maxRecDepth 20000 in
theorem ggX8_toFeed_X8_ofCard : GoodIn wsX8_toFeed wsX8_ofCard := goodIn_r _ [6, 1, 23, 24, 25, 26, 27, 28, 29, 30, 31, 32, 33, 34, 35, 36, 37, 38, 39, 40, 41, 42, 43, 44, 45] (by decide +kernel) (by decide +kernel)
set_option maxRecDepth 20000 in
theorem gX8_toFeed_X8_ofCard : GoodIn wsX8_toFeed (wsV RX8 233 RX8 yX8_ofCard wsX8_ofCard) := goodIn_app (goodIn_of _ (by decide +kernel)) ggX8_toFeed_X8_ofCard
set_option maxRecDepth 20000 in
theorem ggX8_toFeed_X8_isAhead : GoodIn wsX8_toFeed wsX8_isAhead := goodIn_r _ [10, 11, 12, 13, 5, 14, 2, 3, 4, 6, 1, 15, 16, 17, 18, 19, 20, 21, 22, 23, 24, 25, 26, 27, 28, 29, 30, 31, 32, 33, 34, 35, 36, 37, 38, 39, 40, 41, 42, 43, 44, 45] (by decide +kernel) (by decide +kernel)
set_option maxRecDepth 20000 in
theorem gX8_toFeed_X8_isAhead : GoodIn wsX8_toFeed (wsV RX8 278 RX8 yX8_isAhead wsX8_isAhead) := goodIn_app (goodIn_of _ (by decide +kernel)) ggX8_toFeed_X8_isAhead
theorem dX8_toFeed_0 : decode cX8_toFeed 0 = .ok (.iconst (-1), 1) := by decide +kernel
theorem dX8_toFeed_1 : decode cX8_toFeed 1 = .ok (.istore_n 1, 1) := by decide +kernel
theorem dX8_toFeed_2 : decode cX8_toFeed 2 = .ok (.iconst 0, 1) := by decide +kernel
theorem dX8_toFeed_3 : decode cX8_toFeed 3 = .ok (.istore_n 2, 1) := by decide +kernel
theorem dX8_toFeed_4 : decode cX8_toFeed 4 = .ok (.iload_n 2, 1) := by decide +kernel
theorem dX8_toFeed_5 : decode cX8_toFeed 5 = .ok (.aload_n 0, 1) := by decide +kernel
theorem dX8_toFeed_6 : decode cX8_toFeed 6 = .ok (.getfield 9, 3) := by decide +kernel
theorem dX8_toFeed_9 : decode cX8_toFeed 9 = .ok (.bipush 9, 2) := by decide +kernel
theorem dX8_toFeed_11 : decode cX8_toFeed 11 = .ok (.iaload, 1) := by decide +kernel
theorem dX8_toFeed_12 : decode cX8_toFeed 12 = .ok (.if_icmp .ge 34, 3) := by decide +kernel
theorem dX8_toFeed_15 : decode cX8_toFeed 15 = .ok (.aload_n 0, 1) := by decide +kernel
theorem dX8_toFeed_16 : decode cX8_toFeed 16 = .ok (.iload_n 2, 1) := by decide +kernel
theorem dX8_toFeed_17 : decode cX8_toFeed 17 = .ok (.iconst 3, 1) := by decide +kernel
theorem dX8_toFeed_18 : decode cX8_toFeed 18 = .ok (.invokevirtual 233, 3) := by decide +kernel
theorem dX8_toFeed_21 : decode cX8_toFeed 21 = .ok (.ifCond .ne 19, 3) := by decide +kernel
theorem dX8_toFeed_24 : decode cX8_toFeed 24 = .ok (.iload_n 1, 1) := by decide +kernel
theorem dX8_toFeed_25 : decode cX8_toFeed 25 = .ok (.iconst (-1), 1) := by decide +kernel
theorem dX8_toFeed_26 : decode cX8_toFeed 26 = .ok (.if_icmp .eq 12, 3) := by decide +kernel
theorem dX8_toFeed_29 : decode cX8_toFeed 29 = .ok (.aload_n 0, 1) := by decide +kernel
theorem dX8_toFeed_30 : decode cX8_toFeed 30 = .ok (.iload_n 2, 1) := by decide +kernel
theorem dX8_toFeed_31 : decode cX8_toFeed 31 = .ok (.iload_n 1, 1) := by decide +kernel
theorem dX8_toFeed_32 : decode cX8_toFeed 32 = .ok (.invokevirtual 278, 3) := by decide +kernel
theorem dX8_toFeed_35 : decode cX8_toFeed 35 = .ok (.ifCond .eq 5, 3) := by decide +kernel
theorem dX8_toFeed_38 : decode cX8_toFeed 38 = .ok (.iload_n 2, 1) := by decide +kernel
theorem dX8_toFeed_39 : decode cX8_toFeed 39 = .ok (.istore_n 1, 1) := by decide +kernel
theorem dX8_toFeed_40 : decode cX8_toFeed 40 = .ok (.iinc 2 1, 3) := by decide +kernel
theorem dX8_toFeed_43 : decode cX8_toFeed 43 = .ok (.goto (-39), 3) := by decide +kernel
theorem dX8_toFeed_46 : decode cX8_toFeed 46 = .ok (.iload_n 1, 1) := by decide +kernel
theorem dX8_toFeed_47 : decode cX8_toFeed 47 = .ok (.ireturn, 1) := by decide +kernel
set_option maxRecDepth 20000 in
theorem ggX8_nextFed_X8_toFeed : GoodIn wsX8_nextFed wsX8_toFeed := goodIn_r _ [6, 7, 8, 9, 10, 5, 11, 12, 13, 14, 15, 16, 17, 18, 19, 20, 21, 22, 23, 24, 25, 26, 27, 28, 29, 30, 31, 32, 33, 34, 35, 36, 37, 38, 39, 40, 41, 42, 43, 44, 45, 46, 47, 48, 49, 50] (by decide +kernel) (by decide +kernel)
set_option maxRecDepth 20000 in
theorem gX8_nextFed_X8_toFeed : GoodIn wsX8_nextFed (wsV RX8 282 RX8 yX8_toFeed wsX8_toFeed) := goodIn_app (goodIn_of _ (by decide +kernel)) ggX8_nextFed_X8_toFeed
theorem dX8_nextFed_0 : decode cX8_nextFed 0 = .ok (.aload_n 0, 1) := by decide +kernel
theorem dX8_nextFed_1 : decode cX8_nextFed 1 = .ok (.iconst 0, 1) := by decide +kernel
theorem dX8_nextFed_2 : decode cX8_nextFed 2 = .ok (.putfield 49, 3) := by decide +kernel
theorem dX8_nextFed_5 : decode cX8_nextFed 5 = .ok (.aload_n 0, 1) := by decide +kernel
theorem dX8_nextFed_6 : decode cX8_nextFed 6 = .ok (.invokevirtual 282, 3) := by decide +kernel
theorem dX8_nextFed_9 : decode cX8_nextFed 9 = .ok (.ireturn, 1) := by decide +kernel
theorem dX8_turn_0 : decode cX8_turn 0 = .ok (.iload_n 0, 1) := by decide +kernel
theorem dX8_turn_1 : decode cX8_turn 1 = .ok (.iload_n 1, 1) := by decide +kernel
theorem dX8_turn_2 : decode cX8_turn 2 = .ok (.isub, 1) := by decide +kernel
theorem dX8_turn_3 : decode cX8_turn 3 = .ok (.invokestatic 285, 3) := by decide +kernel
theorem dX8_turn_6 : decode cX8_turn 6 = .ok (.istore_n 2, 1) := by decide +kernel
theorem dX8_turn_7 : decode cX8_turn 7 = .ok (.iload_n 2, 1) := by decide +kernel
theorem dX8_turn_8 : decode cX8_turn 8 = .ok (.bipush 26, 2) := by decide +kernel
theorem dX8_turn_10 : decode cX8_turn 10 = .ok (.iload_n 2, 1) := by decide +kernel
theorem dX8_turn_11 : decode cX8_turn 11 = .ok (.isub, 1) := by decide +kernel
theorem dX8_turn_12 : decode cX8_turn 12 = .ok (.invokestatic 105, 3) := by decide +kernel
theorem dX8_turn_15 : decode cX8_turn 15 = .ok (.ireturn, 1) := by decide +kernel
set_option maxRecDepth 20000 in
theorem ggX8_stepsOf_X8_ofCard : GoodIn wsX8_stepsOf wsX8_ofCard := goodIn_r _ [5, 6, 17, 18, 19, 20, 21, 22, 23, 24, 25, 26, 27, 28, 29, 30, 31, 32, 33, 34, 35, 36, 37, 38, 39] (by decide +kernel) (by decide +kernel)
set_option maxRecDepth 20000 in
theorem gX8_stepsOf_X8_ofCard : GoodIn wsX8_stepsOf (wsV RX8 233 RX8 yX8_ofCard wsX8_ofCard) := goodIn_app (goodIn_of _ (by decide +kernel)) ggX8_stepsOf_X8_ofCard
set_option maxRecDepth 20000 in
theorem ggX8_stepsOf_X8_turn : GoodIn wsX8_stepsOf wsX8_turn := goodIn_r _ [9, 10, 11, 12, 13, 14, 15, 16] (by decide +kernel) (by decide +kernel)
set_option maxRecDepth 20000 in
theorem gX8_stepsOf_X8_turn : GoodIn wsX8_stepsOf (va_wsS RX8 288 yX8_turn wsX8_turn) := goodIn_app (goodIn_of _ (by decide +kernel)) ggX8_stepsOf_X8_turn
theorem dX8_stepsOf_0 : decode cX8_stepsOf 0 = .ok (.iload_n 2, 1) := by decide +kernel
theorem dX8_stepsOf_1 : decode cX8_stepsOf 1 = .ok (.istore_n 3, 1) := by decide +kernel
theorem dX8_stepsOf_2 : decode cX8_stepsOf 2 = .ok (.iconst 0, 1) := by decide +kernel
theorem dX8_stepsOf_3 : decode cX8_stepsOf 3 = .ok (.istore 4, 2) := by decide +kernel
theorem dX8_stepsOf_5 : decode cX8_stepsOf 5 = .ok (.iconst 0, 1) := by decide +kernel
theorem dX8_stepsOf_6 : decode cX8_stepsOf 6 = .ok (.istore 5, 2) := by decide +kernel
theorem dX8_stepsOf_8 : decode cX8_stepsOf 8 = .ok (.iload 5, 2) := by decide +kernel
theorem dX8_stepsOf_10 : decode cX8_stepsOf 10 = .ok (.aload_n 0, 1) := by decide +kernel
theorem dX8_stepsOf_11 : decode cX8_stepsOf 11 = .ok (.iload_n 1, 1) := by decide +kernel
theorem dX8_stepsOf_12 : decode cX8_stepsOf 12 = .ok (.iconst 2, 1) := by decide +kernel
theorem dX8_stepsOf_13 : decode cX8_stepsOf 13 = .ok (.invokevirtual 233, 3) := by decide +kernel
theorem dX8_stepsOf_16 : decode cX8_stepsOf 16 = .ok (.if_icmp .ge 39, 3) := by decide +kernel
theorem dX8_stepsOf_19 : decode cX8_stepsOf 19 = .ok (.iload 4, 2) := by decide +kernel
theorem dX8_stepsOf_21 : decode cX8_stepsOf 21 = .ok (.iload_n 3, 1) := by decide +kernel
theorem dX8_stepsOf_22 : decode cX8_stepsOf 22 = .ok (.aload_n 0, 1) := by decide +kernel
theorem dX8_stepsOf_23 : decode cX8_stepsOf 23 = .ok (.iload_n 1, 1) := by decide +kernel
theorem dX8_stepsOf_24 : decode cX8_stepsOf 24 = .ok (.bipush 9, 2) := by decide +kernel
theorem dX8_stepsOf_26 : decode cX8_stepsOf 26 = .ok (.iload 5, 2) := by decide +kernel
theorem dX8_stepsOf_28 : decode cX8_stepsOf 28 = .ok (.iadd, 1) := by decide +kernel
theorem dX8_stepsOf_29 : decode cX8_stepsOf 29 = .ok (.invokevirtual 233, 3) := by decide +kernel
theorem dX8_stepsOf_32 : decode cX8_stepsOf 32 = .ok (.invokestatic 288, 3) := by decide +kernel
theorem dX8_stepsOf_35 : decode cX8_stepsOf 35 = .ok (.iadd, 1) := by decide +kernel
theorem dX8_stepsOf_36 : decode cX8_stepsOf 36 = .ok (.istore 4, 2) := by decide +kernel
theorem dX8_stepsOf_38 : decode cX8_stepsOf 38 = .ok (.aload_n 0, 1) := by decide +kernel
theorem dX8_stepsOf_39 : decode cX8_stepsOf 39 = .ok (.iload_n 1, 1) := by decide +kernel
theorem dX8_stepsOf_40 : decode cX8_stepsOf 40 = .ok (.bipush 9, 2) := by decide +kernel
theorem dX8_stepsOf_42 : decode cX8_stepsOf 42 = .ok (.iload 5, 2) := by decide +kernel
theorem dX8_stepsOf_44 : decode cX8_stepsOf 44 = .ok (.iadd, 1) := by decide +kernel
theorem dX8_stepsOf_45 : decode cX8_stepsOf 45 = .ok (.invokevirtual 233, 3) := by decide +kernel
theorem dX8_stepsOf_48 : decode cX8_stepsOf 48 = .ok (.istore_n 3, 1) := by decide +kernel
theorem dX8_stepsOf_49 : decode cX8_stepsOf 49 = .ok (.iinc 5 1, 3) := by decide +kernel
theorem dX8_stepsOf_52 : decode cX8_stepsOf 52 = .ok (.goto (-44), 3) := by decide +kernel
theorem dX8_stepsOf_55 : decode cX8_stepsOf 55 = .ok (.iload 4, 2) := by decide +kernel
theorem dX8_stepsOf_57 : decode cX8_stepsOf 57 = .ok (.ireturn, 1) := by decide +kernel
set_option maxRecDepth 20000 in
theorem ggX8_steps_X8_isCard : GoodIn wsX8_steps wsX8_isCard := goodIn_r _ [6, 7, 8, 9, 5, 10, 34, 35, 36, 37, 38, 39, 40, 41, 42, 43, 44, 45, 46, 47, 48, 49, 50, 51, 52, 53, 54, 55, 56] (by decide +kernel) (by decide +kernel)
set_option maxRecDepth 20000 in
theorem gX8_steps_X8_isCard : GoodIn wsX8_steps (wsV RX8 251 RX8 yX8_isCard wsX8_isCard) := goodIn_app (goodIn_of _ (by decide +kernel)) ggX8_steps_X8_isCard
set_option maxRecDepth 20000 in
theorem ggX8_steps_X8_isThrown : GoodIn wsX8_steps wsX8_isThrown := goodIn_r _ [14, 15, 34, 35, 36, 37, 38, 39, 40, 41, 42, 43, 44, 45, 46, 47, 48, 49, 50, 51, 52, 53, 54, 55, 56] (by decide +kernel) (by decide +kernel)
set_option maxRecDepth 20000 in
theorem gX8_steps_X8_isThrown : GoodIn wsX8_steps (wsV RX8 226 RX8 yX8_isThrown wsX8_isThrown) := goodIn_app (goodIn_of _ (by decide +kernel)) ggX8_steps_X8_isThrown
set_option maxRecDepth 20000 in
theorem ggX8_steps_X8_in : GoodIn wsX8_steps wsX8_in := goodIn_r _ [10] (by decide +kernel) (by decide +kernel)
set_option maxRecDepth 20000 in
theorem gX8_steps_X8_in : GoodIn wsX8_steps (va_wsS RX8 52 yX8_in wsX8_in) := goodIn_app (goodIn_of _ (by decide +kernel)) ggX8_steps_X8_in
set_option maxRecDepth 20000 in
theorem ggX8_steps_X8_stepsOf : GoodIn wsX8_steps wsX8_stepsOf := goodIn_r _ [19, 20, 21, 22, 5, 23, 7, 24, 25, 26, 27, 28, 29, 30, 31, 32, 33, 34, 35, 36, 37, 38, 39, 40, 41, 42, 43, 44, 45, 46, 47, 48, 49, 50, 51, 52, 53, 54, 55, 56] (by decide +kernel) (by decide +kernel)
set_option maxRecDepth 20000 in
theorem gX8_steps_X8_stepsOf : GoodIn wsX8_steps (wsV RX8 293 RX8 yX8_stepsOf wsX8_stepsOf) := goodIn_app (goodIn_of _ (by decide +kernel)) ggX8_steps_X8_stepsOf
theorem dX8_steps_0 : decode cX8_steps 0 = .ok (.aload_n 0, 1) := by decide +kernel
theorem dX8_steps_1 : decode cX8_steps 1 = .ok (.aload_n 0, 1) := by decide +kernel
theorem dX8_steps_2 : decode cX8_steps 2 = .ok (.iload_n 1, 1) := by decide +kernel
theorem dX8_steps_3 : decode cX8_steps 3 = .ok (.invokevirtual 251, 3) := by decide +kernel
theorem dX8_steps_6 : decode cX8_steps 6 = .ok (.iconst 1, 1) := by decide +kernel
theorem dX8_steps_7 : decode cX8_steps 7 = .ok (.invokevirtual 226, 3) := by decide +kernel
theorem dX8_steps_10 : decode cX8_steps 10 = .ok (.ifCond .ne 20, 3) := by decide +kernel
theorem dX8_steps_13 : decode cX8_steps 13 = .ok (.aload_n 0, 1) := by decide +kernel
theorem dX8_steps_14 : decode cX8_steps 14 = .ok (.iload_n 2, 1) := by decide +kernel
theorem dX8_steps_15 : decode cX8_steps 15 = .ok (.i2l, 1) := by decide +kernel
theorem dX8_steps_16 : decode cX8_steps 16 = .ok (.lconst 0, 1) := by decide +kernel
theorem dX8_steps_17 : decode cX8_steps 17 = .ok (.ldc2_w 291, 3) := by decide +kernel
theorem dX8_steps_20 : decode cX8_steps 20 = .ok (.invokestatic 52, 3) := by decide +kernel
theorem dX8_steps_23 : decode cX8_steps 23 = .ok (.iconst 2, 1) := by decide +kernel
theorem dX8_steps_24 : decode cX8_steps 24 = .ok (.invokevirtual 226, 3) := by decide +kernel
theorem dX8_steps_27 : decode cX8_steps 27 = .ok (.ifCond .eq 5, 3) := by decide +kernel
theorem dX8_steps_30 : decode cX8_steps 30 = .ok (.iconst 0, 1) := by decide +kernel
theorem dX8_steps_31 : decode cX8_steps 31 = .ok (.ireturn, 1) := by decide +kernel
theorem dX8_steps_32 : decode cX8_steps 32 = .ok (.aload_n 0, 1) := by decide +kernel
theorem dX8_steps_33 : decode cX8_steps 33 = .ok (.iload_n 1, 1) := by decide +kernel
theorem dX8_steps_34 : decode cX8_steps 34 = .ok (.iload_n 2, 1) := by decide +kernel
theorem dX8_steps_35 : decode cX8_steps 35 = .ok (.invokevirtual 293, 3) := by decide +kernel
theorem dX8_steps_38 : decode cX8_steps 38 = .ok (.ireturn, 1) := by decide +kernel
set_option maxRecDepth 20000 in
theorem ggX8_ticksOf_X8_of : GoodIn wsX8_ticksOf wsX8_of := goodIn_r _ [5, 6, 25, 26, 27, 28, 29, 30, 31, 32, 33, 34, 35, 36, 37, 38, 39, 40, 41, 42, 43, 44, 45, 46, 47] (by decide +kernel) (by decide +kernel)
set_option maxRecDepth 20000 in
theorem gX8_ticksOf_X8_of : GoodIn wsX8_ticksOf (wsV RX8 248 RX8 yX8_of wsX8_of) := goodIn_app (goodIn_of _ (by decide +kernel)) ggX8_ticksOf_X8_of
set_option maxRecDepth 20000 in
theorem ggX8_ticksOf_X8_ofCard : GoodIn wsX8_ticksOf wsX8_ofCard := goodIn_r _ [10, 6, 25, 26, 27, 28, 29, 30, 31, 32, 33, 34, 35, 36, 37, 38, 39, 40, 41, 42, 43, 44, 45, 46, 47] (by decide +kernel) (by decide +kernel)
set_option maxRecDepth 20000 in
theorem gX8_ticksOf_X8_ofCard : GoodIn wsX8_ticksOf (wsV RX8 233 RX8 yX8_ofCard wsX8_ofCard) := goodIn_app (goodIn_of _ (by decide +kernel)) ggX8_ticksOf_X8_ofCard
set_option maxRecDepth 20000 in
theorem ggX8_ticksOf_X8_stepsOf : GoodIn wsX8_ticksOf wsX8_stepsOf := goodIn_r _ [14, 7, 8, 9, 4, 10, 6, 15, 16, 17, 18, 19, 20, 21, 22, 23, 24, 25, 26, 27, 28, 29, 30, 31, 32, 33, 34, 35, 36, 37, 38, 39, 40, 41, 42, 43, 44, 45, 46, 47] (by decide +kernel) (by decide +kernel)
set_option maxRecDepth 20000 in
theorem gX8_ticksOf_X8_stepsOf : GoodIn wsX8_ticksOf (wsV RX8 293 RX8 yX8_stepsOf wsX8_stepsOf) := goodIn_app (goodIn_of _ (by decide +kernel)) ggX8_ticksOf_X8_stepsOf
theorem dX8_ticksOf_0 : decode cX8_ticksOf 0 = .ok (.aload_n 0, 1) := by decide +kernel
theorem dX8_ticksOf_1 : decode cX8_ticksOf 1 = .ok (.iload_n 1, 1) := by decide +kernel
theorem dX8_ticksOf_2 : decode cX8_ticksOf 2 = .ok (.iconst 1, 1) := by decide +kernel
theorem dX8_ticksOf_3 : decode cX8_ticksOf 3 = .ok (.invokevirtual 248, 3) := by decide +kernel
theorem dX8_ticksOf_6 : decode cX8_ticksOf 6 = .ok (.istore_n 3, 1) := by decide +kernel
theorem dX8_ticksOf_7 : decode cX8_ticksOf 7 = .ok (.aload_n 0, 1) := by decide +kernel
theorem dX8_ticksOf_8 : decode cX8_ticksOf 8 = .ok (.iload_n 1, 1) := by decide +kernel
theorem dX8_ticksOf_9 : decode cX8_ticksOf 9 = .ok (.iconst 0, 1) := by decide +kernel
theorem dX8_ticksOf_10 : decode cX8_ticksOf 10 = .ok (.invokevirtual 248, 3) := by decide +kernel
theorem dX8_ticksOf_13 : decode cX8_ticksOf 13 = .ok (.iconst 3, 1) := by decide +kernel
theorem dX8_ticksOf_14 : decode cX8_ticksOf 14 = .ok (.if_icmp .eq 5, 3) := by decide +kernel
theorem dX8_ticksOf_17 : decode cX8_ticksOf 17 = .ok (.iload_n 3, 1) := by decide +kernel
theorem dX8_ticksOf_18 : decode cX8_ticksOf 18 = .ok (.ireturn, 1) := by decide +kernel
theorem dX8_ticksOf_19 : decode cX8_ticksOf 19 = .ok (.aload_n 0, 1) := by decide +kernel
theorem dX8_ticksOf_20 : decode cX8_ticksOf 20 = .ok (.iload_n 2, 1) := by decide +kernel
theorem dX8_ticksOf_21 : decode cX8_ticksOf 21 = .ok (.iconst 2, 1) := by decide +kernel
theorem dX8_ticksOf_22 : decode cX8_ticksOf 22 = .ok (.invokevirtual 233, 3) := by decide +kernel
theorem dX8_ticksOf_25 : decode cX8_ticksOf 25 = .ok (.aload_n 0, 1) := by decide +kernel
theorem dX8_ticksOf_26 : decode cX8_ticksOf 26 = .ok (.iload_n 2, 1) := by decide +kernel
theorem dX8_ticksOf_27 : decode cX8_ticksOf 27 = .ok (.aload_n 0, 1) := by decide +kernel
theorem dX8_ticksOf_28 : decode cX8_ticksOf 28 = .ok (.iload_n 1, 1) := by decide +kernel
theorem dX8_ticksOf_29 : decode cX8_ticksOf 29 = .ok (.bipush 8, 2) := by decide +kernel
theorem dX8_ticksOf_31 : decode cX8_ticksOf 31 = .ok (.invokevirtual 248, 3) := by decide +kernel
theorem dX8_ticksOf_34 : decode cX8_ticksOf 34 = .ok (.invokevirtual 293, 3) := by decide +kernel
theorem dX8_ticksOf_37 : decode cX8_ticksOf 37 = .ok (.iload_n 3, 1) := by decide +kernel
theorem dX8_ticksOf_38 : decode cX8_ticksOf 38 = .ok (.iadd, 1) := by decide +kernel
theorem dX8_ticksOf_39 : decode cX8_ticksOf 39 = .ok (.iconst 1, 1) := by decide +kernel
theorem dX8_ticksOf_40 : decode cX8_ticksOf 40 = .ok (.isub, 1) := by decide +kernel
theorem dX8_ticksOf_41 : decode cX8_ticksOf 41 = .ok (.iload_n 3, 1) := by decide +kernel
theorem dX8_ticksOf_42 : decode cX8_ticksOf 42 = .ok (.idiv, 1) := by decide +kernel
theorem dX8_ticksOf_43 : decode cX8_ticksOf 43 = .ok (.iadd, 1) := by decide +kernel
theorem dX8_ticksOf_44 : decode cX8_ticksOf 44 = .ok (.ireturn, 1) := by decide +kernel
set_option maxRecDepth 20000 in
theorem ggX8_ticksFor_X8_isStation : GoodIn wsX8_ticksFor wsX8_isStation := goodIn_r _ [5, 6, 7, 8, 4, 9, 45, 46, 47, 48, 49, 50, 51, 52, 53, 54, 55, 56, 57, 58, 59, 60, 61, 62, 63, 64, 65, 66, 67] (by decide +kernel) (by decide +kernel)
set_option maxRecDepth 20000 in
theorem gX8_ticksFor_X8_isStation : GoodIn wsX8_ticksFor (wsV RX8 243 RX8 yX8_isStation wsX8_isStation) := goodIn_app (goodIn_of _ (by decide +kernel)) ggX8_ticksFor_X8_isStation
set_option maxRecDepth 20000 in
theorem ggX8_ticksFor_X8_isCard : GoodIn wsX8_ticksFor wsX8_isCard := goodIn_r _ [13, 6, 7, 8, 4, 9, 45, 46, 47, 48, 49, 50, 51, 52, 53, 54, 55, 56, 57, 58, 59, 60, 61, 62, 63, 64, 65, 66, 67] (by decide +kernel) (by decide +kernel)
set_option maxRecDepth 20000 in
theorem gX8_ticksFor_X8_isCard : GoodIn wsX8_ticksFor (wsV RX8 251 RX8 yX8_isCard wsX8_isCard) := goodIn_app (goodIn_of _ (by decide +kernel)) ggX8_ticksFor_X8_isCard
set_option maxRecDepth 20000 in
theorem ggX8_ticksFor_X8_isThrown : GoodIn wsX8_ticksFor wsX8_isThrown := goodIn_r _ [17, 18, 45, 46, 47, 48, 49, 50, 51, 52, 53, 54, 55, 56, 57, 58, 59, 60, 61, 62, 63, 64, 65, 66, 67] (by decide +kernel) (by decide +kernel)
set_option maxRecDepth 20000 in
theorem gX8_ticksFor_X8_isThrown : GoodIn wsX8_ticksFor (wsV RX8 226 RX8 yX8_isThrown wsX8_isThrown) := goodIn_app (goodIn_of _ (by decide +kernel)) ggX8_ticksFor_X8_isThrown
set_option maxRecDepth 20000 in
theorem ggX8_ticksFor_X8_ticksOf : GoodIn wsX8_ticksFor wsX8_ticksOf := goodIn_r _ [22, 23, 24, 25, 4, 26, 6, 27, 28, 29, 30, 31, 32, 33, 34, 35, 36, 37, 38, 39, 40, 41, 42, 43, 44, 45, 46, 47, 48, 49, 50, 51, 52, 53, 54, 55, 56, 57, 58, 59, 60, 61, 62, 63, 64, 65, 66, 67] (by decide +kernel) (by decide +kernel)
set_option maxRecDepth 20000 in
theorem gX8_ticksFor_X8_ticksOf : GoodIn wsX8_ticksFor (wsV RX8 296 RX8 yX8_ticksOf wsX8_ticksOf) := goodIn_app (goodIn_of _ (by decide +kernel)) ggX8_ticksFor_X8_ticksOf
theorem dX8_ticksFor_0 : decode cX8_ticksFor 0 = .ok (.aload_n 0, 1) := by decide +kernel
theorem dX8_ticksFor_1 : decode cX8_ticksFor 1 = .ok (.aload_n 0, 1) := by decide +kernel
theorem dX8_ticksFor_2 : decode cX8_ticksFor 2 = .ok (.iload_n 1, 1) := by decide +kernel
theorem dX8_ticksFor_3 : decode cX8_ticksFor 3 = .ok (.invokevirtual 243, 3) := by decide +kernel
theorem dX8_ticksFor_6 : decode cX8_ticksFor 6 = .ok (.ifCond .eq 15, 3) := by decide +kernel
theorem dX8_ticksFor_9 : decode cX8_ticksFor 9 = .ok (.aload_n 0, 1) := by decide +kernel
theorem dX8_ticksFor_10 : decode cX8_ticksFor 10 = .ok (.iload_n 2, 1) := by decide +kernel
theorem dX8_ticksFor_11 : decode cX8_ticksFor 11 = .ok (.invokevirtual 251, 3) := by decide +kernel
theorem dX8_ticksFor_14 : decode cX8_ticksFor 14 = .ok (.ifCond .eq 7, 3) := by decide +kernel
theorem dX8_ticksFor_17 : decode cX8_ticksFor 17 = .ok (.iconst 1, 1) := by decide +kernel
theorem dX8_ticksFor_18 : decode cX8_ticksFor 18 = .ok (.goto 4, 3) := by decide +kernel
theorem dX8_ticksFor_21 : decode cX8_ticksFor 21 = .ok (.iconst 0, 1) := by decide +kernel
theorem dX8_ticksFor_22 : decode cX8_ticksFor 22 = .ok (.iconst 1, 1) := by decide +kernel
theorem dX8_ticksFor_23 : decode cX8_ticksFor 23 = .ok (.invokevirtual 226, 3) := by decide +kernel
theorem dX8_ticksFor_26 : decode cX8_ticksFor 26 = .ok (.ifCond .eq 7, 3) := by decide +kernel
theorem dX8_ticksFor_29 : decode cX8_ticksFor 29 = .ok (.iconst 0, 1) := by decide +kernel
theorem dX8_ticksFor_30 : decode cX8_ticksFor 30 = .ok (.goto 9, 3) := by decide +kernel
theorem dX8_ticksFor_33 : decode cX8_ticksFor 33 = .ok (.aload_n 0, 1) := by decide +kernel
theorem dX8_ticksFor_34 : decode cX8_ticksFor 34 = .ok (.iload_n 1, 1) := by decide +kernel
theorem dX8_ticksFor_35 : decode cX8_ticksFor 35 = .ok (.iload_n 2, 1) := by decide +kernel
theorem dX8_ticksFor_36 : decode cX8_ticksFor 36 = .ok (.invokevirtual 296, 3) := by decide +kernel
theorem dX8_ticksFor_39 : decode cX8_ticksFor 39 = .ok (.ireturn, 1) := by decide +kernel
theorem dX8_now_0 : decode cX8_now 0 = .ok (.aload_n 0, 1) := by decide +kernel
theorem dX8_now_1 : decode cX8_now 1 = .ok (.iconst 0, 1) := by decide +kernel
theorem dX8_now_2 : decode cX8_now 2 = .ok (.putfield 49, 3) := by decide +kernel
theorem dX8_now_5 : decode cX8_now 5 = .ok (.aload_n 0, 1) := by decide +kernel
theorem dX8_now_6 : decode cX8_now 6 = .ok (.getfield 9, 3) := by decide +kernel
theorem dX8_now_9 : decode cX8_now 9 = .ok (.bipush 6, 2) := by decide +kernel
theorem dX8_now_11 : decode cX8_now 11 = .ok (.iaload, 1) := by decide +kernel
theorem dX8_now_12 : decode cX8_now 12 = .ok (.ireturn, 1) := by decide +kernel
set_option maxRecDepth 20000 in
theorem ggX8_day_X8_isLot : GoodIn wsX8_day wsX8_isLot := goodIn_r _ [6, 1, 7, 8, 5, 9, 15, 16, 17, 18, 19, 20, 21, 22, 23, 24, 25, 26, 27, 28, 29, 30, 31, 32, 33, 34, 35, 36, 37] (by decide +kernel) (by decide +kernel)
set_option maxRecDepth 20000 in
theorem gX8_day_X8_isLot : GoodIn wsX8_day (wsV RX8 222 RX8 yX8_isLot wsX8_isLot) := goodIn_app (goodIn_of _ (by decide +kernel)) ggX8_day_X8_isLot
set_option maxRecDepth 20000 in
theorem ggX8_day_X8_isThrown : GoodIn wsX8_day wsX8_isThrown := goodIn_r _ [13, 14, 15, 16, 17, 18, 19, 20, 21, 22, 23, 24, 25, 26, 27, 28, 29, 30, 31, 32, 33, 34, 35, 36, 37] (by decide +kernel) (by decide +kernel)
set_option maxRecDepth 20000 in
theorem gX8_day_X8_isThrown : GoodIn wsX8_day (wsV RX8 226 RX8 yX8_isThrown wsX8_isThrown) := goodIn_app (goodIn_of _ (by decide +kernel)) ggX8_day_X8_isThrown
set_option maxRecDepth 20000 in
theorem ggX8_day_X8_in : GoodIn wsX8_day wsX8_in := goodIn_r _ [9] (by decide +kernel) (by decide +kernel)
set_option maxRecDepth 20000 in
theorem gX8_day_X8_in : GoodIn wsX8_day (va_wsS RX8 52 yX8_in wsX8_in) := goodIn_app (goodIn_of _ (by decide +kernel)) ggX8_day_X8_in
theorem dX8_day_0 : decode cX8_day 0 = .ok (.aload_n 0, 1) := by decide +kernel
theorem dX8_day_1 : decode cX8_day 1 = .ok (.aload_n 0, 1) := by decide +kernel
theorem dX8_day_2 : decode cX8_day 2 = .ok (.iload_n 2, 1) := by decide +kernel
theorem dX8_day_3 : decode cX8_day 3 = .ok (.invokevirtual 222, 3) := by decide +kernel
theorem dX8_day_6 : decode cX8_day 6 = .ok (.iconst 1, 1) := by decide +kernel
theorem dX8_day_7 : decode cX8_day 7 = .ok (.invokevirtual 226, 3) := by decide +kernel
theorem dX8_day_10 : decode cX8_day 10 = .ok (.ifCond .ne 30, 3) := by decide +kernel
theorem dX8_day_13 : decode cX8_day 13 = .ok (.aload_n 0, 1) := by decide +kernel
theorem dX8_day_14 : decode cX8_day 14 = .ok (.iload_n 1, 1) := by decide +kernel
theorem dX8_day_15 : decode cX8_day 15 = .ok (.ifCond .lt 17, 3) := by decide +kernel
theorem dX8_day_18 : decode cX8_day 18 = .ok (.iload_n 3, 1) := by decide +kernel
theorem dX8_day_19 : decode cX8_day 19 = .ok (.i2l, 1) := by decide +kernel
theorem dX8_day_20 : decode cX8_day 20 = .ok (.lconst 0, 1) := by decide +kernel
theorem dX8_day_21 : decode cX8_day 21 = .ok (.lconst 1, 1) := by decide +kernel
theorem dX8_day_22 : decode cX8_day 22 = .ok (.invokestatic 52, 3) := by decide +kernel
theorem dX8_day_25 : decode cX8_day 25 = .ok (.ifCond .eq 7, 3) := by decide +kernel
theorem dX8_day_28 : decode cX8_day 28 = .ok (.iconst 1, 1) := by decide +kernel
theorem dX8_day_29 : decode cX8_day 29 = .ok (.goto 4, 3) := by decide +kernel
theorem dX8_day_32 : decode cX8_day 32 = .ok (.iconst 0, 1) := by decide +kernel
theorem dX8_day_33 : decode cX8_day 33 = .ok (.iconst 2, 1) := by decide +kernel
theorem dX8_day_34 : decode cX8_day 34 = .ok (.invokevirtual 226, 3) := by decide +kernel
theorem dX8_day_37 : decode cX8_day 37 = .ok (.ifCond .eq 5, 3) := by decide +kernel
theorem dX8_day_40 : decode cX8_day 40 = .ok (.iconst 0, 1) := by decide +kernel
theorem dX8_day_41 : decode cX8_day 41 = .ok (.ireturn, 1) := by decide +kernel
theorem dX8_day_42 : decode cX8_day 42 = .ok (.iload_n 1, 1) := by decide +kernel
theorem dX8_day_43 : decode cX8_day 43 = .ok (.aload_n 0, 1) := by decide +kernel
theorem dX8_day_44 : decode cX8_day 44 = .ok (.getfield 9, 3) := by decide +kernel
theorem dX8_day_47 : decode cX8_day 47 = .ok (.bipush 11, 2) := by decide +kernel
theorem dX8_day_49 : decode cX8_day 49 = .ok (.iaload, 1) := by decide +kernel
theorem dX8_day_50 : decode cX8_day 50 = .ok (.if_icmp .ge 25, 3) := by decide +kernel
theorem dX8_day_53 : decode cX8_day 53 = .ok (.aload_n 0, 1) := by decide +kernel
theorem dX8_day_54 : decode cX8_day 54 = .ok (.getfield 9, 3) := by decide +kernel
theorem dX8_day_57 : decode cX8_day 57 = .ok (.sipush 917, 3) := by decide +kernel
theorem dX8_day_60 : decode cX8_day 60 = .ok (.bipush 12, 2) := by decide +kernel
theorem dX8_day_62 : decode cX8_day 62 = .ok (.iload_n 1, 1) := by decide +kernel
theorem dX8_day_63 : decode cX8_day 63 = .ok (.imul, 1) := by decide +kernel
theorem dX8_day_64 : decode cX8_day 64 = .ok (.iadd, 1) := by decide +kernel
theorem dX8_day_65 : decode cX8_day 65 = .ok (.iconst 2, 1) := by decide +kernel
theorem dX8_day_66 : decode cX8_day 66 = .ok (.iload_n 2, 1) := by decide +kernel
theorem dX8_day_67 : decode cX8_day 67 = .ok (.imul, 1) := by decide +kernel
theorem dX8_day_68 : decode cX8_day 68 = .ok (.iadd, 1) := by decide +kernel
theorem dX8_day_69 : decode cX8_day 69 = .ok (.iload_n 3, 1) := by decide +kernel
theorem dX8_day_70 : decode cX8_day 70 = .ok (.iadd, 1) := by decide +kernel
theorem dX8_day_71 : decode cX8_day 71 = .ok (.iaload, 1) := by decide +kernel
theorem dX8_day_72 : decode cX8_day 72 = .ok (.goto 4, 3) := by decide +kernel
theorem dX8_day_75 : decode cX8_day 75 = .ok (.iconst (-1), 1) := by decide +kernel
theorem dX8_day_76 : decode cX8_day 76 = .ok (.ireturn, 1) := by decide +kernel
set_option maxRecDepth 20000 in
theorem ggX8_today_X8_isLot : GoodIn wsX8_today wsX8_isLot := goodIn_r _ [5, 6, 7, 8, 4, 9, 19, 20, 21, 22, 23, 24, 25, 26, 27, 28, 29, 30, 31, 32, 33, 34, 35, 36, 37, 38, 39, 40, 41] (by decide +kernel) (by decide +kernel)
set_option maxRecDepth 20000 in
theorem gX8_today_X8_isLot : GoodIn wsX8_today (wsV RX8 222 RX8 yX8_isLot wsX8_isLot) := goodIn_app (goodIn_of _ (by decide +kernel)) ggX8_today_X8_isLot
set_option maxRecDepth 20000 in
theorem ggX8_today_X8_isThrown : GoodIn wsX8_today wsX8_isThrown := goodIn_r _ [13, 14, 19, 20, 21, 22, 23, 24, 25, 26, 27, 28, 29, 30, 31, 32, 33, 34, 35, 36, 37, 38, 39, 40, 41] (by decide +kernel) (by decide +kernel)
set_option maxRecDepth 20000 in
theorem gX8_today_X8_isThrown : GoodIn wsX8_today (wsV RX8 226 RX8 yX8_isThrown wsX8_isThrown) := goodIn_app (goodIn_of _ (by decide +kernel)) ggX8_today_X8_isThrown
set_option maxRecDepth 20000 in
theorem ggX8_today_X8_in : GoodIn wsX8_today wsX8_in := goodIn_r _ [9] (by decide +kernel) (by decide +kernel)
set_option maxRecDepth 20000 in
theorem gX8_today_X8_in : GoodIn wsX8_today (va_wsS RX8 52 yX8_in wsX8_in) := goodIn_app (goodIn_of _ (by decide +kernel)) ggX8_today_X8_in
set_option maxRecDepth 20000 in
theorem ggX8_today_X8_ofLot : GoodIn wsX8_today wsX8_ofLot := goodIn_r _ [18, 6, 19, 20, 21, 22, 23, 24, 25, 26, 27, 28, 29, 30, 31, 32, 33, 34, 35, 36, 37, 38, 39, 40, 41] (by decide +kernel) (by decide +kernel)
set_option maxRecDepth 20000 in
theorem gX8_today_X8_ofLot : GoodIn wsX8_today (wsV RX8 134 RX8 yX8_ofLot wsX8_ofLot) := goodIn_app (goodIn_of _ (by decide +kernel)) ggX8_today_X8_ofLot
theorem dX8_today_0 : decode cX8_today 0 = .ok (.aload_n 0, 1) := by decide +kernel
theorem dX8_today_1 : decode cX8_today 1 = .ok (.aload_n 0, 1) := by decide +kernel
theorem dX8_today_2 : decode cX8_today 2 = .ok (.iload_n 1, 1) := by decide +kernel
theorem dX8_today_3 : decode cX8_today 3 = .ok (.invokevirtual 222, 3) := by decide +kernel
theorem dX8_today_6 : decode cX8_today 6 = .ok (.iconst 1, 1) := by decide +kernel
theorem dX8_today_7 : decode cX8_today 7 = .ok (.invokevirtual 226, 3) := by decide +kernel
theorem dX8_today_10 : decode cX8_today 10 = .ok (.ifCond .ne 18, 3) := by decide +kernel
theorem dX8_today_13 : decode cX8_today 13 = .ok (.aload_n 0, 1) := by decide +kernel
theorem dX8_today_14 : decode cX8_today 14 = .ok (.iload_n 2, 1) := by decide +kernel
theorem dX8_today_15 : decode cX8_today 15 = .ok (.i2l, 1) := by decide +kernel
theorem dX8_today_16 : decode cX8_today 16 = .ok (.lconst 0, 1) := by decide +kernel
theorem dX8_today_17 : decode cX8_today 17 = .ok (.lconst 1, 1) := by decide +kernel
theorem dX8_today_18 : decode cX8_today 18 = .ok (.invokestatic 52, 3) := by decide +kernel
theorem dX8_today_21 : decode cX8_today 21 = .ok (.iconst 2, 1) := by decide +kernel
theorem dX8_today_22 : decode cX8_today 22 = .ok (.invokevirtual 226, 3) := by decide +kernel
theorem dX8_today_25 : decode cX8_today 25 = .ok (.ifCond .eq 5, 3) := by decide +kernel
theorem dX8_today_28 : decode cX8_today 28 = .ok (.iconst 0, 1) := by decide +kernel
theorem dX8_today_29 : decode cX8_today 29 = .ok (.ireturn, 1) := by decide +kernel
theorem dX8_today_30 : decode cX8_today 30 = .ok (.aload_n 0, 1) := by decide +kernel
theorem dX8_today_31 : decode cX8_today 31 = .ok (.iload_n 1, 1) := by decide +kernel
theorem dX8_today_32 : decode cX8_today 32 = .ok (.iconst 2, 1) := by decide +kernel
theorem dX8_today_33 : decode cX8_today 33 = .ok (.iload_n 2, 1) := by decide +kernel
theorem dX8_today_34 : decode cX8_today 34 = .ok (.iadd, 1) := by decide +kernel
theorem dX8_today_35 : decode cX8_today 35 = .ok (.invokevirtual 134, 3) := by decide +kernel
theorem dX8_today_38 : decode cX8_today 38 = .ok (.ireturn, 1) := by decide +kernel
set_option maxRecDepth 20000 in
theorem ggX8_total_X8_in : GoodIn wsX8_total wsX8_in := goodIn_r _ [6] (by decide +kernel) (by decide +kernel)
set_option maxRecDepth 20000 in
theorem gX8_total_X8_in : GoodIn wsX8_total (va_wsS RX8 52 yX8_in wsX8_in) := goodIn_app (goodIn_of _ (by decide +kernel)) ggX8_total_X8_in
set_option maxRecDepth 20000 in
theorem ggX8_total_X8_isThrown : GoodIn wsX8_total wsX8_isThrown := goodIn_r _ [10, 11, 12, 13, 14, 15, 16, 17, 18, 19, 20, 21, 22, 23, 24, 25, 26, 27, 28, 29, 30, 31, 32, 33, 34] (by decide +kernel) (by decide +kernel)
set_option maxRecDepth 20000 in
theorem gX8_total_X8_isThrown : GoodIn wsX8_total (wsV RX8 226 RX8 yX8_isThrown wsX8_isThrown) := goodIn_app (goodIn_of _ (by decide +kernel)) ggX8_total_X8_isThrown
theorem dX8_total_0 : decode cX8_total 0 = .ok (.aload_n 0, 1) := by decide +kernel
theorem dX8_total_1 : decode cX8_total 1 = .ok (.iload_n 1, 1) := by decide +kernel
theorem dX8_total_2 : decode cX8_total 2 = .ok (.i2l, 1) := by decide +kernel
theorem dX8_total_3 : decode cX8_total 3 = .ok (.lconst 0, 1) := by decide +kernel
theorem dX8_total_4 : decode cX8_total 4 = .ok (.ldc2_w 241, 3) := by decide +kernel
theorem dX8_total_7 : decode cX8_total 7 = .ok (.invokestatic 52, 3) := by decide +kernel
theorem dX8_total_10 : decode cX8_total 10 = .ok (.iconst 1, 1) := by decide +kernel
theorem dX8_total_11 : decode cX8_total 11 = .ok (.invokevirtual 226, 3) := by decide +kernel
theorem dX8_total_14 : decode cX8_total 14 = .ok (.ifCond .eq 7, 3) := by decide +kernel
theorem dX8_total_17 : decode cX8_total 17 = .ok (.iconst 0, 1) := by decide +kernel
theorem dX8_total_18 : decode cX8_total 18 = .ok (.goto 12, 3) := by decide +kernel
theorem dX8_total_21 : decode cX8_total 21 = .ok (.aload_n 0, 1) := by decide +kernel
theorem dX8_total_22 : decode cX8_total 22 = .ok (.getfield 9, 3) := by decide +kernel
theorem dX8_total_25 : decode cX8_total 25 = .ok (.bipush 12, 2) := by decide +kernel
theorem dX8_total_27 : decode cX8_total 27 = .ok (.iload_n 1, 1) := by decide +kernel
theorem dX8_total_28 : decode cX8_total 28 = .ok (.iadd, 1) := by decide +kernel
theorem dX8_total_29 : decode cX8_total 29 = .ok (.iaload, 1) := by decide +kernel
theorem dX8_total_30 : decode cX8_total 30 = .ok (.ireturn, 1) := by decide +kernel
theorem dX8_yieldPart_0 : decode cX8_yieldPart 0 = .ok (.aload_n 0, 1) := by decide +kernel
theorem dX8_yieldPart_1 : decode cX8_yieldPart 1 = .ok (.iconst 0, 1) := by decide +kernel
theorem dX8_yieldPart_2 : decode cX8_yieldPart 2 = .ok (.putfield 49, 3) := by decide +kernel
theorem dX8_yieldPart_5 : decode cX8_yieldPart 5 = .ok (.aload_n 0, 1) := by decide +kernel
theorem dX8_yieldPart_6 : decode cX8_yieldPart 6 = .ok (.getfield 9, 3) := by decide +kernel
theorem dX8_yieldPart_9 : decode cX8_yieldPart 9 = .ok (.bipush 12, 2) := by decide +kernel
theorem dX8_yieldPart_11 : decode cX8_yieldPart 11 = .ok (.iaload, 1) := by decide +kernel
theorem dX8_yieldPart_12 : decode cX8_yieldPart 12 = .ok (.istore_n 1, 1) := by decide +kernel
theorem dX8_yieldPart_13 : decode cX8_yieldPart 13 = .ok (.iload_n 1, 1) := by decide +kernel
theorem dX8_yieldPart_14 : decode cX8_yieldPart 14 = .ok (.ifCond .ne 7, 3) := by decide +kernel
theorem dX8_yieldPart_17 : decode cX8_yieldPart 17 = .ok (.dconst 0, 1) := by decide +kernel
theorem dX8_yieldPart_18 : decode cX8_yieldPart 18 = .ok (.goto 14, 3) := by decide +kernel
theorem dX8_yieldPart_21 : decode cX8_yieldPart 21 = .ok (.aload_n 0, 1) := by decide +kernel
theorem dX8_yieldPart_22 : decode cX8_yieldPart 22 = .ok (.getfield 9, 3) := by decide +kernel
theorem dX8_yieldPart_25 : decode cX8_yieldPart 25 = .ok (.bipush 10, 2) := by decide +kernel
theorem dX8_yieldPart_27 : decode cX8_yieldPart 27 = .ok (.iaload, 1) := by decide +kernel
theorem dX8_yieldPart_28 : decode cX8_yieldPart 28 = .ok (.i2d, 1) := by decide +kernel
theorem dX8_yieldPart_29 : decode cX8_yieldPart 29 = .ok (.iload_n 1, 1) := by decide +kernel
theorem dX8_yieldPart_30 : decode cX8_yieldPart 30 = .ok (.i2d, 1) := by decide +kernel
theorem dX8_yieldPart_31 : decode cX8_yieldPart 31 = .ok (.ddiv, 1) := by decide +kernel
theorem dX8_yieldPart_32 : decode cX8_yieldPart 32 = .ok (.dreturn, 1) := by decide +kernel
theorem dX8_meanFails_0 : decode cX8_meanFails 0 = .ok (.aload_n 0, 1) := by decide +kernel
theorem dX8_meanFails_1 : decode cX8_meanFails 1 = .ok (.iconst 0, 1) := by decide +kernel
theorem dX8_meanFails_2 : decode cX8_meanFails 2 = .ok (.putfield 49, 3) := by decide +kernel
theorem dX8_meanFails_5 : decode cX8_meanFails 5 = .ok (.aload_n 0, 1) := by decide +kernel
theorem dX8_meanFails_6 : decode cX8_meanFails 6 = .ok (.getfield 9, 3) := by decide +kernel
theorem dX8_meanFails_9 : decode cX8_meanFails 9 = .ok (.bipush 9, 2) := by decide +kernel
theorem dX8_meanFails_11 : decode cX8_meanFails 11 = .ok (.iaload, 1) := by decide +kernel
theorem dX8_meanFails_12 : decode cX8_meanFails 12 = .ok (.ifCond .ne 7, 3) := by decide +kernel
theorem dX8_meanFails_15 : decode cX8_meanFails 15 = .ok (.fconst 0, 1) := by decide +kernel
theorem dX8_meanFails_16 : decode cX8_meanFails 16 = .ok (.goto 20, 3) := by decide +kernel
theorem dX8_meanFails_19 : decode cX8_meanFails 19 = .ok (.aload_n 0, 1) := by decide +kernel
theorem dX8_meanFails_20 : decode cX8_meanFails 20 = .ok (.getfield 9, 3) := by decide +kernel
theorem dX8_meanFails_23 : decode cX8_meanFails 23 = .ok (.bipush 13, 2) := by decide +kernel
theorem dX8_meanFails_25 : decode cX8_meanFails 25 = .ok (.iaload, 1) := by decide +kernel
theorem dX8_meanFails_26 : decode cX8_meanFails 26 = .ok (.i2f, 1) := by decide +kernel
theorem dX8_meanFails_27 : decode cX8_meanFails 27 = .ok (.aload_n 0, 1) := by decide +kernel
theorem dX8_meanFails_28 : decode cX8_meanFails 28 = .ok (.getfield 9, 3) := by decide +kernel
theorem dX8_meanFails_31 : decode cX8_meanFails 31 = .ok (.bipush 9, 2) := by decide +kernel
theorem dX8_meanFails_33 : decode cX8_meanFails 33 = .ok (.iaload, 1) := by decide +kernel
theorem dX8_meanFails_34 : decode cX8_meanFails 34 = .ok (.i2f, 1) := by decide +kernel
theorem dX8_meanFails_35 : decode cX8_meanFails 35 = .ok (.fdiv, 1) := by decide +kernel
theorem dX8_meanFails_36 : decode cX8_meanFails 36 = .ok (.freturn, 1) := by decide +kernel
set_option maxRecDepth 20000 in
theorem ggX8_busyPart_X8_isStation : GoodIn wsX8_busyPart wsX8_isStation := goodIn_r _ [6, 1, 7, 8, 5, 9, 19, 20, 21, 22, 23, 24, 25, 26, 27, 28, 29, 30, 31, 32, 33, 34, 35, 36, 37, 38, 39, 40, 41] (by decide +kernel) (by decide +kernel)
set_option maxRecDepth 20000 in
theorem gX8_busyPart_X8_isStation : GoodIn wsX8_busyPart (wsV RX8 243 RX8 yX8_isStation wsX8_isStation) := goodIn_app (goodIn_of _ (by decide +kernel)) ggX8_busyPart_X8_isStation
set_option maxRecDepth 20000 in
theorem ggX8_busyPart_X8_isThrown : GoodIn wsX8_busyPart wsX8_isThrown := goodIn_r _ [13, 14, 19, 20, 21, 22, 23, 24, 25, 26, 27, 28, 29, 30, 31, 32, 33, 34, 35, 36, 37, 38, 39, 40, 41] (by decide +kernel) (by decide +kernel)
set_option maxRecDepth 20000 in
theorem gX8_busyPart_X8_isThrown : GoodIn wsX8_busyPart (wsV RX8 226 RX8 yX8_isThrown wsX8_isThrown) := goodIn_app (goodIn_of _ (by decide +kernel)) ggX8_busyPart_X8_isThrown
set_option maxRecDepth 20000 in
theorem ggX8_busyPart_X8_of : GoodIn wsX8_busyPart wsX8_of := goodIn_r _ [18, 1, 19, 20, 21, 22, 23, 24, 25, 26, 27, 28, 29, 30, 31, 32, 33, 34, 35, 36, 37, 38, 39, 40, 41] (by decide +kernel) (by decide +kernel)
set_option maxRecDepth 20000 in
theorem gX8_busyPart_X8_of : GoodIn wsX8_busyPart (wsV RX8 248 RX8 yX8_of wsX8_of) := goodIn_app (goodIn_of _ (by decide +kernel)) ggX8_busyPart_X8_of
theorem dX8_busyPart_0 : decode cX8_busyPart 0 = .ok (.aload_n 0, 1) := by decide +kernel
theorem dX8_busyPart_1 : decode cX8_busyPart 1 = .ok (.aload_n 0, 1) := by decide +kernel
theorem dX8_busyPart_2 : decode cX8_busyPart 2 = .ok (.iload_n 1, 1) := by decide +kernel
theorem dX8_busyPart_3 : decode cX8_busyPart 3 = .ok (.invokevirtual 243, 3) := by decide +kernel
theorem dX8_busyPart_6 : decode cX8_busyPart 6 = .ok (.iconst 1, 1) := by decide +kernel
theorem dX8_busyPart_7 : decode cX8_busyPart 7 = .ok (.invokevirtual 226, 3) := by decide +kernel
theorem dX8_busyPart_10 : decode cX8_busyPart 10 = .ok (.ifCond .eq 5, 3) := by decide +kernel
theorem dX8_busyPart_13 : decode cX8_busyPart 13 = .ok (.fconst 0, 1) := by decide +kernel
theorem dX8_busyPart_14 : decode cX8_busyPart 14 = .ok (.freturn, 1) := by decide +kernel
theorem dX8_busyPart_15 : decode cX8_busyPart 15 = .ok (.aload_n 0, 1) := by decide +kernel
theorem dX8_busyPart_16 : decode cX8_busyPart 16 = .ok (.getfield 9, 3) := by decide +kernel
theorem dX8_busyPart_19 : decode cX8_busyPart 19 = .ok (.bipush 6, 2) := by decide +kernel
theorem dX8_busyPart_21 : decode cX8_busyPart 21 = .ok (.iaload, 1) := by decide +kernel
theorem dX8_busyPart_22 : decode cX8_busyPart 22 = .ok (.ifCond .ne 7, 3) := by decide +kernel
theorem dX8_busyPart_25 : decode cX8_busyPart 25 = .ok (.fconst 0, 1) := by decide +kernel
theorem dX8_busyPart_26 : decode cX8_busyPart 26 = .ok (.goto 20, 3) := by decide +kernel
theorem dX8_busyPart_29 : decode cX8_busyPart 29 = .ok (.aload_n 0, 1) := by decide +kernel
theorem dX8_busyPart_30 : decode cX8_busyPart 30 = .ok (.iload_n 1, 1) := by decide +kernel
theorem dX8_busyPart_31 : decode cX8_busyPart 31 = .ok (.bipush 12, 2) := by decide +kernel
theorem dX8_busyPart_33 : decode cX8_busyPart 33 = .ok (.invokevirtual 248, 3) := by decide +kernel
theorem dX8_busyPart_36 : decode cX8_busyPart 36 = .ok (.i2f, 1) := by decide +kernel
theorem dX8_busyPart_37 : decode cX8_busyPart 37 = .ok (.aload_n 0, 1) := by decide +kernel
theorem dX8_busyPart_38 : decode cX8_busyPart 38 = .ok (.getfield 9, 3) := by decide +kernel
theorem dX8_busyPart_41 : decode cX8_busyPart 41 = .ok (.bipush 6, 2) := by decide +kernel
theorem dX8_busyPart_43 : decode cX8_busyPart 43 = .ok (.iaload, 1) := by decide +kernel
theorem dX8_busyPart_44 : decode cX8_busyPart 44 = .ok (.i2f, 1) := by decide +kernel
theorem dX8_busyPart_45 : decode cX8_busyPart 45 = .ok (.fdiv, 1) := by decide +kernel
theorem dX8_busyPart_46 : decode cX8_busyPart 46 = .ok (.freturn, 1) := by decide +kernel
set_option maxRecDepth 20000 in
theorem ggX8_bottleneck_X8_isFinished : GoodIn wsX8_bottleneck wsX8_isFinished := goodIn_r _ [11, 12, 13, 14, 10, 15, 2, 37, 38, 39, 40, 41, 42, 43, 44, 45, 46, 47, 48, 49, 50, 51, 52, 53, 54, 55, 56, 57, 58, 59] (by decide +kernel) (by decide +kernel)
set_option maxRecDepth 20000 in
theorem gX8_bottleneck_X8_isFinished : GoodIn wsX8_bottleneck (wsV RX8 256 RX8 yX8_isFinished wsX8_isFinished) := goodIn_app (goodIn_of _ (by decide +kernel)) ggX8_bottleneck_X8_isFinished
set_option maxRecDepth 20000 in
theorem ggX8_bottleneck_X8_ticksOf : GoodIn wsX8_bottleneck wsX8_ticksOf := goodIn_r _ [19, 20, 21, 22, 10, 23, 2, 12, 13, 14, 15, 24, 25, 26, 27, 28, 29, 30, 31, 32, 5, 33, 34, 35, 36, 37, 38, 39, 40, 41, 42, 43, 44, 45, 46, 47, 48, 49, 50, 51, 52, 53, 54, 55, 56, 57, 58, 59] (by decide +kernel) (by decide +kernel)
set_option maxRecDepth 20000 in
theorem gX8_bottleneck_X8_ticksOf : GoodIn wsX8_bottleneck (wsV RX8 296 RX8 yX8_ticksOf wsX8_ticksOf) := goodIn_app (goodIn_of _ (by decide +kernel)) ggX8_bottleneck_X8_ticksOf
theorem dX8_bottleneck_0 : decode cX8_bottleneck 0 = .ok (.aload_n 0, 1) := by decide +kernel
theorem dX8_bottleneck_1 : decode cX8_bottleneck 1 = .ok (.iconst 0, 1) := by decide +kernel
theorem dX8_bottleneck_2 : decode cX8_bottleneck 2 = .ok (.putfield 49, 3) := by decide +kernel
theorem dX8_bottleneck_5 : decode cX8_bottleneck 5 = .ok (.iconst (-1), 1) := by decide +kernel
theorem dX8_bottleneck_6 : decode cX8_bottleneck 6 = .ok (.istore_n 1, 1) := by decide +kernel
theorem dX8_bottleneck_7 : decode cX8_bottleneck 7 = .ok (.iconst (-1), 1) := by decide +kernel
theorem dX8_bottleneck_8 : decode cX8_bottleneck 8 = .ok (.istore_n 2, 1) := by decide +kernel
theorem dX8_bottleneck_9 : decode cX8_bottleneck 9 = .ok (.iconst 0, 1) := by decide +kernel
theorem dX8_bottleneck_10 : decode cX8_bottleneck 10 = .ok (.istore_n 3, 1) := by decide +kernel
theorem dX8_bottleneck_11 : decode cX8_bottleneck 11 = .ok (.iload_n 3, 1) := by decide +kernel
theorem dX8_bottleneck_12 : decode cX8_bottleneck 12 = .ok (.aload_n 0, 1) := by decide +kernel
theorem dX8_bottleneck_13 : decode cX8_bottleneck 13 = .ok (.getfield 9, 3) := by decide +kernel
theorem dX8_bottleneck_16 : decode cX8_bottleneck 16 = .ok (.bipush 7, 2) := by decide +kernel
theorem dX8_bottleneck_18 : decode cX8_bottleneck 18 = .ok (.iaload, 1) := by decide +kernel
theorem dX8_bottleneck_19 : decode cX8_bottleneck 19 = .ok (.if_icmp .ge 77, 3) := by decide +kernel
theorem dX8_bottleneck_22 : decode cX8_bottleneck 22 = .ok (.iconst 0, 1) := by decide +kernel
theorem dX8_bottleneck_23 : decode cX8_bottleneck 23 = .ok (.istore 4, 2) := by decide +kernel
theorem dX8_bottleneck_25 : decode cX8_bottleneck 25 = .ok (.iconst 0, 1) := by decide +kernel
theorem dX8_bottleneck_26 : decode cX8_bottleneck 26 = .ok (.istore 5, 2) := by decide +kernel
theorem dX8_bottleneck_28 : decode cX8_bottleneck 28 = .ok (.iload 5, 2) := by decide +kernel
theorem dX8_bottleneck_30 : decode cX8_bottleneck 30 = .ok (.aload_n 0, 1) := by decide +kernel
theorem dX8_bottleneck_31 : decode cX8_bottleneck 31 = .ok (.getfield 9, 3) := by decide +kernel
theorem dX8_bottleneck_34 : decode cX8_bottleneck 34 = .ok (.bipush 9, 2) := by decide +kernel
theorem dX8_bottleneck_36 : decode cX8_bottleneck 36 = .ok (.iaload, 1) := by decide +kernel
theorem dX8_bottleneck_37 : decode cX8_bottleneck 37 = .ok (.if_icmp .ge 34, 3) := by decide +kernel
theorem dX8_bottleneck_40 : decode cX8_bottleneck 40 = .ok (.iload 4, 2) := by decide +kernel
theorem dX8_bottleneck_42 : decode cX8_bottleneck 42 = .ok (.aload_n 0, 1) := by decide +kernel
theorem dX8_bottleneck_43 : decode cX8_bottleneck 43 = .ok (.iload 5, 2) := by decide +kernel
theorem dX8_bottleneck_45 : decode cX8_bottleneck 45 = .ok (.invokevirtual 256, 3) := by decide +kernel
theorem dX8_bottleneck_48 : decode cX8_bottleneck 48 = .ok (.ifCond .eq 7, 3) := by decide +kernel
theorem dX8_bottleneck_51 : decode cX8_bottleneck 51 = .ok (.iconst 0, 1) := by decide +kernel
theorem dX8_bottleneck_52 : decode cX8_bottleneck 52 = .ok (.goto 10, 3) := by decide +kernel
theorem dX8_bottleneck_55 : decode cX8_bottleneck 55 = .ok (.aload_n 0, 1) := by decide +kernel
theorem dX8_bottleneck_56 : decode cX8_bottleneck 56 = .ok (.iload_n 3, 1) := by decide +kernel
theorem dX8_bottleneck_57 : decode cX8_bottleneck 57 = .ok (.iload 5, 2) := by decide +kernel
theorem dX8_bottleneck_59 : decode cX8_bottleneck 59 = .ok (.invokevirtual 296, 3) := by decide +kernel
theorem dX8_bottleneck_62 : decode cX8_bottleneck 62 = .ok (.iadd, 1) := by decide +kernel
theorem dX8_bottleneck_63 : decode cX8_bottleneck 63 = .ok (.istore 4, 2) := by decide +kernel
theorem dX8_bottleneck_65 : decode cX8_bottleneck 65 = .ok (.iinc 5 1, 3) := by decide +kernel
theorem dX8_bottleneck_68 : decode cX8_bottleneck 68 = .ok (.goto (-40), 3) := by decide +kernel
theorem dX8_bottleneck_71 : decode cX8_bottleneck 71 = .ok (.iload 4, 2) := by decide +kernel
theorem dX8_bottleneck_73 : decode cX8_bottleneck 73 = .ok (.iload_n 2, 1) := by decide +kernel
theorem dX8_bottleneck_74 : decode cX8_bottleneck 74 = .ok (.if_icmp .le 7, 3) := by decide +kernel
theorem dX8_bottleneck_77 : decode cX8_bottleneck 77 = .ok (.iload_n 3, 1) := by decide +kernel
theorem dX8_bottleneck_78 : decode cX8_bottleneck 78 = .ok (.goto 4, 3) := by decide +kernel
theorem dX8_bottleneck_81 : decode cX8_bottleneck 81 = .ok (.iload_n 1, 1) := by decide +kernel
theorem dX8_bottleneck_82 : decode cX8_bottleneck 82 = .ok (.istore_n 1, 1) := by decide +kernel
theorem dX8_bottleneck_83 : decode cX8_bottleneck 83 = .ok (.iload_n 2, 1) := by decide +kernel
theorem dX8_bottleneck_84 : decode cX8_bottleneck 84 = .ok (.iload 4, 2) := by decide +kernel
theorem dX8_bottleneck_86 : decode cX8_bottleneck 86 = .ok (.invokestatic 299, 3) := by decide +kernel
theorem dX8_bottleneck_89 : decode cX8_bottleneck 89 = .ok (.istore_n 2, 1) := by decide +kernel
theorem dX8_bottleneck_90 : decode cX8_bottleneck 90 = .ok (.iinc 3 1, 3) := by decide +kernel
theorem dX8_bottleneck_93 : decode cX8_bottleneck 93 = .ok (.goto (-82), 3) := by decide +kernel
theorem dX8_bottleneck_96 : decode cX8_bottleneck 96 = .ok (.iload_n 1, 1) := by decide +kernel
theorem dX8_bottleneck_97 : decode cX8_bottleneck 97 = .ok (.ireturn, 1) := by decide +kernel
set_option maxRecDepth 20000 in
theorem ggX8_enters_X8_ticksOf : GoodIn wsX8_enters wsX8_ticksOf := goodIn_r _ [6, 7, 8, 9, 5, 10, 1, 11, 12, 13, 14, 15, 16, 17, 18, 19, 20, 21, 22, 23, 24, 25, 26, 27, 28, 37, 38, 39, 40, 41, 42, 43, 44, 45, 46, 47, 48, 49, 50, 51, 52, 53, 54, 55, 56, 57, 58, 59] (by decide +kernel) (by decide +kernel)
set_option maxRecDepth 20000 in
theorem gX8_enters_X8_ticksOf : GoodIn wsX8_enters (wsV RX8 296 RX8 yX8_ticksOf wsX8_ticksOf) := goodIn_app (goodIn_of _ (by decide +kernel)) ggX8_enters_X8_ticksOf
set_option maxRecDepth 20000 in
theorem ggX8_enters_X8_of : GoodIn wsX8_enters wsX8_of := goodIn_r _ [10, 1, 37, 38, 39, 40, 41, 42, 43, 44, 45, 46, 47, 48, 49, 50, 51, 52, 53, 54, 55, 56, 57, 58, 59] (by decide +kernel) (by decide +kernel)
set_option maxRecDepth 20000 in
theorem gX8_enters_X8_of : GoodIn wsX8_enters (wsV RX8 248 RX8 yX8_of wsX8_of) := goodIn_app (goodIn_of _ (by decide +kernel)) ggX8_enters_X8_of
set_option maxRecDepth 20000 in
theorem ggX8_enters_X8_stepsOf : GoodIn wsX8_enters wsX8_stepsOf := goodIn_r _ [18, 11, 12, 13, 5, 14, 1, 19, 20, 21, 22, 23, 24, 25, 26, 27, 28, 37, 38, 39, 40, 41, 42, 43, 44, 45, 46, 47, 48, 49, 50, 51, 52, 53, 54, 55, 56, 57, 58, 59] (by decide +kernel) (by decide +kernel)
set_option maxRecDepth 20000 in
theorem gX8_enters_X8_stepsOf : GoodIn wsX8_enters (wsV RX8 293 RX8 yX8_stepsOf wsX8_stepsOf) := goodIn_app (goodIn_of _ (by decide +kernel)) ggX8_enters_X8_stepsOf
set_option maxRecDepth 20000 in
theorem ggX8_enters_X8_ofCard : GoodIn wsX8_enters wsX8_ofCard := goodIn_r _ [14, 1, 37, 38, 39, 40, 41, 42, 43, 44, 45, 46, 47, 48, 49, 50, 51, 52, 53, 54, 55, 56, 57, 58, 59] (by decide +kernel) (by decide +kernel)
set_option maxRecDepth 20000 in
theorem gX8_enters_X8_ofCard : GoodIn wsX8_enters (wsV RX8 233 RX8 yX8_ofCard wsX8_ofCard) := goodIn_app (goodIn_of _ (by decide +kernel)) ggX8_enters_X8_ofCard
set_option maxRecDepth 20000 in
theorem ggX8_enters_X8_sets : GoodIn wsX8_enters wsX8_sets := goodIn_r _ [32, 1, 37, 38, 39, 40, 41, 42, 43, 44, 45, 46, 47, 48, 49, 50, 51, 52, 53, 54, 55, 56, 57, 58, 59] (by decide +kernel) (by decide +kernel)
set_option maxRecDepth 20000 in
theorem gX8_enters_X8_sets : GoodIn wsX8_enters (wsV RX8 149 RX8 yX8_sets wsX8_sets) := goodIn_app (goodIn_of _ (by decide +kernel)) ggX8_enters_X8_sets
set_option maxRecDepth 20000 in
theorem ggX8_enters_X8_setsCard : GoodIn wsX8_enters wsX8_setsCard := goodIn_r _ [36, 1, 37, 38, 39, 40, 41, 42, 43, 44, 45, 46, 47, 48, 49, 50, 51, 52, 53, 54, 55, 56, 57, 58, 59] (by decide +kernel) (by decide +kernel)
set_option maxRecDepth 20000 in
theorem gX8_enters_X8_setsCard : GoodIn wsX8_enters (wsV RX8 130 RX8 yX8_setsCard wsX8_setsCard) := goodIn_app (goodIn_of _ (by decide +kernel)) ggX8_enters_X8_setsCard
theorem dX8_enters_0 : decode cX8_enters 0 = .ok (.aload_n 0, 1) := by decide +kernel
theorem dX8_enters_1 : decode cX8_enters 1 = .ok (.iload_n 1, 1) := by decide +kernel
theorem dX8_enters_2 : decode cX8_enters 2 = .ok (.iload_n 2, 1) := by decide +kernel
theorem dX8_enters_3 : decode cX8_enters 3 = .ok (.invokevirtual 296, 3) := by decide +kernel
theorem dX8_enters_6 : decode cX8_enters 6 = .ok (.istore_n 3, 1) := by decide +kernel
theorem dX8_enters_7 : decode cX8_enters 7 = .ok (.aload_n 0, 1) := by decide +kernel
theorem dX8_enters_8 : decode cX8_enters 8 = .ok (.iload_n 1, 1) := by decide +kernel
theorem dX8_enters_9 : decode cX8_enters 9 = .ok (.iconst 0, 1) := by decide +kernel
theorem dX8_enters_10 : decode cX8_enters 10 = .ok (.invokevirtual 248, 3) := by decide +kernel
theorem dX8_enters_13 : decode cX8_enters 13 = .ok (.iconst 3, 1) := by decide +kernel
theorem dX8_enters_14 : decode cX8_enters 14 = .ok (.if_icmp .ne 48, 3) := by decide +kernel
theorem dX8_enters_17 : decode cX8_enters 17 = .ok (.aload_n 0, 1) := by decide +kernel
theorem dX8_enters_18 : decode cX8_enters 18 = .ok (.getfield 9, 3) := by decide +kernel
theorem dX8_enters_21 : decode cX8_enters 21 = .ok (.bipush 15, 2) := by decide +kernel
theorem dX8_enters_23 : decode cX8_enters 23 = .ok (.dup2, 1) := by decide +kernel
theorem dX8_enters_24 : decode cX8_enters 24 = .ok (.iaload, 1) := by decide +kernel
theorem dX8_enters_25 : decode cX8_enters 25 = .ok (.aload_n 0, 1) := by decide +kernel
theorem dX8_enters_26 : decode cX8_enters 26 = .ok (.iload_n 2, 1) := by decide +kernel
theorem dX8_enters_27 : decode cX8_enters 27 = .ok (.aload_n 0, 1) := by decide +kernel
theorem dX8_enters_28 : decode cX8_enters 28 = .ok (.iload_n 1, 1) := by decide +kernel
theorem dX8_enters_29 : decode cX8_enters 29 = .ok (.bipush 8, 2) := by decide +kernel
theorem dX8_enters_31 : decode cX8_enters 31 = .ok (.invokevirtual 248, 3) := by decide +kernel
theorem dX8_enters_34 : decode cX8_enters 34 = .ok (.invokevirtual 293, 3) := by decide +kernel
theorem dX8_enters_37 : decode cX8_enters 37 = .ok (.iadd, 1) := by decide +kernel
theorem dX8_enters_38 : decode cX8_enters 38 = .ok (.iastore, 1) := by decide +kernel
theorem dX8_enters_39 : decode cX8_enters 39 = .ok (.aload_n 0, 1) := by decide +kernel
theorem dX8_enters_40 : decode cX8_enters 40 = .ok (.iload_n 1, 1) := by decide +kernel
theorem dX8_enters_41 : decode cX8_enters 41 = .ok (.bipush 8, 2) := by decide +kernel
theorem dX8_enters_43 : decode cX8_enters 43 = .ok (.aload_n 0, 1) := by decide +kernel
theorem dX8_enters_44 : decode cX8_enters 44 = .ok (.iload_n 2, 1) := by decide +kernel
theorem dX8_enters_45 : decode cX8_enters 45 = .ok (.bipush 9, 2) := by decide +kernel
theorem dX8_enters_47 : decode cX8_enters 47 = .ok (.aload_n 0, 1) := by decide +kernel
theorem dX8_enters_48 : decode cX8_enters 48 = .ok (.iload_n 2, 1) := by decide +kernel
theorem dX8_enters_49 : decode cX8_enters 49 = .ok (.iconst 2, 1) := by decide +kernel
theorem dX8_enters_50 : decode cX8_enters 50 = .ok (.invokevirtual 233, 3) := by decide +kernel
theorem dX8_enters_53 : decode cX8_enters 53 = .ok (.iadd, 1) := by decide +kernel
theorem dX8_enters_54 : decode cX8_enters 54 = .ok (.iconst 1, 1) := by decide +kernel
theorem dX8_enters_55 : decode cX8_enters 55 = .ok (.isub, 1) := by decide +kernel
theorem dX8_enters_56 : decode cX8_enters 56 = .ok (.invokevirtual 233, 3) := by decide +kernel
theorem dX8_enters_59 : decode cX8_enters 59 = .ok (.invokevirtual 149, 3) := by decide +kernel
theorem dX8_enters_62 : decode cX8_enters 62 = .ok (.aload_n 0, 1) := by decide +kernel
theorem dX8_enters_63 : decode cX8_enters 63 = .ok (.iload_n 1, 1) := by decide +kernel
theorem dX8_enters_64 : decode cX8_enters 64 = .ok (.iconst 2, 1) := by decide +kernel
theorem dX8_enters_65 : decode cX8_enters 65 = .ok (.iload_n 2, 1) := by decide +kernel
theorem dX8_enters_66 : decode cX8_enters 66 = .ok (.invokevirtual 149, 3) := by decide +kernel
theorem dX8_enters_69 : decode cX8_enters 69 = .ok (.aload_n 0, 1) := by decide +kernel
theorem dX8_enters_70 : decode cX8_enters 70 = .ok (.iload_n 1, 1) := by decide +kernel
theorem dX8_enters_71 : decode cX8_enters 71 = .ok (.iconst 3, 1) := by decide +kernel
theorem dX8_enters_72 : decode cX8_enters 72 = .ok (.iload_n 3, 1) := by decide +kernel
theorem dX8_enters_73 : decode cX8_enters 73 = .ok (.invokevirtual 149, 3) := by decide +kernel
theorem dX8_enters_76 : decode cX8_enters 76 = .ok (.aload_n 0, 1) := by decide +kernel
theorem dX8_enters_77 : decode cX8_enters 77 = .ok (.iload_n 2, 1) := by decide +kernel
theorem dX8_enters_78 : decode cX8_enters 78 = .ok (.iconst 3, 1) := by decide +kernel
theorem dX8_enters_79 : decode cX8_enters 79 = .ok (.iconst 1, 1) := by decide +kernel
theorem dX8_enters_80 : decode cX8_enters 80 = .ok (.invokevirtual 130, 3) := by decide +kernel
theorem dX8_enters_83 : decode cX8_enters 83 = .ok (.aload_n 0, 1) := by decide +kernel
theorem dX8_enters_84 : decode cX8_enters 84 = .ok (.iload_n 2, 1) := by decide +kernel
theorem dX8_enters_85 : decode cX8_enters 85 = .ok (.iconst 4, 1) := by decide +kernel
theorem dX8_enters_86 : decode cX8_enters 86 = .ok (.iload_n 1, 1) := by decide +kernel
theorem dX8_enters_87 : decode cX8_enters 87 = .ok (.invokevirtual 130, 3) := by decide +kernel
theorem dX8_enters_90 : decode cX8_enters 90 = .ok (.return_, 1) := by decide +kernel
set_option maxRecDepth 20000 in
theorem ggX8_leaves_X8_setsCard : GoodIn wsX8_leaves wsX8_setsCard := goodIn_r _ [6, 1, 11, 12, 13, 14, 15, 16, 17, 18, 19, 20, 21, 22, 23, 24, 25, 26, 27, 28, 29, 30, 31, 32, 33] (by decide +kernel) (by decide +kernel)
set_option maxRecDepth 20000 in
theorem gX8_leaves_X8_setsCard : GoodIn wsX8_leaves (wsV RX8 130 RX8 yX8_setsCard wsX8_setsCard) := goodIn_app (goodIn_of _ (by decide +kernel)) ggX8_leaves_X8_setsCard
set_option maxRecDepth 20000 in
theorem ggX8_leaves_X8_ofCard : GoodIn wsX8_leaves wsX8_ofCard := goodIn_r _ [10, 1, 11, 12, 13, 14, 15, 16, 17, 18, 19, 20, 21, 22, 23, 24, 25, 26, 27, 28, 29, 30, 31, 32, 33] (by decide +kernel) (by decide +kernel)
set_option maxRecDepth 20000 in
theorem gX8_leaves_X8_ofCard : GoodIn wsX8_leaves (wsV RX8 233 RX8 yX8_ofCard wsX8_ofCard) := goodIn_app (goodIn_of _ (by decide +kernel)) ggX8_leaves_X8_ofCard
theorem dX8_leaves_0 : decode cX8_leaves 0 = .ok (.aload_n 0, 1) := by decide +kernel
theorem dX8_leaves_1 : decode cX8_leaves 1 = .ok (.iload_n 1, 1) := by decide +kernel
theorem dX8_leaves_2 : decode cX8_leaves 2 = .ok (.iconst 3, 1) := by decide +kernel
theorem dX8_leaves_3 : decode cX8_leaves 3 = .ok (.iconst 3, 1) := by decide +kernel
theorem dX8_leaves_4 : decode cX8_leaves 4 = .ok (.invokevirtual 130, 3) := by decide +kernel
theorem dX8_leaves_7 : decode cX8_leaves 7 = .ok (.aload_n 0, 1) := by decide +kernel
theorem dX8_leaves_8 : decode cX8_leaves 8 = .ok (.iload_n 1, 1) := by decide +kernel
theorem dX8_leaves_9 : decode cX8_leaves 9 = .ok (.iconst 4, 1) := by decide +kernel
theorem dX8_leaves_10 : decode cX8_leaves 10 = .ok (.iconst (-1), 1) := by decide +kernel
theorem dX8_leaves_11 : decode cX8_leaves 11 = .ok (.invokevirtual 130, 3) := by decide +kernel
theorem dX8_leaves_14 : decode cX8_leaves 14 = .ok (.aload_n 0, 1) := by decide +kernel
theorem dX8_leaves_15 : decode cX8_leaves 15 = .ok (.iload_n 1, 1) := by decide +kernel
theorem dX8_leaves_16 : decode cX8_leaves 16 = .ok (.bipush 7, 2) := by decide +kernel
theorem dX8_leaves_18 : decode cX8_leaves 18 = .ok (.aload_n 0, 1) := by decide +kernel
theorem dX8_leaves_19 : decode cX8_leaves 19 = .ok (.getfield 9, 3) := by decide +kernel
theorem dX8_leaves_22 : decode cX8_leaves 22 = .ok (.bipush 6, 2) := by decide +kernel
theorem dX8_leaves_24 : decode cX8_leaves 24 = .ok (.iaload, 1) := by decide +kernel
theorem dX8_leaves_25 : decode cX8_leaves 25 = .ok (.invokevirtual 130, 3) := by decide +kernel
theorem dX8_leaves_28 : decode cX8_leaves 28 = .ok (.aload_n 0, 1) := by decide +kernel
theorem dX8_leaves_29 : decode cX8_leaves 29 = .ok (.getfield 9, 3) := by decide +kernel
theorem dX8_leaves_32 : decode cX8_leaves 32 = .ok (.sipush 887, 3) := by decide +kernel
theorem dX8_leaves_35 : decode cX8_leaves 35 = .ok (.aload_n 0, 1) := by decide +kernel
theorem dX8_leaves_36 : decode cX8_leaves 36 = .ok (.getfield 9, 3) := by decide +kernel
theorem dX8_leaves_39 : decode cX8_leaves 39 = .ok (.bipush 10, 2) := by decide +kernel
theorem dX8_leaves_41 : decode cX8_leaves 41 = .ok (.iaload, 1) := by decide +kernel
theorem dX8_leaves_42 : decode cX8_leaves 42 = .ok (.iadd, 1) := by decide +kernel
theorem dX8_leaves_43 : decode cX8_leaves 43 = .ok (.iload_n 1, 1) := by decide +kernel
theorem dX8_leaves_44 : decode cX8_leaves 44 = .ok (.iastore, 1) := by decide +kernel
theorem dX8_leaves_45 : decode cX8_leaves 45 = .ok (.aload_n 0, 1) := by decide +kernel
theorem dX8_leaves_46 : decode cX8_leaves 46 = .ok (.getfield 9, 3) := by decide +kernel
theorem dX8_leaves_49 : decode cX8_leaves 49 = .ok (.bipush 10, 2) := by decide +kernel
theorem dX8_leaves_51 : decode cX8_leaves 51 = .ok (.dup2, 1) := by decide +kernel
theorem dX8_leaves_52 : decode cX8_leaves 52 = .ok (.iaload, 1) := by decide +kernel
theorem dX8_leaves_53 : decode cX8_leaves 53 = .ok (.iconst 1, 1) := by decide +kernel
theorem dX8_leaves_54 : decode cX8_leaves 54 = .ok (.iadd, 1) := by decide +kernel
theorem dX8_leaves_55 : decode cX8_leaves 55 = .ok (.iastore, 1) := by decide +kernel
theorem dX8_leaves_56 : decode cX8_leaves 56 = .ok (.aload_n 0, 1) := by decide +kernel
theorem dX8_leaves_57 : decode cX8_leaves 57 = .ok (.getfield 9, 3) := by decide +kernel
theorem dX8_leaves_60 : decode cX8_leaves 60 = .ok (.bipush 113, 2) := by decide +kernel
theorem dX8_leaves_62 : decode cX8_leaves 62 = .ok (.iconst 4, 1) := by decide +kernel
theorem dX8_leaves_63 : decode cX8_leaves 63 = .ok (.aload_n 0, 1) := by decide +kernel
theorem dX8_leaves_64 : decode cX8_leaves 64 = .ok (.iload_n 1, 1) := by decide +kernel
theorem dX8_leaves_65 : decode cX8_leaves 65 = .ok (.iconst 0, 1) := by decide +kernel
theorem dX8_leaves_66 : decode cX8_leaves 66 = .ok (.invokevirtual 233, 3) := by decide +kernel
theorem dX8_leaves_69 : decode cX8_leaves 69 = .ok (.imul, 1) := by decide +kernel
theorem dX8_leaves_70 : decode cX8_leaves 70 = .ok (.iadd, 1) := by decide +kernel
theorem dX8_leaves_71 : decode cX8_leaves 71 = .ok (.iconst 2, 1) := by decide +kernel
theorem dX8_leaves_72 : decode cX8_leaves 72 = .ok (.iadd, 1) := by decide +kernel
theorem dX8_leaves_73 : decode cX8_leaves 73 = .ok (.dup2, 1) := by decide +kernel
theorem dX8_leaves_74 : decode cX8_leaves 74 = .ok (.iaload, 1) := by decide +kernel
theorem dX8_leaves_75 : decode cX8_leaves 75 = .ok (.iconst 1, 1) := by decide +kernel
theorem dX8_leaves_76 : decode cX8_leaves 76 = .ok (.iadd, 1) := by decide +kernel
theorem dX8_leaves_77 : decode cX8_leaves 77 = .ok (.iastore, 1) := by decide +kernel
theorem dX8_leaves_78 : decode cX8_leaves 78 = .ok (.return_, 1) := by decide +kernel
set_option maxRecDepth 20000 in
theorem ggX8_failsIn_X8_sets : GoodIn wsX8_failsIn wsX8_sets := goodIn_r _ [6, 1, 19, 20, 21, 22, 23, 24, 25, 26, 27, 28, 29, 30, 31, 32, 33, 34, 35, 36, 37, 38, 39, 40, 41] (by decide +kernel) (by decide +kernel)
set_option maxRecDepth 20000 in
theorem gX8_failsIn_X8_sets : GoodIn wsX8_failsIn (wsV RX8 149 RX8 yX8_sets wsX8_sets) := goodIn_app (goodIn_of _ (by decide +kernel)) ggX8_failsIn_X8_sets
set_option maxRecDepth 20000 in
theorem ggX8_failsIn_X8_grows : GoodIn wsX8_failsIn wsX8_grows := goodIn_r _ [10, 1, 19, 20, 21, 22, 23, 24, 25, 26, 27, 28, 29, 30, 31, 32, 33, 34, 35, 36, 37, 38, 39, 40, 41] (by decide +kernel) (by decide +kernel)
set_option maxRecDepth 20000 in
theorem gX8_failsIn_X8_grows : GoodIn wsX8_failsIn (wsV RX8 302 RX8 yX8_grows wsX8_grows) := goodIn_app (goodIn_of _ (by decide +kernel)) ggX8_failsIn_X8_grows
set_option maxRecDepth 20000 in
theorem ggX8_failsIn_X8_ofCard : GoodIn wsX8_failsIn wsX8_ofCard := goodIn_r _ [14, 1, 19, 20, 21, 22, 23, 24, 25, 26, 27, 28, 29, 30, 31, 32, 33, 34, 35, 36, 37, 38, 39, 40, 41] (by decide +kernel) (by decide +kernel)
set_option maxRecDepth 20000 in
theorem gX8_failsIn_X8_ofCard : GoodIn wsX8_failsIn (wsV RX8 233 RX8 yX8_ofCard wsX8_ofCard) := goodIn_app (goodIn_of _ (by decide +kernel)) ggX8_failsIn_X8_ofCard
set_option maxRecDepth 20000 in
theorem ggX8_failsIn_X8_setsCard : GoodIn wsX8_failsIn wsX8_setsCard := goodIn_r _ [18, 1, 19, 20, 21, 22, 23, 24, 25, 26, 27, 28, 29, 30, 31, 32, 33, 34, 35, 36, 37, 38, 39, 40, 41] (by decide +kernel) (by decide +kernel)
set_option maxRecDepth 20000 in
theorem gX8_failsIn_X8_setsCard : GoodIn wsX8_failsIn (wsV RX8 130 RX8 yX8_setsCard wsX8_setsCard) := goodIn_app (goodIn_of _ (by decide +kernel)) ggX8_failsIn_X8_setsCard
theorem dX8_failsIn_0 : decode cX8_failsIn 0 = .ok (.aload_n 0, 1) := by decide +kernel
theorem dX8_failsIn_1 : decode cX8_failsIn 1 = .ok (.iload_n 1, 1) := by decide +kernel
theorem dX8_failsIn_2 : decode cX8_failsIn 2 = .ok (.iconst 2, 1) := by decide +kernel
theorem dX8_failsIn_3 : decode cX8_failsIn 3 = .ok (.iconst (-1), 1) := by decide +kernel
theorem dX8_failsIn_4 : decode cX8_failsIn 4 = .ok (.invokevirtual 149, 3) := by decide +kernel
theorem dX8_failsIn_7 : decode cX8_failsIn 7 = .ok (.aload_n 0, 1) := by decide +kernel
theorem dX8_failsIn_8 : decode cX8_failsIn 8 = .ok (.iload_n 1, 1) := by decide +kernel
theorem dX8_failsIn_9 : decode cX8_failsIn 9 = .ok (.iconst 5, 1) := by decide +kernel
theorem dX8_failsIn_10 : decode cX8_failsIn 10 = .ok (.iconst 1, 1) := by decide +kernel
theorem dX8_failsIn_11 : decode cX8_failsIn 11 = .ok (.invokevirtual 302, 3) := by decide +kernel
theorem dX8_failsIn_14 : decode cX8_failsIn 14 = .ok (.aload_n 0, 1) := by decide +kernel
theorem dX8_failsIn_15 : decode cX8_failsIn 15 = .ok (.iload_n 2, 1) := by decide +kernel
theorem dX8_failsIn_16 : decode cX8_failsIn 16 = .ok (.iconst 5, 1) := by decide +kernel
theorem dX8_failsIn_17 : decode cX8_failsIn 17 = .ok (.aload_n 0, 1) := by decide +kernel
theorem dX8_failsIn_18 : decode cX8_failsIn 18 = .ok (.iload_n 2, 1) := by decide +kernel
theorem dX8_failsIn_19 : decode cX8_failsIn 19 = .ok (.iconst 5, 1) := by decide +kernel
theorem dX8_failsIn_20 : decode cX8_failsIn 20 = .ok (.invokevirtual 233, 3) := by decide +kernel
theorem dX8_failsIn_23 : decode cX8_failsIn 23 = .ok (.iconst 1, 1) := by decide +kernel
theorem dX8_failsIn_24 : decode cX8_failsIn 24 = .ok (.iadd, 1) := by decide +kernel
theorem dX8_failsIn_25 : decode cX8_failsIn 25 = .ok (.invokevirtual 130, 3) := by decide +kernel
theorem dX8_failsIn_28 : decode cX8_failsIn 28 = .ok (.aload_n 0, 1) := by decide +kernel
theorem dX8_failsIn_29 : decode cX8_failsIn 29 = .ok (.iload_n 2, 1) := by decide +kernel
theorem dX8_failsIn_30 : decode cX8_failsIn 30 = .ok (.iconst 4, 1) := by decide +kernel
theorem dX8_failsIn_31 : decode cX8_failsIn 31 = .ok (.iconst (-1), 1) := by decide +kernel
theorem dX8_failsIn_32 : decode cX8_failsIn 32 = .ok (.invokevirtual 130, 3) := by decide +kernel
theorem dX8_failsIn_35 : decode cX8_failsIn 35 = .ok (.aload_n 0, 1) := by decide +kernel
theorem dX8_failsIn_36 : decode cX8_failsIn 36 = .ok (.iload_n 2, 1) := by decide +kernel
theorem dX8_failsIn_37 : decode cX8_failsIn 37 = .ok (.iconst 3, 1) := by decide +kernel
theorem dX8_failsIn_38 : decode cX8_failsIn 38 = .ok (.aload_n 0, 1) := by decide +kernel
theorem dX8_failsIn_39 : decode cX8_failsIn 39 = .ok (.iload_n 2, 1) := by decide +kernel
theorem dX8_failsIn_40 : decode cX8_failsIn 40 = .ok (.iconst 5, 1) := by decide +kernel
theorem dX8_failsIn_41 : decode cX8_failsIn 41 = .ok (.invokevirtual 233, 3) := by decide +kernel
theorem dX8_failsIn_44 : decode cX8_failsIn 44 = .ok (.aload_n 0, 1) := by decide +kernel
theorem dX8_failsIn_45 : decode cX8_failsIn 45 = .ok (.getfield 9, 3) := by decide +kernel
theorem dX8_failsIn_48 : decode cX8_failsIn 48 = .ok (.iconst 2, 1) := by decide +kernel
theorem dX8_failsIn_49 : decode cX8_failsIn 49 = .ok (.iaload, 1) := by decide +kernel
theorem dX8_failsIn_50 : decode cX8_failsIn 50 = .ok (.if_icmp .lt 7, 3) := by decide +kernel
theorem dX8_failsIn_53 : decode cX8_failsIn 53 = .ok (.iconst 4, 1) := by decide +kernel
theorem dX8_failsIn_54 : decode cX8_failsIn 54 = .ok (.goto 4, 3) := by decide +kernel
theorem dX8_failsIn_57 : decode cX8_failsIn 57 = .ok (.iconst 0, 1) := by decide +kernel
theorem dX8_failsIn_58 : decode cX8_failsIn 58 = .ok (.invokevirtual 130, 3) := by decide +kernel
theorem dX8_failsIn_61 : decode cX8_failsIn 61 = .ok (.aload_n 0, 1) := by decide +kernel
theorem dX8_failsIn_62 : decode cX8_failsIn 62 = .ok (.getfield 9, 3) := by decide +kernel
theorem dX8_failsIn_65 : decode cX8_failsIn 65 = .ok (.bipush 13, 2) := by decide +kernel
theorem dX8_failsIn_67 : decode cX8_failsIn 67 = .ok (.dup2, 1) := by decide +kernel
theorem dX8_failsIn_68 : decode cX8_failsIn 68 = .ok (.iaload, 1) := by decide +kernel
theorem dX8_failsIn_69 : decode cX8_failsIn 69 = .ok (.iconst 1, 1) := by decide +kernel
theorem dX8_failsIn_70 : decode cX8_failsIn 70 = .ok (.iadd, 1) := by decide +kernel
theorem dX8_failsIn_71 : decode cX8_failsIn 71 = .ok (.iastore, 1) := by decide +kernel
theorem dX8_failsIn_72 : decode cX8_failsIn 72 = .ok (.aload_n 0, 1) := by decide +kernel
theorem dX8_failsIn_73 : decode cX8_failsIn 73 = .ok (.getfield 9, 3) := by decide +kernel
theorem dX8_failsIn_76 : decode cX8_failsIn 76 = .ok (.bipush 113, 2) := by decide +kernel
theorem dX8_failsIn_78 : decode cX8_failsIn 78 = .ok (.iconst 4, 1) := by decide +kernel
theorem dX8_failsIn_79 : decode cX8_failsIn 79 = .ok (.aload_n 0, 1) := by decide +kernel
theorem dX8_failsIn_80 : decode cX8_failsIn 80 = .ok (.iload_n 2, 1) := by decide +kernel
theorem dX8_failsIn_81 : decode cX8_failsIn 81 = .ok (.iconst 0, 1) := by decide +kernel
theorem dX8_failsIn_82 : decode cX8_failsIn 82 = .ok (.invokevirtual 233, 3) := by decide +kernel
theorem dX8_failsIn_85 : decode cX8_failsIn 85 = .ok (.imul, 1) := by decide +kernel
theorem dX8_failsIn_86 : decode cX8_failsIn 86 = .ok (.iadd, 1) := by decide +kernel
theorem dX8_failsIn_87 : decode cX8_failsIn 87 = .ok (.iconst 2, 1) := by decide +kernel
theorem dX8_failsIn_88 : decode cX8_failsIn 88 = .ok (.iadd, 1) := by decide +kernel
theorem dX8_failsIn_89 : decode cX8_failsIn 89 = .ok (.iconst 1, 1) := by decide +kernel
theorem dX8_failsIn_90 : decode cX8_failsIn 90 = .ok (.iadd, 1) := by decide +kernel
theorem dX8_failsIn_91 : decode cX8_failsIn 91 = .ok (.dup2, 1) := by decide +kernel
theorem dX8_failsIn_92 : decode cX8_failsIn 92 = .ok (.iaload, 1) := by decide +kernel
theorem dX8_failsIn_93 : decode cX8_failsIn 93 = .ok (.iconst 1, 1) := by decide +kernel
theorem dX8_failsIn_94 : decode cX8_failsIn 94 = .ok (.iadd, 1) := by decide +kernel
theorem dX8_failsIn_95 : decode cX8_failsIn 95 = .ok (.iastore, 1) := by decide +kernel
theorem dX8_failsIn_96 : decode cX8_failsIn 96 = .ok (.return_, 1) := by decide +kernel
set_option maxRecDepth 20000 in
theorem ggX8_isBad_X8_of : GoodIn wsX8_isBad wsX8_of := goodIn_r _ [5, 6, 15, 16, 17, 18, 19, 20, 21, 22, 23, 24, 25, 26, 27, 28, 29, 30, 31, 32, 33, 34, 35, 36, 37] (by decide +kernel) (by decide +kernel)
set_option maxRecDepth 20000 in
theorem gX8_isBad_X8_of : GoodIn wsX8_isBad (wsV RX8 248 RX8 yX8_of wsX8_of) := goodIn_app (goodIn_of _ (by decide +kernel)) ggX8_isBad_X8_of
set_option maxRecDepth 20000 in
theorem ggX8_isBad_X8_grows : GoodIn wsX8_isBad wsX8_grows := goodIn_r _ [10, 6, 15, 16, 17, 18, 19, 20, 21, 22, 23, 24, 25, 26, 27, 28, 29, 30, 31, 32, 33, 34, 35, 36, 37] (by decide +kernel) (by decide +kernel)
set_option maxRecDepth 20000 in
theorem gX8_isBad_X8_grows : GoodIn wsX8_isBad (wsV RX8 302 RX8 yX8_grows wsX8_grows) := goodIn_app (goodIn_of _ (by decide +kernel)) ggX8_isBad_X8_grows
set_option maxRecDepth 20000 in
theorem ggX8_isBad_X8_sets : GoodIn wsX8_isBad wsX8_sets := goodIn_r _ [14, 6, 15, 16, 17, 18, 19, 20, 21, 22, 23, 24, 25, 26, 27, 28, 29, 30, 31, 32, 33, 34, 35, 36, 37] (by decide +kernel) (by decide +kernel)
set_option maxRecDepth 20000 in
theorem gX8_isBad_X8_sets : GoodIn wsX8_isBad (wsV RX8 149 RX8 yX8_sets wsX8_sets) := goodIn_app (goodIn_of _ (by decide +kernel)) ggX8_isBad_X8_sets
theorem dX8_isBad_0 : decode cX8_isBad 0 = .ok (.aload_n 0, 1) := by decide +kernel
theorem dX8_isBad_1 : decode cX8_isBad 1 = .ok (.iload_n 1, 1) := by decide +kernel
theorem dX8_isBad_2 : decode cX8_isBad 2 = .ok (.bipush 15, 2) := by decide +kernel
theorem dX8_isBad_4 : decode cX8_isBad 4 = .ok (.invokevirtual 248, 3) := by decide +kernel
theorem dX8_isBad_7 : decode cX8_isBad 7 = .ok (.aload_n 0, 1) := by decide +kernel
theorem dX8_isBad_8 : decode cX8_isBad 8 = .ok (.iload_n 1, 1) := by decide +kernel
theorem dX8_isBad_9 : decode cX8_isBad 9 = .ok (.iconst 4, 1) := by decide +kernel
theorem dX8_isBad_10 : decode cX8_isBad 10 = .ok (.invokevirtual 248, 3) := by decide +kernel
theorem dX8_isBad_13 : decode cX8_isBad 13 = .ok (.aload_n 0, 1) := by decide +kernel
theorem dX8_isBad_14 : decode cX8_isBad 14 = .ok (.iload_n 1, 1) := by decide +kernel
theorem dX8_isBad_15 : decode cX8_isBad 15 = .ok (.bipush 14, 2) := by decide +kernel
theorem dX8_isBad_17 : decode cX8_isBad 17 = .ok (.invokevirtual 248, 3) := by decide +kernel
theorem dX8_isBad_20 : decode cX8_isBad 20 = .ok (.irem, 1) := by decide +kernel
theorem dX8_isBad_21 : decode cX8_isBad 21 = .ok (.ishr, 1) := by decide +kernel
theorem dX8_isBad_22 : decode cX8_isBad 22 = .ok (.iconst 1, 1) := by decide +kernel
theorem dX8_isBad_23 : decode cX8_isBad 23 = .ok (.iand, 1) := by decide +kernel
theorem dX8_isBad_24 : decode cX8_isBad 24 = .ok (.iconst 1, 1) := by decide +kernel
theorem dX8_isBad_25 : decode cX8_isBad 25 = .ok (.if_icmp .ne 7, 3) := by decide +kernel
theorem dX8_isBad_28 : decode cX8_isBad 28 = .ok (.iconst 1, 1) := by decide +kernel
theorem dX8_isBad_29 : decode cX8_isBad 29 = .ok (.goto 4, 3) := by decide +kernel
theorem dX8_isBad_32 : decode cX8_isBad 32 = .ok (.iconst 0, 1) := by decide +kernel
theorem dX8_isBad_33 : decode cX8_isBad 33 = .ok (.istore_n 2, 1) := by decide +kernel
theorem dX8_isBad_34 : decode cX8_isBad 34 = .ok (.aload_n 0, 1) := by decide +kernel
theorem dX8_isBad_35 : decode cX8_isBad 35 = .ok (.iload_n 1, 1) := by decide +kernel
theorem dX8_isBad_36 : decode cX8_isBad 36 = .ok (.iconst 4, 1) := by decide +kernel
theorem dX8_isBad_37 : decode cX8_isBad 37 = .ok (.iconst 1, 1) := by decide +kernel
theorem dX8_isBad_38 : decode cX8_isBad 38 = .ok (.invokevirtual 302, 3) := by decide +kernel
theorem dX8_isBad_41 : decode cX8_isBad 41 = .ok (.aload_n 0, 1) := by decide +kernel
theorem dX8_isBad_42 : decode cX8_isBad 42 = .ok (.iload_n 1, 1) := by decide +kernel
theorem dX8_isBad_43 : decode cX8_isBad 43 = .ok (.bipush 13, 2) := by decide +kernel
theorem dX8_isBad_45 : decode cX8_isBad 45 = .ok (.iconst 1, 1) := by decide +kernel
theorem dX8_isBad_46 : decode cX8_isBad 46 = .ok (.invokevirtual 302, 3) := by decide +kernel
theorem dX8_isBad_49 : decode cX8_isBad 49 = .ok (.aload_n 0, 1) := by decide +kernel
theorem dX8_isBad_50 : decode cX8_isBad 50 = .ok (.iload_n 1, 1) := by decide +kernel
theorem dX8_isBad_51 : decode cX8_isBad 51 = .ok (.bipush 9, 2) := by decide +kernel
theorem dX8_isBad_53 : decode cX8_isBad 53 = .ok (.invokevirtual 248, 3) := by decide +kernel
theorem dX8_isBad_56 : decode cX8_isBad 56 = .ok (.ifCond .le 42, 3) := by decide +kernel
theorem dX8_isBad_59 : decode cX8_isBad 59 = .ok (.aload_n 0, 1) := by decide +kernel
theorem dX8_isBad_60 : decode cX8_isBad 60 = .ok (.iload_n 1, 1) := by decide +kernel
theorem dX8_isBad_61 : decode cX8_isBad 61 = .ok (.bipush 13, 2) := by decide +kernel
theorem dX8_isBad_63 : decode cX8_isBad 63 = .ok (.invokevirtual 248, 3) := by decide +kernel
theorem dX8_isBad_66 : decode cX8_isBad 66 = .ok (.aload_n 0, 1) := by decide +kernel
theorem dX8_isBad_67 : decode cX8_isBad 67 = .ok (.iload_n 1, 1) := by decide +kernel
theorem dX8_isBad_68 : decode cX8_isBad 68 = .ok (.bipush 9, 2) := by decide +kernel
theorem dX8_isBad_70 : decode cX8_isBad 70 = .ok (.invokevirtual 248, 3) := by decide +kernel
theorem dX8_isBad_73 : decode cX8_isBad 73 = .ok (.if_icmp .lt 25, 3) := by decide +kernel
theorem dX8_isBad_76 : decode cX8_isBad 76 = .ok (.aload_n 0, 1) := by decide +kernel
theorem dX8_isBad_77 : decode cX8_isBad 77 = .ok (.iload_n 1, 1) := by decide +kernel
theorem dX8_isBad_78 : decode cX8_isBad 78 = .ok (.bipush 11, 2) := by decide +kernel
theorem dX8_isBad_80 : decode cX8_isBad 80 = .ok (.aload_n 0, 1) := by decide +kernel
theorem dX8_isBad_81 : decode cX8_isBad 81 = .ok (.iload_n 1, 1) := by decide +kernel
theorem dX8_isBad_82 : decode cX8_isBad 82 = .ok (.bipush 10, 2) := by decide +kernel
theorem dX8_isBad_84 : decode cX8_isBad 84 = .ok (.invokevirtual 248, 3) := by decide +kernel
theorem dX8_isBad_87 : decode cX8_isBad 87 = .ok (.invokevirtual 149, 3) := by decide +kernel
theorem dX8_isBad_90 : decode cX8_isBad 90 = .ok (.aload_n 0, 1) := by decide +kernel
theorem dX8_isBad_91 : decode cX8_isBad 91 = .ok (.iload_n 1, 1) := by decide +kernel
theorem dX8_isBad_92 : decode cX8_isBad 92 = .ok (.bipush 13, 2) := by decide +kernel
theorem dX8_isBad_94 : decode cX8_isBad 94 = .ok (.iconst 0, 1) := by decide +kernel
theorem dX8_isBad_95 : decode cX8_isBad 95 = .ok (.invokevirtual 149, 3) := by decide +kernel
theorem dX8_isBad_98 : decode cX8_isBad 98 = .ok (.iload_n 2, 1) := by decide +kernel
theorem dX8_isBad_99 : decode cX8_isBad 99 = .ok (.ireturn, 1) := by decide +kernel
set_option maxRecDepth 20000 in
theorem ggX8_works_X8_grows : GoodIn wsX8_works wsX8_grows := goodIn_r _ [5, 6, 31, 32, 33, 34, 35, 36, 37, 38, 39, 40, 41, 42, 43, 44, 45, 46, 47, 48, 49, 50, 51, 52, 53] (by decide +kernel) (by decide +kernel)
set_option maxRecDepth 20000 in
theorem gX8_works_X8_grows : GoodIn wsX8_works (wsV RX8 302 RX8 yX8_grows wsX8_grows) := goodIn_app (goodIn_of _ (by decide +kernel)) ggX8_works_X8_grows
set_option maxRecDepth 20000 in
theorem ggX8_works_X8_of : GoodIn wsX8_works wsX8_of := goodIn_r _ [10, 6, 31, 32, 33, 34, 35, 36, 37, 38, 39, 40, 41, 42, 43, 44, 45, 46, 47, 48, 49, 50, 51, 52, 53] (by decide +kernel) (by decide +kernel)
set_option maxRecDepth 20000 in
theorem gX8_works_X8_of : GoodIn wsX8_works (wsV RX8 248 RX8 yX8_of wsX8_of) := goodIn_app (goodIn_of _ (by decide +kernel)) ggX8_works_X8_of
set_option maxRecDepth 20000 in
theorem ggX8_works_X8_isBad : GoodIn wsX8_works wsX8_isBad := goodIn_r _ [14, 7, 8, 9, 4, 10, 6, 1, 2, 3, 5, 15, 16, 17, 18, 31, 32, 33, 34, 35, 36, 37, 38, 39, 40, 41, 42, 43, 44, 45, 46, 47, 48, 49, 50, 51, 52, 53] (by decide +kernel) (by decide +kernel)
set_option maxRecDepth 20000 in
theorem gX8_works_X8_isBad : GoodIn wsX8_works (wsV RX8 305 RX8 yX8_isBad wsX8_isBad) := goodIn_app (goodIn_of _ (by decide +kernel)) ggX8_works_X8_isBad
set_option maxRecDepth 20000 in
theorem ggX8_works_X8_failsIn : GoodIn wsX8_works wsX8_failsIn := goodIn_r _ [22, 6, 15, 16, 17, 4, 18, 1, 2, 3, 5, 23, 24, 25, 26, 27, 28, 29, 30, 31, 32, 33, 34, 35, 36, 37, 38, 39, 40, 41, 42, 43, 44, 45, 46, 47, 48, 49, 50, 51, 52, 53] (by decide +kernel) (by decide +kernel)
set_option maxRecDepth 20000 in
theorem gX8_works_X8_failsIn : GoodIn wsX8_works (wsV RX8 308 RX8 yX8_failsIn wsX8_failsIn) := goodIn_app (goodIn_of _ (by decide +kernel)) ggX8_works_X8_failsIn
theorem dX8_works_0 : decode cX8_works 0 = .ok (.aload_n 0, 1) := by decide +kernel
theorem dX8_works_1 : decode cX8_works 1 = .ok (.iload_n 1, 1) := by decide +kernel
theorem dX8_works_2 : decode cX8_works 2 = .ok (.bipush 12, 2) := by decide +kernel
theorem dX8_works_4 : decode cX8_works 4 = .ok (.iconst 1, 1) := by decide +kernel
theorem dX8_works_5 : decode cX8_works 5 = .ok (.invokevirtual 302, 3) := by decide +kernel
theorem dX8_works_8 : decode cX8_works 8 = .ok (.aload_n 0, 1) := by decide +kernel
theorem dX8_works_9 : decode cX8_works 9 = .ok (.iload_n 1, 1) := by decide +kernel
theorem dX8_works_10 : decode cX8_works 10 = .ok (.iconst 3, 1) := by decide +kernel
theorem dX8_works_11 : decode cX8_works 11 = .ok (.iconst (-1), 1) := by decide +kernel
theorem dX8_works_12 : decode cX8_works 12 = .ok (.invokevirtual 302, 3) := by decide +kernel
theorem dX8_works_15 : decode cX8_works 15 = .ok (.aload_n 0, 1) := by decide +kernel
theorem dX8_works_16 : decode cX8_works 16 = .ok (.iload_n 1, 1) := by decide +kernel
theorem dX8_works_17 : decode cX8_works 17 = .ok (.iconst 3, 1) := by decide +kernel
theorem dX8_works_18 : decode cX8_works 18 = .ok (.invokevirtual 248, 3) := by decide +kernel
theorem dX8_works_21 : decode cX8_works 21 = .ok (.ifCond .ne 22, 3) := by decide +kernel
theorem dX8_works_24 : decode cX8_works 24 = .ok (.aload_n 0, 1) := by decide +kernel
theorem dX8_works_25 : decode cX8_works 25 = .ok (.iload_n 1, 1) := by decide +kernel
theorem dX8_works_26 : decode cX8_works 26 = .ok (.invokevirtual 305, 3) := by decide +kernel
theorem dX8_works_29 : decode cX8_works 29 = .ok (.ifCond .eq 14, 3) := by decide +kernel
theorem dX8_works_32 : decode cX8_works 32 = .ok (.aload_n 0, 1) := by decide +kernel
theorem dX8_works_33 : decode cX8_works 33 = .ok (.iload_n 1, 1) := by decide +kernel
theorem dX8_works_34 : decode cX8_works 34 = .ok (.aload_n 0, 1) := by decide +kernel
theorem dX8_works_35 : decode cX8_works 35 = .ok (.iload_n 1, 1) := by decide +kernel
theorem dX8_works_36 : decode cX8_works 36 = .ok (.iconst 2, 1) := by decide +kernel
theorem dX8_works_37 : decode cX8_works 37 = .ok (.invokevirtual 248, 3) := by decide +kernel
theorem dX8_works_40 : decode cX8_works 40 = .ok (.invokevirtual 308, 3) := by decide +kernel
theorem dX8_works_43 : decode cX8_works 43 = .ok (.return_, 1) := by decide +kernel
set_option maxRecDepth 20000 in
theorem ggX8_goesOn_X8_of : GoodIn wsX8_goesOn wsX8_of := goodIn_r _ [6, 1, 61, 62, 63, 64, 65, 66, 67, 68, 69, 70, 71, 72, 73, 74, 75, 76, 77, 78, 79, 80, 81, 82, 83] (by decide +kernel) (by decide +kernel)
set_option maxRecDepth 20000 in
theorem gX8_goesOn_X8_of : GoodIn wsX8_goesOn (wsV RX8 248 RX8 yX8_of wsX8_of) := goodIn_app (goodIn_of _ (by decide +kernel)) ggX8_goesOn_X8_of
set_option maxRecDepth 20000 in
theorem ggX8_goesOn_X8_sets : GoodIn wsX8_goesOn wsX8_sets := goodIn_r _ [10, 1, 61, 62, 63, 64, 65, 66, 67, 68, 69, 70, 71, 72, 73, 74, 75, 76, 77, 78, 79, 80, 81, 82, 83] (by decide +kernel) (by decide +kernel)
set_option maxRecDepth 20000 in
theorem gX8_goesOn_X8_sets : GoodIn wsX8_goesOn (wsV RX8 149 RX8 yX8_sets wsX8_sets) := goodIn_app (goodIn_of _ (by decide +kernel)) ggX8_goesOn_X8_sets
set_option maxRecDepth 20000 in
theorem ggX8_goesOn_X8_grows : GoodIn wsX8_goesOn wsX8_grows := goodIn_r _ [14, 1, 61, 62, 63, 64, 65, 66, 67, 68, 69, 70, 71, 72, 73, 74, 75, 76, 77, 78, 79, 80, 81, 82, 83] (by decide +kernel) (by decide +kernel)
set_option maxRecDepth 20000 in
theorem gX8_goesOn_X8_grows : GoodIn wsX8_goesOn (wsV RX8 302 RX8 yX8_grows wsX8_grows) := goodIn_app (goodIn_of _ (by decide +kernel)) ggX8_goesOn_X8_grows
set_option maxRecDepth 20000 in
theorem ggX8_goesOn_X8_enters : GoodIn wsX8_goesOn wsX8_enters := goodIn_r _ [18, 1, 19, 20, 21, 5, 22, 2, 3, 4, 6, 23, 24, 25, 26, 27, 28, 29, 30, 31, 32, 33, 34, 35, 36, 37, 38, 39, 40, 7, 8, 9, 10, 41, 42, 43, 44, 61, 62, 63, 64, 65, 66, 67, 68, 69, 70, 71, 72, 73, 74, 75, 76, 77, 78, 79, 80, 81, 82, 83] (by decide +kernel) (by decide +kernel)
set_option maxRecDepth 20000 in
theorem gX8_goesOn_X8_enters : GoodIn wsX8_goesOn (wsV RX8 311 RX8 yX8_enters wsX8_enters) := goodIn_app (goodIn_of _ (by decide +kernel)) ggX8_goesOn_X8_enters
set_option maxRecDepth 20000 in
theorem ggX8_goesOn_X8_setsCard : GoodIn wsX8_goesOn wsX8_setsCard := goodIn_r _ [44, 1, 61, 62, 63, 64, 65, 66, 67, 68, 69, 70, 71, 72, 73, 74, 75, 76, 77, 78, 79, 80, 81, 82, 83] (by decide +kernel) (by decide +kernel)
set_option maxRecDepth 20000 in
theorem gX8_goesOn_X8_setsCard : GoodIn wsX8_goesOn (wsV RX8 130 RX8 yX8_setsCard wsX8_setsCard) := goodIn_app (goodIn_of _ (by decide +kernel)) ggX8_goesOn_X8_setsCard
set_option maxRecDepth 20000 in
theorem ggX8_goesOn_X8_ofCard : GoodIn wsX8_goesOn wsX8_ofCard := goodIn_r _ [26, 1, 61, 62, 63, 64, 65, 66, 67, 68, 69, 70, 71, 72, 73, 74, 75, 76, 77, 78, 79, 80, 81, 82, 83] (by decide +kernel) (by decide +kernel)
set_option maxRecDepth 20000 in
theorem gX8_goesOn_X8_ofCard : GoodIn wsX8_goesOn (wsV RX8 233 RX8 yX8_ofCard wsX8_ofCard) := goodIn_app (goodIn_of _ (by decide +kernel)) ggX8_goesOn_X8_ofCard
set_option maxRecDepth 20000 in
theorem ggX8_goesOn_X8_nextOf : GoodIn wsX8_goesOn wsX8_nextOf := goodIn_r _ [48, 1, 23, 24, 25, 5, 26, 49, 50, 51, 52, 61, 62, 63, 64, 65, 66, 67, 68, 69, 70, 71, 72, 73, 74, 75, 76, 77, 78, 79, 80, 81, 82, 83] (by decide +kernel) (by decide +kernel)
set_option maxRecDepth 20000 in
theorem gX8_goesOn_X8_nextOf : GoodIn wsX8_goesOn (wsV RX8 267 RX8 yX8_nextOf wsX8_nextOf) := goodIn_app (goodIn_of _ (by decide +kernel)) ggX8_goesOn_X8_nextOf
set_option maxRecDepth 20000 in
theorem ggX8_goesOn_X8_leaves : GoodIn wsX8_goesOn wsX8_leaves := goodIn_r _ [56, 1, 41, 42, 43, 5, 44, 23, 24, 25, 26, 61, 62, 63, 64, 65, 66, 67, 68, 69, 70, 71, 72, 73, 74, 75, 76, 77, 78, 79, 80, 81, 82, 83] (by decide +kernel) (by decide +kernel)
set_option maxRecDepth 20000 in
theorem gX8_goesOn_X8_leaves : GoodIn wsX8_goesOn (wsV RX8 314 RX8 yX8_leaves wsX8_leaves) := goodIn_app (goodIn_of _ (by decide +kernel)) ggX8_goesOn_X8_leaves
set_option maxRecDepth 20000 in
theorem ggX8_goesOn_X8_inState : GoodIn wsX8_goesOn wsX8_inState := goodIn_r _ [60, 1, 23, 24, 25, 5, 26, 61, 62, 63, 64, 65, 66, 67, 68, 69, 70, 71, 72, 73, 74, 75, 76, 77, 78, 79, 80, 81, 82, 83] (by decide +kernel) (by decide +kernel)
set_option maxRecDepth 20000 in
theorem gX8_goesOn_X8_inState : GoodIn wsX8_goesOn (wsV RX8 238 RX8 yX8_inState wsX8_inState) := goodIn_app (goodIn_of _ (by decide +kernel)) ggX8_goesOn_X8_inState
theorem dX8_goesOn_0 : decode cX8_goesOn 0 = .ok (.aload_n 0, 1) := by decide +kernel
theorem dX8_goesOn_1 : decode cX8_goesOn 1 = .ok (.iload_n 1, 1) := by decide +kernel
theorem dX8_goesOn_2 : decode cX8_goesOn 2 = .ok (.iconst 2, 1) := by decide +kernel
theorem dX8_goesOn_3 : decode cX8_goesOn 3 = .ok (.invokevirtual 248, 3) := by decide +kernel
theorem dX8_goesOn_6 : decode cX8_goesOn 6 = .ok (.istore_n 2, 1) := by decide +kernel
theorem dX8_goesOn_7 : decode cX8_goesOn 7 = .ok (.iload_n 1, 1) := by decide +kernel
theorem dX8_goesOn_8 : decode cX8_goesOn 8 = .ok (.aload_n 0, 1) := by decide +kernel
theorem dX8_goesOn_9 : decode cX8_goesOn 9 = .ok (.getfield 9, 3) := by decide +kernel
theorem dX8_goesOn_12 : decode cX8_goesOn 12 = .ok (.bipush 7, 2) := by decide +kernel
theorem dX8_goesOn_14 : decode cX8_goesOn 14 = .ok (.iaload, 1) := by decide +kernel
theorem dX8_goesOn_15 : decode cX8_goesOn 15 = .ok (.iconst 1, 1) := by decide +kernel
theorem dX8_goesOn_16 : decode cX8_goesOn 16 = .ok (.isub, 1) := by decide +kernel
theorem dX8_goesOn_17 : decode cX8_goesOn 17 = .ok (.if_icmp .ne 7, 3) := by decide +kernel
theorem dX8_goesOn_20 : decode cX8_goesOn 20 = .ok (.iconst 1, 1) := by decide +kernel
theorem dX8_goesOn_21 : decode cX8_goesOn 21 = .ok (.goto 4, 3) := by decide +kernel
theorem dX8_goesOn_24 : decode cX8_goesOn 24 = .ok (.iconst 0, 1) := by decide +kernel
theorem dX8_goesOn_25 : decode cX8_goesOn 25 = .ok (.istore_n 3, 1) := by decide +kernel
theorem dX8_goesOn_26 : decode cX8_goesOn 26 = .ok (.iload_n 3, 1) := by decide +kernel
theorem dX8_goesOn_27 : decode cX8_goesOn 27 = .ok (.ifCond .ne 16, 3) := by decide +kernel
theorem dX8_goesOn_30 : decode cX8_goesOn 30 = .ok (.aload_n 0, 1) := by decide +kernel
theorem dX8_goesOn_31 : decode cX8_goesOn 31 = .ok (.iload_n 1, 1) := by decide +kernel
theorem dX8_goesOn_32 : decode cX8_goesOn 32 = .ok (.iconst 1, 1) := by decide +kernel
theorem dX8_goesOn_33 : decode cX8_goesOn 33 = .ok (.iadd, 1) := by decide +kernel
theorem dX8_goesOn_34 : decode cX8_goesOn 34 = .ok (.iconst 2, 1) := by decide +kernel
theorem dX8_goesOn_35 : decode cX8_goesOn 35 = .ok (.invokevirtual 248, 3) := by decide +kernel
theorem dX8_goesOn_38 : decode cX8_goesOn 38 = .ok (.iconst (-1), 1) := by decide +kernel
theorem dX8_goesOn_39 : decode cX8_goesOn 39 = .ok (.if_icmp .eq 4, 3) := by decide +kernel
theorem dX8_goesOn_42 : decode cX8_goesOn 42 = .ok (.return_, 1) := by decide +kernel
theorem dX8_goesOn_43 : decode cX8_goesOn 43 = .ok (.aload_n 0, 1) := by decide +kernel
theorem dX8_goesOn_44 : decode cX8_goesOn 44 = .ok (.iload_n 1, 1) := by decide +kernel
theorem dX8_goesOn_45 : decode cX8_goesOn 45 = .ok (.iconst 2, 1) := by decide +kernel
theorem dX8_goesOn_46 : decode cX8_goesOn 46 = .ok (.iconst (-1), 1) := by decide +kernel
theorem dX8_goesOn_47 : decode cX8_goesOn 47 = .ok (.invokevirtual 149, 3) := by decide +kernel
theorem dX8_goesOn_50 : decode cX8_goesOn 50 = .ok (.aload_n 0, 1) := by decide +kernel
theorem dX8_goesOn_51 : decode cX8_goesOn 51 = .ok (.iload_n 1, 1) := by decide +kernel
theorem dX8_goesOn_52 : decode cX8_goesOn 52 = .ok (.bipush 6, 2) := by decide +kernel
theorem dX8_goesOn_54 : decode cX8_goesOn 54 = .ok (.iconst 1, 1) := by decide +kernel
theorem dX8_goesOn_55 : decode cX8_goesOn 55 = .ok (.invokevirtual 302, 3) := by decide +kernel
theorem dX8_goesOn_58 : decode cX8_goesOn 58 = .ok (.iload_n 3, 1) := by decide +kernel
theorem dX8_goesOn_59 : decode cX8_goesOn 59 = .ok (.ifCond .ne 12, 3) := by decide +kernel
theorem dX8_goesOn_62 : decode cX8_goesOn 62 = .ok (.aload_n 0, 1) := by decide +kernel
theorem dX8_goesOn_63 : decode cX8_goesOn 63 = .ok (.iload_n 1, 1) := by decide +kernel
theorem dX8_goesOn_64 : decode cX8_goesOn 64 = .ok (.iconst 1, 1) := by decide +kernel
theorem dX8_goesOn_65 : decode cX8_goesOn 65 = .ok (.iadd, 1) := by decide +kernel
theorem dX8_goesOn_66 : decode cX8_goesOn 66 = .ok (.iload_n 2, 1) := by decide +kernel
theorem dX8_goesOn_67 : decode cX8_goesOn 67 = .ok (.invokevirtual 311, 3) := by decide +kernel
theorem dX8_goesOn_70 : decode cX8_goesOn 70 = .ok (.return_, 1) := by decide +kernel
theorem dX8_goesOn_71 : decode cX8_goesOn 71 = .ok (.aload_n 0, 1) := by decide +kernel
theorem dX8_goesOn_72 : decode cX8_goesOn 72 = .ok (.iload_n 2, 1) := by decide +kernel
theorem dX8_goesOn_73 : decode cX8_goesOn 73 = .ok (.iconst 4, 1) := by decide +kernel
theorem dX8_goesOn_74 : decode cX8_goesOn 74 = .ok (.iconst (-1), 1) := by decide +kernel
theorem dX8_goesOn_75 : decode cX8_goesOn 75 = .ok (.invokevirtual 130, 3) := by decide +kernel
theorem dX8_goesOn_78 : decode cX8_goesOn 78 = .ok (.aload_n 0, 1) := by decide +kernel
theorem dX8_goesOn_79 : decode cX8_goesOn 79 = .ok (.aload_n 0, 1) := by decide +kernel
theorem dX8_goesOn_80 : decode cX8_goesOn 80 = .ok (.iload_n 2, 1) := by decide +kernel
theorem dX8_goesOn_81 : decode cX8_goesOn 81 = .ok (.iconst 0, 1) := by decide +kernel
theorem dX8_goesOn_82 : decode cX8_goesOn 82 = .ok (.invokevirtual 233, 3) := by decide +kernel
theorem dX8_goesOn_85 : decode cX8_goesOn 85 = .ok (.invokevirtual 267, 3) := by decide +kernel
theorem dX8_goesOn_88 : decode cX8_goesOn 88 = .ok (.iload_n 2, 1) := by decide +kernel
theorem dX8_goesOn_89 : decode cX8_goesOn 89 = .ok (.if_icmp .ne 11, 3) := by decide +kernel
theorem dX8_goesOn_92 : decode cX8_goesOn 92 = .ok (.aload_n 0, 1) := by decide +kernel
theorem dX8_goesOn_93 : decode cX8_goesOn 93 = .ok (.iload_n 2, 1) := by decide +kernel
theorem dX8_goesOn_94 : decode cX8_goesOn 94 = .ok (.invokevirtual 314, 3) := by decide +kernel
theorem dX8_goesOn_97 : decode cX8_goesOn 97 = .ok (.goto 61, 3) := by decide +kernel
theorem dX8_goesOn_100 : decode cX8_goesOn 100 = .ok (.aload_n 0, 1) := by decide +kernel
theorem dX8_goesOn_101 : decode cX8_goesOn 101 = .ok (.iconst 2, 1) := by decide +kernel
theorem dX8_goesOn_102 : decode cX8_goesOn 102 = .ok (.invokevirtual 238, 3) := by decide +kernel
theorem dX8_goesOn_105 : decode cX8_goesOn 105 = .ok (.aload_n 0, 1) := by decide +kernel
theorem dX8_goesOn_106 : decode cX8_goesOn 106 = .ok (.getfield 9, 3) := by decide +kernel
theorem dX8_goesOn_109 : decode cX8_goesOn 109 = .ok (.iconst 1, 1) := by decide +kernel
theorem dX8_goesOn_110 : decode cX8_goesOn 110 = .ok (.iaload, 1) := by decide +kernel
theorem dX8_goesOn_111 : decode cX8_goesOn 111 = .ok (.if_icmp .ge 13, 3) := by decide +kernel
theorem dX8_goesOn_114 : decode cX8_goesOn 114 = .ok (.aload_n 0, 1) := by decide +kernel
theorem dX8_goesOn_115 : decode cX8_goesOn 115 = .ok (.iload_n 2, 1) := by decide +kernel
theorem dX8_goesOn_116 : decode cX8_goesOn 116 = .ok (.iconst 3, 1) := by decide +kernel
theorem dX8_goesOn_117 : decode cX8_goesOn 117 = .ok (.iconst 2, 1) := by decide +kernel
theorem dX8_goesOn_118 : decode cX8_goesOn 118 = .ok (.invokevirtual 130, 3) := by decide +kernel
theorem dX8_goesOn_121 : decode cX8_goesOn 121 = .ok (.goto 37, 3) := by decide +kernel
theorem dX8_goesOn_124 : decode cX8_goesOn 124 = .ok (.aload_n 0, 1) := by decide +kernel
theorem dX8_goesOn_125 : decode cX8_goesOn 125 = .ok (.iload_n 2, 1) := by decide +kernel
theorem dX8_goesOn_126 : decode cX8_goesOn 126 = .ok (.iconst 3, 1) := by decide +kernel
theorem dX8_goesOn_127 : decode cX8_goesOn 127 = .ok (.iconst 0, 1) := by decide +kernel
theorem dX8_goesOn_128 : decode cX8_goesOn 128 = .ok (.invokevirtual 130, 3) := by decide +kernel
theorem dX8_goesOn_131 : decode cX8_goesOn 131 = .ok (.aload_n 0, 1) := by decide +kernel
theorem dX8_goesOn_132 : decode cX8_goesOn 132 = .ok (.iload_n 2, 1) := by decide +kernel
theorem dX8_goesOn_133 : decode cX8_goesOn 133 = .ok (.bipush 6, 2) := by decide +kernel
theorem dX8_goesOn_135 : decode cX8_goesOn 135 = .ok (.aload_n 0, 1) := by decide +kernel
theorem dX8_goesOn_136 : decode cX8_goesOn 136 = .ok (.iload_n 2, 1) := by decide +kernel
theorem dX8_goesOn_137 : decode cX8_goesOn 137 = .ok (.bipush 6, 2) := by decide +kernel
theorem dX8_goesOn_139 : decode cX8_goesOn 139 = .ok (.invokevirtual 233, 3) := by decide +kernel
theorem dX8_goesOn_142 : decode cX8_goesOn 142 = .ok (.iconst 1, 1) := by decide +kernel
theorem dX8_goesOn_143 : decode cX8_goesOn 143 = .ok (.iadd, 1) := by decide +kernel
theorem dX8_goesOn_144 : decode cX8_goesOn 144 = .ok (.invokevirtual 130, 3) := by decide +kernel
theorem dX8_goesOn_147 : decode cX8_goesOn 147 = .ok (.aload_n 0, 1) := by decide +kernel
theorem dX8_goesOn_148 : decode cX8_goesOn 148 = .ok (.getfield 9, 3) := by decide +kernel
theorem dX8_goesOn_151 : decode cX8_goesOn 151 = .ok (.bipush 14, 2) := by decide +kernel
theorem dX8_goesOn_153 : decode cX8_goesOn 153 = .ok (.dup2, 1) := by decide +kernel
theorem dX8_goesOn_154 : decode cX8_goesOn 154 = .ok (.iaload, 1) := by decide +kernel
theorem dX8_goesOn_155 : decode cX8_goesOn 155 = .ok (.iconst 1, 1) := by decide +kernel
theorem dX8_goesOn_156 : decode cX8_goesOn 156 = .ok (.iadd, 1) := by decide +kernel
theorem dX8_goesOn_157 : decode cX8_goesOn 157 = .ok (.iastore, 1) := by decide +kernel
theorem dX8_goesOn_158 : decode cX8_goesOn 158 = .ok (.return_, 1) := by decide +kernel
set_option maxRecDepth 20000 in
theorem ggX8_stationPasses_X8_of : GoodIn wsX8_stationPasses wsX8_of := goodIn_r _ [5, 6, 81, 82, 83, 84, 85, 86, 87, 88, 89, 90, 91, 92, 93, 94, 95, 96, 97, 98, 99, 100, 101, 102, 103] (by decide +kernel) (by decide +kernel)
set_option maxRecDepth 20000 in
theorem gX8_stationPasses_X8_of : GoodIn wsX8_stationPasses (wsV RX8 248 RX8 yX8_of wsX8_of) := goodIn_app (goodIn_of _ (by decide +kernel)) ggX8_stationPasses_X8_of
set_option maxRecDepth 20000 in
theorem ggX8_stationPasses_X8_grows : GoodIn wsX8_stationPasses wsX8_grows := goodIn_r _ [10, 6, 81, 82, 83, 84, 85, 86, 87, 88, 89, 90, 91, 92, 93, 94, 95, 96, 97, 98, 99, 100, 101, 102, 103] (by decide +kernel) (by decide +kernel)
set_option maxRecDepth 20000 in
theorem gX8_stationPasses_X8_grows : GoodIn wsX8_stationPasses (wsV RX8 302 RX8 yX8_grows wsX8_grows) := goodIn_app (goodIn_of _ (by decide +kernel)) ggX8_stationPasses_X8_grows
set_option maxRecDepth 20000 in
theorem ggX8_stationPasses_X8_works : GoodIn wsX8_stationPasses wsX8_works := goodIn_r _ [14, 7, 8, 9, 4, 10, 6, 1, 2, 3, 5, 15, 16, 17, 18, 19, 20, 21, 22, 23, 24, 25, 26, 27, 28, 29, 30, 31, 32, 33, 34, 81, 82, 83, 84, 85, 86, 87, 88, 89, 90, 91, 92, 93, 94, 95, 96, 97, 98, 99, 100, 101, 102, 103] (by decide +kernel) (by decide +kernel)
set_option maxRecDepth 20000 in
theorem gX8_stationPasses_X8_works : GoodIn wsX8_stationPasses (wsV RX8 317 RX8 yX8_works wsX8_works) := goodIn_app (goodIn_of _ (by decide +kernel)) ggX8_stationPasses_X8_works
set_option maxRecDepth 20000 in
theorem ggX8_stationPasses_X8_isReady : GoodIn wsX8_stationPasses wsX8_isReady := goodIn_r _ [38, 1, 2, 3, 4, 5, 6, 81, 82, 83, 84, 85, 86, 87, 88, 89, 90, 91, 92, 93, 94, 95, 96, 97, 98, 99, 100, 101, 102, 103] (by decide +kernel) (by decide +kernel)
set_option maxRecDepth 20000 in
theorem gX8_stationPasses_X8_isReady : GoodIn wsX8_stationPasses (wsV RX8 320 RX8 yX8_isReady wsX8_isReady) := goodIn_app (goodIn_of _ (by decide +kernel)) ggX8_stationPasses_X8_isReady
set_option maxRecDepth 20000 in
theorem ggX8_stationPasses_X8_goesOn : GoodIn wsX8_stationPasses wsX8_goesOn := goodIn_r _ [42, 6, 1, 2, 3, 4, 5, 19, 20, 21, 22, 7, 8, 9, 10, 43, 44, 45, 46, 47, 48, 49, 50, 27, 28, 29, 30, 51, 52, 53, 54, 55, 56, 57, 58, 59, 60, 61, 62, 63, 64, 31, 32, 33, 34, 65, 66, 67, 68, 69, 70, 71, 72, 73, 74, 75, 76, 77, 78, 79, 80, 81, 82, 83, 84, 85, 86, 87, 88, 89, 90, 91, 92, 93, 94, 95, 96, 97, 98, 99, 100, 101, 102, 103] (by decide +kernel) (by decide +kernel)
set_option maxRecDepth 20000 in
theorem gX8_stationPasses_X8_goesOn : GoodIn wsX8_stationPasses (wsV RX8 323 RX8 yX8_goesOn wsX8_goesOn) := goodIn_app (goodIn_of _ (by decide +kernel)) ggX8_stationPasses_X8_goesOn
theorem dX8_stationPasses_0 : decode cX8_stationPasses 0 = .ok (.aload_n 0, 1) := by decide +kernel
theorem dX8_stationPasses_1 : decode cX8_stationPasses 1 = .ok (.iload_n 1, 1) := by decide +kernel
theorem dX8_stationPasses_2 : decode cX8_stationPasses 2 = .ok (.bipush 11, 2) := by decide +kernel
theorem dX8_stationPasses_4 : decode cX8_stationPasses 4 = .ok (.invokevirtual 248, 3) := by decide +kernel
theorem dX8_stationPasses_7 : decode cX8_stationPasses 7 = .ok (.ifCond .le 14, 3) := by decide +kernel
theorem dX8_stationPasses_10 : decode cX8_stationPasses 10 = .ok (.aload_n 0, 1) := by decide +kernel
theorem dX8_stationPasses_11 : decode cX8_stationPasses 11 = .ok (.iload_n 1, 1) := by decide +kernel
theorem dX8_stationPasses_12 : decode cX8_stationPasses 12 = .ok (.bipush 11, 2) := by decide +kernel
theorem dX8_stationPasses_14 : decode cX8_stationPasses 14 = .ok (.iconst (-1), 1) := by decide +kernel
theorem dX8_stationPasses_15 : decode cX8_stationPasses 15 = .ok (.invokevirtual 302, 3) := by decide +kernel
theorem dX8_stationPasses_18 : decode cX8_stationPasses 18 = .ok (.goto 37, 3) := by decide +kernel
theorem dX8_stationPasses_21 : decode cX8_stationPasses 21 = .ok (.aload_n 0, 1) := by decide +kernel
theorem dX8_stationPasses_22 : decode cX8_stationPasses 22 = .ok (.iload_n 1, 1) := by decide +kernel
theorem dX8_stationPasses_23 : decode cX8_stationPasses 23 = .ok (.iconst 2, 1) := by decide +kernel
theorem dX8_stationPasses_24 : decode cX8_stationPasses 24 = .ok (.invokevirtual 248, 3) := by decide +kernel
theorem dX8_stationPasses_27 : decode cX8_stationPasses 27 = .ok (.iconst (-1), 1) := by decide +kernel
theorem dX8_stationPasses_28 : decode cX8_stationPasses 28 = .ok (.if_icmp .eq 27, 3) := by decide +kernel
theorem dX8_stationPasses_31 : decode cX8_stationPasses 31 = .ok (.aload_n 0, 1) := by decide +kernel
theorem dX8_stationPasses_32 : decode cX8_stationPasses 32 = .ok (.iload_n 1, 1) := by decide +kernel
theorem dX8_stationPasses_33 : decode cX8_stationPasses 33 = .ok (.iconst 3, 1) := by decide +kernel
theorem dX8_stationPasses_34 : decode cX8_stationPasses 34 = .ok (.invokevirtual 248, 3) := by decide +kernel
theorem dX8_stationPasses_37 : decode cX8_stationPasses 37 = .ok (.ifCond .le 18, 3) := by decide +kernel
theorem dX8_stationPasses_40 : decode cX8_stationPasses 40 = .ok (.aload_n 0, 1) := by decide +kernel
theorem dX8_stationPasses_41 : decode cX8_stationPasses 41 = .ok (.iload_n 1, 1) := by decide +kernel
theorem dX8_stationPasses_42 : decode cX8_stationPasses 42 = .ok (.bipush 7, 2) := by decide +kernel
theorem dX8_stationPasses_44 : decode cX8_stationPasses 44 = .ok (.invokevirtual 248, 3) := by decide +kernel
theorem dX8_stationPasses_47 : decode cX8_stationPasses 47 = .ok (.ifCond .ne 8, 3) := by decide +kernel
theorem dX8_stationPasses_50 : decode cX8_stationPasses 50 = .ok (.aload_n 0, 1) := by decide +kernel
theorem dX8_stationPasses_51 : decode cX8_stationPasses 51 = .ok (.iload_n 1, 1) := by decide +kernel
theorem dX8_stationPasses_52 : decode cX8_stationPasses 52 = .ok (.invokevirtual 317, 3) := by decide +kernel
theorem dX8_stationPasses_55 : decode cX8_stationPasses 55 = .ok (.aload_n 0, 1) := by decide +kernel
theorem dX8_stationPasses_56 : decode cX8_stationPasses 56 = .ok (.iload_n 1, 1) := by decide +kernel
theorem dX8_stationPasses_57 : decode cX8_stationPasses 57 = .ok (.invokevirtual 320, 3) := by decide +kernel
theorem dX8_stationPasses_60 : decode cX8_stationPasses 60 = .ok (.ifCond .eq 8, 3) := by decide +kernel
theorem dX8_stationPasses_63 : decode cX8_stationPasses 63 = .ok (.aload_n 0, 1) := by decide +kernel
theorem dX8_stationPasses_64 : decode cX8_stationPasses 64 = .ok (.iload_n 1, 1) := by decide +kernel
theorem dX8_stationPasses_65 : decode cX8_stationPasses 65 = .ok (.invokevirtual 323, 3) := by decide +kernel
theorem dX8_stationPasses_68 : decode cX8_stationPasses 68 = .ok (.return_, 1) := by decide +kernel
set_option maxRecDepth 20000 in
theorem ggX8_isReady_X8_of : GoodIn wsX8_isReady wsX8_of := goodIn_r _ [5, 6, 7, 8, 9, 10, 11, 12, 13, 14, 15, 16, 17, 18, 19, 20, 21, 22, 23, 24, 25, 26, 27, 28, 29] (by decide +kernel) (by decide +kernel)
set_option maxRecDepth 20000 in
theorem gX8_isReady_X8_of : GoodIn wsX8_isReady (wsV RX8 248 RX8 yX8_of wsX8_of) := goodIn_app (goodIn_of _ (by decide +kernel)) ggX8_isReady_X8_of
theorem dX8_isReady_0 : decode cX8_isReady 0 = .ok (.aload_n 0, 1) := by decide +kernel
theorem dX8_isReady_1 : decode cX8_isReady 1 = .ok (.iload_n 1, 1) := by decide +kernel
theorem dX8_isReady_2 : decode cX8_isReady 2 = .ok (.iconst 2, 1) := by decide +kernel
theorem dX8_isReady_3 : decode cX8_isReady 3 = .ok (.invokevirtual 248, 3) := by decide +kernel
theorem dX8_isReady_6 : decode cX8_isReady 6 = .ok (.iconst (-1), 1) := by decide +kernel
theorem dX8_isReady_7 : decode cX8_isReady 7 = .ok (.if_icmp .eq 16, 3) := by decide +kernel
theorem dX8_isReady_10 : decode cX8_isReady 10 = .ok (.aload_n 0, 1) := by decide +kernel
theorem dX8_isReady_11 : decode cX8_isReady 11 = .ok (.iload_n 1, 1) := by decide +kernel
theorem dX8_isReady_12 : decode cX8_isReady 12 = .ok (.iconst 3, 1) := by decide +kernel
theorem dX8_isReady_13 : decode cX8_isReady 13 = .ok (.invokevirtual 248, 3) := by decide +kernel
theorem dX8_isReady_16 : decode cX8_isReady 16 = .ok (.ifCond .ne 7, 3) := by decide +kernel
theorem dX8_isReady_19 : decode cX8_isReady 19 = .ok (.iconst 1, 1) := by decide +kernel
theorem dX8_isReady_20 : decode cX8_isReady 20 = .ok (.goto 4, 3) := by decide +kernel
theorem dX8_isReady_23 : decode cX8_isReady 23 = .ok (.iconst 0, 1) := by decide +kernel
theorem dX8_isReady_24 : decode cX8_isReady 24 = .ok (.ireturn, 1) := by decide +kernel
set_option maxRecDepth 20000 in
theorem ggX8_feeds_X8_of : GoodIn wsX8_feeds wsX8_of := goodIn_r _ [6, 1, 61, 62, 63, 64, 65, 66, 67, 68, 69, 70, 71, 72, 73, 74, 75, 76, 77, 78, 79, 80, 81, 82, 83] (by decide +kernel) (by decide +kernel)
set_option maxRecDepth 20000 in
theorem gX8_feeds_X8_of : GoodIn wsX8_feeds (wsV RX8 248 RX8 yX8_of wsX8_of) := goodIn_app (goodIn_of _ (by decide +kernel)) ggX8_feeds_X8_of
set_option maxRecDepth 20000 in
theorem ggX8_feeds_X8_toFeed : GoodIn wsX8_feeds wsX8_toFeed := goodIn_r _ [10, 1, 11, 12, 13, 5, 14, 15, 16, 17, 18, 19, 20, 21, 22, 23, 24, 25, 26, 27, 28, 29, 30, 61, 62, 63, 64, 65, 66, 67, 68, 69, 70, 71, 72, 73, 74, 75, 76, 77, 78, 79, 80, 81, 82, 83] (by decide +kernel) (by decide +kernel)
set_option maxRecDepth 20000 in
theorem gX8_feeds_X8_toFeed : GoodIn wsX8_feeds (wsV RX8 282 RX8 yX8_toFeed wsX8_toFeed) := goodIn_app (goodIn_of _ (by decide +kernel)) ggX8_feeds_X8_toFeed
set_option maxRecDepth 20000 in
theorem ggX8_feeds_X8_setsCard : GoodIn wsX8_feeds wsX8_setsCard := goodIn_r _ [34, 1, 61, 62, 63, 64, 65, 66, 67, 68, 69, 70, 71, 72, 73, 74, 75, 76, 77, 78, 79, 80, 81, 82, 83] (by decide +kernel) (by decide +kernel)
set_option maxRecDepth 20000 in
theorem gX8_feeds_X8_setsCard : GoodIn wsX8_feeds (wsV RX8 130 RX8 yX8_setsCard wsX8_setsCard) := goodIn_app (goodIn_of _ (by decide +kernel)) ggX8_feeds_X8_setsCard
set_option maxRecDepth 20000 in
theorem ggX8_feeds_X8_enters : GoodIn wsX8_feeds wsX8_enters := goodIn_r _ [38, 1, 39, 40, 41, 5, 42, 2, 3, 4, 6, 11, 12, 13, 14, 43, 44, 45, 46, 47, 48, 49, 50, 51, 52, 53, 54, 55, 56, 57, 58, 59, 60, 31, 32, 33, 34, 61, 62, 63, 64, 65, 66, 67, 68, 69, 70, 71, 72, 73, 74, 75, 76, 77, 78, 79, 80, 81, 82, 83] (by decide +kernel) (by decide +kernel)
set_option maxRecDepth 20000 in
theorem gX8_feeds_X8_enters : GoodIn wsX8_feeds (wsV RX8 311 RX8 yX8_enters wsX8_enters) := goodIn_app (goodIn_of _ (by decide +kernel)) ggX8_feeds_X8_enters
theorem dX8_feeds_0 : decode cX8_feeds 0 = .ok (.aload_n 0, 1) := by decide +kernel
theorem dX8_feeds_1 : decode cX8_feeds 1 = .ok (.getfield 9, 3) := by decide +kernel
theorem dX8_feeds_4 : decode cX8_feeds 4 = .ok (.bipush 7, 2) := by decide +kernel
theorem dX8_feeds_6 : decode cX8_feeds 6 = .ok (.iaload, 1) := by decide +kernel
theorem dX8_feeds_7 : decode cX8_feeds 7 = .ok (.ifCond .le 36, 3) := by decide +kernel
theorem dX8_feeds_10 : decode cX8_feeds 10 = .ok (.aload_n 0, 1) := by decide +kernel
theorem dX8_feeds_11 : decode cX8_feeds 11 = .ok (.iconst 0, 1) := by decide +kernel
theorem dX8_feeds_12 : decode cX8_feeds 12 = .ok (.iconst 2, 1) := by decide +kernel
theorem dX8_feeds_13 : decode cX8_feeds 13 = .ok (.invokevirtual 248, 3) := by decide +kernel
theorem dX8_feeds_16 : decode cX8_feeds 16 = .ok (.iconst (-1), 1) := by decide +kernel
theorem dX8_feeds_17 : decode cX8_feeds 17 = .ok (.if_icmp .ne 26, 3) := by decide +kernel
theorem dX8_feeds_20 : decode cX8_feeds 20 = .ok (.aload_n 0, 1) := by decide +kernel
theorem dX8_feeds_21 : decode cX8_feeds 21 = .ok (.iconst 0, 1) := by decide +kernel
theorem dX8_feeds_22 : decode cX8_feeds 22 = .ok (.bipush 7, 2) := by decide +kernel
theorem dX8_feeds_24 : decode cX8_feeds 24 = .ok (.invokevirtual 248, 3) := by decide +kernel
theorem dX8_feeds_27 : decode cX8_feeds 27 = .ok (.ifCond .ne 16, 3) := by decide +kernel
theorem dX8_feeds_30 : decode cX8_feeds 30 = .ok (.aload_n 0, 1) := by decide +kernel
theorem dX8_feeds_31 : decode cX8_feeds 31 = .ok (.getfield 9, 3) := by decide +kernel
theorem dX8_feeds_34 : decode cX8_feeds 34 = .ok (.iconst 5, 1) := by decide +kernel
theorem dX8_feeds_35 : decode cX8_feeds 35 = .ok (.iaload, 1) := by decide +kernel
theorem dX8_feeds_36 : decode cX8_feeds 36 = .ok (.ifCond .le 7, 3) := by decide +kernel
theorem dX8_feeds_39 : decode cX8_feeds 39 = .ok (.iconst 1, 1) := by decide +kernel
theorem dX8_feeds_40 : decode cX8_feeds 40 = .ok (.goto 4, 3) := by decide +kernel
theorem dX8_feeds_43 : decode cX8_feeds 43 = .ok (.iconst 0, 1) := by decide +kernel
theorem dX8_feeds_44 : decode cX8_feeds 44 = .ok (.istore_n 1, 1) := by decide +kernel
theorem dX8_feeds_45 : decode cX8_feeds 45 = .ok (.iload_n 1, 1) := by decide +kernel
theorem dX8_feeds_46 : decode cX8_feeds 46 = .ok (.ifCond .eq 10, 3) := by decide +kernel
theorem dX8_feeds_49 : decode cX8_feeds 49 = .ok (.aload_n 0, 1) := by decide +kernel
theorem dX8_feeds_50 : decode cX8_feeds 50 = .ok (.invokevirtual 282, 3) := by decide +kernel
theorem dX8_feeds_53 : decode cX8_feeds 53 = .ok (.goto 4, 3) := by decide +kernel
theorem dX8_feeds_56 : decode cX8_feeds 56 = .ok (.iconst (-1), 1) := by decide +kernel
theorem dX8_feeds_57 : decode cX8_feeds 57 = .ok (.istore_n 2, 1) := by decide +kernel
theorem dX8_feeds_58 : decode cX8_feeds 58 = .ok (.iload_n 2, 1) := by decide +kernel
theorem dX8_feeds_59 : decode cX8_feeds 59 = .ok (.iconst (-1), 1) := by decide +kernel
theorem dX8_feeds_60 : decode cX8_feeds 60 = .ok (.if_icmp .ne 4, 3) := by decide +kernel
theorem dX8_feeds_63 : decode cX8_feeds 63 = .ok (.return_, 1) := by decide +kernel
theorem dX8_feeds_64 : decode cX8_feeds 64 = .ok (.aload_n 0, 1) := by decide +kernel
theorem dX8_feeds_65 : decode cX8_feeds 65 = .ok (.getfield 9, 3) := by decide +kernel
