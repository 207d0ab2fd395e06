theorem dX7_card_99 : decode cX7_card 99 = .ok (.ireturn, 1) := by decide +kernel
theorem dX7_card_100 : decode cX7_card 100 = .ok (.aload_n 3, 1) := by decide +kernel
theorem dX7_card_101 : decode cX7_card 101 = .ok (.getfield 211, 3) := by decide +kernel
theorem dX7_card_104 : decode cX7_card 104 = .ok (.ireturn, 1) := by decide +kernel
theorem dX7_card_105 : decode cX7_card 105 = .ok (.new 105, 3) := by decide +kernel
theorem dX7_card_108 : decode cX7_card 108 = .ok (.dup, 1) := by decide +kernel
theorem dX7_card_109 : decode cX7_card 109 = .ok (.ldc 116, 2) := by decide +kernel
theorem dX7_card_111 : decode cX7_card 111 = .ok (.invokespecial 109, 3) := by decide +kernel
theorem dX7_card_114 : decode cX7_card 114 = .ok (.athrow, 1) := by decide +kernel
set_option maxRecDepth 20000 in
theorem ggX7_letter_X7_needCard : GoodIn wsX7_letter wsX7_needCard := goodIn_ca (goodIn_r _ [8, 9, 10, 1, 11, 12, 13, 14, 15, 16, 17, 18, 19, 20, 21, 22, 23, 24, 25, 26, 27, 28, 29, 30, 31, 32, 33, 34, 35, 36, 37, 38, 39, 40] (by decide +kernel) (by decide +kernel)) (goodIn_sub (fun _ h => List.mem_cons_of_mem _ (List.mem_append_right _ h)) (by decide +kernel))
set_option maxRecDepth 20000 in
theorem gX7_letter_X7_needCard : GoodIn wsX7_letter (wsV RX7 183 RX7 yX7_needCard wsX7_needCard) := goodIn_app (goodIn_of _ (by decide +kernel)) ggX7_letter_X7_needCard
theorem dX7_letter_0 : decode cX7_letter 0 = .ok (.aload_n 0, 1) := by decide +kernel
theorem dX7_letter_1 : decode cX7_letter 1 = .ok (.iload_n 1, 1) := by decide +kernel
theorem dX7_letter_2 : decode cX7_letter 2 = .ok (.invokevirtual 183, 3) := by decide +kernel
theorem dX7_letter_5 : decode cX7_letter 5 = .ok (.aload_n 0, 1) := by decide +kernel
theorem dX7_letter_6 : decode cX7_letter 6 = .ok (.getfield 10, 3) := by decide +kernel
theorem dX7_letter_9 : decode cX7_letter 9 = .ok (.getfield 186, 3) := by decide +kernel
theorem dX7_letter_12 : decode cX7_letter 12 = .ok (.iload_n 1, 1) := by decide +kernel
theorem dX7_letter_13 : decode cX7_letter 13 = .ok (.aaload, 1) := by decide +kernel
theorem dX7_letter_14 : decode cX7_letter 14 = .ok (.getfield 198, 3) := by decide +kernel
theorem dX7_letter_17 : decode cX7_letter 17 = .ok (.astore_n 3, 1) := by decide +kernel
theorem dX7_letter_18 : decode cX7_letter 18 = .ok (.iload_n 2, 1) := by decide +kernel
theorem dX7_letter_19 : decode cX7_letter 19 = .ok (.ifCond .lt 15, 3) := by decide +kernel
theorem dX7_letter_22 : decode cX7_letter 22 = .ok (.iload_n 2, 1) := by decide +kernel
theorem dX7_letter_23 : decode cX7_letter 23 = .ok (.aload_n 3, 1) := by decide +kernel
theorem dX7_letter_24 : decode cX7_letter 24 = .ok (.arraylength, 1) := by decide +kernel
theorem dX7_letter_25 : decode cX7_letter 25 = .ok (.if_icmp .ge 9, 3) := by decide +kernel
theorem dX7_letter_28 : decode cX7_letter 28 = .ok (.aload_n 3, 1) := by decide +kernel
theorem dX7_letter_29 : decode cX7_letter 29 = .ok (.iload_n 2, 1) := by decide +kernel
theorem dX7_letter_30 : decode cX7_letter 30 = .ok (.baload, 1) := by decide +kernel
theorem dX7_letter_31 : decode cX7_letter 31 = .ok (.goto 4, 3) := by decide +kernel
theorem dX7_letter_34 : decode cX7_letter 34 = .ok (.iconst (-1), 1) := by decide +kernel
theorem dX7_letter_35 : decode cX7_letter 35 = .ok (.ireturn, 1) := by decide +kernel
set_option maxRecDepth 20000 in
theorem ggX7_lot_X7_needLot : GoodIn wsX7_lot wsX7_needLot := goodIn_ca (goodIn_r _ [15, 16, 17, 3, 18, 31, 32, 33, 34, 35, 36, 37, 38, 39, 40, 41, 42, 43, 44, 45, 46, 47, 48, 49, 50, 51, 52, 53, 54, 55, 56, 57, 58, 59] (by decide +kernel) (by decide +kernel)) (goodIn_sub (fun _ h => List.mem_cons_of_mem _ (List.mem_append_right _ h)) (by decide +kernel))
set_option maxRecDepth 20000 in
theorem gX7_lot_X7_needLot : GoodIn wsX7_lot (wsV RX7 214 RX7 yX7_needLot wsX7_needLot) := goodIn_app (goodIn_of _ (by decide +kernel)) ggX7_lot_X7_needLot
set_option maxRecDepth 20000 in
theorem ggX7_lot_X4_nextCard : GoodIn wsX7_lot wsX4_nextCard := goodIn_r _ [23, 24, 25, 26, 27, 22, 28, 29, 30, 60, 61, 62, 63, 64, 65, 66, 67, 68, 69, 70, 71] (by decide +kernel) (by decide +kernel)
set_option maxRecDepth 20000 in
theorem gX7_lot_X4_nextCard : GoodIn wsX7_lot (wsV RX7 237 RX4 yX4_nextCard wsX4_nextCard) := goodIn_app (goodIn_of _ (by decide +kernel)) ggX7_lot_X4_nextCard
theorem dX7_lot_0 : decode cX7_lot 0 = .ok (.aload_n 0, 1) := by decide +kernel
theorem dX7_lot_1 : decode cX7_lot 1 = .ok (.iload_n 1, 1) := by decide +kernel
theorem dX7_lot_2 : decode cX7_lot 2 = .ok (.invokevirtual 214, 3) := by decide +kernel
theorem dX7_lot_5 : decode cX7_lot 5 = .ok (.aload_n 0, 1) := by decide +kernel
theorem dX7_lot_6 : decode cX7_lot 6 = .ok (.getfield 10, 3) := by decide +kernel
theorem dX7_lot_9 : decode cX7_lot 9 = .ok (.getfield 217, 3) := by decide +kernel
theorem dX7_lot_12 : decode cX7_lot 12 = .ok (.iload_n 1, 1) := by decide +kernel
theorem dX7_lot_13 : decode cX7_lot 13 = .ok (.aaload, 1) := by decide +kernel
theorem dX7_lot_14 : decode cX7_lot 14 = .ok (.astore_n 3, 1) := by decide +kernel
theorem dX7_lot_15 : decode cX7_lot 15 = .ok (.iload_n 2, 1) := by decide +kernel
theorem dX7_lot_16 : decode cX7_lot 16 = .ok (.tableswitch 79 0 6 #[44, 49, 54, 59, 64, 69, 74], 44) := by decide +kernel
theorem dX7_lot_60 : decode cX7_lot 60 = .ok (.aload_n 3, 1) := by decide +kernel
theorem dX7_lot_61 : decode cX7_lot 61 = .ok (.getfield 221, 3) := by decide +kernel
theorem dX7_lot_64 : decode cX7_lot 64 = .ok (.ireturn, 1) := by decide +kernel
theorem dX7_lot_65 : decode cX7_lot 65 = .ok (.aload_n 3, 1) := by decide +kernel
theorem dX7_lot_66 : decode cX7_lot 66 = .ok (.getfield 226, 3) := by decide +kernel
theorem dX7_lot_69 : decode cX7_lot 69 = .ok (.ireturn, 1) := by decide +kernel
theorem dX7_lot_70 : decode cX7_lot 70 = .ok (.aload_n 3, 1) := by decide +kernel
theorem dX7_lot_71 : decode cX7_lot 71 = .ok (.getfield 229, 3) := by decide +kernel
theorem dX7_lot_74 : decode cX7_lot 74 = .ok (.ireturn, 1) := by decide +kernel
theorem dX7_lot_75 : decode cX7_lot 75 = .ok (.aload_n 3, 1) := by decide +kernel
theorem dX7_lot_76 : decode cX7_lot 76 = .ok (.getfield 232, 3) := by decide +kernel
theorem dX7_lot_79 : decode cX7_lot 79 = .ok (.ireturn, 1) := by decide +kernel
theorem dX7_lot_80 : decode cX7_lot 80 = .ok (.aload_n 3, 1) := by decide +kernel
theorem dX7_lot_81 : decode cX7_lot 81 = .ok (.getfield 235, 3) := by decide +kernel
theorem dX7_lot_84 : decode cX7_lot 84 = .ok (.ireturn, 1) := by decide +kernel
theorem dX7_lot_85 : decode cX7_lot 85 = .ok (.aload_n 3, 1) := by decide +kernel
theorem dX7_lot_86 : decode cX7_lot 86 = .ok (.getfield 236, 3) := by decide +kernel
theorem dX7_lot_89 : decode cX7_lot 89 = .ok (.ireturn, 1) := by decide +kernel
theorem dX7_lot_90 : decode cX7_lot 90 = .ok (.aload_n 3, 1) := by decide +kernel
theorem dX7_lot_91 : decode cX7_lot 91 = .ok (.invokevirtual 237, 3) := by decide +kernel
theorem dX7_lot_94 : decode cX7_lot 94 = .ok (.ireturn, 1) := by decide +kernel
theorem dX7_lot_95 : decode cX7_lot 95 = .ok (.new 105, 3) := by decide +kernel
theorem dX7_lot_98 : decode cX7_lot 98 = .ok (.dup, 1) := by decide +kernel
theorem dX7_lot_99 : decode cX7_lot 99 = .ok (.ldc 116, 2) := by decide +kernel
theorem dX7_lot_101 : decode cX7_lot 101 = .ok (.invokespecial 109, 3) := by decide +kernel
theorem dX7_lot_104 : decode cX7_lot 104 = .ok (.athrow, 1) := by decide +kernel
set_option maxRecDepth 20000 in
theorem ggX7_cardOf_X7_needLot : GoodIn wsX7_cardOf wsX7_needLot := goodIn_ca (goodIn_r _ [7, 8, 9, 1, 10, 18, 19, 20, 21, 22, 23, 24, 25, 26, 27, 28, 29, 30, 31, 32, 33, 34, 35, 36, 37, 38, 39, 40, 41, 42, 43, 44, 45, 46] (by decide +kernel) (by decide +kernel)) (goodIn_sub (fun _ h => List.mem_cons_of_mem _ (List.mem_append_right _ h)) (by decide +kernel))
set_option maxRecDepth 20000 in
theorem gX7_cardOf_X7_needLot : GoodIn wsX7_cardOf (wsV RX7 214 RX7 yX7_needLot wsX7_needLot) := goodIn_app (goodIn_of _ (by decide +kernel)) ggX7_cardOf_X7_needLot
set_option maxRecDepth 20000 in
theorem ggX7_cardOf_X4_cardAt : GoodIn wsX7_cardOf wsX4_cardAt := goodIn_r _ [15, 16, 17, 47, 48, 49, 50, 51, 52, 53, 54, 55, 56, 57, 58] (by decide +kernel) (by decide +kernel)
set_option maxRecDepth 20000 in
theorem gX7_cardOf_X4_cardAt : GoodIn wsX7_cardOf (wsV RX7 241 RX4 yX4_cardAt wsX4_cardAt) := goodIn_app (goodIn_of _ (by decide +kernel)) ggX7_cardOf_X4_cardAt
theorem dX7_cardOf_0 : decode cX7_cardOf 0 = .ok (.aload_n 0, 1) := by decide +kernel
theorem dX7_cardOf_1 : decode cX7_cardOf 1 = .ok (.iload_n 1, 1) := by decide +kernel
theorem dX7_cardOf_2 : decode cX7_cardOf 2 = .ok (.invokevirtual 214, 3) := by decide +kernel
theorem dX7_cardOf_5 : decode cX7_cardOf 5 = .ok (.aload_n 0, 1) := by decide +kernel
theorem dX7_cardOf_6 : decode cX7_cardOf 6 = .ok (.getfield 10, 3) := by decide +kernel
theorem dX7_cardOf_9 : decode cX7_cardOf 9 = .ok (.getfield 217, 3) := by decide +kernel
theorem dX7_cardOf_12 : decode cX7_cardOf 12 = .ok (.iload_n 1, 1) := by decide +kernel
theorem dX7_cardOf_13 : decode cX7_cardOf 13 = .ok (.aaload, 1) := by decide +kernel
theorem dX7_cardOf_14 : decode cX7_cardOf 14 = .ok (.iload_n 2, 1) := by decide +kernel
theorem dX7_cardOf_15 : decode cX7_cardOf 15 = .ok (.invokevirtual 241, 3) := by decide +kernel
theorem dX7_cardOf_18 : decode cX7_cardOf 18 = .ok (.ireturn, 1) := by decide +kernel
theorem dX7_trayAt_0 : decode cX7_trayAt 0 = .ok (.iconst 0, 1) := by decide +kernel
theorem dX7_trayAt_1 : decode cX7_trayAt 1 = .ok (.istore_n 2, 1) := by decide +kernel
theorem dX7_trayAt_2 : decode cX7_trayAt 2 = .ok (.iconst 0, 1) := by decide +kernel
theorem dX7_trayAt_3 : decode cX7_trayAt 3 = .ok (.istore_n 3, 1) := by decide +kernel
theorem dX7_trayAt_4 : decode cX7_trayAt 4 = .ok (.iload_n 3, 1) := by decide +kernel
theorem dX7_trayAt_5 : decode cX7_trayAt 5 = .ok (.aload_n 0, 1) := by decide +kernel
theorem dX7_trayAt_6 : decode cX7_trayAt 6 = .ok (.getfield 10, 3) := by decide +kernel
theorem dX7_trayAt_9 : decode cX7_trayAt 9 = .ok (.getfield 95, 3) := by decide +kernel
theorem dX7_trayAt_12 : decode cX7_trayAt 12 = .ok (.if_icmp .ge 35, 3) := by decide +kernel
theorem dX7_trayAt_15 : decode cX7_trayAt 15 = .ok (.aload_n 0, 1) := by decide +kernel
theorem dX7_trayAt_16 : decode cX7_trayAt 16 = .ok (.getfield 10, 3) := by decide +kernel
theorem dX7_trayAt_19 : decode cX7_trayAt 19 = .ok (.getfield 186, 3) := by decide +kernel
theorem dX7_trayAt_22 : decode cX7_trayAt 22 = .ok (.iload_n 3, 1) := by decide +kernel
theorem dX7_trayAt_23 : decode cX7_trayAt 23 = .ok (.aaload, 1) := by decide +kernel
theorem dX7_trayAt_24 : decode cX7_trayAt 24 = .ok (.getfield 201, 3) := by decide +kernel
theorem dX7_trayAt_27 : decode cX7_trayAt 27 = .ok (.iconst 2, 1) := by decide +kernel
theorem dX7_trayAt_28 : decode cX7_trayAt 28 = .ok (.if_icmp .ne 13, 3) := by decide +kernel
theorem dX7_trayAt_31 : decode cX7_trayAt 31 = .ok (.iload_n 2, 1) := by decide +kernel
theorem dX7_trayAt_32 : decode cX7_trayAt 32 = .ok (.iload_n 1, 1) := by decide +kernel
theorem dX7_trayAt_33 : decode cX7_trayAt 33 = .ok (.if_icmp .ne 5, 3) := by decide +kernel
theorem dX7_trayAt_36 : decode cX7_trayAt 36 = .ok (.iload_n 3, 1) := by decide +kernel
theorem dX7_trayAt_37 : decode cX7_trayAt 37 = .ok (.ireturn, 1) := by decide +kernel
theorem dX7_trayAt_38 : decode cX7_trayAt 38 = .ok (.iinc 2 1, 3) := by decide +kernel
theorem dX7_trayAt_41 : decode cX7_trayAt 41 = .ok (.iinc 3 1, 3) := by decide +kernel
theorem dX7_trayAt_44 : decode cX7_trayAt 44 = .ok (.goto (-40), 3) := by decide +kernel
theorem dX7_trayAt_47 : decode cX7_trayAt 47 = .ok (.iconst (-1), 1) := by decide +kernel
theorem dX7_trayAt_48 : decode cX7_trayAt 48 = .ok (.ireturn, 1) := by decide +kernel
theorem dX7_leftAt_0 : decode cX7_leftAt 0 = .ok (.iload_n 1, 1) := by decide +kernel
theorem dX7_leftAt_1 : decode cX7_leftAt 1 = .ok (.ifCond .lt 28, 3) := by decide +kernel
theorem dX7_leftAt_4 : decode cX7_leftAt 4 = .ok (.iload_n 1, 1) := by decide +kernel
theorem dX7_leftAt_5 : decode cX7_leftAt 5 = .ok (.aload_n 0, 1) := by decide +kernel
theorem dX7_leftAt_6 : decode cX7_leftAt 6 = .ok (.getfield 10, 3) := by decide +kernel
theorem dX7_leftAt_9 : decode cX7_leftAt 9 = .ok (.getfield 113, 3) := by decide +kernel
theorem dX7_leftAt_12 : decode cX7_leftAt 12 = .ok (.iconst 3, 1) := by decide +kernel
theorem dX7_leftAt_13 : decode cX7_leftAt 13 = .ok (.iaload, 1) := by decide +kernel
theorem dX7_leftAt_14 : decode cX7_leftAt 14 = .ok (.if_icmp .ge 15, 3) := by decide +kernel
theorem dX7_leftAt_17 : decode cX7_leftAt 17 = .ok (.aload_n 0, 1) := by decide +kernel
theorem dX7_leftAt_18 : decode cX7_leftAt 18 = .ok (.getfield 10, 3) := by decide +kernel
theorem dX7_leftAt_21 : decode cX7_leftAt 21 = .ok (.getfield 245, 3) := by decide +kernel
theorem dX7_leftAt_24 : decode cX7_leftAt 24 = .ok (.iload_n 1, 1) := by decide +kernel
theorem dX7_leftAt_25 : decode cX7_leftAt 25 = .ok (.iaload, 1) := by decide +kernel
theorem dX7_leftAt_26 : decode cX7_leftAt 26 = .ok (.goto 4, 3) := by decide +kernel
theorem dX7_leftAt_29 : decode cX7_leftAt 29 = .ok (.iconst (-1), 1) := by decide +kernel
theorem dX7_leftAt_30 : decode cX7_leftAt 30 = .ok (.ireturn, 1) := by decide +kernel
set_option maxRecDepth 20000 in
theorem ggX7_nextFed_X3_nextWaiting : GoodIn wsX7_nextFed wsX3_nextWaiting := goodIn_r _ [6, 7, 8, 9, 10, 11, 12, 13, 14, 15, 28, 29, 30, 31, 32, 33, 34, 35, 36, 37, 38, 39, 40, 41, 42, 43, 44, 45, 46, 47, 48, 49, 50, 51, 52, 53, 54, 55, 56, 57, 58, 59, 60, 61, 62, 63, 64, 65] (by decide +kernel) (by decide +kernel)
set_option maxRecDepth 20000 in
theorem gX7_nextFed_X3_nextWaiting : GoodIn wsX7_nextFed (wsV RX7 248 RX3 yX3_nextWaiting wsX3_nextWaiting) := goodIn_app (goodIn_of _ (by decide +kernel)) ggX7_nextFed_X3_nextWaiting
theorem dX7_nextFed_0 : decode cX7_nextFed 0 = .ok (.aload_n 0, 1) := by decide +kernel
theorem dX7_nextFed_1 : decode cX7_nextFed 1 = .ok (.getfield 10, 3) := by decide +kernel
theorem dX7_nextFed_4 : decode cX7_nextFed 4 = .ok (.invokevirtual 248, 3) := by decide +kernel
theorem dX7_nextFed_7 : decode cX7_nextFed 7 = .ok (.ireturn, 1) := by decide +kernel
set_option maxRecDepth 20000 in
theorem ggX7_steps_X7_needCard : GoodIn wsX7_steps wsX7_needCard := goodIn_ca (goodIn_r _ [8, 9, 10, 1, 11, 20, 21, 22, 23, 24, 25, 26, 27, 28, 29, 30, 31, 32, 33, 34, 35, 36, 37, 38, 39, 40, 41, 42, 43, 44, 45, 46, 47, 48] (by decide +kernel) (by decide +kernel)) (goodIn_sub (fun _ h => List.mem_cons_of_mem _ (List.mem_append_left _ (List.mem_append_right _ h))) (by decide +kernel))
set_option maxRecDepth 20000 in
theorem gX7_steps_X7_needCard : GoodIn wsX7_steps (wsV RX7 183 RX7 yX7_needCard wsX7_needCard) := goodIn_app (goodIn_of _ (by decide +kernel)) ggX7_steps_X7_needCard
set_option maxRecDepth 20000 in
theorem ggX7_steps_X7_needRange : GoodIn wsX7_steps wsX7_needRange := goodIn_ca (goodIn_r _ [14, 15, 16] (by decide +kernel) (by decide +kernel)) (goodIn_sub (fun _ h => List.mem_cons_of_mem _ (List.mem_append_right _ h)) (by decide +kernel))
set_option maxRecDepth 20000 in
theorem gX7_steps_X7_needRange : GoodIn wsX7_steps (va_wsS RX7 251 yX7_needRange wsX7_needRange) := goodIn_app (goodIn_of _ (by decide +kernel)) ggX7_steps_X7_needRange
set_option maxRecDepth 20000 in
theorem ggX7_steps_X7_stepsOf : GoodIn wsX7_steps wsX7_stepsOf := goodIn_r _ [19] (by decide +kernel) (by decide +kernel)
set_option maxRecDepth 20000 in
theorem gX7_steps_X7_stepsOf : GoodIn wsX7_steps (va_wsS RX7 255 yX7_stepsOf wsX7_stepsOf) := goodIn_app (goodIn_of _ (by decide +kernel)) ggX7_steps_X7_stepsOf
theorem dX7_steps_0 : decode cX7_steps 0 = .ok (.aload_n 0, 1) := by decide +kernel
theorem dX7_steps_1 : decode cX7_steps 1 = .ok (.iload_n 1, 1) := by decide +kernel
theorem dX7_steps_2 : decode cX7_steps 2 = .ok (.invokevirtual 183, 3) := by decide +kernel
theorem dX7_steps_5 : decode cX7_steps 5 = .ok (.iload_n 2, 1) := by decide +kernel
theorem dX7_steps_6 : decode cX7_steps 6 = .ok (.iconst 0, 1) := by decide +kernel
theorem dX7_steps_7 : decode cX7_steps 7 = .ok (.bipush 25, 2) := by decide +kernel
theorem dX7_steps_9 : decode cX7_steps 9 = .ok (.invokestatic 251, 3) := by decide +kernel
theorem dX7_steps_12 : decode cX7_steps 12 = .ok (.aload_n 0, 1) := by decide +kernel
theorem dX7_steps_13 : decode cX7_steps 13 = .ok (.getfield 10, 3) := by decide +kernel
theorem dX7_steps_16 : decode cX7_steps 16 = .ok (.getfield 186, 3) := by decide +kernel
theorem dX7_steps_19 : decode cX7_steps 19 = .ok (.iload_n 1, 1) := by decide +kernel
theorem dX7_steps_20 : decode cX7_steps 20 = .ok (.aaload, 1) := by decide +kernel
theorem dX7_steps_21 : decode cX7_steps 21 = .ok (.getfield 198, 3) := by decide +kernel
theorem dX7_steps_24 : decode cX7_steps 24 = .ok (.iload_n 2, 1) := by decide +kernel
theorem dX7_steps_25 : decode cX7_steps 25 = .ok (.invokestatic 255, 3) := by decide +kernel
theorem dX7_steps_28 : decode cX7_steps 28 = .ok (.ireturn, 1) := by decide +kernel
set_option maxRecDepth 20000 in
theorem ggX7_ticksFor_X7_needStation : GoodIn wsX7_ticksFor wsX7_needStation := goodIn_ca (goodIn_r _ [9, 10, 11, 1, 12, 36, 37, 38, 39, 40, 41, 42, 43, 44, 45, 46, 47, 48, 49, 50, 51, 52, 53, 54, 55, 56, 57, 58, 59, 60, 61, 62, 63, 64] (by decide +kernel) (by decide +kernel)) (goodIn_sub (fun _ h => List.mem_cons_of_mem _ (List.mem_append_right _ h)) (by decide +kernel))
set_option maxRecDepth 20000 in
theorem gX7_ticksFor_X7_needStation : GoodIn wsX7_ticksFor (wsV RX7 133 RX7 yX7_needStation wsX7_needStation) := goodIn_app (goodIn_of _ (by decide +kernel)) ggX7_ticksFor_X7_needStation
set_option maxRecDepth 20000 in
theorem ggX7_ticksFor_X7_needCard : GoodIn wsX7_ticksFor wsX7_needCard := goodIn_ca (goodIn_r _ [16, 10, 11, 1, 17, 36, 37, 38, 39, 40, 41, 42, 43, 44, 45, 46, 47, 48, 49, 50, 51, 52, 53, 54, 55, 56, 57, 58, 59, 60, 61, 62, 63, 64] (by decide +kernel) (by decide +kernel)) (goodIn_sub (fun _ h => List.mem_cons_of_mem _ (List.mem_append_right _ h)) (by decide +kernel))
set_option maxRecDepth 20000 in
theorem gX7_ticksFor_X7_needCard : GoodIn wsX7_ticksFor (wsV RX7 183 RX7 yX7_needCard wsX7_needCard) := goodIn_app (goodIn_of _ (by decide +kernel)) ggX7_ticksFor_X7_needCard
set_option maxRecDepth 20000 in
theorem ggX7_ticksFor_X6_ticksOf : GoodIn wsX7_ticksFor wsX6_ticksOf := goodIn_r _ [22, 23, 24, 25, 21, 26, 27, 28, 29, 8, 30, 31, 32, 33, 34, 35, 74, 75, 76, 77, 78, 79, 80, 81, 82, 83, 84, 85, 86, 87, 88] (by decide +kernel) (by decide +kernel)
set_option maxRecDepth 20000 in
theorem gX7_ticksFor_X6_ticksOf : GoodIn wsX7_ticksFor (wsV RX7 259 RX6 yX6_ticksOf wsX6_ticksOf) := goodIn_app (goodIn_of _ (by decide +kernel)) ggX7_ticksFor_X6_ticksOf
theorem dX7_ticksFor_0 : decode cX7_ticksFor 0 = .ok (.aload_n 0, 1) := by decide +kernel
theorem dX7_ticksFor_1 : decode cX7_ticksFor 1 = .ok (.iload_n 1, 1) := by decide +kernel
theorem dX7_ticksFor_2 : decode cX7_ticksFor 2 = .ok (.invokevirtual 133, 3) := by decide +kernel
theorem dX7_ticksFor_5 : decode cX7_ticksFor 5 = .ok (.aload_n 0, 1) := by decide +kernel
theorem dX7_ticksFor_6 : decode cX7_ticksFor 6 = .ok (.iload_n 2, 1) := by decide +kernel
theorem dX7_ticksFor_7 : decode cX7_ticksFor 7 = .ok (.invokevirtual 183, 3) := by decide +kernel
theorem dX7_ticksFor_10 : decode cX7_ticksFor 10 = .ok (.aload_n 0, 1) := by decide +kernel
theorem dX7_ticksFor_11 : decode cX7_ticksFor 11 = .ok (.getfield 10, 3) := by decide +kernel
theorem dX7_ticksFor_14 : decode cX7_ticksFor 14 = .ok (.getfield 137, 3) := by decide +kernel
theorem dX7_ticksFor_17 : decode cX7_ticksFor 17 = .ok (.iload_n 1, 1) := by decide +kernel
theorem dX7_ticksFor_18 : decode cX7_ticksFor 18 = .ok (.aaload, 1) := by decide +kernel
theorem dX7_ticksFor_19 : decode cX7_ticksFor 19 = .ok (.aload_n 0, 1) := by decide +kernel
theorem dX7_ticksFor_20 : decode cX7_ticksFor 20 = .ok (.getfield 10, 3) := by decide +kernel
theorem dX7_ticksFor_23 : decode cX7_ticksFor 23 = .ok (.getfield 186, 3) := by decide +kernel
theorem dX7_ticksFor_26 : decode cX7_ticksFor 26 = .ok (.iload_n 2, 1) := by decide +kernel
theorem dX7_ticksFor_27 : decode cX7_ticksFor 27 = .ok (.aaload, 1) := by decide +kernel
theorem dX7_ticksFor_28 : decode cX7_ticksFor 28 = .ok (.getfield 198, 3) := by decide +kernel
theorem dX7_ticksFor_31 : decode cX7_ticksFor 31 = .ok (.invokevirtual 259, 3) := by decide +kernel
theorem dX7_ticksFor_34 : decode cX7_ticksFor 34 = .ok (.ireturn, 1) := by decide +kernel
theorem dX7_stepsOf_0 : decode cX7_stepsOf 0 = .ok (.iconst 0, 1) := by decide +kernel
theorem dX7_stepsOf_1 : decode cX7_stepsOf 1 = .ok (.istore_n 2, 1) := by decide +kernel
theorem dX7_stepsOf_2 : decode cX7_stepsOf 2 = .ok (.iload_n 1, 1) := by decide +kernel
theorem dX7_stepsOf_3 : decode cX7_stepsOf 3 = .ok (.istore_n 3, 1) := by decide +kernel
theorem dX7_stepsOf_4 : decode cX7_stepsOf 4 = .ok (.iconst 0, 1) := by decide +kernel
theorem dX7_stepsOf_5 : decode cX7_stepsOf 5 = .ok (.istore 4, 2) := by decide +kernel
theorem dX7_stepsOf_7 : decode cX7_stepsOf 7 = .ok (.iload 4, 2) := by decide +kernel
theorem dX7_stepsOf_9 : decode cX7_stepsOf 9 = .ok (.aload_n 0, 1) := by decide +kernel
theorem dX7_stepsOf_10 : decode cX7_stepsOf 10 = .ok (.arraylength, 1) := by decide +kernel
theorem dX7_stepsOf_11 : decode cX7_stepsOf 11 = .ok (.if_icmp .ge 62, 3) := by decide +kernel
theorem dX7_stepsOf_14 : decode cX7_stepsOf 14 = .ok (.aload_n 0, 1) := by decide +kernel
theorem dX7_stepsOf_15 : decode cX7_stepsOf 15 = .ok (.iload 4, 2) := by decide +kernel
theorem dX7_stepsOf_17 : decode cX7_stepsOf 17 = .ok (.baload, 1) := by decide +kernel
theorem dX7_stepsOf_18 : decode cX7_stepsOf 18 = .ok (.iload_n 3, 1) := by decide +kernel
theorem dX7_stepsOf_19 : decode cX7_stepsOf 19 = .ok (.if_icmp .ge 12, 3) := by decide +kernel
theorem dX7_stepsOf_22 : decode cX7_stepsOf 22 = .ok (.iload_n 3, 1) := by decide +kernel
theorem dX7_stepsOf_23 : decode cX7_stepsOf 23 = .ok (.aload_n 0, 1) := by decide +kernel
theorem dX7_stepsOf_24 : decode cX7_stepsOf 24 = .ok (.iload 4, 2) := by decide +kernel
theorem dX7_stepsOf_26 : decode cX7_stepsOf 26 = .ok (.baload, 1) := by decide +kernel
theorem dX7_stepsOf_27 : decode cX7_stepsOf 27 = .ok (.isub, 1) := by decide +kernel
theorem dX7_stepsOf_28 : decode cX7_stepsOf 28 = .ok (.goto 9, 3) := by decide +kernel
theorem dX7_stepsOf_31 : decode cX7_stepsOf 31 = .ok (.aload_n 0, 1) := by decide +kernel
theorem dX7_stepsOf_32 : decode cX7_stepsOf 32 = .ok (.iload 4, 2) := by decide +kernel
theorem dX7_stepsOf_34 : decode cX7_stepsOf 34 = .ok (.baload, 1) := by decide +kernel
theorem dX7_stepsOf_35 : decode cX7_stepsOf 35 = .ok (.iload_n 3, 1) := by decide +kernel
theorem dX7_stepsOf_36 : decode cX7_stepsOf 36 = .ok (.isub, 1) := by decide +kernel
theorem dX7_stepsOf_37 : decode cX7_stepsOf 37 = .ok (.istore 5, 2) := by decide +kernel
theorem dX7_stepsOf_39 : decode cX7_stepsOf 39 = .ok (.iload_n 2, 1) := by decide +kernel
theorem dX7_stepsOf_40 : decode cX7_stepsOf 40 = .ok (.iload 5, 2) := by decide +kernel
theorem dX7_stepsOf_42 : decode cX7_stepsOf 42 = .ok (.bipush 26, 2) := by decide +kernel
theorem dX7_stepsOf_44 : decode cX7_stepsOf 44 = .ok (.iload 5, 2) := by decide +kernel
theorem dX7_stepsOf_46 : decode cX7_stepsOf 46 = .ok (.isub, 1) := by decide +kernel
theorem dX7_stepsOf_47 : decode cX7_stepsOf 47 = .ok (.if_icmp .le 11, 3) := by decide +kernel
theorem dX7_stepsOf_50 : decode cX7_stepsOf 50 = .ok (.bipush 26, 2) := by decide +kernel
theorem dX7_stepsOf_52 : decode cX7_stepsOf 52 = .ok (.iload 5, 2) := by decide +kernel
theorem dX7_stepsOf_54 : decode cX7_stepsOf 54 = .ok (.isub, 1) := by decide +kernel
theorem dX7_stepsOf_55 : decode cX7_stepsOf 55 = .ok (.goto 5, 3) := by decide +kernel
theorem dX7_stepsOf_58 : decode cX7_stepsOf 58 = .ok (.iload 5, 2) := by decide +kernel
theorem dX7_stepsOf_60 : decode cX7_stepsOf 60 = .ok (.iadd, 1) := by decide +kernel
theorem dX7_stepsOf_61 : decode cX7_stepsOf 61 = .ok (.istore_n 2, 1) := by decide +kernel
theorem dX7_stepsOf_62 : decode cX7_stepsOf 62 = .ok (.aload_n 0, 1) := by decide +kernel
theorem dX7_stepsOf_63 : decode cX7_stepsOf 63 = .ok (.iload 4, 2) := by decide +kernel
theorem dX7_stepsOf_65 : decode cX7_stepsOf 65 = .ok (.baload, 1) := by decide +kernel
theorem dX7_stepsOf_66 : decode cX7_stepsOf 66 = .ok (.istore_n 3, 1) := by decide +kernel
theorem dX7_stepsOf_67 : decode cX7_stepsOf 67 = .ok (.iinc 4 1, 3) := by decide +kernel
theorem dX7_stepsOf_70 : decode cX7_stepsOf 70 = .ok (.goto (-63), 3) := by decide +kernel
theorem dX7_stepsOf_73 : decode cX7_stepsOf 73 = .ok (.iload_n 2, 1) := by decide +kernel
theorem dX7_stepsOf_74 : decode cX7_stepsOf 74 = .ok (.ireturn, 1) := by decide +kernel
theorem dX7_now_0 : decode cX7_now 0 = .ok (.aload_n 0, 1) := by decide +kernel
theorem dX7_now_1 : decode cX7_now 1 = .ok (.getfield 10, 3) := by decide +kernel
theorem dX7_now_4 : decode cX7_now 4 = .ok (.getfield 263, 3) := by decide +kernel
theorem dX7_now_7 : decode cX7_now 7 = .ok (.ireturn, 1) := by decide +kernel
set_option maxRecDepth 20000 in
theorem ggX7_day_X7_needLot : GoodIn wsX7_day wsX7_needLot := goodIn_ca (goodIn_r _ [11, 12, 13, 3, 14, 22, 23, 24, 25, 26, 27, 28, 29, 30, 31, 32, 33, 34, 35, 36, 37, 38, 39, 40, 41, 42, 43, 44, 45, 46, 47, 48, 49, 50] (by decide +kernel) (by decide +kernel)) (goodIn_sub (fun _ h => List.mem_cons_of_mem _ (List.mem_append_right _ h)) (by decide +kernel))
set_option maxRecDepth 20000 in
theorem gX7_day_X7_needLot : GoodIn wsX7_day (wsV RX7 214 RX7 yX7_needLot wsX7_needLot) := goodIn_app (goodIn_of _ (by decide +kernel)) ggX7_day_X7_needLot
set_option maxRecDepth 20000 in
theorem ggX7_day_X3_daysOver : GoodIn wsX7_day wsX3_daysOver := goodIn_r _ [19, 20, 21, 34, 35, 36, 37, 38, 39, 40, 41, 42, 43, 44, 45, 46, 47, 48, 49, 50] (by decide +kernel) (by decide +kernel)
set_option maxRecDepth 20000 in
theorem gX7_day_X3_daysOver : GoodIn wsX7_day (wsV RX7 268 RX3 yX3_daysOver wsX3_daysOver) := goodIn_app (goodIn_of _ (by decide +kernel)) ggX7_day_X3_daysOver
theorem dX7_day_0 : decode cX7_day 0 = .ok (.aload_n 0, 1) := by decide +kernel
theorem dX7_day_1 : decode cX7_day 1 = .ok (.iload_n 2, 1) := by decide +kernel
theorem dX7_day_2 : decode cX7_day 2 = .ok (.invokevirtual 214, 3) := by decide +kernel
theorem dX7_day_5 : decode cX7_day 5 = .ok (.iload_n 1, 1) := by decide +kernel
theorem dX7_day_6 : decode cX7_day 6 = .ok (.ifCond .lt 12, 3) := by decide +kernel
theorem dX7_day_9 : decode cX7_day 9 = .ok (.iload_n 3, 1) := by decide +kernel
theorem dX7_day_10 : decode cX7_day 10 = .ok (.ifCond .lt 8, 3) := by decide +kernel
theorem dX7_day_13 : decode cX7_day 13 = .ok (.iload_n 3, 1) := by decide +kernel
theorem dX7_day_14 : decode cX7_day 14 = .ok (.iconst 1, 1) := by decide +kernel
theorem dX7_day_15 : decode cX7_day 15 = .ok (.if_icmp .le 14, 3) := by decide +kernel
theorem dX7_day_18 : decode cX7_day 18 = .ok (.new 105, 3) := by decide +kernel
theorem dX7_day_21 : decode cX7_day 21 = .ok (.dup, 1) := by decide +kernel
theorem dX7_day_22 : decode cX7_day 22 = .ok (.ldc_w 266, 3) := by decide +kernel
theorem dX7_day_25 : decode cX7_day 25 = .ok (.invokespecial 109, 3) := by decide +kernel
theorem dX7_day_28 : decode cX7_day 28 = .ok (.athrow, 1) := by decide +kernel
theorem dX7_day_29 : decode cX7_day 29 = .ok (.aload_n 0, 1) := by decide +kernel
theorem dX7_day_30 : decode cX7_day 30 = .ok (.getfield 10, 3) := by decide +kernel
theorem dX7_day_33 : decode cX7_day 33 = .ok (.invokevirtual 268, 3) := by decide +kernel
theorem dX7_day_36 : decode cX7_day 36 = .ok (.istore 4, 2) := by decide +kernel
theorem dX7_day_38 : decode cX7_day 38 = .ok (.iload_n 1, 1) := by decide +kernel
theorem dX7_day_39 : decode cX7_day 39 = .ok (.bipush 10, 2) := by decide +kernel
theorem dX7_day_41 : decode cX7_day 41 = .ok (.if_icmp .ge 9, 3) := by decide +kernel
theorem dX7_day_44 : decode cX7_day 44 = .ok (.iload_n 1, 1) := by decide +kernel
theorem dX7_day_45 : decode cX7_day 45 = .ok (.iload 4, 2) := by decide +kernel
theorem dX7_day_47 : decode cX7_day 47 = .ok (.if_icmp .lt 5, 3) := by decide +kernel
theorem dX7_day_50 : decode cX7_day 50 = .ok (.iconst (-1), 1) := by decide +kernel
theorem dX7_day_51 : decode cX7_day 51 = .ok (.ireturn, 1) := by decide +kernel
theorem dX7_day_52 : decode cX7_day 52 = .ok (.iload 4, 2) := by decide +kernel
theorem dX7_day_54 : decode cX7_day 54 = .ok (.iconst 1, 1) := by decide +kernel
theorem dX7_day_55 : decode cX7_day 55 = .ok (.isub, 1) := by decide +kernel
theorem dX7_day_56 : decode cX7_day 56 = .ok (.iload_n 1, 1) := by decide +kernel
theorem dX7_day_57 : decode cX7_day 57 = .ok (.isub, 1) := by decide +kernel
theorem dX7_day_58 : decode cX7_day 58 = .ok (.bipush 10, 2) := by decide +kernel
theorem dX7_day_60 : decode cX7_day 60 = .ok (.irem, 1) := by decide +kernel
theorem dX7_day_61 : decode cX7_day 61 = .ok (.istore 5, 2) := by decide +kernel
theorem dX7_day_63 : decode cX7_day 63 = .ok (.iload_n 3, 1) := by decide +kernel
theorem dX7_day_64 : decode cX7_day 64 = .ok (.ifCond .ne 21, 3) := by decide +kernel
theorem dX7_day_67 : decode cX7_day 67 = .ok (.aload_n 0, 1) := by decide +kernel
theorem dX7_day_68 : decode cX7_day 68 = .ok (.getfield 10, 3) := by decide +kernel
theorem dX7_day_71 : decode cX7_day 71 = .ok (.getfield 217, 3) := by decide +kernel
theorem dX7_day_74 : decode cX7_day 74 = .ok (.iload_n 2, 1) := by decide +kernel
theorem dX7_day_75 : decode cX7_day 75 = .ok (.aaload, 1) := by decide +kernel
theorem dX7_day_76 : decode cX7_day 76 = .ok (.getfield 271, 3) := by decide +kernel
theorem dX7_day_79 : decode cX7_day 79 = .ok (.iload 5, 2) := by decide +kernel
theorem dX7_day_81 : decode cX7_day 81 = .ok (.iaload, 1) := by decide +kernel
theorem dX7_day_82 : decode cX7_day 82 = .ok (.goto 18, 3) := by decide +kernel
theorem dX7_day_85 : decode cX7_day 85 = .ok (.aload_n 0, 1) := by decide +kernel
theorem dX7_day_86 : decode cX7_day 86 = .ok (.getfield 10, 3) := by decide +kernel
theorem dX7_day_89 : decode cX7_day 89 = .ok (.getfield 217, 3) := by decide +kernel
theorem dX7_day_92 : decode cX7_day 92 = .ok (.iload_n 2, 1) := by decide +kernel
theorem dX7_day_93 : decode cX7_day 93 = .ok (.aaload, 1) := by decide +kernel
theorem dX7_day_94 : decode cX7_day 94 = .ok (.getfield 274, 3) := by decide +kernel
theorem dX7_day_97 : decode cX7_day 97 = .ok (.iload 5, 2) := by decide +kernel
theorem dX7_day_99 : decode cX7_day 99 = .ok (.iaload, 1) := by decide +kernel
theorem dX7_day_100 : decode cX7_day 100 = .ok (.ireturn, 1) := by decide +kernel
set_option maxRecDepth 20000 in
theorem ggX7_today_X7_needLot : GoodIn wsX7_today wsX7_needLot := goodIn_ca (goodIn_r _ [9, 10, 11, 1, 12, 18, 19, 20, 21, 22, 23, 24, 25, 26, 27, 28, 29, 30, 31, 32, 33, 34, 35, 36, 37, 38, 39, 40, 41, 42, 43, 44, 45, 46] (by decide +kernel) (by decide +kernel)) (goodIn_sub (fun _ h => List.mem_cons_of_mem _ (List.mem_append_left _ (List.mem_append_right _ h))) (by decide +kernel))
set_option maxRecDepth 20000 in
theorem gX7_today_X7_needLot : GoodIn wsX7_today (wsV RX7 214 RX7 yX7_needLot wsX7_needLot) := goodIn_app (goodIn_of _ (by decide +kernel)) ggX7_today_X7_needLot
set_option maxRecDepth 20000 in
theorem ggX7_today_X7_needRange : GoodIn wsX7_today wsX7_needRange := goodIn_ca (goodIn_r _ [15, 16, 17] (by decide +kernel) (by decide +kernel)) (goodIn_sub (fun _ h => List.mem_cons_of_mem _ (List.mem_append_right _ h)) (by decide +kernel))
set_option maxRecDepth 20000 in
theorem gX7_today_X7_needRange : GoodIn wsX7_today (va_wsS RX7 251 yX7_needRange wsX7_needRange) := goodIn_app (goodIn_of _ (by decide +kernel)) ggX7_today_X7_needRange
theorem dX7_today_0 : decode cX7_today 0 = .ok (.aload_n 0, 1) := by decide +kernel
theorem dX7_today_1 : decode cX7_today 1 = .ok (.iload_n 1, 1) := by decide +kernel
theorem dX7_today_2 : decode cX7_today 2 = .ok (.invokevirtual 214, 3) := by decide +kernel
theorem dX7_today_5 : decode cX7_today 5 = .ok (.iload_n 2, 1) := by decide +kernel
theorem dX7_today_6 : decode cX7_today 6 = .ok (.iconst 0, 1) := by decide +kernel
theorem dX7_today_7 : decode cX7_today 7 = .ok (.iconst 1, 1) := by decide +kernel
theorem dX7_today_8 : decode cX7_today 8 = .ok (.invokestatic 251, 3) := by decide +kernel
theorem dX7_today_11 : decode cX7_today 11 = .ok (.iload_n 2, 1) := by decide +kernel
theorem dX7_today_12 : decode cX7_today 12 = .ok (.ifCond .ne 18, 3) := by decide +kernel
theorem dX7_today_15 : decode cX7_today 15 = .ok (.aload_n 0, 1) := by decide +kernel
theorem dX7_today_16 : decode cX7_today 16 = .ok (.getfield 10, 3) := by decide +kernel
theorem dX7_today_19 : decode cX7_today 19 = .ok (.getfield 217, 3) := by decide +kernel
theorem dX7_today_22 : decode cX7_today 22 = .ok (.iload_n 1, 1) := by decide +kernel
theorem dX7_today_23 : decode cX7_today 23 = .ok (.aaload, 1) := by decide +kernel
theorem dX7_today_24 : decode cX7_today 24 = .ok (.getfield 277, 3) := by decide +kernel
theorem dX7_today_27 : decode cX7_today 27 = .ok (.goto 15, 3) := by decide +kernel
theorem dX7_today_30 : decode cX7_today 30 = .ok (.aload_n 0, 1) := by decide +kernel
theorem dX7_today_31 : decode cX7_today 31 = .ok (.getfield 10, 3) := by decide +kernel
theorem dX7_today_34 : decode cX7_today 34 = .ok (.getfield 217, 3) := by decide +kernel
theorem dX7_today_37 : decode cX7_today 37 = .ok (.iload_n 1, 1) := by decide +kernel
theorem dX7_today_38 : decode cX7_today 38 = .ok (.aaload, 1) := by decide +kernel
theorem dX7_today_39 : decode cX7_today 39 = .ok (.getfield 280, 3) := by decide +kernel
theorem dX7_today_42 : decode cX7_today 42 = .ok (.ireturn, 1) := by decide +kernel
set_option maxRecDepth 20000 in
theorem ggX7_total_X7_needRange : GoodIn wsX7_total wsX7_needRange := goodIn_ca (goodIn_r _ [6, 7, 8] (by decide +kernel) (by decide +kernel)) (goodIn_sub (fun _ h => List.mem_cons_of_mem _ (List.mem_append_right _ h)) (by decide +kernel))
set_option maxRecDepth 20000 in
theorem gX7_total_X7_needRange : GoodIn wsX7_total (va_wsS RX7 251 yX7_needRange wsX7_needRange) := goodIn_app (goodIn_of _ (by decide +kernel)) ggX7_total_X7_needRange
theorem dX7_total_0 : decode cX7_total 0 = .ok (.iload_n 1, 1) := by decide +kernel
theorem dX7_total_1 : decode cX7_total 1 = .ok (.iconst 0, 1) := by decide +kernel
theorem dX7_total_2 : decode cX7_total 2 = .ok (.iconst 4, 1) := by decide +kernel
theorem dX7_total_3 : decode cX7_total 3 = .ok (.invokestatic 251, 3) := by decide +kernel
theorem dX7_total_6 : decode cX7_total 6 = .ok (.aload_n 0, 1) := by decide +kernel
theorem dX7_total_7 : decode cX7_total 7 = .ok (.getfield 10, 3) := by decide +kernel
theorem dX7_total_10 : decode cX7_total 10 = .ok (.getfield 283, 3) := by decide +kernel
theorem dX7_total_13 : decode cX7_total 13 = .ok (.iload_n 1, 1) := by decide +kernel
theorem dX7_total_14 : decode cX7_total 14 = .ok (.iaload, 1) := by decide +kernel
theorem dX7_total_15 : decode cX7_total 15 = .ok (.ireturn, 1) := by decide +kernel
theorem dX7_yieldPart_0 : decode cX7_yieldPart 0 = .ok (.aload_n 0, 1) := by decide +kernel
theorem dX7_yieldPart_1 : decode cX7_yieldPart 1 = .ok (.getfield 10, 3) := by decide +kernel
theorem dX7_yieldPart_4 : decode cX7_yieldPart 4 = .ok (.getfield 283, 3) := by decide +kernel
theorem dX7_yieldPart_7 : decode cX7_yieldPart 7 = .ok (.iconst 0, 1) := by decide +kernel
theorem dX7_yieldPart_8 : decode cX7_yieldPart 8 = .ok (.iaload, 1) := by decide +kernel
theorem dX7_yieldPart_9 : decode cX7_yieldPart 9 = .ok (.istore_n 1, 1) := by decide +kernel
theorem dX7_yieldPart_10 : decode cX7_yieldPart 10 = .ok (.iload_n 1, 1) := by decide +kernel
theorem dX7_yieldPart_11 : decode cX7_yieldPart 11 = .ok (.ifCond .ne 7, 3) := by decide +kernel
theorem dX7_yieldPart_14 : decode cX7_yieldPart 14 = .ok (.dconst 0, 1) := by decide +kernel
theorem dX7_yieldPart_15 : decode cX7_yieldPart 15 = .ok (.goto 16, 3) := by decide +kernel
theorem dX7_yieldPart_18 : decode cX7_yieldPart 18 = .ok (.aload_n 0, 1) := by decide +kernel
theorem dX7_yieldPart_19 : decode cX7_yieldPart 19 = .ok (.getfield 10, 3) := by decide +kernel
theorem dX7_yieldPart_22 : decode cX7_yieldPart 22 = .ok (.getfield 113, 3) := by decide +kernel
theorem dX7_yieldPart_25 : decode cX7_yieldPart 25 = .ok (.iconst 3, 1) := by decide +kernel
theorem dX7_yieldPart_26 : decode cX7_yieldPart 26 = .ok (.iaload, 1) := by decide +kernel
theorem dX7_yieldPart_27 : decode cX7_yieldPart 27 = .ok (.i2d, 1) := by decide +kernel
theorem dX7_yieldPart_28 : decode cX7_yieldPart 28 = .ok (.iload_n 1, 1) := by decide +kernel
theorem dX7_yieldPart_29 : decode cX7_yieldPart 29 = .ok (.i2d, 1) := by decide +kernel
theorem dX7_yieldPart_30 : decode cX7_yieldPart 30 = .ok (.ddiv, 1) := by decide +kernel
theorem dX7_yieldPart_31 : decode cX7_yieldPart 31 = .ok (.dreturn, 1) := by decide +kernel
theorem dX7_meanFails_0 : decode cX7_meanFails 0 = .ok (.aload_n 0, 1) := by decide +kernel
theorem dX7_meanFails_1 : decode cX7_meanFails 1 = .ok (.getfield 10, 3) := by decide +kernel
theorem dX7_meanFails_4 : decode cX7_meanFails 4 = .ok (.getfield 95, 3) := by decide +kernel
theorem dX7_meanFails_7 : decode cX7_meanFails 7 = .ok (.istore_n 1, 1) := by decide +kernel
theorem dX7_meanFails_8 : decode cX7_meanFails 8 = .ok (.iload_n 1, 1) := by decide +kernel
theorem dX7_meanFails_9 : decode cX7_meanFails 9 = .ok (.ifCond .ne 7, 3) := by decide +kernel
theorem dX7_meanFails_12 : decode cX7_meanFails 12 = .ok (.fconst 0, 1) := by decide +kernel
theorem dX7_meanFails_13 : decode cX7_meanFails 13 = .ok (.goto 16, 3) := by decide +kernel
theorem dX7_meanFails_16 : decode cX7_meanFails 16 = .ok (.aload_n 0, 1) := by decide +kernel
theorem dX7_meanFails_17 : decode cX7_meanFails 17 = .ok (.getfield 10, 3) := by decide +kernel
theorem dX7_meanFails_20 : decode cX7_meanFails 20 = .ok (.getfield 283, 3) := by decide +kernel
theorem dX7_meanFails_23 : decode cX7_meanFails 23 = .ok (.iconst 1, 1) := by decide +kernel
theorem dX7_meanFails_24 : decode cX7_meanFails 24 = .ok (.iaload, 1) := by decide +kernel
theorem dX7_meanFails_25 : decode cX7_meanFails 25 = .ok (.i2f, 1) := by decide +kernel
theorem dX7_meanFails_26 : decode cX7_meanFails 26 = .ok (.iload_n 1, 1) := by decide +kernel
theorem dX7_meanFails_27 : decode cX7_meanFails 27 = .ok (.i2f, 1) := by decide +kernel
theorem dX7_meanFails_28 : decode cX7_meanFails 28 = .ok (.fdiv, 1) := by decide +kernel
theorem dX7_meanFails_29 : decode cX7_meanFails 29 = .ok (.freturn, 1) := by decide +kernel
set_option maxRecDepth 20000 in
theorem ggX7_busyPart_X7_needStation : GoodIn wsX7_busyPart wsX7_needStation := goodIn_ca (goodIn_r _ [9, 10, 11, 1, 12, 13, 14, 15, 16, 17, 18, 19, 20, 21, 22, 23, 24, 25, 26, 27, 28, 29, 30, 31, 32, 33, 34, 35, 36, 37, 38, 39, 40, 41] (by decide +kernel) (by decide +kernel)) (goodIn_sub (fun _ h => List.mem_cons_of_mem _ (List.mem_append_right _ h)) (by decide +kernel))
set_option maxRecDepth 20000 in
theorem gX7_busyPart_X7_needStation : GoodIn wsX7_busyPart (wsV RX7 133 RX7 yX7_needStation wsX7_needStation) := goodIn_app (goodIn_of _ (by decide +kernel)) ggX7_busyPart_X7_needStation
theorem dX7_busyPart_0 : decode cX7_busyPart 0 = .ok (.aload_n 0, 1) := by decide +kernel
theorem dX7_busyPart_1 : decode cX7_busyPart 1 = .ok (.iload_n 1, 1) := by decide +kernel
theorem dX7_busyPart_2 : decode cX7_busyPart 2 = .ok (.invokevirtual 133, 3) := by decide +kernel
theorem dX7_busyPart_5 : decode cX7_busyPart 5 = .ok (.aload_n 0, 1) := by decide +kernel
theorem dX7_busyPart_6 : decode cX7_busyPart 6 = .ok (.getfield 10, 3) := by decide +kernel
theorem dX7_busyPart_9 : decode cX7_busyPart 9 = .ok (.getfield 263, 3) := by decide +kernel
theorem dX7_busyPart_12 : decode cX7_busyPart 12 = .ok (.istore_n 2, 1) := by decide +kernel
theorem dX7_busyPart_13 : decode cX7_busyPart 13 = .ok (.iload_n 2, 1) := by decide +kernel
theorem dX7_busyPart_14 : decode cX7_busyPart 14 = .ok (.ifCond .ne 7, 3) := by decide +kernel
theorem dX7_busyPart_17 : decode cX7_busyPart 17 = .ok (.fconst 0, 1) := by decide +kernel
theorem dX7_busyPart_18 : decode cX7_busyPart 18 = .ok (.goto 19, 3) := by decide +kernel
theorem dX7_busyPart_21 : decode cX7_busyPart 21 = .ok (.aload_n 0, 1) := by decide +kernel
theorem dX7_busyPart_22 : decode cX7_busyPart 22 = .ok (.getfield 10, 3) := by decide +kernel
theorem dX7_busyPart_25 : decode cX7_busyPart 25 = .ok (.getfield 137, 3) := by decide +kernel
theorem dX7_busyPart_28 : decode cX7_busyPart 28 = .ok (.iload_n 1, 1) := by decide +kernel
theorem dX7_busyPart_29 : decode cX7_busyPart 29 = .ok (.aaload, 1) := by decide +kernel
theorem dX7_busyPart_30 : decode cX7_busyPart 30 = .ok (.getfield 180, 3) := by decide +kernel
theorem dX7_busyPart_33 : decode cX7_busyPart 33 = .ok (.i2f, 1) := by decide +kernel
theorem dX7_busyPart_34 : decode cX7_busyPart 34 = .ok (.iload_n 2, 1) := by decide +kernel
theorem dX7_busyPart_35 : decode cX7_busyPart 35 = .ok (.i2f, 1) := by decide +kernel
theorem dX7_busyPart_36 : decode cX7_busyPart 36 = .ok (.fdiv, 1) := by decide +kernel
theorem dX7_busyPart_37 : decode cX7_busyPart 37 = .ok (.freturn, 1) := by decide +kernel
set_option maxRecDepth 20000 in
theorem ggX7_bottleneck_X3_ticksToCome : GoodIn wsX7_bottleneck wsX3_ticksToCome := goodIn_r _ [7, 8, 9, 10, 11, 12, 13, 14, 15, 16, 17, 18, 19, 20, 21, 22, 23, 24, 25, 26, 27, 28, 29, 30, 31, 32, 33, 34, 35, 36, 49, 50, 51, 52, 53, 54, 55, 56, 57, 58, 59, 60, 61, 62, 63, 64, 65, 66, 67, 68, 69, 70, 71, 72, 73, 74, 75, 76, 77, 78, 79, 80, 81, 82, 83, 84, 85, 86, 87, 88, 89] (by decide +kernel) (by decide +kernel)
set_option maxRecDepth 20000 in
theorem gX7_bottleneck_X3_ticksToCome : GoodIn wsX7_bottleneck (wsV RX7 286 RX3 yX3_ticksToCome wsX3_ticksToCome) := goodIn_app (goodIn_of _ (by decide +kernel)) ggX7_bottleneck_X3_ticksToCome
theorem dX7_bottleneck_0 : decode cX7_bottleneck 0 = .ok (.iconst (-1), 1) := by decide +kernel
theorem dX7_bottleneck_1 : decode cX7_bottleneck 1 = .ok (.istore_n 1, 1) := by decide +kernel
theorem dX7_bottleneck_2 : decode cX7_bottleneck 2 = .ok (.iconst (-1), 1) := by decide +kernel
theorem dX7_bottleneck_3 : decode cX7_bottleneck 3 = .ok (.istore_n 2, 1) := by decide +kernel
theorem dX7_bottleneck_4 : decode cX7_bottleneck 4 = .ok (.iconst 0, 1) := by decide +kernel
theorem dX7_bottleneck_5 : decode cX7_bottleneck 5 = .ok (.istore_n 3, 1) := by decide +kernel
theorem dX7_bottleneck_6 : decode cX7_bottleneck 6 = .ok (.iload_n 3, 1) := by decide +kernel
theorem dX7_bottleneck_7 : decode cX7_bottleneck 7 = .ok (.aload_n 0, 1) := by decide +kernel
theorem dX7_bottleneck_8 : decode cX7_bottleneck 8 = .ok (.getfield 10, 3) := by decide +kernel
theorem dX7_bottleneck_11 : decode cX7_bottleneck 11 = .ok (.getfield 81, 3) := by decide +kernel
theorem dX7_bottleneck_14 : decode cX7_bottleneck 14 = .ok (.if_icmp .ge 30, 3) := by decide +kernel
theorem dX7_bottleneck_17 : decode cX7_bottleneck 17 = .ok (.aload_n 0, 1) := by decide +kernel
theorem dX7_bottleneck_18 : decode cX7_bottleneck 18 = .ok (.getfield 10, 3) := by decide +kernel
theorem dX7_bottleneck_21 : decode cX7_bottleneck 21 = .ok (.iload_n 3, 1) := by decide +kernel
theorem dX7_bottleneck_22 : decode cX7_bottleneck 22 = .ok (.invokevirtual 286, 3) := by decide +kernel
theorem dX7_bottleneck_25 : decode cX7_bottleneck 25 = .ok (.istore 4, 2) := by decide +kernel
theorem dX7_bottleneck_27 : decode cX7_bottleneck 27 = .ok (.iload 4, 2) := by decide +kernel
theorem dX7_bottleneck_29 : decode cX7_bottleneck 29 = .ok (.iload_n 2, 1) := by decide +kernel
theorem dX7_bottleneck_30 : decode cX7_bottleneck 30 = .ok (.if_icmp .le 8, 3) := by decide +kernel
theorem dX7_bottleneck_33 : decode cX7_bottleneck 33 = .ok (.iload 4, 2) := by decide +kernel
theorem dX7_bottleneck_35 : decode cX7_bottleneck 35 = .ok (.istore_n 2, 1) := by decide +kernel
theorem dX7_bottleneck_36 : decode cX7_bottleneck 36 = .ok (.iload_n 3, 1) := by decide +kernel
theorem dX7_bottleneck_37 : decode cX7_bottleneck 37 = .ok (.istore_n 1, 1) := by decide +kernel
theorem dX7_bottleneck_38 : decode cX7_bottleneck 38 = .ok (.iinc 3 1, 3) := by decide +kernel
theorem dX7_bottleneck_41 : decode cX7_bottleneck 41 = .ok (.goto (-35), 3) := by decide +kernel
theorem dX7_bottleneck_44 : decode cX7_bottleneck 44 = .ok (.iload_n 1, 1) := by decide +kernel
theorem dX7_bottleneck_45 : decode cX7_bottleneck 45 = .ok (.ireturn, 1) := by decide +kernel
set_option maxRecDepth 20000 in
theorem ggX7_remember_X3_init : GoodIn wsX7_remember wsX3_init := goodIn_r _ [10, 11, 12, 13, 14, 15, 16, 17, 18, 19, 20, 21, 22, 23, 24, 25, 26, 27, 28, 29, 30, 31, 32, 33, 34, 35, 36, 37, 38, 39, 40, 41, 42, 43, 44, 118, 119, 120, 121, 122, 123, 124, 125, 126, 127, 128, 129, 130, 131, 132, 133, 134, 135, 136, 137, 138, 139, 140, 141, 142, 143, 144, 145, 146, 147, 148, 149, 150, 151, 152, 153, 154, 155, 156, 157, 158, 159, 160, 161, 162, 163, 164, 165, 166, 167, 168, 169, 170] (by decide +kernel) (by decide +kernel)
set_option maxRecDepth 20000 in
theorem gX7_remember_X3_init : GoodIn wsX7_remember (wsX3_init) := ggX7_remember_X3_init
set_option maxRecDepth 20000 in
theorem ggX7_remember_X3_copyFrom : GoodIn wsX7_remember wsX3_copyFrom := goodIn_r _ [48, 14, 49, 50, 51, 52, 53, 54, 55, 56, 57, 16, 18, 20, 22, 58, 59, 60, 61, 23, 24, 62, 63, 64, 26, 65, 66, 67, 34, 68, 69, 70, 71, 72, 73, 74, 75, 76, 77, 78, 79, 80, 81, 82, 28, 83, 84, 85, 38, 86, 87, 88, 89, 90, 91, 92, 93, 39, 40, 94, 95, 96, 30, 97, 98, 99, 44, 100, 101, 102, 103, 104, 105, 118, 119, 120, 121, 122, 123, 124, 125, 126, 127, 128, 129, 130, 131, 132, 133, 134, 135, 136, 137, 138, 139, 140, 141, 142, 143, 144, 145, 146, 147, 148, 149, 150, 151, 152, 153, 154, 155, 156, 157, 158, 159, 160, 161, 162, 163, 164, 165, 166, 167, 168, 169, 170] (by decide +kernel) (by decide +kernel)
set_option maxRecDepth 20000 in
theorem gX7_remember_X3_copyFrom : GoodIn wsX7_remember (wsV RX7 78 RX3 yX3_copyFrom wsX3_copyFrom) := goodIn_app (goodIn_of _ (by decide +kernel)) ggX7_remember_X3_copyFrom
theorem dX7_remember_0 : decode cX7_remember 0 = .ok (.aload_n 0, 1) := by decide +kernel
theorem dX7_remember_1 : decode cX7_remember 1 = .ok (.getfield 54, 3) := by decide +kernel
theorem dX7_remember_4 : decode cX7_remember 4 = .ok (.bipush 8, 2) := by decide +kernel
theorem dX7_remember_6 : decode cX7_remember 6 = .ok (.if_icmp .ne 26, 3) := by decide +kernel
theorem dX7_remember_9 : decode cX7_remember 9 = .ok (.aload_n 0, 1) := by decide +kernel
theorem dX7_remember_10 : decode cX7_remember 10 = .ok (.aload_n 0, 1) := by decide +kernel
theorem dX7_remember_11 : decode cX7_remember 11 = .ok (.getfield 51, 3) := by decide +kernel
theorem dX7_remember_14 : decode cX7_remember 14 = .ok (.iconst 1, 1) := by decide +kernel
theorem dX7_remember_15 : decode cX7_remember 15 = .ok (.iadd, 1) := by decide +kernel
theorem dX7_remember_16 : decode cX7_remember 16 = .ok (.bipush 8, 2) := by decide +kernel
theorem dX7_remember_18 : decode cX7_remember 18 = .ok (.irem, 1) := by decide +kernel
theorem dX7_remember_19 : decode cX7_remember 19 = .ok (.putfield 51, 3) := by decide +kernel
theorem dX7_remember_22 : decode cX7_remember 22 = .ok (.aload_n 0, 1) := by decide +kernel
theorem dX7_remember_23 : decode cX7_remember 23 = .ok (.dup, 1) := by decide +kernel
theorem dX7_remember_24 : decode cX7_remember 24 = .ok (.getfield 54, 3) := by decide +kernel
theorem dX7_remember_27 : decode cX7_remember 27 = .ok (.iconst 1, 1) := by decide +kernel
theorem dX7_remember_28 : decode cX7_remember 28 = .ok (.isub, 1) := by decide +kernel
theorem dX7_remember_29 : decode cX7_remember 29 = .ok (.putfield 54, 3) := by decide +kernel
theorem dX7_remember_32 : decode cX7_remember 32 = .ok (.aload_n 0, 1) := by decide +kernel
theorem dX7_remember_33 : decode cX7_remember 33 = .ok (.getfield 51, 3) := by decide +kernel
theorem dX7_remember_36 : decode cX7_remember 36 = .ok (.aload_n 0, 1) := by decide +kernel
theorem dX7_remember_37 : decode cX7_remember 37 = .ok (.getfield 54, 3) := by decide +kernel
theorem dX7_remember_40 : decode cX7_remember 40 = .ok (.iadd, 1) := by decide +kernel
theorem dX7_remember_41 : decode cX7_remember 41 = .ok (.bipush 8, 2) := by decide +kernel
theorem dX7_remember_43 : decode cX7_remember 43 = .ok (.irem, 1) := by decide +kernel
theorem dX7_remember_44 : decode cX7_remember 44 = .ok (.istore_n 1, 1) := by decide +kernel
theorem dX7_remember_45 : decode cX7_remember 45 = .ok (.aload_n 0, 1) := by decide +kernel
theorem dX7_remember_46 : decode cX7_remember 46 = .ok (.getfield 30, 3) := by decide +kernel
theorem dX7_remember_49 : decode cX7_remember 49 = .ok (.iload_n 1, 1) := by decide +kernel
theorem dX7_remember_50 : decode cX7_remember 50 = .ok (.aaload, 1) := by decide +kernel
theorem dX7_remember_51 : decode cX7_remember 51 = .ok (.ifnonnull 16, 3) := by decide +kernel
theorem dX7_remember_54 : decode cX7_remember 54 = .ok (.aload_n 0, 1) := by decide +kernel
theorem dX7_remember_55 : decode cX7_remember 55 = .ok (.getfield 30, 3) := by decide +kernel
theorem dX7_remember_58 : decode cX7_remember 58 = .ok (.iload_n 1, 1) := by decide +kernel
theorem dX7_remember_59 : decode cX7_remember 59 = .ok (.new 7, 3) := by decide +kernel
theorem dX7_remember_62 : decode cX7_remember 62 = .ok (.dup, 1) := by decide +kernel
theorem dX7_remember_63 : decode cX7_remember 63 = .ok (.invokespecial 9, 3) := by decide +kernel
theorem dX7_remember_66 : decode cX7_remember 66 = .ok (.aastore, 1) := by decide +kernel
theorem dX7_remember_67 : decode cX7_remember 67 = .ok (.aload_n 0, 1) := by decide +kernel
theorem dX7_remember_68 : decode cX7_remember 68 = .ok (.getfield 30, 3) := by decide +kernel
theorem dX7_remember_71 : decode cX7_remember 71 = .ok (.iload_n 1, 1) := by decide +kernel
theorem dX7_remember_72 : decode cX7_remember 72 = .ok (.aaload, 1) := by decide +kernel
theorem dX7_remember_73 : decode cX7_remember 73 = .ok (.aload_n 0, 1) := by decide +kernel
theorem dX7_remember_74 : decode cX7_remember 74 = .ok (.getfield 10, 3) := by decide +kernel
theorem dX7_remember_77 : decode cX7_remember 77 = .ok (.invokevirtual 78, 3) := by decide +kernel
theorem dX7_remember_80 : decode cX7_remember 80 = .ok (.aload_n 0, 1) := by decide +kernel
theorem dX7_remember_81 : decode cX7_remember 81 = .ok (.dup, 1) := by decide +kernel
theorem dX7_remember_82 : decode cX7_remember 82 = .ok (.getfield 54, 3) := by decide +kernel
theorem dX7_remember_85 : decode cX7_remember 85 = .ok (.iconst 1, 1) := by decide +kernel
theorem dX7_remember_86 : decode cX7_remember 86 = .ok (.iadd, 1) := by decide +kernel
theorem dX7_remember_87 : decode cX7_remember 87 = .ok (.putfield 54, 3) := by decide +kernel
theorem dX7_remember_90 : decode cX7_remember 90 = .ok (.return_, 1) := by decide +kernel
theorem dX7_waits_0 : decode cX7_waits 0 = .ok (.aload_n 0, 1) := by decide +kernel
theorem dX7_waits_1 : decode cX7_waits 1 = .ok (.getfield 10, 3) := by decide +kernel
theorem dX7_waits_4 : decode cX7_waits 4 = .ok (.getfield 186, 3) := by decide +kernel
theorem dX7_waits_7 : decode cX7_waits 7 = .ok (.iload_n 1, 1) := by decide +kernel
theorem dX7_waits_8 : decode cX7_waits 8 = .ok (.aaload, 1) := by decide +kernel
theorem dX7_waits_9 : decode cX7_waits 9 = .ok (.getfield 201, 3) := by decide +kernel
theorem dX7_waits_12 : decode cX7_waits 12 = .ok (.ifCond .ne 7, 3) := by decide +kernel
theorem dX7_waits_15 : decode cX7_waits 15 = .ok (.iconst 1, 1) := by decide +kernel
theorem dX7_waits_16 : decode cX7_waits 16 = .ok (.goto 4, 3) := by decide +kernel
theorem dX7_waits_19 : decode cX7_waits 19 = .ok (.iconst 0, 1) := by decide +kernel
theorem dX7_waits_20 : decode cX7_waits 20 = .ok (.ireturn, 1) := by decide +kernel
set_option maxRecDepth 20000 in
theorem ggX7_order_X7_needLot : GoodIn wsX7_order wsX7_needLot := goodIn_ca (goodIn_r _ [10, 11, 12, 2, 13, 224, 225, 226, 227, 228, 229, 230, 231, 232, 233, 234, 235, 236, 237, 238, 239, 240, 241, 242, 243, 244, 245, 246, 247, 248, 249, 250, 251, 252] (by decide +kernel) (by decide +kernel)) (goodIn_sub (fun _ h => List.mem_cons_of_mem _ (List.mem_append_right _ h)) (by decide +kernel))
set_option maxRecDepth 20000 in
theorem gX7_order_X7_needLot : GoodIn wsX7_order (wsV RX7 214 RX7 yX7_needLot wsX7_needLot) := goodIn_app (goodIn_of _ (by decide +kernel)) ggX7_order_X7_needLot
set_option maxRecDepth 20000 in
theorem ggX7_order_X5_readOrder : GoodIn wsX7_order wsX5_readOrder := goodIn_r _ [18, 19, 20, 21, 22, 23, 17, 24, 25, 26, 27, 28, 29, 30, 31, 32, 33, 34, 35, 36, 37, 38, 39, 40, 41, 42, 43, 44, 45, 46, 47, 48, 49, 50, 51, 52, 53, 54, 55, 56, 57, 58, 59, 60, 61, 62, 63, 64, 65, 66, 67, 68, 69, 70, 71, 72, 73, 74, 75, 76, 77, 78, 79, 80, 81, 82, 83, 84, 253, 254, 255, 256, 257, 258, 259, 260, 261, 262, 263] (by decide +kernel) (by decide +kernel)
set_option maxRecDepth 20000 in
theorem gX7_order_X5_readOrder : GoodIn wsX7_order (wsV RX7 289 RX5 yX5_readOrder wsX5_readOrder) := goodIn_app (goodIn_of _ (by decide +kernel)) ggX7_order_X5_readOrder
set_option maxRecDepth 20000 in
theorem ggX7_order_X7_keepResult : GoodIn wsX7_order wsX7_keepResult := goodIn_r _ [88, 1, 89, 4, 90, 91, 224, 225, 226, 227, 228, 229, 230, 231, 232, 233, 234, 235, 253, 254, 255, 256, 257, 258, 259, 260, 261, 262, 263] (by decide +kernel) (by decide +kernel)
set_option maxRecDepth 20000 in
theorem gX7_order_X7_keepResult : GoodIn wsX7_order (wsV RX7 72 RX7 yX7_keepResult wsX7_keepResult) := goodIn_app (goodIn_of _ (by decide +kernel)) ggX7_order_X7_keepResult
set_option maxRecDepth 20000 in
theorem ggX7_order_X7_remember : GoodIn wsX7_order wsX7_remember := goodIn_r _ [95, 96, 97, 98, 99, 100, 101, 2, 102, 103, 104, 105, 106, 107, 108, 109, 110, 111, 112, 113, 114, 115, 116, 117, 118, 119, 120, 121, 122, 123, 124, 125, 126, 127, 128, 129, 130, 131, 132, 133, 134, 135, 136, 137, 138, 139, 140, 141, 142, 143, 144, 145, 146, 147, 148, 149, 150, 151, 152, 82, 83, 84, 153, 154, 155, 156, 157, 158, 159, 160, 161, 162, 163, 164, 165, 166, 167, 168, 169, 170, 171, 172, 173, 174, 175, 176, 177, 178, 179, 180, 181, 182, 183, 184, 185, 186, 187, 188, 189, 190, 191, 192, 193, 194, 195, 196, 224, 225, 226, 227, 228, 229, 230, 231, 232, 233, 234, 235, 236, 237, 238, 239, 240, 241, 242, 243, 244, 245, 246, 247, 248, 249, 250, 251, 252, 264, 265, 266, 267, 268, 269, 270, 271, 272, 273, 274, 275, 276, 277, 278, 279, 280, 281, 282, 283, 284, 285, 286, 287, 288, 289, 290, 291, 292, 293, 294, 295, 296, 297, 298, 299] (by decide +kernel) (by decide +kernel)
set_option maxRecDepth 20000 in
theorem gX7_order_X7_remember : GoodIn wsX7_order (wsV RX7 292 RX7 yX7_remember wsX7_remember) := goodIn_app (goodIn_of _ (by decide +kernel)) ggX7_order_X7_remember
set_option maxRecDepth 20000 in
theorem ggX7_order_X5_textRead : GoodIn wsX7_order wsX5_textRead := goodIn_r _ [200, 50, 32, 201, 202, 203, 204, 205, 206, 207, 208, 209, 210, 211, 212, 69, 70, 71, 213, 82, 83, 84, 253, 254, 255, 256, 257, 258, 259, 260, 261, 262, 263] (by decide +kernel) (by decide +kernel)
set_option maxRecDepth 20000 in
theorem gX7_order_X5_textRead : GoodIn wsX7_order (wsV RX7 295 RX5 yX5_textRead wsX5_textRead) := goodIn_app (goodIn_of _ (by decide +kernel)) ggX7_order_X5_textRead
set_option maxRecDepth 20000 in
theorem ggX7_order_X3_addCard : GoodIn wsX7_order wsX3_addCard := goodIn_r _ [217, 151, 114, 112, 218, 219, 116, 220, 221, 222, 124, 223, 189, 190, 138, 191, 192, 193, 194, 195, 196, 236, 237, 238, 239, 240, 241, 242, 243, 244, 245, 246, 247, 248, 249, 250, 251, 252, 279, 280, 281, 282, 283, 284, 285, 286, 287, 288, 289, 290, 291, 292, 293, 294, 295, 296, 297, 298, 299] (by decide +kernel) (by decide +kernel)
set_option maxRecDepth 20000 in
theorem gX7_order_X3_addCard : GoodIn wsX7_order (wsV RX7 299 RX3 yX3_addCard wsX3_addCard) := goodIn_app (goodIn_of _ (by decide +kernel)) ggX7_order_X3_addCard
theorem dX7_order_0 : decode cX7_order 0 = .ok (.aload_n 0, 1) := by decide +kernel
theorem dX7_order_1 : decode cX7_order 1 = .ok (.iload_n 1, 1) := by decide +kernel
theorem dX7_order_2 : decode cX7_order 2 = .ok (.invokevirtual 214, 3) := by decide +kernel
theorem dX7_order_5 : decode cX7_order 5 = .ok (.aload_n 0, 1) := by decide +kernel
theorem dX7_order_6 : decode cX7_order 6 = .ok (.getfield 22, 3) := by decide +kernel
theorem dX7_order_9 : decode cX7_order 9 = .ok (.aload_n 0, 1) := by decide +kernel
theorem dX7_order_10 : decode cX7_order 10 = .ok (.getfield 10, 3) := by decide +kernel
theorem dX7_order_13 : decode cX7_order 13 = .ok (.getfield 95, 3) := by decide +kernel
theorem dX7_order_16 : decode cX7_order 16 = .ok (.invokevirtual 289, 3) := by decide +kernel
theorem dX7_order_19 : decode cX7_order 19 = .ok (.aload_n 0, 1) := by decide +kernel
theorem dX7_order_20 : decode cX7_order 20 = .ok (.invokevirtual 72, 3) := by decide +kernel
theorem dX7_order_23 : decode cX7_order 23 = .ok (.aload_n 0, 1) := by decide +kernel
theorem dX7_order_24 : decode cX7_order 24 = .ok (.getfield 45, 3) := by decide +kernel
theorem dX7_order_27 : decode cX7_order 27 = .ok (.ifCond .eq 14, 3) := by decide +kernel
theorem dX7_order_30 : decode cX7_order 30 = .ok (.bipush (-100), 2) := by decide +kernel
theorem dX7_order_32 : decode cX7_order 32 = .ok (.aload_n 0, 1) := by decide +kernel
theorem dX7_order_33 : decode cX7_order 33 = .ok (.getfield 22, 3) := by decide +kernel
theorem dX7_order_36 : decode cX7_order 36 = .ok (.getfield 75, 3) := by decide +kernel
theorem dX7_order_39 : decode cX7_order 39 = .ok (.isub, 1) := by decide +kernel
theorem dX7_order_40 : decode cX7_order 40 = .ok (.ireturn, 1) := by decide +kernel
theorem dX7_order_41 : decode cX7_order 41 = .ok (.aload_n 0, 1) := by decide +kernel
theorem dX7_order_42 : decode cX7_order 42 = .ok (.invokevirtual 292, 3) := by decide +kernel
theorem dX7_order_45 : decode cX7_order 45 = .ok (.aload_n 0, 1) := by decide +kernel
theorem dX7_order_46 : decode cX7_order 46 = .ok (.getfield 10, 3) := by decide +kernel
theorem dX7_order_49 : decode cX7_order 49 = .ok (.iload_n 1, 1) := by decide +kernel
theorem dX7_order_50 : decode cX7_order 50 = .ok (.aload_n 0, 1) := by decide +kernel
theorem dX7_order_51 : decode cX7_order 51 = .ok (.getfield 22, 3) := by decide +kernel
theorem dX7_order_54 : decode cX7_order 54 = .ok (.invokevirtual 295, 3) := by decide +kernel
theorem dX7_order_57 : decode cX7_order 57 = .ok (.invokevirtual 299, 3) := by decide +kernel
theorem dX7_order_60 : decode cX7_order 60 = .ok (.aload_n 0, 1) := by decide +kernel
theorem dX7_order_61 : decode cX7_order 61 = .ok (.getfield 10, 3) := by decide +kernel
theorem dX7_order_64 : decode cX7_order 64 = .ok (.getfield 95, 3) := by decide +kernel
theorem dX7_order_67 : decode cX7_order 67 = .ok (.iconst 1, 1) := by decide +kernel
theorem dX7_order_68 : decode cX7_order 68 = .ok (.isub, 1) := by decide +kernel
theorem dX7_order_69 : decode cX7_order 69 = .ok (.ireturn, 1) := by decide +kernel
set_option maxRecDepth 20000 in
theorem ggX7_giveUp_X7_needCard : GoodIn wsX7_giveUp wsX7_needCard := goodIn_ca (goodIn_r _ [7, 8, 9, 1, 10, 149, 150, 151, 152, 153, 154, 155, 156, 157, 158, 159, 160, 161, 162, 163, 164, 165, 166, 167, 168, 169, 170, 171, 172, 173, 174, 175, 176, 177] (by decide +kernel) (by decide +kernel)) (goodIn_sub (fun _ h => List.mem_cons_of_mem _ (List.mem_append_right _ h)) (by decide +kernel))
set_option maxRecDepth 20000 in
theorem gX7_giveUp_X7_needCard : GoodIn wsX7_giveUp (wsV RX7 183 RX7 yX7_needCard wsX7_needCard) := goodIn_app (goodIn_of _ (by decide +kernel)) ggX7_giveUp_X7_needCard
set_option maxRecDepth 20000 in
theorem ggX7_giveUp_X7_waits : GoodIn wsX7_giveUp wsX7_waits := goodIn_r _ [14, 1, 15, 16, 149, 150, 151, 152, 153, 154, 155, 156, 157, 158, 159, 160, 161, 162, 163, 164, 165, 166, 167, 168, 169, 170, 171, 172, 173, 174, 175, 176, 177, 178, 179, 180, 181, 182, 183, 184, 185, 186] (by decide +kernel) (by decide +kernel)
set_option maxRecDepth 20000 in
theorem gX7_giveUp_X7_waits : GoodIn wsX7_giveUp (wsV RX7 303 RX7 yX7_waits wsX7_waits) := goodIn_app (goodIn_of _ (by decide +kernel)) ggX7_giveUp_X7_waits
set_option maxRecDepth 20000 in
theorem ggX7_giveUp_X7_remember : GoodIn wsX7_giveUp wsX7_remember := goodIn_r _ [20, 21, 22, 23, 24, 25, 26, 1, 27, 28, 29, 30, 31, 32, 33, 34, 35, 36, 37, 38, 39, 40, 41, 42, 43, 44, 45, 46, 47, 48, 49, 50, 51, 52, 53, 54, 55, 56, 57, 58, 59, 60, 61, 62, 63, 64, 65, 66, 67, 68, 69, 70, 71, 72, 73, 74, 75, 76, 77, 78, 79, 80, 81, 82, 83, 84, 85, 86, 87, 88, 89, 90, 91, 92, 93, 94, 95, 96, 97, 98, 99, 100, 101, 102, 103, 104, 105, 106, 107, 108, 109, 110, 111, 112, 113, 114, 115, 116, 117, 118, 119, 120, 121, 122, 123, 124, 149, 150, 151, 152, 153, 154, 155, 156, 157, 158, 159, 160, 161, 162, 163, 164, 165, 166, 167, 168, 169, 170, 171, 172, 173, 174, 175, 176, 177, 187, 188, 189, 190, 191, 192, 193, 194, 195, 196, 197, 198, 199, 200, 201, 202, 203, 204, 205, 206, 207, 208, 209, 210, 211, 212, 213, 178, 179, 180, 181, 182, 183, 184, 185, 186] (by decide +kernel) (by decide +kernel)
set_option maxRecDepth 20000 in
theorem gX7_giveUp_X7_remember : GoodIn wsX7_giveUp (wsV RX7 292 RX7 yX7_remember wsX7_remember) := goodIn_app (goodIn_of _ (by decide +kernel)) ggX7_giveUp_X7_remember
set_option maxRecDepth 20000 in
theorem ggX7_giveUp_X3_abandon : GoodIn wsX7_giveUp wsX3_abandon := goodIn_r _ [128, 39, 129, 37, 130, 131, 132, 133, 134, 26, 135, 41, 136, 137, 138, 139, 140, 141, 142, 143, 144, 145, 146, 147, 49, 148, 119, 161, 162, 163, 164, 165, 166, 167, 168, 169, 170, 171, 172, 173, 174, 175, 176, 177, 178, 179, 180, 181, 182, 183, 184, 185, 186, 202, 203, 204, 205, 206, 207, 208, 209, 210, 211, 212, 213] (by decide +kernel) (by decide +kernel)
set_option maxRecDepth 20000 in
theorem gX7_giveUp_X3_abandon : GoodIn wsX7_giveUp (wsV RX7 307 RX3 yX3_abandon wsX3_abandon) := goodIn_app (goodIn_of _ (by decide +kernel)) ggX7_giveUp_X3_abandon
theorem dX7_giveUp_0 : decode cX7_giveUp 0 = .ok (.aload_n 0, 1) := by decide +kernel
theorem dX7_giveUp_1 : decode cX7_giveUp 1 = .ok (.iload_n 1, 1) := by decide +kernel
theorem dX7_giveUp_2 : decode cX7_giveUp 2 = .ok (.invokevirtual 183, 3) := by decide +kernel
theorem dX7_giveUp_5 : decode cX7_giveUp 5 = .ok (.aload_n 0, 1) := by decide +kernel
theorem dX7_giveUp_6 : decode cX7_giveUp 6 = .ok (.iload_n 1, 1) := by decide +kernel
theorem dX7_giveUp_7 : decode cX7_giveUp 7 = .ok (.invokevirtual 303, 3) := by decide +kernel
theorem dX7_giveUp_10 : decode cX7_giveUp 10 = .ok (.ifCond .ne 6, 3) := by decide +kernel
theorem dX7_giveUp_13 : decode cX7_giveUp 13 = .ok (.bipush (-3), 2) := by decide +kernel
theorem dX7_giveUp_15 : decode cX7_giveUp 15 = .ok (.ireturn, 1) := by decide +kernel
theorem dX7_giveUp_16 : decode cX7_giveUp 16 = .ok (.aload_n 0, 1) := by decide +kernel
theorem dX7_giveUp_17 : decode cX7_giveUp 17 = .ok (.invokevirtual 292, 3) := by decide +kernel
theorem dX7_giveUp_20 : decode cX7_giveUp 20 = .ok (.aload_n 0, 1) := by decide +kernel
theorem dX7_giveUp_21 : decode cX7_giveUp 21 = .ok (.getfield 10, 3) := by decide +kernel
theorem dX7_giveUp_24 : decode cX7_giveUp 24 = .ok (.iload_n 1, 1) := by decide +kernel
theorem dX7_giveUp_25 : decode cX7_giveUp 25 = .ok (.invokevirtual 307, 3) := by decide +kernel
theorem dX7_giveUp_28 : decode cX7_giveUp 28 = .ok (.aload_n 0, 1) := by decide +kernel
theorem dX7_giveUp_29 : decode cX7_giveUp 29 = .ok (.getfield 10, 3) := by decide +kernel
theorem dX7_giveUp_32 : decode cX7_giveUp 32 = .ok (.getfield 113, 3) := by decide +kernel
theorem dX7_giveUp_35 : decode cX7_giveUp 35 = .ok (.iconst 0, 1) := by decide +kernel
theorem dX7_giveUp_36 : decode cX7_giveUp 36 = .ok (.iaload, 1) := by decide +kernel
theorem dX7_giveUp_37 : decode cX7_giveUp 37 = .ok (.ireturn, 1) := by decide +kernel
set_option maxRecDepth 20000 in
theorem ggX7_setRank_X7_needLot : GoodIn wsX7_setRank wsX7_needLot := goodIn_ca (goodIn_r _ [8, 9, 10, 1, 11, 125, 126, 127, 128, 129, 130, 131, 132, 133, 134, 135, 136, 137, 138, 139, 140, 141, 142, 143, 144, 145, 146, 147, 148, 149, 150, 151, 152, 153] (by decide +kernel) (by decide +kernel)) (goodIn_sub (fun _ h => List.mem_cons_of_mem _ (List.mem_append_left _ (List.mem_append_right _ h))) (by decide +kernel))
set_option maxRecDepth 20000 in
theorem gX7_setRank_X7_needLot : GoodIn wsX7_setRank (wsV RX7 214 RX7 yX7_needLot wsX7_needLot) := goodIn_app (goodIn_of _ (by decide +kernel)) ggX7_setRank_X7_needLot
set_option maxRecDepth 20000 in
theorem ggX7_setRank_X7_needRange : GoodIn wsX7_setRank wsX7_needRange := goodIn_ca (goodIn_r _ [14, 15, 16] (by decide +kernel) (by decide +kernel)) (goodIn_sub (fun _ h => List.mem_cons_of_mem _ (List.mem_append_right _ h)) (by decide +kernel))
set_option maxRecDepth 20000 in
theorem gX7_setRank_X7_needRange : GoodIn wsX7_setRank (va_wsS RX7 251 yX7_needRange wsX7_needRange) := goodIn_app (goodIn_of _ (by decide +kernel)) ggX7_setRank_X7_needRange
set_option maxRecDepth 20000 in
theorem ggX7_setRank_X7_remember : GoodIn wsX7_setRank wsX7_remember := goodIn_r _ [20, 21, 22, 23, 24, 25, 26, 1, 27, 28, 29, 30, 31, 32, 33, 34, 35, 36, 37, 38, 39, 40, 41, 42, 43, 44, 45, 46, 47, 48, 49, 50, 51, 52, 53, 54, 55, 56, 57, 58, 59, 60, 61, 62, 63, 64, 65, 66, 67, 68, 69, 70, 71, 72, 73, 74, 75, 76, 77, 78, 79, 80, 81, 82, 83, 84, 85, 86, 87, 88, 89, 90, 91, 92, 93, 94, 95, 96, 97, 98, 99, 100, 101, 102, 103, 104, 105, 106, 107, 108, 109, 110, 111, 112, 113, 114, 115, 116, 117, 118, 119, 120, 121, 122, 123, 124, 125, 126, 127, 128, 129, 130, 131, 132, 133, 134, 135, 136, 137, 138, 139, 140, 141, 142, 143, 144, 145, 146, 147, 148, 149, 150, 151, 152, 153, 166, 167, 168, 169, 170, 171, 172, 173, 174, 175, 176, 177, 178, 179, 180, 154, 155, 156, 157, 158, 159, 160, 161, 162, 163, 164, 165, 181, 182, 183, 184, 185, 186, 187, 188, 189] (by decide +kernel) (by decide +kernel)
set_option maxRecDepth 20000 in
theorem gX7_setRank_X7_remember : GoodIn wsX7_setRank (wsV RX7 292 RX7 yX7_remember wsX7_remember) := goodIn_app (goodIn_of _ (by decide +kernel)) ggX7_setRank_X7_remember
theorem dX7_setRank_0 : decode cX7_setRank 0 = .ok (.aload_n 0, 1) := by decide +kernel
theorem dX7_setRank_1 : decode cX7_setRank 1 = .ok (.iload_n 1, 1) := by decide +kernel
theorem dX7_setRank_2 : decode cX7_setRank 2 = .ok (.invokevirtual 214, 3) := by decide +kernel
theorem dX7_setRank_5 : decode cX7_setRank 5 = .ok (.iload_n 2, 1) := by decide +kernel
theorem dX7_setRank_6 : decode cX7_setRank 6 = .ok (.iconst 0, 1) := by decide +kernel
theorem dX7_setRank_7 : decode cX7_setRank 7 = .ok (.bipush 9, 2) := by decide +kernel
theorem dX7_setRank_9 : decode cX7_setRank 9 = .ok (.invokestatic 251, 3) := by decide +kernel
theorem dX7_setRank_12 : decode cX7_setRank 12 = .ok (.aload_n 0, 1) := by decide +kernel
theorem dX7_setRank_13 : decode cX7_setRank 13 = .ok (.invokevirtual 292, 3) := by decide +kernel
theorem dX7_setRank_16 : decode cX7_setRank 16 = .ok (.aload_n 0, 1) := by decide +kernel
theorem dX7_setRank_17 : decode cX7_setRank 17 = .ok (.getfield 10, 3) := by decide +kernel
theorem dX7_setRank_20 : decode cX7_setRank 20 = .ok (.getfield 217, 3) := by decide +kernel
theorem dX7_setRank_23 : decode cX7_setRank 23 = .ok (.iload_n 1, 1) := by decide +kernel
theorem dX7_setRank_24 : decode cX7_setRank 24 = .ok (.aaload, 1) := by decide +kernel
theorem dX7_setRank_25 : decode cX7_setRank 25 = .ok (.getfield 221, 3) := by decide +kernel
theorem dX7_setRank_28 : decode cX7_setRank 28 = .ok (.istore_n 3, 1) := by decide +kernel
theorem dX7_setRank_29 : decode cX7_setRank 29 = .ok (.aload_n 0, 1) := by decide +kernel
theorem dX7_setRank_30 : decode cX7_setRank 30 = .ok (.getfield 10, 3) := by decide +kernel
theorem dX7_setRank_33 : decode cX7_setRank 33 = .ok (.getfield 217, 3) := by decide +kernel
theorem dX7_setRank_36 : decode cX7_setRank 36 = .ok (.iload_n 1, 1) := by decide +kernel
theorem dX7_setRank_37 : decode cX7_setRank 37 = .ok (.aaload, 1) := by decide +kernel
theorem dX7_setRank_38 : decode cX7_setRank 38 = .ok (.iload_n 2, 1) := by decide +kernel
theorem dX7_setRank_39 : decode cX7_setRank 39 = .ok (.putfield 221, 3) := by decide +kernel
theorem dX7_setRank_42 : decode cX7_setRank 42 = .ok (.iload_n 3, 1) := by decide +kernel
theorem dX7_setRank_43 : decode cX7_setRank 43 = .ok (.ireturn, 1) := by decide +kernel
set_option maxRecDepth 20000 in
theorem ggX7_refill_X7_needRange : GoodIn wsX7_refill wsX7_needRange := goodIn_ca (goodIn_r _ [7, 8, 9] (by decide +kernel) (by decide +kernel)) (goodIn_sub (fun _ h => List.mem_cons_of_mem _ (List.mem_append_right _ h)) (by decide +kernel))
set_option maxRecDepth 20000 in
theorem gX7_refill_X7_needRange : GoodIn wsX7_refill (va_wsS RX7 251 yX7_needRange wsX7_needRange) := goodIn_app (goodIn_of _ (by decide +kernel)) ggX7_refill_X7_needRange
set_option maxRecDepth 20000 in
theorem ggX7_refill_X7_remember : GoodIn wsX7_refill wsX7_remember := goodIn_r _ [13, 14, 15, 16, 17, 18, 19, 1, 20, 21, 22, 23, 24, 25, 26, 27, 28, 29, 30, 31, 32, 33, 34, 35, 36, 37, 38, 39, 40, 41, 42, 43, 44, 45, 46, 47, 48, 49, 50, 51, 52, 53, 54, 55, 56, 57, 58, 59, 60, 61, 62, 63, 64, 65, 66, 67, 68, 69, 70, 71, 72, 73, 74, 75, 76, 77, 78, 79, 80, 81, 82, 83, 84, 85, 86, 87, 88, 89, 90, 91, 92, 93, 94, 95, 96, 97, 98, 99, 100, 101, 102, 103, 104, 105, 106, 107, 108, 109, 110, 111, 112, 113, 114, 115, 116, 117, 118, 119, 120, 121, 122, 123, 124, 125, 126, 127, 128, 129, 130, 131, 132, 133, 134, 135, 136, 137, 138, 139, 140, 141, 142, 143, 144, 145, 146, 147, 148, 149, 150, 151, 152, 153, 154, 155, 156, 157, 158, 159, 160, 161, 162, 163, 164, 165, 166, 167, 168, 169, 170, 171, 172, 173, 174, 175, 176, 177, 178, 179, 180, 181, 182] (by decide +kernel) (by decide +kernel)
set_option maxRecDepth 20000 in
theorem gX7_refill_X7_remember : GoodIn wsX7_refill (wsV RX7 292 RX7 yX7_remember wsX7_remember) := goodIn_app (goodIn_of _ (by decide +kernel)) ggX7_refill_X7_remember
theorem dX7_refill_0 : decode cX7_refill 0 = .ok (.iload_n 1, 1) := by decide +kernel
theorem dX7_refill_1 : decode cX7_refill 1 = .ok (.iconst 1, 1) := by decide +kernel
theorem dX7_refill_2 : decode cX7_refill 2 = .ok (.sipush 999, 3) := by decide +kernel
theorem dX7_refill_5 : decode cX7_refill 5 = .ok (.invokestatic 251, 3) := by decide +kernel
theorem dX7_refill_8 : decode cX7_refill 8 = .ok (.aload_n 0, 1) := by decide +kernel
theorem dX7_refill_9 : decode cX7_refill 9 = .ok (.getfield 10, 3) := by decide +kernel
theorem dX7_refill_12 : decode cX7_refill 12 = .ok (.getfield 110, 3) := by decide +kernel
theorem dX7_refill_15 : decode cX7_refill 15 = .ok (.iload_n 1, 1) := by decide +kernel
theorem dX7_refill_16 : decode cX7_refill 16 = .ok (.iadd, 1) := by decide +kernel
theorem dX7_refill_17 : decode cX7_refill 17 = .ok (.sipush 9999, 3) := by decide +kernel
theorem dX7_refill_20 : decode cX7_refill 20 = .ok (.if_icmp .le 6, 3) := by decide +kernel
theorem dX7_refill_23 : decode cX7_refill 23 = .ok (.bipush (-2), 2) := by decide +kernel
theorem dX7_refill_25 : decode cX7_refill 25 = .ok (.ireturn, 1) := by decide +kernel
theorem dX7_refill_26 : decode cX7_refill 26 = .ok (.aload_n 0, 1) := by decide +kernel
theorem dX7_refill_27 : decode cX7_refill 27 = .ok (.invokevirtual 292, 3) := by decide +kernel
theorem dX7_refill_30 : decode cX7_refill 30 = .ok (.aload_n 0, 1) := by decide +kernel
theorem dX7_refill_31 : decode cX7_refill 31 = .ok (.getfield 10, 3) := by decide +kernel
theorem dX7_refill_34 : decode cX7_refill 34 = .ok (.dup, 1) := by decide +kernel
theorem dX7_refill_35 : decode cX7_refill 35 = .ok (.getfield 110, 3) := by decide +kernel
theorem dX7_refill_38 : decode cX7_refill 38 = .ok (.iload_n 1, 1) := by decide +kernel
theorem dX7_refill_39 : decode cX7_refill 39 = .ok (.iadd, 1) := by decide +kernel
theorem dX7_refill_40 : decode cX7_refill 40 = .ok (.putfield 110, 3) := by decide +kernel
theorem dX7_refill_43 : decode cX7_refill 43 = .ok (.aload_n 0, 1) := by decide +kernel
theorem dX7_refill_44 : decode cX7_refill 44 = .ok (.getfield 10, 3) := by decide +kernel
theorem dX7_refill_47 : decode cX7_refill 47 = .ok (.dup, 1) := by decide +kernel
theorem dX7_refill_48 : decode cX7_refill 48 = .ok (.getfield 130, 3) := by decide +kernel
theorem dX7_refill_51 : decode cX7_refill 51 = .ok (.iload_n 1, 1) := by decide +kernel
theorem dX7_refill_52 : decode cX7_refill 52 = .ok (.iadd, 1) := by decide +kernel
theorem dX7_refill_53 : decode cX7_refill 53 = .ok (.putfield 130, 3) := by decide +kernel
theorem dX7_refill_56 : decode cX7_refill 56 = .ok (.aload_n 0, 1) := by decide +kernel
theorem dX7_refill_57 : decode cX7_refill 57 = .ok (.getfield 10, 3) := by decide +kernel
theorem dX7_refill_60 : decode cX7_refill 60 = .ok (.getfield 110, 3) := by decide +kernel
theorem dX7_refill_63 : decode cX7_refill 63 = .ok (.ireturn, 1) := by decide +kernel
set_option maxRecDepth 20000 in
theorem ggX7_setPace_X7_needStation : GoodIn wsX7_setPace wsX7_needStation := goodIn_ca (goodIn_r _ [9, 10, 11, 1, 12, 129, 130, 131, 132, 133, 134, 135, 136, 137, 138, 139, 140, 141, 142, 143, 144, 145, 146, 147, 148, 149, 150, 151, 152, 153, 154, 155, 156, 157] (by decide +kernel) (by decide +kernel)) (goodIn_sub (fun _ h => List.mem_cons_of_mem _ (List.mem_append_left _ (List.mem_append_right _ h))) (by decide +kernel))
set_option maxRecDepth 20000 in
theorem gX7_setPace_X7_needStation : GoodIn wsX7_setPace (wsV RX7 133 RX7 yX7_needStation wsX7_needStation) := goodIn_app (goodIn_of _ (by decide +kernel)) ggX7_setPace_X7_needStation
set_option maxRecDepth 20000 in
theorem ggX7_setPace_X7_mostPace : GoodIn wsX7_setPace wsX7_mostPace := goodIn_r _ [15] (by decide +kernel) (by decide +kernel)
set_option maxRecDepth 20000 in
theorem gX7_setPace_X7_mostPace : GoodIn wsX7_setPace (va_wsS RX7 310 yX7_mostPace wsX7_mostPace) := goodIn_app (goodIn_of _ (by decide +kernel)) ggX7_setPace_X7_mostPace
set_option maxRecDepth 20000 in
theorem ggX7_setPace_X7_needRange : GoodIn wsX7_setPace wsX7_needRange := goodIn_ca (goodIn_r _ [18, 19, 20] (by decide +kernel) (by decide +kernel)) (goodIn_sub (fun _ h => List.mem_cons_of_mem _ (List.mem_append_right _ h)) (by decide +kernel))
set_option maxRecDepth 20000 in
theorem gX7_setPace_X7_needRange : GoodIn wsX7_setPace (va_wsS RX7 251 yX7_needRange wsX7_needRange) := goodIn_app (goodIn_of _ (by decide +kernel)) ggX7_setPace_X7_needRange
set_option maxRecDepth 20000 in
theorem ggX7_setPace_X7_remember : GoodIn wsX7_setPace wsX7_remember := goodIn_r _ [24, 25, 26, 27, 28, 29, 30, 1, 31, 32, 33, 34, 35, 36, 37, 38, 39, 40, 41, 42, 43, 44, 45, 46, 47, 48, 49, 50, 51, 52, 53, 54, 55, 56, 57, 58, 59, 60, 61, 62, 63, 64, 65, 66, 67, 68, 69, 70, 71, 72, 73, 74, 75, 76, 77, 78, 79, 80, 81, 82, 83, 84, 85, 86, 87, 88, 89, 90, 91, 92, 93, 94, 95, 96, 97, 98, 99, 100, 101, 102, 103, 104, 105, 106, 107, 108, 109, 110, 111, 112, 113, 114, 115, 116, 117, 118, 119, 120, 121, 122, 123, 124, 125, 126, 127, 128, 129, 130, 131, 132, 133, 134, 135, 136, 137, 138, 139, 140, 141, 142, 143, 144, 145, 146, 147, 148, 149, 150, 151, 152, 153, 154, 155, 156, 157, 158, 159, 160, 161, 162, 163, 164, 165, 166, 167, 168, 169, 170, 171, 172, 173, 174, 175, 176, 177, 178, 179, 180, 181, 182, 183, 184, 185, 186, 187, 188, 189, 190, 191, 192, 193] (by decide +kernel) (by decide +kernel)
set_option maxRecDepth 20000 in
theorem gX7_setPace_X7_remember : GoodIn wsX7_setPace (wsV RX7 292 RX7 yX7_remember wsX7_remember) := goodIn_app (goodIn_of _ (by decide +kernel)) ggX7_setPace_X7_remember
theorem dX7_setPace_0 : decode cX7_setPace 0 = .ok (.aload_n 0, 1) := by decide +kernel
theorem dX7_setPace_1 : decode cX7_setPace 1 = .ok (.iload_n 1, 1) := by decide +kernel
theorem dX7_setPace_2 : decode cX7_setPace 2 = .ok (.invokevirtual 133, 3) := by decide +kernel
theorem dX7_setPace_5 : decode cX7_setPace 5 = .ok (.aload_n 0, 1) := by decide +kernel
theorem dX7_setPace_6 : decode cX7_setPace 6 = .ok (.getfield 10, 3) := by decide +kernel
theorem dX7_setPace_9 : decode cX7_setPace 9 = .ok (.getfield 137, 3) := by decide +kernel
theorem dX7_setPace_12 : decode cX7_setPace 12 = .ok (.iload_n 1, 1) := by decide +kernel
theorem dX7_setPace_13 : decode cX7_setPace 13 = .ok (.aaload, 1) := by decide +kernel
theorem dX7_setPace_14 : decode cX7_setPace 14 = .ok (.astore_n 3, 1) := by decide +kernel
theorem dX7_setPace_15 : decode cX7_setPace 15 = .ok (.iload_n 2, 1) := by decide +kernel
theorem dX7_setPace_16 : decode cX7_setPace 16 = .ok (.iconst 1, 1) := by decide +kernel
theorem dX7_setPace_17 : decode cX7_setPace 17 = .ok (.aload_n 3, 1) := by decide +kernel
theorem dX7_setPace_18 : decode cX7_setPace 18 = .ok (.getfield 141, 3) := by decide +kernel
theorem dX7_setPace_21 : decode cX7_setPace 21 = .ok (.invokestatic 310, 3) := by decide +kernel
theorem dX7_setPace_24 : decode cX7_setPace 24 = .ok (.invokestatic 251, 3) := by decide +kernel
theorem dX7_setPace_27 : decode cX7_setPace 27 = .ok (.aload_n 0, 1) := by decide +kernel
theorem dX7_setPace_28 : decode cX7_setPace 28 = .ok (.invokevirtual 292, 3) := by decide +kernel
theorem dX7_setPace_31 : decode cX7_setPace 31 = .ok (.aload_n 3, 1) := by decide +kernel
theorem dX7_setPace_32 : decode cX7_setPace 32 = .ok (.getfield 146, 3) := by decide +kernel
theorem dX7_setPace_35 : decode cX7_setPace 35 = .ok (.istore 4, 2) := by decide +kernel
theorem dX7_setPace_37 : decode cX7_setPace 37 = .ok (.aload_n 3, 1) := by decide +kernel
theorem dX7_setPace_38 : decode cX7_setPace 38 = .ok (.iload_n 2, 1) := by decide +kernel
theorem dX7_setPace_39 : decode cX7_setPace 39 = .ok (.putfield 146, 3) := by decide +kernel
theorem dX7_setPace_42 : decode cX7_setPace 42 = .ok (.iload 4, 2) := by decide +kernel
theorem dX7_setPace_44 : decode cX7_setPace 44 = .ok (.ireturn, 1) := by decide +kernel
theorem dX7_mostPace_0 : decode cX7_mostPace 0 = .ok (.iload_n 0, 1) := by decide +kernel
theorem dX7_mostPace_1 : decode cX7_mostPace 1 = .ok (.iconst 3, 1) := by decide +kernel
theorem dX7_mostPace_2 : decode cX7_mostPace 2 = .ok (.if_icmp .ne 8, 3) := by decide +kernel
theorem dX7_mostPace_5 : decode cX7_mostPace 5 = .ok (.bipush 9, 2) := by decide +kernel
theorem dX7_mostPace_7 : decode cX7_mostPace 7 = .ok (.goto 5, 3) := by decide +kernel
theorem dX7_mostPace_10 : decode cX7_mostPace 10 = .ok (.bipush 99, 2) := by decide +kernel
theorem dX7_mostPace_12 : decode cX7_mostPace 12 = .ok (.ireturn, 1) := by decide +kernel
set_option maxRecDepth 20000 in
theorem ggX7_stop_X7_needStation : GoodIn wsX7_stop wsX7_needStation := goodIn_ca (goodIn_r _ [9, 10, 11, 1, 4, 120, 121, 122, 123, 124, 125, 126, 127, 128, 129, 130, 131, 132, 133, 134, 135, 136, 137, 138, 139, 140, 141, 142, 143, 144, 145, 146, 147, 148] (by decide +kernel) (by decide +kernel)) (goodIn_sub (fun _ h => List.mem_cons_of_mem _ (List.mem_append_right _ h)) (by decide +kernel))
set_option maxRecDepth 20000 in
theorem gX7_stop_X7_needStation : GoodIn wsX7_stop (wsV RX7 133 RX7 yX7_needStation wsX7_needStation) := goodIn_app (goodIn_of _ (by decide +kernel)) ggX7_stop_X7_needStation
set_option maxRecDepth 20000 in
theorem ggX7_stop_X7_remember : GoodIn wsX7_stop wsX7_remember := goodIn_r _ [15, 16, 17, 18, 19, 20, 21, 1, 22, 23, 24, 25, 26, 27, 28, 29, 30, 31, 32, 33, 34, 35, 36, 37, 38, 39, 40, 41, 42, 43, 44, 45, 46, 47, 48, 49, 50, 51, 52, 53, 54, 55, 56, 57, 58, 59, 60, 61, 62, 63, 64, 65, 66, 67, 68, 69, 70, 71, 72, 73, 74, 75, 76, 77, 78, 79, 80, 81, 82, 83, 84, 85, 86, 87, 88, 89, 90, 91, 92, 93, 94, 95, 96, 97, 98, 99, 100, 101, 102, 103, 104, 105, 106, 107, 108, 109, 110, 111, 112, 113, 114, 115, 116, 117, 118, 119, 120, 121, 122, 123, 124, 125, 126, 127, 128, 129, 130, 131, 132, 133, 134, 135, 136, 137, 138, 139, 140, 141, 142, 143, 144, 145, 146, 147, 148, 149, 150, 151, 152, 153, 154, 155, 156, 157, 158, 159, 160, 161, 162, 163, 164, 165, 166, 167, 168, 169, 170, 171, 172, 173, 174, 175, 176, 177, 178, 179, 180, 181, 182, 183, 184] (by decide +kernel) (by decide +kernel)
set_option maxRecDepth 20000 in
theorem gX7_stop_X7_remember : GoodIn wsX7_stop (wsV RX7 292 RX7 yX7_remember wsX7_remember) := goodIn_app (goodIn_of _ (by decide +kernel)) ggX7_stop_X7_remember
theorem dX7_stop_0 : decode cX7_stop 0 = .ok (.aload_n 0, 1) := by decide +kernel
theorem dX7_stop_1 : decode cX7_stop 1 = .ok (.iload_n 1, 1) := by decide +kernel
theorem dX7_stop_2 : decode cX7_stop 2 = .ok (.invokevirtual 133, 3) := by decide +kernel
theorem dX7_stop_5 : decode cX7_stop 5 = .ok (.aload_n 0, 1) := by decide +kernel
theorem dX7_stop_6 : decode cX7_stop 6 = .ok (.invokevirtual 292, 3) := by decide +kernel
theorem dX7_stop_9 : decode cX7_stop 9 = .ok (.aload_n 0, 1) := by decide +kernel
theorem dX7_stop_10 : decode cX7_stop 10 = .ok (.getfield 10, 3) := by decide +kernel
theorem dX7_stop_13 : decode cX7_stop 13 = .ok (.getfield 137, 3) := by decide +kernel
theorem dX7_stop_16 : decode cX7_stop 16 = .ok (.iload_n 1, 1) := by decide +kernel
theorem dX7_stop_17 : decode cX7_stop 17 = .ok (.aaload, 1) := by decide +kernel
theorem dX7_stop_18 : decode cX7_stop 18 = .ok (.iload_n 2, 1) := by decide +kernel
theorem dX7_stop_19 : decode cX7_stop 19 = .ok (.putfield 164, 3) := by decide +kernel
theorem dX7_stop_22 : decode cX7_stop 22 = .ok (.iconst 0, 1) := by decide +kernel
theorem dX7_stop_23 : decode cX7_stop 23 = .ok (.istore_n 3, 1) := by decide +kernel
theorem dX7_stop_24 : decode cX7_stop 24 = .ok (.iconst 0, 1) := by decide +kernel
theorem dX7_stop_25 : decode cX7_stop 25 = .ok (.istore 4, 2) := by decide +kernel
theorem dX7_stop_27 : decode cX7_stop 27 = .ok (.iload 4, 2) := by decide +kernel
theorem dX7_stop_29 : decode cX7_stop 29 = .ok (.aload_n 0, 1) := by decide +kernel
theorem dX7_stop_30 : decode cX7_stop 30 = .ok (.getfield 10, 3) := by decide +kernel
theorem dX7_stop_33 : decode cX7_stop 33 = .ok (.getfield 81, 3) := by decide +kernel
theorem dX7_stop_36 : decode cX7_stop 36 = .ok (.if_icmp .ge 28, 3) := by decide +kernel
theorem dX7_stop_39 : decode cX7_stop 39 = .ok (.aload_n 0, 1) := by decide +kernel
theorem dX7_stop_40 : decode cX7_stop 40 = .ok (.getfield 10, 3) := by decide +kernel
theorem dX7_stop_43 : decode cX7_stop 43 = .ok (.getfield 137, 3) := by decide +kernel
theorem dX7_stop_46 : decode cX7_stop 46 = .ok (.iload 4, 2) := by decide +kernel
theorem dX7_stop_48 : decode cX7_stop 48 = .ok (.aaload, 1) := by decide +kernel
theorem dX7_stop_49 : decode cX7_stop 49 = .ok (.getfield 164, 3) := by decide +kernel
theorem dX7_stop_52 : decode cX7_stop 52 = .ok (.ifCond .eq 6, 3) := by decide +kernel
theorem dX7_stop_55 : decode cX7_stop 55 = .ok (.iinc 3 1, 3) := by decide +kernel
theorem dX7_stop_58 : decode cX7_stop 58 = .ok (.iinc 4 1, 3) := by decide +kernel
theorem dX7_stop_61 : decode cX7_stop 61 = .ok (.goto (-34), 3) := by decide +kernel
theorem dX7_stop_64 : decode cX7_stop 64 = .ok (.iload_n 3, 1) := by decide +kernel
theorem dX7_stop_65 : decode cX7_stop 65 = .ok (.ireturn, 1) := by decide +kernel
set_option maxRecDepth 20000 in
theorem ggX7_setRest_X7_needStation : GoodIn wsX7_setRest wsX7_needStation := goodIn_ca (goodIn_r _ [9, 10, 11, 1, 12, 126, 127, 128, 129, 130, 131, 132, 133, 134, 135, 136, 137, 138, 139, 140, 141, 142, 143, 144, 145, 146, 147, 148, 149, 150, 151, 152, 153, 154] (by decide +kernel) (by decide +kernel)) (goodIn_sub (fun _ h => List.mem_cons_of_mem _ (List.mem_append_left _ (List.mem_append_right _ h))) (by decide +kernel))
set_option maxRecDepth 20000 in
theorem gX7_setRest_X7_needStation : GoodIn wsX7_setRest (wsV RX7 133 RX7 yX7_needStation wsX7_needStation) := goodIn_app (goodIn_of _ (by decide +kernel)) ggX7_setRest_X7_needStation
set_option maxRecDepth 20000 in
theorem ggX7_setRest_X7_needRange : GoodIn wsX7_setRest wsX7_needRange := goodIn_ca (goodIn_r _ [15, 16, 17] (by decide +kernel) (by decide +kernel)) (goodIn_sub (fun _ h => List.mem_cons_of_mem _ (List.mem_append_right _ h)) (by decide +kernel))
set_option maxRecDepth 20000 in
theorem gX7_setRest_X7_needRange : GoodIn wsX7_setRest (va_wsS RX7 251 yX7_needRange wsX7_needRange) := goodIn_app (goodIn_of _ (by decide +kernel)) ggX7_setRest_X7_needRange
set_option maxRecDepth 20000 in
theorem ggX7_setRest_X7_remember : GoodIn wsX7_setRest wsX7_remember := goodIn_r _ [21, 22, 23, 24, 25, 26, 27, 1, 28, 29, 30, 31, 32, 33, 34, 35, 36, 37, 38, 39, 40, 41, 42, 43, 44, 45, 46, 47, 48, 49, 50, 51, 52, 53, 54, 55, 56, 57, 58, 59, 60, 61, 62, 63, 64, 65, 66, 67, 68, 69, 70, 71, 72, 73, 74, 75, 76, 77, 78, 79, 80, 81, 82, 83, 84, 85, 86, 87, 88, 89, 90, 91, 92, 93, 94, 95, 96, 97, 98, 99, 100, 101, 102, 103, 104, 105, 106, 107, 108, 109, 110, 111, 112, 113, 114, 115, 116, 117, 118, 119, 120, 121, 122, 123, 124, 125, 126, 127, 128, 129, 130, 131, 132, 133, 134, 135, 136, 137, 138, 139, 140, 141, 142, 143, 144, 145, 146, 147, 148, 149, 150, 151, 152, 153, 154, 155, 156, 157, 158, 159, 160, 161, 162, 163, 164, 165, 166, 167, 168, 169, 170, 171, 172, 173, 174, 175, 176, 177, 178, 179, 180, 181, 182, 183, 184, 185, 186, 187, 188, 189, 190] (by decide +kernel) (by decide +kernel)
set_option maxRecDepth 20000 in
theorem gX7_setRest_X7_remember : GoodIn wsX7_setRest (wsV RX7 292 RX7 yX7_remember wsX7_remember) := goodIn_app (goodIn_of _ (by decide +kernel)) ggX7_setRest_X7_remember
theorem dX7_setRest_0 : decode cX7_setRest 0 = .ok (.aload_n 0, 1) := by decide +kernel
theorem dX7_setRest_1 : decode cX7_setRest 1 = .ok (.iload_n 1, 1) := by decide +kernel
theorem dX7_setRest_2 : decode cX7_setRest 2 = .ok (.invokevirtual 133, 3) := by decide +kernel
theorem dX7_setRest_5 : decode cX7_setRest 5 = .ok (.iload_n 2, 1) := by decide +kernel
theorem dX7_setRest_6 : decode cX7_setRest 6 = .ok (.iconst 0, 1) := by decide +kernel
theorem dX7_setRest_7 : decode cX7_setRest 7 = .ok (.bipush 99, 2) := by decide +kernel
theorem dX7_setRest_9 : decode cX7_setRest 9 = .ok (.invokestatic 251, 3) := by decide +kernel
theorem dX7_setRest_12 : decode cX7_setRest 12 = .ok (.iload_n 2, 1) := by decide +kernel
theorem dX7_setRest_13 : decode cX7_setRest 13 = .ok (.ifCond .le 10, 3) := by decide +kernel
theorem dX7_setRest_16 : decode cX7_setRest 16 = .ok (.iload_n 3, 1) := by decide +kernel
theorem dX7_setRest_17 : decode cX7_setRest 17 = .ok (.iconst 1, 1) := by decide +kernel
theorem dX7_setRest_18 : decode cX7_setRest 18 = .ok (.bipush 99, 2) := by decide +kernel
theorem dX7_setRest_20 : decode cX7_setRest 20 = .ok (.invokestatic 251, 3) := by decide +kernel
theorem dX7_setRest_23 : decode cX7_setRest 23 = .ok (.aload_n 0, 1) := by decide +kernel
theorem dX7_setRest_24 : decode cX7_setRest 24 = .ok (.invokevirtual 292, 3) := by decide +kernel
theorem dX7_setRest_27 : decode cX7_setRest 27 = .ok (.aload_n 0, 1) := by decide +kernel
theorem dX7_setRest_28 : decode cX7_setRest 28 = .ok (.getfield 10, 3) := by decide +kernel
theorem dX7_setRest_31 : decode cX7_setRest 31 = .ok (.getfield 137, 3) := by decide +kernel
theorem dX7_setRest_34 : decode cX7_setRest 34 = .ok (.iload_n 1, 1) := by decide +kernel
theorem dX7_setRest_35 : decode cX7_setRest 35 = .ok (.aaload, 1) := by decide +kernel
theorem dX7_setRest_36 : decode cX7_setRest 36 = .ok (.astore 4, 2) := by decide +kernel
theorem dX7_setRest_38 : decode cX7_setRest 38 = .ok (.aload 4, 2) := by decide +kernel
theorem dX7_setRest_40 : decode cX7_setRest 40 = .ok (.getfield 171, 3) := by decide +kernel
theorem dX7_setRest_43 : decode cX7_setRest 43 = .ok (.istore 5, 2) := by decide +kernel
theorem dX7_setRest_45 : decode cX7_setRest 45 = .ok (.aload 4, 2) := by decide +kernel
theorem dX7_setRest_47 : decode cX7_setRest 47 = .ok (.iload_n 2, 1) := by decide +kernel
theorem dX7_setRest_48 : decode cX7_setRest 48 = .ok (.putfield 171, 3) := by decide +kernel
theorem dX7_setRest_51 : decode cX7_setRest 51 = .ok (.aload 4, 2) := by decide +kernel
theorem dX7_setRest_53 : decode cX7_setRest 53 = .ok (.iload_n 2, 1) := by decide +kernel
theorem dX7_setRest_54 : decode cX7_setRest 54 = .ok (.ifCond .le 7, 3) := by decide +kernel
theorem dX7_setRest_57 : decode cX7_setRest 57 = .ok (.iload_n 3, 1) := by decide +kernel
theorem dX7_setRest_58 : decode cX7_setRest 58 = .ok (.goto 4, 3) := by decide +kernel
theorem dX7_setRest_61 : decode cX7_setRest 61 = .ok (.iconst 0, 1) := by decide +kernel
theorem dX7_setRest_62 : decode cX7_setRest 62 = .ok (.putfield 174, 3) := by decide +kernel
theorem dX7_setRest_65 : decode cX7_setRest 65 = .ok (.iload 5, 2) := by decide +kernel
theorem dX7_setRest_67 : decode cX7_setRest 67 = .ok (.ireturn, 1) := by decide +kernel
set_option maxRecDepth 20000 in
theorem ggX7_rush_X7_needCard : GoodIn wsX7_rush wsX7_needCard := goodIn_ca (goodIn_r _ [9, 10, 11, 1, 4, 125, 126, 127, 128, 129, 130, 131, 132, 133, 134, 135, 136, 137, 138, 139, 140, 141, 142, 143, 144, 145, 146, 147, 148, 149, 150, 151, 152, 153] (by decide +kernel) (by decide +kernel)) (goodIn_sub (fun _ h => List.mem_cons_of_mem _ (List.mem_append_right _ h)) (by decide +kernel))
set_option maxRecDepth 20000 in
theorem gX7_rush_X7_needCard : GoodIn wsX7_rush (wsV RX7 183 RX7 yX7_needCard wsX7_needCard) := goodIn_app (goodIn_of _ (by decide +kernel)) ggX7_rush_X7_needCard
set_option maxRecDepth 20000 in
theorem ggX7_rush_X7_waits : GoodIn wsX7_rush wsX7_waits := goodIn_r _ [15, 1, 2, 16, 125, 126, 127, 128, 129, 130, 131, 132, 133, 134, 135, 136, 137, 138, 139, 140, 141, 142, 143, 144, 145, 146, 147, 148, 149, 150, 151, 152, 153, 154, 155, 156, 157, 158, 159, 160, 161, 162] (by decide +kernel) (by decide +kernel)
set_option maxRecDepth 20000 in
theorem gX7_rush_X7_waits : GoodIn wsX7_rush (wsV RX7 303 RX7 yX7_waits wsX7_waits) := goodIn_app (goodIn_of _ (by decide +kernel)) ggX7_rush_X7_waits
set_option maxRecDepth 20000 in
theorem ggX7_rush_X7_remember : GoodIn wsX7_rush wsX7_remember := goodIn_r _ [20, 21, 22, 23, 24, 25, 26, 1, 27, 28, 29, 30, 31, 32, 33, 34, 35, 36, 37, 38, 39, 40, 41, 42, 43, 44, 45, 46, 47, 48, 49, 50, 51, 52, 53, 54, 55, 56, 57, 58, 59, 60, 61, 62, 63, 64, 65, 66, 67, 68, 69, 70, 71, 72, 73, 74, 75, 76, 77, 78, 79, 80, 81, 82, 83, 84, 85, 86, 87, 88, 89, 90, 91, 92, 93, 94, 95, 96, 97, 98, 99, 100, 101, 102, 103, 104, 105, 106, 107, 108, 109, 110, 111, 112, 113, 114, 115, 116, 117, 118, 119, 120, 121, 122, 123, 124, 125, 126, 127, 128, 129, 130, 131, 132, 133, 134, 135, 136, 137, 138, 139, 140, 141, 142, 143, 144, 145, 146, 147, 148, 149, 150, 151, 152, 153, 163, 164, 165, 166, 167, 168, 169, 170, 171, 172, 173, 174, 175, 176, 177, 178, 179, 180, 181, 182, 183, 184, 185, 186, 187, 188, 189, 154, 155, 156, 157, 158, 159, 160, 161, 162] (by decide +kernel) (by decide +kernel)
set_option maxRecDepth 20000 in
theorem gX7_rush_X7_remember : GoodIn wsX7_rush (wsV RX7 292 RX7 yX7_remember wsX7_remember) := goodIn_app (goodIn_of _ (by decide +kernel)) ggX7_rush_X7_remember
theorem dX7_rush_0 : decode cX7_rush 0 = .ok (.aload_n 0, 1) := by decide +kernel
theorem dX7_rush_1 : decode cX7_rush 1 = .ok (.iload_n 1, 1) := by decide +kernel
theorem dX7_rush_2 : decode cX7_rush 2 = .ok (.invokevirtual 183, 3) := by decide +kernel
theorem dX7_rush_5 : decode cX7_rush 5 = .ok (.aload_n 0, 1) := by decide +kernel
theorem dX7_rush_6 : decode cX7_rush 6 = .ok (.iload_n 1, 1) := by decide +kernel
theorem dX7_rush_7 : decode cX7_rush 7 = .ok (.invokevirtual 303, 3) := by decide +kernel
theorem dX7_rush_10 : decode cX7_rush 10 = .ok (.ifCond .ne 6, 3) := by decide +kernel
theorem dX7_rush_13 : decode cX7_rush 13 = .ok (.bipush (-3), 2) := by decide +kernel
theorem dX7_rush_15 : decode cX7_rush 15 = .ok (.ireturn, 1) := by decide +kernel
theorem dX7_rush_16 : decode cX7_rush 16 = .ok (.aload_n 0, 1) := by decide +kernel
theorem dX7_rush_17 : decode cX7_rush 17 = .ok (.invokevirtual 292, 3) := by decide +kernel
theorem dX7_rush_20 : decode cX7_rush 20 = .ok (.aload_n 0, 1) := by decide +kernel
theorem dX7_rush_21 : decode cX7_rush 21 = .ok (.getfield 10, 3) := by decide +kernel
theorem dX7_rush_24 : decode cX7_rush 24 = .ok (.getfield 186, 3) := by decide +kernel
theorem dX7_rush_27 : decode cX7_rush 27 = .ok (.iload_n 1, 1) := by decide +kernel
theorem dX7_rush_28 : decode cX7_rush 28 = .ok (.aaload, 1) := by decide +kernel
theorem dX7_rush_29 : decode cX7_rush 29 = .ok (.iconst 1, 1) := by decide +kernel
theorem dX7_rush_30 : decode cX7_rush 30 = .ok (.putfield 313, 3) := by decide +kernel
theorem dX7_rush_33 : decode cX7_rush 33 = .ok (.iconst 0, 1) := by decide +kernel
theorem dX7_rush_34 : decode cX7_rush 34 = .ok (.istore_n 2, 1) := by decide +kernel
theorem dX7_rush_35 : decode cX7_rush 35 = .ok (.iconst 0, 1) := by decide +kernel
theorem dX7_rush_36 : decode cX7_rush 36 = .ok (.istore_n 3, 1) := by decide +kernel
theorem dX7_rush_37 : decode cX7_rush 37 = .ok (.iload_n 3, 1) := by decide +kernel
theorem dX7_rush_38 : decode cX7_rush 38 = .ok (.aload_n 0, 1) := by decide +kernel
theorem dX7_rush_39 : decode cX7_rush 39 = .ok (.getfield 10, 3) := by decide +kernel
theorem dX7_rush_42 : decode cX7_rush 42 = .ok (.getfield 95, 3) := by decide +kernel
theorem dX7_rush_45 : decode cX7_rush 45 = .ok (.if_icmp .ge 27, 3) := by decide +kernel
theorem dX7_rush_48 : decode cX7_rush 48 = .ok (.aload_n 0, 1) := by decide +kernel
theorem dX7_rush_49 : decode cX7_rush 49 = .ok (.getfield 10, 3) := by decide +kernel
theorem dX7_rush_52 : decode cX7_rush 52 = .ok (.getfield 186, 3) := by decide +kernel
theorem dX7_rush_55 : decode cX7_rush 55 = .ok (.iload_n 3, 1) := by decide +kernel
theorem dX7_rush_56 : decode cX7_rush 56 = .ok (.aaload, 1) := by decide +kernel
theorem dX7_rush_57 : decode cX7_rush 57 = .ok (.getfield 313, 3) := by decide +kernel
theorem dX7_rush_60 : decode cX7_rush 60 = .ok (.ifCond .eq 6, 3) := by decide +kernel
theorem dX7_rush_63 : decode cX7_rush 63 = .ok (.iinc 2 1, 3) := by decide +kernel
theorem dX7_rush_66 : decode cX7_rush 66 = .ok (.iinc 3 1, 3) := by decide +kernel
theorem dX7_rush_69 : decode cX7_rush 69 = .ok (.goto (-32), 3) := by decide +kernel
theorem dX7_rush_72 : decode cX7_rush 72 = .ok (.iload_n 2, 1) := by decide +kernel
theorem dX7_rush_73 : decode cX7_rush 73 = .ok (.ireturn, 1) := by decide +kernel
set_option maxRecDepth 20000 in
theorem ggX7_swap_X7_needCard : GoodIn wsX7_swap wsX7_needCard := goodIn_ca (goodIn_r _ [11, 12, 13, 3, 14, 135, 136, 137, 138, 139, 140, 141, 142, 143, 144, 145, 146, 147, 148, 149, 150, 151, 152, 153, 154, 155, 156, 157, 158, 159, 160, 161, 162, 163] (by decide +kernel) (by decide +kernel)) (goodIn_sub (fun _ h => List.mem_cons_of_mem _ (List.mem_append_right _ h)) (by decide +kernel))
set_option maxRecDepth 20000 in
theorem gX7_swap_X7_needCard : GoodIn wsX7_swap (wsV RX7 183 RX7 yX7_needCard wsX7_needCard) := goodIn_app (goodIn_of _ (by decide +kernel)) ggX7_swap_X7_needCard
set_option maxRecDepth 20000 in
theorem ggX7_swap_X7_waits : GoodIn wsX7_swap wsX7_waits := goodIn_r _ [18, 3, 4, 19, 135, 136, 137, 138, 139, 140, 141, 142, 143, 144, 145, 146, 147, 148, 149, 150, 151, 152, 153, 154, 155, 156, 157, 158, 159, 160, 161, 162, 163, 164, 165, 166, 167, 168, 169, 170, 171, 172] (by decide +kernel) (by decide +kernel)
set_option maxRecDepth 20000 in
theorem gX7_swap_X7_waits : GoodIn wsX7_swap (wsV RX7 303 RX7 yX7_waits wsX7_waits) := goodIn_app (goodIn_of _ (by decide +kernel)) ggX7_swap_X7_waits
set_option maxRecDepth 20000 in
theorem ggX7_swap_X7_remember : GoodIn wsX7_swap wsX7_remember := goodIn_r _ [23, 24, 25, 26, 27, 28, 29, 3, 30, 31, 32, 33, 34, 35, 36, 37, 38, 39, 40, 41, 42, 43, 44, 45, 46, 47, 48, 49, 50, 51, 52, 53, 54, 55, 56, 57, 58, 59, 60, 61, 62, 63, 64, 65, 66, 67, 68, 69, 70, 71, 72, 73, 74, 75, 76, 77, 78, 79, 80, 81, 82, 83, 84, 85, 86, 87, 88, 89, 90, 91, 92, 93, 94, 95, 96, 97, 98, 99, 100, 101, 102, 103, 104, 105, 106, 107, 108, 109, 110, 111, 112, 113, 114, 115, 116, 117, 118, 119, 120, 121, 122, 123, 124, 125, 126, 127, 135, 136, 137, 138, 139, 140, 141, 142, 143, 144, 145, 146, 147, 148, 149, 150, 151, 152, 153, 154, 155, 156, 157, 158, 159, 160, 161, 162, 163, 173, 174, 175, 176, 177, 178, 179, 180, 181, 182, 183, 184, 185, 186, 187, 188, 189, 190, 191, 192, 193, 194, 195, 196, 197, 198, 199, 164, 165, 166, 167, 168, 169, 170, 171, 172] (by decide +kernel) (by decide +kernel)
set_option maxRecDepth 20000 in
theorem gX7_swap_X7_remember : GoodIn wsX7_swap (wsV RX7 292 RX7 yX7_remember wsX7_remember) := goodIn_app (goodIn_of _ (by decide +kernel)) ggX7_swap_X7_remember
set_option maxRecDepth 20000 in
theorem ggX7_swap_X3_putAt : GoodIn wsX7_swap wsX3_putAt := goodIn_r _ [131, 42, 132, 40, 133, 134, 147, 148, 149, 150, 151, 152, 153, 154, 155, 156, 157, 158, 159, 160, 161, 162, 163, 164, 165, 166, 167, 168, 169, 170, 171, 172, 188, 189, 190, 191, 192, 193, 194, 195, 196, 197, 198, 199] (by decide +kernel) (by decide +kernel)
set_option maxRecDepth 20000 in
theorem gX7_swap_X3_putAt : GoodIn wsX7_swap (wsV RX7 318 RX3 yX3_putAt wsX3_putAt) := goodIn_app (goodIn_of _ (by decide +kernel)) ggX7_swap_X3_putAt
theorem dX7_swap_0 : decode cX7_swap 0 = .ok (.aload_n 0, 1) := by decide +kernel
theorem dX7_swap_1 : decode cX7_swap 1 = .ok (.iload_n 1, 1) := by decide +kernel
theorem dX7_swap_2 : decode cX7_swap 2 = .ok (.invokevirtual 183, 3) := by decide +kernel
theorem dX7_swap_5 : decode cX7_swap 5 = .ok (.aload_n 0, 1) := by decide +kernel
theorem dX7_swap_6 : decode cX7_swap 6 = .ok (.iload_n 2, 1) := by decide +kernel
theorem dX7_swap_7 : decode cX7_swap 7 = .ok (.invokevirtual 183, 3) := by decide +kernel
theorem dX7_swap_10 : decode cX7_swap 10 = .ok (.iload_n 1, 1) := by decide +kernel
theorem dX7_swap_11 : decode cX7_swap 11 = .ok (.iload_n 2, 1) := by decide +kernel
theorem dX7_swap_12 : decode cX7_swap 12 = .ok (.if_icmp .eq 30, 3) := by decide +kernel
theorem dX7_swap_15 : decode cX7_swap 15 = .ok (.aload_n 0, 1) := by decide +kernel
theorem dX7_swap_16 : decode cX7_swap 16 = .ok (.getfield 10, 3) := by decide +kernel
theorem dX7_swap_19 : decode cX7_swap 19 = .ok (.getfield 186, 3) := by decide +kernel
theorem dX7_swap_22 : decode cX7_swap 22 = .ok (.iload_n 1, 1) := by decide +kernel
theorem dX7_swap_23 : decode cX7_swap 23 = .ok (.aaload, 1) := by decide +kernel
theorem dX7_swap_24 : decode cX7_swap 24 = .ok (.getfield 190, 3) := by decide +kernel
theorem dX7_swap_27 : decode cX7_swap 27 = .ok (.aload_n 0, 1) := by decide +kernel
theorem dX7_swap_28 : decode cX7_swap 28 = .ok (.getfield 10, 3) := by decide +kernel
theorem dX7_swap_31 : decode cX7_swap 31 = .ok (.getfield 186, 3) := by decide +kernel
theorem dX7_swap_34 : decode cX7_swap 34 = .ok (.iload_n 2, 1) := by decide +kernel
theorem dX7_swap_35 : decode cX7_swap 35 = .ok (.aaload, 1) := by decide +kernel
theorem dX7_swap_36 : decode cX7_swap 36 = .ok (.getfield 190, 3) := by decide +kernel
theorem dX7_swap_39 : decode cX7_swap 39 = .ok (.if_icmp .eq 14, 3) := by decide +kernel
theorem dX7_swap_42 : decode cX7_swap 42 = .ok (.new 105, 3) := by decide +kernel
theorem dX7_swap_45 : decode cX7_swap 45 = .ok (.dup, 1) := by decide +kernel
theorem dX7_swap_46 : decode cX7_swap 46 = .ok (.ldc_w 316, 3) := by decide +kernel
theorem dX7_swap_49 : decode cX7_swap 49 = .ok (.invokespecial 109, 3) := by decide +kernel
theorem dX7_swap_52 : decode cX7_swap 52 = .ok (.athrow, 1) := by decide +kernel
theorem dX7_swap_53 : decode cX7_swap 53 = .ok (.aload_n 0, 1) := by decide +kernel
theorem dX7_swap_54 : decode cX7_swap 54 = .ok (.iload_n 1, 1) := by decide +kernel
theorem dX7_swap_55 : decode cX7_swap 55 = .ok (.invokevirtual 303, 3) := by decide +kernel
theorem dX7_swap_58 : decode cX7_swap 58 = .ok (.ifCond .eq 11, 3) := by decide +kernel
theorem dX7_swap_61 : decode cX7_swap 61 = .ok (.aload_n 0, 1) := by decide +kernel
theorem dX7_swap_62 : decode cX7_swap 62 = .ok (.iload_n 2, 1) := by decide +kernel
theorem dX7_swap_63 : decode cX7_swap 63 = .ok (.invokevirtual 303, 3) := by decide +kernel
theorem dX7_swap_66 : decode cX7_swap 66 = .ok (.ifCond .ne 6, 3) := by decide +kernel
theorem dX7_swap_69 : decode cX7_swap 69 = .ok (.bipush (-3), 2) := by decide +kernel
theorem dX7_swap_71 : decode cX7_swap 71 = .ok (.ireturn, 1) := by decide +kernel
theorem dX7_swap_72 : decode cX7_swap 72 = .ok (.aload_n 0, 1) := by decide +kernel
theorem dX7_swap_73 : decode cX7_swap 73 = .ok (.invokevirtual 292, 3) := by decide +kernel
theorem dX7_swap_76 : decode cX7_swap 76 = .ok (.aload_n 0, 1) := by decide +kernel
theorem dX7_swap_77 : decode cX7_swap 77 = .ok (.getfield 10, 3) := by decide +kernel
theorem dX7_swap_80 : decode cX7_swap 80 = .ok (.getfield 186, 3) := by decide +kernel
theorem dX7_swap_83 : decode cX7_swap 83 = .ok (.iload_n 2, 1) := by decide +kernel
theorem dX7_swap_84 : decode cX7_swap 84 = .ok (.aaload, 1) := by decide +kernel
theorem dX7_swap_85 : decode cX7_swap 85 = .ok (.getfield 195, 3) := by decide +kernel
theorem dX7_swap_88 : decode cX7_swap 88 = .ok (.istore_n 3, 1) := by decide +kernel
theorem dX7_swap_89 : decode cX7_swap 89 = .ok (.aload_n 0, 1) := by decide +kernel
theorem dX7_swap_90 : decode cX7_swap 90 = .ok (.getfield 10, 3) := by decide +kernel
theorem dX7_swap_93 : decode cX7_swap 93 = .ok (.iload_n 2, 1) := by decide +kernel
theorem dX7_swap_94 : decode cX7_swap 94 = .ok (.aload_n 0, 1) := by decide +kernel
theorem dX7_swap_95 : decode cX7_swap 95 = .ok (.getfield 10, 3) := by decide +kernel
theorem dX7_swap_98 : decode cX7_swap 98 = .ok (.getfield 186, 3) := by decide +kernel
theorem dX7_swap_101 : decode cX7_swap 101 = .ok (.iload_n 1, 1) := by decide +kernel
theorem dX7_swap_102 : decode cX7_swap 102 = .ok (.aaload, 1) := by decide +kernel
theorem dX7_swap_103 : decode cX7_swap 103 = .ok (.getfield 195, 3) := by decide +kernel
theorem dX7_swap_106 : decode cX7_swap 106 = .ok (.invokevirtual 318, 3) := by decide +kernel
theorem dX7_swap_109 : decode cX7_swap 109 = .ok (.aload_n 0, 1) := by decide +kernel
theorem dX7_swap_110 : decode cX7_swap 110 = .ok (.getfield 10, 3) := by decide +kernel
theorem dX7_swap_113 : decode cX7_swap 113 = .ok (.iload_n 1, 1) := by decide +kernel
theorem dX7_swap_114 : decode cX7_swap 114 = .ok (.iload_n 3, 1) := by decide +kernel
theorem dX7_swap_115 : decode cX7_swap 115 = .ok (.invokevirtual 318, 3) := by decide +kernel
theorem dX7_swap_118 : decode cX7_swap 118 = .ok (.iload_n 3, 1) := by decide +kernel
theorem dX7_swap_119 : decode cX7_swap 119 = .ok (.ireturn, 1) := by decide +kernel
set_option maxRecDepth 20000 in
theorem ggX7_setTries_X7_needRange : GoodIn wsX7_setTries wsX7_needRange := goodIn_ca (goodIn_r _ [6, 7, 8] (by decide +kernel) (by decide +kernel)) (goodIn_sub (fun _ h => List.mem_cons_of_mem _ (List.mem_append_right _ h)) (by decide +kernel))
set_option maxRecDepth 20000 in
theorem gX7_setTries_X7_needRange : GoodIn wsX7_setTries (va_wsS RX7 251 yX7_needRange wsX7_needRange) := goodIn_app (goodIn_of _ (by decide +kernel)) ggX7_setTries_X7_needRange
set_option maxRecDepth 20000 in
theorem ggX7_setTries_X7_remember : GoodIn wsX7_setTries wsX7_remember := goodIn_r _ [12, 13, 14, 15, 16, 17, 18, 1, 19, 20, 21, 22, 23, 24, 25, 26, 27, 28, 29, 30, 31, 32, 33, 34, 35, 36, 37, 38, 39, 40, 41, 42, 43, 44, 45, 46, 47, 48, 49, 50, 51, 52, 53, 54, 55, 56, 57, 58, 59, 60, 61, 62, 63, 64, 65, 66, 67, 68, 69, 70, 71, 72, 73, 74, 75, 76, 77, 78, 79, 80, 81, 82, 83, 84, 85, 86, 87, 88, 89, 90, 91, 92, 93, 94, 95, 96, 97, 98, 99, 100, 101, 102, 103, 104, 105, 106, 107, 108, 109, 110, 111, 112, 113, 114, 115, 116, 117, 118, 119, 120, 121, 122, 123, 124, 125, 126, 127, 128, 129, 130, 131, 132, 133, 134, 135, 136, 137, 138, 139, 140, 141, 142, 143, 144, 145, 146, 147, 148, 149, 150, 151, 152, 153, 154, 155, 156, 157, 158, 159, 160, 161, 162, 163, 164, 165, 166, 167, 168, 169, 170, 171, 172, 173, 174, 175, 176, 177, 178, 179, 180, 181] (by decide +kernel) (by decide +kernel)
set_option maxRecDepth 20000 in
theorem gX7_setTries_X7_remember : GoodIn wsX7_setTries (wsV RX7 292 RX7 yX7_remember wsX7_remember) := goodIn_app (goodIn_of _ (by decide +kernel)) ggX7_setTries_X7_remember
theorem dX7_setTries_0 : decode cX7_setTries 0 = .ok (.iload_n 1, 1) := by decide +kernel
theorem dX7_setTries_1 : decode cX7_setTries 1 = .ok (.iconst 1, 1) := by decide +kernel
theorem dX7_setTries_2 : decode cX7_setTries 2 = .ok (.bipush 9, 2) := by decide +kernel
theorem dX7_setTries_4 : decode cX7_setTries 4 = .ok (.invokestatic 251, 3) := by decide +kernel
theorem dX7_setTries_7 : decode cX7_setTries 7 = .ok (.aload_n 0, 1) := by decide +kernel
theorem dX7_setTries_8 : decode cX7_setTries 8 = .ok (.invokevirtual 292, 3) := by decide +kernel
theorem dX7_setTries_11 : decode cX7_setTries 11 = .ok (.aload_n 0, 1) := by decide +kernel
theorem dX7_setTries_12 : decode cX7_setTries 12 = .ok (.getfield 10, 3) := by decide +kernel
theorem dX7_setTries_15 : decode cX7_setTries 15 = .ok (.getfield 124, 3) := by decide +kernel
theorem dX7_setTries_18 : decode cX7_setTries 18 = .ok (.istore_n 2, 1) := by decide +kernel
theorem dX7_setTries_19 : decode cX7_setTries 19 = .ok (.aload_n 0, 1) := by decide +kernel
theorem dX7_setTries_20 : decode cX7_setTries 20 = .ok (.getfield 10, 3) := by decide +kernel
theorem dX7_setTries_23 : decode cX7_setTries 23 = .ok (.iload_n 1, 1) := by decide +kernel
theorem dX7_setTries_24 : decode cX7_setTries 24 = .ok (.putfield 124, 3) := by decide +kernel
theorem dX7_setTries_27 : decode cX7_setTries 27 = .ok (.iload_n 2, 1) := by decide +kernel
theorem dX7_setTries_28 : decode cX7_setTries 28 = .ok (.ireturn, 1) := by decide +kernel
set_option maxRecDepth 20000 in
theorem ggX7_setTray_X7_needRange : GoodIn wsX7_setTray wsX7_needRange := goodIn_ca (goodIn_r _ [6, 7, 8] (by decide +kernel) (by decide +kernel)) (goodIn_sub (fun _ h => List.mem_cons_of_mem _ (List.mem_append_right _ h)) (by decide +kernel))
set_option maxRecDepth 20000 in
theorem gX7_setTray_X7_needRange : GoodIn wsX7_setTray (va_wsS RX7 251 yX7_needRange wsX7_needRange) := goodIn_app (goodIn_of _ (by decide +kernel)) ggX7_setTray_X7_needRange
set_option maxRecDepth 20000 in
theorem ggX7_setTray_X7_remember : GoodIn wsX7_setTray wsX7_remember := goodIn_r _ [12, 13, 14, 15, 16, 17, 18, 1, 19, 20, 21, 22, 23, 24, 25, 26, 27, 28, 29, 30, 31, 32, 33, 34, 35, 36, 37, 38, 39, 40, 41, 42, 43, 44, 45, 46, 47, 48, 49, 50, 51, 52, 53, 54, 55, 56, 57, 58, 59, 60, 61, 62, 63, 64, 65, 66, 67, 68, 69, 70, 71, 72, 73, 74, 75, 76, 77, 78, 79, 80, 81, 82, 83, 84, 85, 86, 87, 88, 89, 90, 91, 92, 93, 94, 95, 96, 97, 98, 99, 100, 101, 102, 103, 104, 105, 106, 107, 108, 109, 110, 111, 112, 113, 114, 115, 116, 117, 118, 119, 120, 121, 122, 123, 124, 125, 126, 127, 128, 129, 130, 131, 132, 133, 134, 135, 136, 137, 138, 139, 140, 141, 142, 143, 144, 145, 146, 147, 148, 149, 150, 151, 152, 153, 154, 155, 156, 157, 158, 159, 160, 161, 162, 163, 164, 165, 166, 167, 168, 169, 170, 171, 172, 173, 174, 175, 176, 177, 178, 179, 180, 181] (by decide +kernel) (by decide +kernel)
set_option maxRecDepth 20000 in
theorem gX7_setTray_X7_remember : GoodIn wsX7_setTray (wsV RX7 292 RX7 yX7_remember wsX7_remember) := goodIn_app (goodIn_of _ (by decide +kernel)) ggX7_setTray_X7_remember
theorem dX7_setTray_0 : decode cX7_setTray 0 = .ok (.iload_n 1, 1) := by decide +kernel
theorem dX7_setTray_1 : decode cX7_setTray 1 = .ok (.iconst 1, 1) := by decide +kernel
theorem dX7_setTray_2 : decode cX7_setTray 2 = .ok (.bipush 20, 2) := by decide +kernel
theorem dX7_setTray_4 : decode cX7_setTray 4 = .ok (.invokestatic 251, 3) := by decide +kernel
theorem dX7_setTray_7 : decode cX7_setTray 7 = .ok (.aload_n 0, 1) := by decide +kernel
theorem dX7_setTray_8 : decode cX7_setTray 8 = .ok (.invokevirtual 292, 3) := by decide +kernel
theorem dX7_setTray_11 : decode cX7_setTray 11 = .ok (.aload_n 0, 1) := by decide +kernel
theorem dX7_setTray_12 : decode cX7_setTray 12 = .ok (.getfield 10, 3) := by decide +kernel
theorem dX7_setTray_15 : decode cX7_setTray 15 = .ok (.getfield 121, 3) := by decide +kernel
theorem dX7_setTray_18 : decode cX7_setTray 18 = .ok (.istore_n 2, 1) := by decide +kernel
theorem dX7_setTray_19 : decode cX7_setTray 19 = .ok (.aload_n 0, 1) := by decide +kernel
theorem dX7_setTray_20 : decode cX7_setTray 20 = .ok (.getfield 10, 3) := by decide +kernel
theorem dX7_setTray_23 : decode cX7_setTray 23 = .ok (.iload_n 1, 1) := by decide +kernel
theorem dX7_setTray_24 : decode cX7_setTray 24 = .ok (.putfield 121, 3) := by decide +kernel
theorem dX7_setTray_27 : decode cX7_setTray 27 = .ok (.iload_n 2, 1) := by decide +kernel
theorem dX7_setTray_28 : decode cX7_setTray 28 = .ok (.ireturn, 1) := by decide +kernel
set_option maxRecDepth 20000 in
theorem ggX7_run_X7_needRange : GoodIn wsX7_run wsX7_needRange := goodIn_ca (goodIn_r _ [6, 7, 8] (by decide +kernel) (by decide +kernel)) (goodIn_sub (fun _ h => List.mem_cons_of_mem _ (List.mem_append_right _ h)) (by decide +kernel))
set_option maxRecDepth 20000 in
theorem gX7_run_X7_needRange : GoodIn wsX7_run (va_wsS RX7 251 yX7_needRange wsX7_needRange) := goodIn_app (goodIn_of _ (by decide +kernel)) ggX7_run_X7_needRange
set_option maxRecDepth 20000 in
theorem ggX7_run_X7_remember : GoodIn wsX7_run wsX7_remember := goodIn_r _ [12, 13, 14, 15, 16, 17, 18, 1, 19, 20, 21, 22, 23, 24, 25, 26, 27, 28, 29, 30, 31, 32, 33, 34, 35, 36, 37, 38, 39, 40, 41, 42, 43, 44, 45, 46, 47, 48, 49, 50, 51, 52, 53, 54, 55, 56, 57, 58, 59, 60, 61, 62, 63, 64, 65, 66, 67, 68, 69, 70, 71, 72, 73, 74, 75, 76, 77, 78, 79, 80, 81, 82, 83, 84, 85, 86, 87, 88, 89, 90, 91, 92, 93, 94, 95, 96, 97, 98, 99, 100, 101, 102, 103, 104, 105, 106, 107, 108, 109, 110, 111, 112, 113, 114, 115, 116, 251, 252, 253, 254, 255, 256, 257, 258, 259, 260, 261, 262, 263, 264, 265, 266, 267, 268, 269, 270, 271, 272, 273, 274, 275, 276, 277, 278, 279, 280, 281, 282, 283, 284, 285, 286, 287, 288, 289, 290, 291, 292, 293, 294, 295, 296, 297, 298, 299, 300, 301, 302, 303, 304, 305, 306, 307, 308, 309, 310, 311, 312, 313, 314, 315] (by decide +kernel) (by decide +kernel)
set_option maxRecDepth 20000 in
theorem gX7_run_X7_remember : GoodIn wsX7_run (wsV RX7 292 RX7 yX7_remember wsX7_remember) := goodIn_app (goodIn_of _ (by decide +kernel)) ggX7_run_X7_remember
set_option maxRecDepth 20000 in
theorem ggX7_run_X3_tick : GoodIn wsX7_run wsX3_tick := goodIn_r _ [120, 121, 66, 27, 122, 123, 124, 125, 18, 126, 127, 128, 129, 130, 131, 132, 133, 37, 134, 45, 81, 82, 87, 88, 89, 135, 136, 137, 138, 31, 35, 29, 139, 140, 141, 142, 61, 143, 144, 145, 146, 79, 83, 147, 148, 149, 150, 151, 152, 153, 154, 155, 156, 33, 157, 158, 159, 160, 161, 162, 163, 164, 165, 166, 167, 168, 41, 169, 111, 170, 171, 172, 173, 80, 174, 175, 176, 177, 60, 178, 179, 180, 181, 182, 183, 84, 184, 185, 186, 39, 187, 98, 188, 189, 190, 191, 96, 49, 192, 193, 194, 195, 34, 65, 196, 197, 198, 199, 200, 201, 202, 203, 204, 205, 206, 207, 208, 209, 210, 211, 77, 86, 212, 5, 213, 214, 215, 216, 217, 218, 219, 220, 221, 78, 222, 223, 224, 225, 64, 226, 227, 228, 229, 68, 230, 231, 232, 233, 234, 67, 235, 236, 237, 238, 239, 240, 241, 242, 25, 243, 244, 245, 246, 247, 248, 249, 250, 50, 103, 51, 104, 263, 264, 265, 266, 267, 268, 269, 270, 271, 272, 273, 274, 275, 276, 277, 278, 279, 280, 281, 282, 283, 284, 285, 286, 287, 288, 289, 290, 291, 292, 293, 294, 307, 308, 309, 310, 311, 312, 313, 314, 315, 295, 296, 297, 298, 299, 300, 301, 302, 303, 304, 305, 306] (by decide +kernel) (by decide +kernel)
set_option maxRecDepth 20000 in
theorem gX7_run_X3_tick : GoodIn wsX7_run (wsV RX7 322 RX3 yX3_tick wsX3_tick) := goodIn_app (goodIn_of _ (by decide +kernel)) ggX7_run_X3_tick
theorem dX7_run_0 : decode cX7_run 0 = .ok (.iload_n 1, 1) := by decide +kernel
theorem dX7_run_1 : decode cX7_run 1 = .ok (.iconst 1, 1) := by decide +kernel
theorem dX7_run_2 : decode cX7_run 2 = .ok (.sipush 2000, 3) := by decide +kernel
theorem dX7_run_5 : decode cX7_run 5 = .ok (.invokestatic 251, 3) := by decide +kernel
theorem dX7_run_8 : decode cX7_run 8 = .ok (.aload_n 0, 1) := by decide +kernel
theorem dX7_run_9 : decode cX7_run 9 = .ok (.invokevirtual 292, 3) := by decide +kernel
theorem dX7_run_12 : decode cX7_run 12 = .ok (.iconst 0, 1) := by decide +kernel
theorem dX7_run_13 : decode cX7_run 13 = .ok (.istore_n 2, 1) := by decide +kernel
theorem dX7_run_14 : decode cX7_run 14 = .ok (.iload_n 2, 1) := by decide +kernel
theorem dX7_run_15 : decode cX7_run 15 = .ok (.iload_n 1, 1) := by decide +kernel
theorem dX7_run_16 : decode cX7_run 16 = .ok (.if_icmp .ge 17, 3) := by decide +kernel
theorem dX7_run_19 : decode cX7_run 19 = .ok (.aload_n 0, 1) := by decide +kernel
theorem dX7_run_20 : decode cX7_run 20 = .ok (.getfield 10, 3) := by decide +kernel
theorem dX7_run_23 : decode cX7_run 23 = .ok (.invokevirtual 322, 3) := by decide +kernel
theorem dX7_run_26 : decode cX7_run 26 = .ok (.pop, 1) := by decide +kernel
theorem dX7_run_27 : decode cX7_run 27 = .ok (.iinc 2 1, 3) := by decide +kernel
theorem dX7_run_30 : decode cX7_run 30 = .ok (.goto (-16), 3) := by decide +kernel
theorem dX7_run_33 : decode cX7_run 33 = .ok (.aload_n 0, 1) := by decide +kernel
theorem dX7_run_34 : decode cX7_run 34 = .ok (.getfield 10, 3) := by decide +kernel
theorem dX7_run_37 : decode cX7_run 37 = .ok (.getfield 113, 3) := by decide +kernel
theorem dX7_run_40 : decode cX7_run 40 = .ok (.iconst 3, 1) := by decide +kernel
theorem dX7_run_41 : decode cX7_run 41 = .ok (.iaload, 1) := by decide +kernel
theorem dX7_run_42 : decode cX7_run 42 = .ok (.ireturn, 1) := by decide +kernel
set_option maxRecDepth 20000 in
theorem ggX7_runToLeave_X7_needRange : GoodIn wsX7_runToLeave wsX7_needRange := goodIn_ca (goodIn_r _ [6, 7, 8] (by decide +kernel) (by decide +kernel)) (goodIn_sub (fun _ h => List.mem_cons_of_mem _ (List.mem_append_right _ h)) (by decide +kernel))
set_option maxRecDepth 20000 in
theorem gX7_runToLeave_X7_needRange : GoodIn wsX7_runToLeave (va_wsS RX7 251 yX7_needRange wsX7_needRange) := goodIn_app (goodIn_of _ (by decide +kernel)) ggX7_runToLeave_X7_needRange
set_option maxRecDepth 20000 in
theorem ggX7_runToLeave_X7_remember : GoodIn wsX7_runToLeave wsX7_remember := goodIn_r _ [12, 13, 14, 15, 16, 17, 18, 1, 19, 20, 21, 22, 23, 24, 25, 26, 27, 28, 29, 30, 31, 32, 33, 34, 35, 36, 37, 38, 39, 40, 41, 42, 43, 44, 45, 46, 47, 48, 49, 50, 51, 52, 53, 54, 55, 56, 57, 58, 59, 60, 61, 62, 63, 64, 65, 66, 67, 68, 69, 70, 71, 72, 73, 74, 75, 76, 77, 78, 79, 80, 81, 82, 83, 84, 85, 86, 87, 88, 89, 90, 91, 92, 93, 94, 95, 96, 97, 98, 99, 100, 101, 102, 103, 104, 105, 106, 107, 108, 109, 110, 111, 112, 113, 114, 115, 116, 251, 252, 253, 254, 255, 256, 257, 258, 259, 260, 261, 262, 263, 264, 265, 266, 267, 268, 269, 270, 271, 272, 273, 274, 275, 276, 277, 278, 279, 280, 281, 282, 283, 284, 285, 286, 287, 288, 289, 290, 291, 292, 293, 294, 295, 296, 297, 298, 299, 300, 301, 302, 303, 304, 305, 306, 307, 308, 309, 310, 311, 312, 313, 314, 315] (by decide +kernel) (by decide +kernel)
set_option maxRecDepth 20000 in
theorem gX7_runToLeave_X7_remember : GoodIn wsX7_runToLeave (wsV RX7 292 RX7 yX7_remember wsX7_remember) := goodIn_app (goodIn_of _ (by decide +kernel)) ggX7_runToLeave_X7_remember
set_option maxRecDepth 20000 in
theorem ggX7_runToLeave_X3_tick : GoodIn wsX7_runToLeave wsX3_tick := goodIn_r _ [120, 121, 66, 27, 122, 123, 124, 125, 18, 126, 127, 128, 129, 130, 131, 132, 133, 37, 134, 45, 81, 82, 87, 88, 89, 135, 136, 137, 138, 31, 35, 29, 139, 140, 141, 142, 61, 143, 144, 145, 146, 79, 83, 147, 148, 149, 150, 151, 152, 153, 154, 155, 156, 33, 157, 158, 159, 160, 161, 162, 163, 164, 165, 166, 167, 168, 41, 169, 111, 170, 171, 172, 173, 80, 174, 175, 176, 177, 60, 178, 179, 180, 181, 182, 183, 84, 184, 185, 186, 39, 187, 98, 188, 189, 190, 191, 96, 49, 192, 193, 194, 195, 34, 65, 196, 197, 198, 199, 200, 201, 202, 203, 204, 205, 206, 207, 208, 209, 210, 211, 77, 86, 212, 5, 213, 214, 215, 216, 217, 218, 219, 220, 221, 78, 222, 223, 224, 225, 64, 226, 227, 228, 229, 68, 230, 231, 232, 233, 234, 67, 235, 236, 237, 238, 239, 240, 241, 242, 25, 243, 244, 245, 246, 247, 248, 249, 250, 50, 103, 51, 104, 263, 264, 265, 266, 267, 268, 269, 270, 271, 272, 273, 274, 275, 276, 277, 278, 279, 280, 281, 282, 283, 284, 285, 286, 287, 288, 289, 290, 291, 292, 293, 294, 307, 308, 309, 310, 311, 312, 313, 314, 315, 295, 296, 297, 298, 299, 300, 301, 302, 303, 304, 305, 306] (by decide +kernel) (by decide +kernel)
set_option maxRecDepth 20000 in
theorem gX7_runToLeave_X3_tick : GoodIn wsX7_runToLeave (wsV RX7 322 RX3 yX3_tick wsX3_tick) := goodIn_app (goodIn_of _ (by decide +kernel)) ggX7_runToLeave_X3_tick
theorem dX7_runToLeave_0 : decode cX7_runToLeave 0 = .ok (.iload_n 1, 1) := by decide +kernel
theorem dX7_runToLeave_1 : decode cX7_runToLeave 1 = .ok (.iconst 1, 1) := by decide +kernel
theorem dX7_runToLeave_2 : decode cX7_runToLeave 2 = .ok (.sipush 2000, 3) := by decide +kernel
theorem dX7_runToLeave_5 : decode cX7_runToLeave 5 = .ok (.invokestatic 251, 3) := by decide +kernel
theorem dX7_runToLeave_8 : decode cX7_runToLeave 8 = .ok (.aload_n 0, 1) := by decide +kernel
theorem dX7_runToLeave_9 : decode cX7_runToLeave 9 = .ok (.invokevirtual 292, 3) := by decide +kernel
theorem dX7_runToLeave_12 : decode cX7_runToLeave 12 = .ok (.aload_n 0, 1) := by decide +kernel
theorem dX7_runToLeave_13 : decode cX7_runToLeave 13 = .ok (.getfield 10, 3) := by decide +kernel
theorem dX7_runToLeave_16 : decode cX7_runToLeave 16 = .ok (.getfield 113, 3) := by decide +kernel
theorem dX7_runToLeave_19 : decode cX7_runToLeave 19 = .ok (.iconst 3, 1) := by decide +kernel
theorem dX7_runToLeave_20 : decode cX7_runToLeave 20 = .ok (.iaload, 1) := by decide +kernel
theorem dX7_runToLeave_21 : decode cX7_runToLeave 21 = .ok (.istore_n 2, 1) := by decide +kernel
theorem dX7_runToLeave_22 : decode cX7_runToLeave 22 = .ok (.iconst 1, 1) := by decide +kernel
theorem dX7_runToLeave_23 : decode cX7_runToLeave 23 = .ok (.istore_n 3, 1) := by decide +kernel
theorem dX7_runToLeave_24 : decode cX7_runToLeave 24 = .ok (.iload_n 3, 1) := by decide +kernel
theorem dX7_runToLeave_25 : decode cX7_runToLeave 25 = .ok (.iload_n 1, 1) := by decide +kernel
theorem dX7_runToLeave_26 : decode cX7_runToLeave 26 = .ok (.if_icmp .gt 32, 3) := by decide +kernel
theorem dX7_runToLeave_29 : decode cX7_runToLeave 29 = .ok (.aload_n 0, 1) := by decide +kernel
theorem dX7_runToLeave_30 : decode cX7_runToLeave 30 = .ok (.getfield 10, 3) := by decide +kernel
theorem dX7_runToLeave_33 : decode cX7_runToLeave 33 = .ok (.invokevirtual 322, 3) := by decide +kernel
theorem dX7_runToLeave_36 : decode cX7_runToLeave 36 = .ok (.pop, 1) := by decide +kernel
theorem dX7_runToLeave_37 : decode cX7_runToLeave 37 = .ok (.aload_n 0, 1) := by decide +kernel
theorem dX7_runToLeave_38 : decode cX7_runToLeave 38 = .ok (.getfield 10, 3) := by decide +kernel
theorem dX7_runToLeave_41 : decode cX7_runToLeave 41 = .ok (.getfield 113, 3) := by decide +kernel
theorem dX7_runToLeave_44 : decode cX7_runToLeave 44 = .ok (.iconst 3, 1) := by decide +kernel
theorem dX7_runToLeave_45 : decode cX7_runToLeave 45 = .ok (.iaload, 1) := by decide +kernel
theorem dX7_runToLeave_46 : decode cX7_runToLeave 46 = .ok (.iload_n 2, 1) := by decide +kernel
theorem dX7_runToLeave_47 : decode cX7_runToLeave 47 = .ok (.if_icmp .le 5, 3) := by decide +kernel
theorem dX7_runToLeave_50 : decode cX7_runToLeave 50 = .ok (.iload_n 3, 1) := by decide +kernel
theorem dX7_runToLeave_51 : decode cX7_runToLeave 51 = .ok (.ireturn, 1) := by decide +kernel
theorem dX7_runToLeave_52 : decode cX7_runToLeave 52 = .ok (.iinc 3 1, 3) := by decide +kernel
theorem dX7_runToLeave_55 : decode cX7_runToLeave 55 = .ok (.goto (-31), 3) := by decide +kernel
theorem dX7_runToLeave_58 : decode cX7_runToLeave 58 = .ok (.iconst (-1), 1) := by decide +kernel
theorem dX7_runToLeave_59 : decode cX7_runToLeave 59 = .ok (.ireturn, 1) := by decide +kernel
set_option maxRecDepth 20000 in
theorem ggX7_copyOfLine_X3_copyFrom : GoodIn wsX7_copyOfLine wsX3_copyFrom := goodIn_r _ [7, 8, 9, 10, 11, 12, 13, 14, 15, 16, 17, 18, 19, 20, 21, 22, 23, 24, 25, 26, 27, 28, 29, 30, 31, 32, 33, 34, 35, 36, 37, 38, 39, 40, 41, 42, 43, 44, 45, 46, 47, 48, 49, 50, 51, 52, 53, 54, 55, 56, 57, 58, 59, 60, 61, 62, 63, 64, 65, 66, 67, 68, 69, 70, 71, 72, 73, 74, 75, 76, 77, 78, 79, 92, 93, 94, 95, 96, 97, 98, 99, 100, 101, 102, 103, 104, 105, 106, 107, 108, 109, 110, 111, 112, 113, 114, 115, 116, 117, 118, 119, 120, 121, 122, 123, 124, 125, 126, 127, 128, 129, 130, 131, 132, 133, 134, 135, 136, 137, 138, 139, 140, 141, 142, 143, 144] (by decide +kernel) (by decide +kernel)
set_option maxRecDepth 20000 in
theorem gX7_copyOfLine_X3_copyFrom : GoodIn wsX7_copyOfLine (wsV RX7 78 RX3 yX3_copyFrom wsX3_copyFrom) := goodIn_app (goodIn_of _ (by decide +kernel)) ggX7_copyOfLine_X3_copyFrom
theorem dX7_copyOfLine_0 : decode cX7_copyOfLine 0 = .ok (.aload_n 0, 1) := by decide +kernel
theorem dX7_copyOfLine_1 : decode cX7_copyOfLine 1 = .ok (.getfield 16, 3) := by decide +kernel
theorem dX7_copyOfLine_4 : decode cX7_copyOfLine 4 = .ok (.aload_n 0, 1) := by decide +kernel
theorem dX7_copyOfLine_5 : decode cX7_copyOfLine 5 = .ok (.getfield 10, 3) := by decide +kernel
theorem dX7_copyOfLine_8 : decode cX7_copyOfLine 8 = .ok (.invokevirtual 78, 3) := by decide +kernel
theorem dX7_copyOfLine_11 : decode cX7_copyOfLine 11 = .ok (.aload_n 0, 1) := by decide +kernel
theorem dX7_copyOfLine_12 : decode cX7_copyOfLine 12 = .ok (.getfield 16, 3) := by decide +kernel
theorem dX7_copyOfLine_15 : decode cX7_copyOfLine 15 = .ok (.areturn, 1) := by decide +kernel
set_option maxRecDepth 20000 in
theorem ggX7_ticksUntil_X3_hasHappened : GoodIn wsX7_ticksUntil wsX3_hasHappened := goodIn_r _ [5, 6, 7, 8, 9, 10, 11, 12, 13, 14, 15, 16, 17, 18, 19, 20, 21, 22, 23, 24, 25, 26, 27, 28, 29, 194, 195, 196, 197, 198, 199, 200, 201, 202, 203, 204, 205, 206, 207, 208, 209, 210, 211, 212, 213, 214, 215, 216, 217, 218, 219, 220, 221, 222, 223, 224, 225, 226, 227, 228, 229, 230, 231, 232, 233, 234, 235, 236, 237, 238, 239, 240, 241, 242, 243, 244, 245, 246] (by decide +kernel) (by decide +kernel)
set_option maxRecDepth 20000 in
theorem gX7_ticksUntil_X3_hasHappened : GoodIn wsX7_ticksUntil (wsV RX7 326 RX3 yX3_hasHappened wsX3_hasHappened) := goodIn_app (goodIn_of _ (by decide +kernel)) ggX7_ticksUntil_X3_hasHappened
set_option maxRecDepth 20000 in
theorem ggX7_ticksUntil_X3_tick : GoodIn wsX7_ticksUntil wsX3_tick := goodIn_r _ [33, 34, 35, 12, 36, 37, 38, 39, 4, 40, 14, 41, 42, 43, 44, 45, 46, 47, 48, 49, 50, 51, 52, 53, 54, 55, 56, 57, 58, 7, 59, 9, 60, 61, 62, 63, 64, 65, 66, 67, 68, 69, 70, 71, 72, 73, 74, 75, 76, 77, 78, 79, 80, 10, 8, 81, 82, 83, 84, 85, 86, 87, 88, 89, 90, 91, 92, 93, 94, 95, 96, 97, 98, 99, 100, 101, 102, 103, 104, 105, 106, 107, 108, 109, 110, 111, 112, 113, 114, 25, 115, 116, 117, 118, 119, 120, 29, 121, 122, 123, 124, 125, 126, 127, 128, 129, 130, 131, 132, 133, 134, 135, 136, 137, 138, 139, 140, 141, 142, 143, 144, 145, 146, 147, 148, 149, 150, 151, 152, 153, 154, 155, 156, 157, 158, 159, 160, 161, 162, 163, 164, 165, 166, 11, 167, 168, 169, 170, 171, 172, 173, 174, 175, 176, 177, 178, 179, 180, 181, 182, 183, 184, 185, 186, 187, 188, 189, 190, 191, 192, 193, 194, 195, 196, 197, 198, 199, 200, 201, 202, 203, 204, 205, 206, 207, 208, 209, 210, 220, 221, 222, 223, 224, 225, 226, 227, 228, 229, 230, 231, 232, 233, 234, 211, 212, 213, 214, 215, 216, 217, 218, 219, 235, 236, 237, 238, 239, 240, 241, 242, 243, 244, 245, 246] (by decide +kernel) (by decide +kernel)
set_option maxRecDepth 20000 in
theorem gX7_ticksUntil_X3_tick : GoodIn wsX7_ticksUntil (wsV RX7 322 RX3 yX3_tick wsX3_tick) := goodIn_app (goodIn_of _ (by decide +kernel)) ggX7_ticksUntil_X3_tick
theorem dX7_ticksUntil_0 : decode cX7_ticksUntil 0 = .ok (.iconst 0, 1) := by decide +kernel
theorem dX7_ticksUntil_1 : decode cX7_ticksUntil 1 = .ok (.istore 4, 2) := by decide +kernel
theorem dX7_ticksUntil_3 : decode cX7_ticksUntil 3 = .ok (.iload 4, 2) := by decide +kernel
theorem dX7_ticksUntil_5 : decode cX7_ticksUntil 5 = .ok (.iload_n 3, 1) := by decide +kernel
theorem dX7_ticksUntil_6 : decode cX7_ticksUntil 6 = .ok (.if_icmp .gt 36, 3) := by decide +kernel
theorem dX7_ticksUntil_9 : decode cX7_ticksUntil 9 = .ok (.aload_n 0, 1) := by decide +kernel
theorem dX7_ticksUntil_10 : decode cX7_ticksUntil 10 = .ok (.aload_n 1, 1) := by decide +kernel
theorem dX7_ticksUntil_11 : decode cX7_ticksUntil 11 = .ok (.iload_n 2, 1) := by decide +kernel
theorem dX7_ticksUntil_12 : decode cX7_ticksUntil 12 = .ok (.invokevirtual 326, 3) := by decide +kernel
theorem dX7_ticksUntil_15 : decode cX7_ticksUntil 15 = .ok (.ifCond .eq 6, 3) := by decide +kernel
theorem dX7_ticksUntil_18 : decode cX7_ticksUntil 18 = .ok (.iload 4, 2) := by decide +kernel
theorem dX7_ticksUntil_20 : decode cX7_ticksUntil 20 = .ok (.ireturn, 1) := by decide +kernel
theorem dX7_ticksUntil_21 : decode cX7_ticksUntil 21 = .ok (.iload 4, 2) := by decide +kernel
theorem dX7_ticksUntil_23 : decode cX7_ticksUntil 23 = .ok (.iload_n 3, 1) := by decide +kernel
theorem dX7_ticksUntil_24 : decode cX7_ticksUntil 24 = .ok (.if_icmp .eq 10, 3) := by decide +kernel
theorem dX7_ticksUntil_27 : decode cX7_ticksUntil 27 = .ok (.aload_n 0, 1) := by decide +kernel
theorem dX7_ticksUntil_28 : decode cX7_ticksUntil 28 = .ok (.invokevirtual 322, 3) := by decide +kernel
theorem dX7_ticksUntil_31 : decode cX7_ticksUntil 31 = .ok (.ifCond .ne 5, 3) := by decide +kernel
theorem dX7_ticksUntil_34 : decode cX7_ticksUntil 34 = .ok (.iconst (-1), 1) := by decide +kernel
theorem dX7_ticksUntil_35 : decode cX7_ticksUntil 35 = .ok (.ireturn, 1) := by decide +kernel
theorem dX7_ticksUntil_36 : decode cX7_ticksUntil 36 = .ok (.iinc 4 1, 3) := by decide +kernel
theorem dX7_ticksUntil_39 : decode cX7_ticksUntil 39 = .ok (.goto (-36), 3) := by decide +kernel
theorem dX7_ticksUntil_42 : decode cX7_ticksUntil 42 = .ok (.iconst (-1), 1) := by decide +kernel
theorem dX7_ticksUntil_43 : decode cX7_ticksUntil 43 = .ok (.ireturn, 1) := by decide +kernel
set_option maxRecDepth 20000 in
theorem ggX7_copyBehind_X7_copyOfLine : GoodIn wsX7_copyBehind wsX7_copyOfLine := goodIn_r _ [5, 6, 7, 8, 9, 10, 11, 12, 13, 14, 15, 16, 17, 18, 19, 20, 21, 22, 23, 24, 25, 26, 27, 28, 29, 30, 31, 32, 33, 34, 35, 36, 37, 38, 39, 40, 41, 42, 43, 44, 45, 46, 47, 48, 49, 50, 51, 52, 53, 54, 55, 56, 57, 58, 59, 60, 61, 62, 63, 64, 65, 66, 67, 68, 69, 70, 71, 72, 73, 74, 75, 76, 77, 78, 79, 80, 81, 82, 83, 84, 219, 220, 221, 222, 223, 224, 225, 226, 227, 228, 229, 230, 231, 232, 233, 234, 235, 236, 237, 238, 239, 240, 241, 242, 243, 244, 245, 246, 247, 248, 249, 250, 251, 252, 253, 254, 255, 256, 257, 258, 259, 260, 261, 262, 263, 264, 265, 266, 267, 268, 269, 270, 271, 272, 273, 274, 275, 276, 277, 278, 279, 280, 281, 282, 283] (by decide +kernel) (by decide +kernel)
set_option maxRecDepth 20000 in
theorem gX7_copyBehind_X7_copyOfLine : GoodIn wsX7_copyBehind (wsV RX7 330 RX7 yX7_copyOfLine wsX7_copyOfLine) := goodIn_app (goodIn_of _ (by decide +kernel)) ggX7_copyBehind_X7_copyOfLine
set_option maxRecDepth 20000 in
theorem ggX7_copyBehind_X3_tick : GoodIn wsX7_copyBehind wsX3_tick := goodIn_r _ [88, 89, 20, 23, 90, 91, 92, 93, 11, 94, 95, 96, 97, 98, 99, 100, 101, 36, 102, 40, 43, 44, 49, 50, 51, 103, 104, 105, 106, 25, 32, 24, 107, 108, 109, 110, 15, 111, 112, 113, 114, 41, 45, 115, 116, 117, 118, 119, 120, 121, 122, 123, 124, 26, 125, 126, 127, 128, 129, 130, 131, 132, 133, 134, 135, 136, 74, 137, 79, 138, 139, 140, 141, 42, 142, 143, 144, 145, 14, 146, 147, 148, 149, 150, 151, 46, 152, 153, 154, 56, 155, 62, 156, 157, 158, 159, 59, 60, 160, 161, 162, 163, 31, 19, 164, 165, 166, 167, 168, 169, 170, 171, 172, 173, 174, 175, 176, 177, 178, 179, 38, 48, 180, 4, 181, 182, 183, 184, 185, 186, 187, 188, 189, 39, 190, 191, 192, 193, 18, 194, 195, 196, 197, 22, 198, 199, 200, 201, 202, 21, 203, 204, 205, 206, 207, 208, 209, 210, 13, 211, 212, 213, 214, 215, 216, 217, 218, 69, 67, 70, 68, 231, 232, 233, 234, 235, 236, 237, 238, 239, 240, 241, 242, 243, 244, 245, 246, 247, 248, 249, 250, 251, 252, 253, 254, 255, 256, 257, 258, 259, 260, 261, 262, 275, 276, 277, 278, 279, 280, 281, 282, 283, 263, 264, 265, 266, 267, 268, 269, 270, 271, 272, 273, 274] (by decide +kernel) (by decide +kernel)
set_option maxRecDepth 20000 in
theorem gX7_copyBehind_X3_tick : GoodIn wsX7_copyBehind (wsV RX7 322 RX3 yX3_tick wsX3_tick) := goodIn_app (goodIn_of _ (by decide +kernel)) ggX7_copyBehind_X3_tick
theorem dX7_copyBehind_0 : decode cX7_copyBehind 0 = .ok (.aload_n 0, 1) := by decide +kernel
theorem dX7_copyBehind_1 : decode cX7_copyBehind 1 = .ok (.invokevirtual 330, 3) := by decide +kernel
theorem dX7_copyBehind_4 : decode cX7_copyBehind 4 = .ok (.astore_n 2, 1) := by decide +kernel
theorem dX7_copyBehind_5 : decode cX7_copyBehind 5 = .ok (.iconst 1, 1) := by decide +kernel
theorem dX7_copyBehind_6 : decode cX7_copyBehind 6 = .ok (.istore_n 3, 1) := by decide +kernel
theorem dX7_copyBehind_7 : decode cX7_copyBehind 7 = .ok (.iconst 0, 1) := by decide +kernel
theorem dX7_copyBehind_8 : decode cX7_copyBehind 8 = .ok (.istore 4, 2) := by decide +kernel
theorem dX7_copyBehind_10 : decode cX7_copyBehind 10 = .ok (.iload 4, 2) := by decide +kernel
theorem dX7_copyBehind_12 : decode cX7_copyBehind 12 = .ok (.iload_n 1, 1) := by decide +kernel
theorem dX7_copyBehind_13 : decode cX7_copyBehind 13 = .ok (.if_icmp .ge 18, 3) := by decide +kernel
theorem dX7_copyBehind_16 : decode cX7_copyBehind 16 = .ok (.iload_n 3, 1) := by decide +kernel
theorem dX7_copyBehind_17 : decode cX7_copyBehind 17 = .ok (.ifCond .eq 14, 3) := by decide +kernel
theorem dX7_copyBehind_20 : decode cX7_copyBehind 20 = .ok (.aload_n 2, 1) := by decide +kernel
theorem dX7_copyBehind_21 : decode cX7_copyBehind 21 = .ok (.invokevirtual 322, 3) := by decide +kernel
theorem dX7_copyBehind_24 : decode cX7_copyBehind 24 = .ok (.istore_n 3, 1) := by decide +kernel
theorem dX7_copyBehind_25 : decode cX7_copyBehind 25 = .ok (.iinc 4 1, 3) := by decide +kernel
theorem dX7_copyBehind_28 : decode cX7_copyBehind 28 = .ok (.goto (-18), 3) := by decide +kernel
theorem dX7_copyBehind_31 : decode cX7_copyBehind 31 = .ok (.aload_n 2, 1) := by decide +kernel
theorem dX7_copyBehind_32 : decode cX7_copyBehind 32 = .ok (.areturn, 1) := by decide +kernel
set_option maxRecDepth 20000 in
theorem ggX7_leavesIn_X7_needCard : GoodIn wsX7_leavesIn wsX7_needCard := goodIn_ca (goodIn_r _ [6, 7, 8, 9, 10, 247, 248, 249, 250, 251, 252, 253, 254, 255, 256, 257, 258, 259, 260, 261, 262, 263, 264, 265, 266, 267, 268, 269, 270, 271, 272, 273, 274, 275] (by decide +kernel) (by decide +kernel)) (goodIn_sub (fun _ h => List.mem_cons_of_mem _ (List.mem_append_right _ h)) (by decide +kernel))
set_option maxRecDepth 20000 in
theorem gX7_leavesIn_X7_needCard : GoodIn wsX7_leavesIn (wsV RX7 183 RX7 yX7_needCard wsX7_needCard) := goodIn_app (goodIn_of _ (by decide +kernel)) ggX7_leavesIn_X7_needCard
set_option maxRecDepth 20000 in
theorem ggX7_leavesIn_X7_copyOfLine : GoodIn wsX7_leavesIn wsX7_copyOfLine := goodIn_r _ [14, 15, 9, 16, 17, 18, 19, 20, 21, 22, 23, 24, 25, 26, 27, 28, 29, 30, 31, 32, 33, 34, 35, 36, 37, 38, 39, 40, 41, 42, 43, 44, 45, 46, 47, 48, 49, 50, 51, 52, 53, 54, 55, 56, 57, 58, 59, 60, 61, 62, 63, 64, 65, 66, 67, 68, 69, 70, 71, 72, 73, 74, 75, 76, 77, 78, 79, 80, 81, 82, 83, 84, 85, 86, 87, 88, 89, 90, 91, 92, 247, 248, 249, 250, 251, 252, 253, 254, 255, 256, 257, 258, 259, 260, 261, 262, 263, 264, 265, 266, 267, 268, 269, 270, 271, 272, 273, 274, 275, 276, 277, 278, 279, 280, 281, 282, 283, 284, 285, 286, 287, 288, 289, 290, 291, 292, 293, 294, 295, 296, 297, 298, 299, 300, 301, 302, 303, 304, 305, 306, 307, 308, 309, 310, 311] (by decide +kernel) (by decide +kernel)
set_option maxRecDepth 20000 in
theorem gX7_leavesIn_X7_copyOfLine : GoodIn wsX7_leavesIn (wsV RX7 330 RX7 yX7_copyOfLine wsX7_copyOfLine) := goodIn_app (goodIn_of _ (by decide +kernel)) ggX7_leavesIn_X7_copyOfLine
set_option maxRecDepth 20000 in
theorem ggX7_leavesIn_X7_ticksUntil : GoodIn wsX7_leavesIn wsX7_ticksUntil := goodIn_r _ [95, 96, 97, 98, 19, 99, 100, 33, 101, 32, 34, 30, 31, 102, 103, 104, 105, 106, 107, 108, 109, 110, 111, 112, 113, 64, 114, 71, 72, 67, 115, 116, 117, 118, 119, 28, 120, 121, 122, 123, 124, 125, 126, 127, 128, 129, 130, 44, 131, 48, 51, 52, 57, 58, 59, 132, 133, 134, 135, 40, 136, 137, 138, 139, 23, 140, 141, 142, 143, 49, 53, 144, 145, 146, 147, 148, 149, 150, 151, 152, 153, 154, 155, 156, 157, 158, 159, 160, 161, 162, 163, 164, 82, 165, 87, 166, 167, 168, 169, 50, 170, 171, 172, 173, 22, 174, 175, 176, 177, 178, 179, 54, 180, 181, 182, 183, 70, 184, 185, 186, 187, 68, 188, 189, 190, 191, 39, 27, 192, 193, 194, 195, 196, 197, 198, 199, 200, 201, 202, 203, 204, 205, 206, 207, 46, 56, 208, 5, 209, 210, 211, 212, 213, 214, 215, 216, 217, 47, 218, 219, 220, 221, 26, 222, 223, 224, 225, 226, 227, 228, 229, 230, 29, 231, 232, 233, 234, 235, 236, 237, 238, 21, 239, 240, 241, 242, 243, 244, 245, 246, 77, 75, 78, 76, 259, 260, 261, 262, 263, 264, 265, 266, 267, 268, 269, 270, 271, 272, 273, 274, 275, 303, 304, 305, 306, 307, 308, 309, 310, 311, 276, 277, 278, 279, 280, 281, 282, 283, 284, 285, 286, 287, 288, 289, 290, 291, 292, 293, 294, 295, 296, 297, 298, 299, 300, 301, 302] (by decide +kernel) (by decide +kernel)
set_option maxRecDepth 20000 in
theorem gX7_leavesIn_X7_ticksUntil : GoodIn wsX7_leavesIn (va_wsS RX7 340 yX7_ticksUntil wsX7_ticksUntil) := goodIn_app (goodIn_of _ (by decide +kernel)) ggX7_leavesIn_X7_ticksUntil
theorem dX7_leavesIn_0 : decode cX7_leavesIn 0 = .ok (.aload_n 0, 1) := by decide +kernel
theorem dX7_leavesIn_1 : decode cX7_leavesIn 1 = .ok (.iload_n 1, 1) := by decide +kernel
theorem dX7_leavesIn_2 : decode cX7_leavesIn 2 = .ok (.invokevirtual 183, 3) := by decide +kernel
theorem dX7_leavesIn_5 : decode cX7_leavesIn 5 = .ok (.aload_n 0, 1) := by decide +kernel
theorem dX7_leavesIn_6 : decode cX7_leavesIn 6 = .ok (.invokevirtual 330, 3) := by decide +kernel
theorem dX7_leavesIn_9 : decode cX7_leavesIn 9 = .ok (.getstatic 334, 3) := by decide +kernel
theorem dX7_leavesIn_12 : decode cX7_leavesIn 12 = .ok (.iload_n 1, 1) := by decide +kernel
theorem dX7_leavesIn_13 : decode cX7_leavesIn 13 = .ok (.sipush 2000, 3) := by decide +kernel
theorem dX7_leavesIn_16 : decode cX7_leavesIn 16 = .ok (.invokestatic 340, 3) := by decide +kernel
theorem dX7_leavesIn_19 : decode cX7_leavesIn 19 = .ok (.ireturn, 1) := by decide +kernel
set_option maxRecDepth 20000 in
theorem ggX7_lotIn_X7_needLot : GoodIn wsX7_lotIn wsX7_needLot := goodIn_ca (goodIn_r _ [6, 7, 8, 9, 10, 247, 248, 249, 250, 251, 252, 253, 254, 255, 256, 257, 258, 259, 260, 261, 262, 263, 264, 265, 266, 267, 268, 269, 270, 271, 272, 273, 274, 275] (by decide +kernel) (by decide +kernel)) (goodIn_sub (fun _ h => List.mem_cons_of_mem _ (List.mem_append_right _ h)) (by decide +kernel))
set_option maxRecDepth 20000 in
theorem gX7_lotIn_X7_needLot : GoodIn wsX7_lotIn (wsV RX7 214 RX7 yX7_needLot wsX7_needLot) := goodIn_app (goodIn_of _ (by decide +kernel)) ggX7_lotIn_X7_needLot
set_option maxRecDepth 20000 in
theorem ggX7_lotIn_X7_copyOfLine : GoodIn wsX7_lotIn wsX7_copyOfLine := goodIn_r _ [14, 15, 9, 16, 17, 18, 19, 20, 21, 22, 23, 24, 25, 26, 27, 28, 29, 30, 31, 32, 33, 34, 35, 36, 37, 38, 39, 40, 41, 42, 43, 44, 45, 46, 47, 48, 49, 50, 51, 52, 53, 54, 55, 56, 57, 58, 59, 60, 61, 62, 63, 64, 65, 66, 67, 68, 69, 70, 71, 72, 73, 74, 75, 76, 77, 78, 79, 80, 81, 82, 83, 84, 85, 86, 87, 88, 89, 90, 91, 92, 247, 248, 249, 250, 251, 252, 253, 254, 255, 256, 257, 258, 259, 260, 261, 262, 263, 264, 265, 266, 267, 268, 269, 270, 271, 272, 273, 274, 275, 276, 277, 278, 279, 280, 281, 282, 283, 284, 285, 286, 287, 288, 289, 290, 291, 292, 293, 294, 295, 296, 297, 298, 299, 300, 301, 302, 303, 304, 305, 306, 307, 308, 309, 310, 311] (by decide +kernel) (by decide +kernel)
set_option maxRecDepth 20000 in
theorem gX7_lotIn_X7_copyOfLine : GoodIn wsX7_lotIn (wsV RX7 330 RX7 yX7_copyOfLine wsX7_copyOfLine) := goodIn_app (goodIn_of _ (by decide +kernel)) ggX7_lotIn_X7_copyOfLine
set_option maxRecDepth 20000 in
theorem ggX7_lotIn_X7_ticksUntil : GoodIn wsX7_lotIn wsX7_ticksUntil := goodIn_r _ [95, 96, 97, 98, 19, 99, 100, 33, 101, 32, 34, 30, 31, 102, 103, 104, 105, 106, 107, 108, 109, 110, 111, 112, 113, 64, 114, 71, 72, 67, 115, 116, 117, 118, 119, 28, 120, 121, 122, 123, 124, 125, 126, 127, 128, 129, 130, 44, 131, 48, 51, 52, 57, 58, 59, 132, 133, 134, 135, 40, 136, 137, 138, 139, 23, 140, 141, 142, 143, 49, 53, 144, 145, 146, 147, 148, 149, 150, 151, 152, 153, 154, 155, 156, 157, 158, 159, 160, 161, 162, 163, 164, 82, 165, 87, 166, 167, 168, 169, 50, 170, 171, 172, 173, 22, 174, 175, 176, 177, 178, 179, 54, 180, 181, 182, 183, 70, 184, 185, 186, 187, 68, 188, 189, 190, 191, 39, 27, 192, 193, 194, 195, 196, 197, 198, 199, 200, 201, 202, 203, 204, 205, 206, 207, 46, 56, 208, 5, 209, 210, 211, 212, 213, 214, 215, 216, 217, 47, 218, 219, 220, 221, 26, 222, 223, 224, 225, 226, 227, 228, 229, 230, 29, 231, 232, 233, 234, 235, 236, 237, 238, 21, 239, 240, 241, 242, 243, 244, 245, 246, 77, 75, 78, 76, 259, 260, 261, 262, 263, 264, 265, 266, 267, 268, 269, 270, 271, 272, 273, 274, 275, 303, 304, 305, 306, 307, 308, 309, 310, 311, 276, 277, 278, 279, 280, 281, 282, 283, 284, 285, 286, 287, 288, 289, 290, 291, 292, 293, 294, 295, 296, 297, 298, 299, 300, 301, 302] (by decide +kernel) (by decide +kernel)
set_option maxRecDepth 20000 in
theorem gX7_lotIn_X7_ticksUntil : GoodIn wsX7_lotIn (va_wsS RX7 340 yX7_ticksUntil wsX7_ticksUntil) := goodIn_app (goodIn_of _ (by decide +kernel)) ggX7_lotIn_X7_ticksUntil
theorem dX7_lotIn_0 : decode cX7_lotIn 0 = .ok (.aload_n 0, 1) := by decide +kernel
theorem dX7_lotIn_1 : decode cX7_lotIn 1 = .ok (.iload_n 1, 1) := by decide +kernel
theorem dX7_lotIn_2 : decode cX7_lotIn 2 = .ok (.invokevirtual 214, 3) := by decide +kernel
theorem dX7_lotIn_5 : decode cX7_lotIn 5 = .ok (.aload_n 0, 1) := by decide +kernel
theorem dX7_lotIn_6 : decode cX7_lotIn 6 = .ok (.invokevirtual 330, 3) := by decide +kernel
theorem dX7_lotIn_9 : decode cX7_lotIn 9 = .ok (.getstatic 344, 3) := by decide +kernel
theorem dX7_lotIn_12 : decode cX7_lotIn 12 = .ok (.iload_n 1, 1) := by decide +kernel
theorem dX7_lotIn_13 : decode cX7_lotIn 13 = .ok (.sipush 2000, 3) := by decide +kernel
theorem dX7_lotIn_16 : decode cX7_lotIn 16 = .ok (.invokestatic 340, 3) := by decide +kernel
theorem dX7_lotIn_19 : decode cX7_lotIn 19 = .ok (.ireturn, 1) := by decide +kernel
set_option maxRecDepth 20000 in
theorem ggX7_allIn_X7_copyOfLine : GoodIn wsX7_allIn wsX7_copyOfLine := goodIn_r _ [6, 7, 8, 9, 10, 11, 12, 13, 14, 15, 16, 17, 18, 19, 20, 21, 22, 23, 24, 25, 26, 27, 28, 29, 30, 31, 32, 33, 34, 35, 36, 37, 38, 39, 40, 41, 42, 43, 44, 45, 46, 47, 48, 49, 50, 51, 52, 53, 54, 55, 56, 57, 58, 59, 60, 61, 62, 63, 64, 65, 66, 67, 68, 69, 70, 71, 72, 73, 74, 75, 76, 77, 78, 79, 80, 81, 82, 83, 84, 85, 240, 241, 242, 243, 244, 245, 246, 247, 248, 249, 250, 251, 252, 253, 254, 255, 256, 257, 258, 259, 260, 261, 262, 263, 264, 265, 266, 267, 268, 269, 270, 271, 272, 273, 274, 275, 276, 277, 278, 279, 280, 281, 282, 283, 284, 285, 286, 287, 288, 289, 290, 291, 292, 293, 294, 295, 296, 297, 298, 299, 300, 301, 302, 303, 304] (by decide +kernel) (by decide +kernel)
set_option maxRecDepth 20000 in
theorem gX7_allIn_X7_copyOfLine : GoodIn wsX7_allIn (wsV RX7 330 RX7 yX7_copyOfLine wsX7_copyOfLine) := goodIn_app (goodIn_of _ (by decide +kernel)) ggX7_allIn_X7_copyOfLine
set_option maxRecDepth 20000 in
theorem ggX7_allIn_X7_ticksUntil : GoodIn wsX7_allIn wsX7_ticksUntil := goodIn_r _ [88, 89, 90, 91, 12, 92, 93, 26, 94, 25, 27, 23, 24, 95, 96, 97, 98, 99, 100, 101, 102, 103, 104, 105, 106, 57, 107, 64, 65, 60, 108, 109, 110, 111, 112, 21, 113, 114, 115, 116, 117, 118, 119, 120, 121, 122, 123, 37, 124, 41, 44, 45, 50, 51, 52, 125, 126, 127, 128, 33, 129, 130, 131, 132, 16, 133, 134, 135, 136, 42, 46, 137, 138, 139, 140, 141, 142, 143, 144, 145, 146, 147, 148, 149, 150, 151, 152, 153, 154, 155, 156, 157, 75, 158, 80, 159, 160, 161, 162, 43, 163, 164, 165, 166, 15, 167, 168, 169, 170, 171, 172, 47, 173, 174, 175, 176, 63, 177, 178, 179, 180, 61, 181, 182, 183, 184, 32, 20, 185, 186, 187, 188, 189, 190, 191, 192, 193, 194, 195, 196, 197, 198, 199, 200, 39, 49, 201, 5, 202, 203, 204, 205, 206, 207, 208, 209, 210, 40, 211, 212, 213, 214, 19, 215, 216, 217, 218, 219, 220, 221, 222, 223, 22, 224, 225, 226, 227, 228, 229, 230, 231, 14, 232, 233, 234, 235, 236, 237, 238, 239, 70, 68, 71, 69, 252, 253, 254, 255, 256, 257, 258, 259, 260, 261, 262, 263, 264, 265, 266, 267, 268, 296, 297, 298, 299, 300, 301, 302, 303, 304, 269, 270, 271, 272, 273, 274, 275, 276, 277, 278, 279, 280, 281, 282, 283, 284, 285, 286, 287, 288, 289, 290, 291, 292, 293, 294, 295] (by decide +kernel) (by decide +kernel)
set_option maxRecDepth 20000 in
theorem gX7_allIn_X7_ticksUntil : GoodIn wsX7_allIn (va_wsS RX7 340 yX7_ticksUntil wsX7_ticksUntil) := goodIn_app (goodIn_of _ (by decide +kernel)) ggX7_allIn_X7_ticksUntil
theorem dX7_allIn_0 : decode cX7_allIn 0 = .ok (.aload_n 0, 1) := by decide +kernel
theorem dX7_allIn_1 : decode cX7_allIn 1 = .ok (.invokevirtual 330, 3) := by decide +kernel
theorem dX7_allIn_4 : decode cX7_allIn 4 = .ok (.getstatic 347, 3) := by decide +kernel
theorem dX7_allIn_7 : decode cX7_allIn 7 = .ok (.iconst (-1), 1) := by decide +kernel
theorem dX7_allIn_8 : decode cX7_allIn 8 = .ok (.sipush 2000, 3) := by decide +kernel
theorem dX7_allIn_11 : decode cX7_allIn 11 = .ok (.invokestatic 340, 3) := by decide +kernel
theorem dX7_allIn_14 : decode cX7_allIn 14 = .ok (.ireturn, 1) := by decide +kernel
set_option maxRecDepth 20000 in
theorem ggX7_leftIn_X7_needRange : GoodIn wsX7_leftIn wsX7_needRange := goodIn_ca (goodIn_r _ [5, 6, 7] (by decide +kernel) (by decide +kernel)) (goodIn_sub (fun _ h => List.mem_cons_of_mem _ (List.mem_append_right _ h)) (by decide +kernel))
set_option maxRecDepth 20000 in
theorem gX7_leftIn_X7_needRange : GoodIn wsX7_leftIn (va_wsS RX7 251 yX7_needRange wsX7_needRange) := goodIn_app (goodIn_of _ (by decide +kernel)) ggX7_leftIn_X7_needRange
set_option maxRecDepth 20000 in
theorem ggX7_leftIn_X7_copyBehind : GoodIn wsX7_leftIn wsX7_copyBehind := goodIn_r _ [11, 12, 13, 14, 4, 15, 16, 17, 18, 19, 20, 21, 22, 23, 24, 25, 26, 27, 28, 29, 30, 31, 32, 33, 34, 35, 36, 37, 38, 39, 40, 41, 42, 43, 44, 45, 46, 47, 48, 49, 50, 51, 52, 53, 54, 55, 56, 57, 58, 59, 60, 61, 62, 63, 64, 65, 66, 67, 68, 69, 70, 71, 72, 73, 74, 75, 76, 77, 78, 79, 80, 81, 82, 83, 84, 85, 86, 87, 88, 89, 90, 91, 92, 93, 94, 95, 96, 97, 98, 99, 100, 101, 102, 103, 104, 105, 106, 107, 108, 109, 110, 111, 112, 113, 114, 115, 116, 117, 118, 119, 120, 121, 122, 123, 124, 125, 126, 127, 128, 129, 130, 131, 132, 133, 134, 135, 136, 137, 138, 139, 140, 141, 142, 143, 144, 145, 146, 147, 148, 149, 150, 151, 152, 153, 154, 155, 156, 157, 158, 159, 160, 161, 162, 163, 164, 165, 166, 167, 168, 169, 170, 171, 172, 173, 174, 175, 176, 177, 178, 179, 180, 181, 182, 183, 184, 185, 186, 187, 188, 189, 190, 191, 192, 193, 194, 195, 196, 197, 198, 199, 200, 201, 202, 203, 204, 205, 206, 207, 208, 209, 210, 211, 212, 213, 214, 215, 216, 217, 218, 219, 220, 221, 222, 223, 224, 225, 226, 227, 228, 246, 247, 248, 249, 250, 251, 252, 253, 254, 255, 256, 257, 229, 230, 231, 232, 233, 234, 235, 236, 237, 238, 239, 240, 241, 242, 243, 244, 245, 258, 259, 260, 261, 262, 263, 264, 265, 266, 267, 268, 269, 270, 271, 272, 273, 274, 275, 276, 277, 278, 279, 280, 281, 282, 283, 284, 285, 286, 287, 288, 289, 290, 291, 292, 293] (by decide +kernel) (by decide +kernel)
set_option maxRecDepth 20000 in
theorem gX7_leftIn_X7_copyBehind : GoodIn wsX7_leftIn (wsV RX7 350 RX7 yX7_copyBehind wsX7_copyBehind) := goodIn_app (goodIn_of _ (by decide +kernel)) ggX7_leftIn_X7_copyBehind
theorem dX7_leftIn_0 : decode cX7_leftIn 0 = .ok (.iload_n 1, 1) := by decide +kernel
theorem dX7_leftIn_1 : decode cX7_leftIn 1 = .ok (.iconst 1, 1) := by decide +kernel
theorem dX7_leftIn_2 : decode cX7_leftIn 2 = .ok (.sipush 2000, 3) := by decide +kernel
theorem dX7_leftIn_5 : decode cX7_leftIn 5 = .ok (.invokestatic 251, 3) := by decide +kernel
theorem dX7_leftIn_8 : decode cX7_leftIn 8 = .ok (.aload_n 0, 1) := by decide +kernel
theorem dX7_leftIn_9 : decode cX7_leftIn 9 = .ok (.iload_n 1, 1) := by decide +kernel
theorem dX7_leftIn_10 : decode cX7_leftIn 10 = .ok (.invokevirtual 350, 3) := by decide +kernel
theorem dX7_leftIn_13 : decode cX7_leftIn 13 = .ok (.getfield 113, 3) := by decide +kernel
theorem dX7_leftIn_16 : decode cX7_leftIn 16 = .ok (.iconst 3, 1) := by decide +kernel
theorem dX7_leftIn_17 : decode cX7_leftIn 17 = .ok (.iaload, 1) := by decide +kernel
theorem dX7_leftIn_18 : decode cX7_leftIn 18 = .ok (.ireturn, 1) := by decide +kernel
set_option maxRecDepth 20000 in
theorem ggX7_failIn_X7_needStation : GoodIn wsX7_failIn wsX7_needStation := goodIn_ca (goodIn_r _ [8, 9, 10, 11, 12, 281, 282, 283, 284, 285, 286, 287, 288, 289, 290, 291, 292, 249, 250, 251, 252, 253, 254, 255, 256, 257, 258, 259, 260, 261, 262, 263, 264, 265] (by decide +kernel) (by decide +kernel)) (goodIn_sub (fun _ h => List.mem_cons_of_mem _ (List.mem_append_right _ h)) (by decide +kernel))
set_option maxRecDepth 20000 in
theorem gX7_failIn_X7_needStation : GoodIn wsX7_failIn (wsV RX7 133 RX7 yX7_needStation wsX7_needStation) := goodIn_app (goodIn_of _ (by decide +kernel)) ggX7_failIn_X7_needStation
set_option maxRecDepth 20000 in
theorem ggX7_failIn_X7_copyOfLine : GoodIn wsX7_failIn wsX7_copyOfLine := goodIn_r _ [16, 17, 11, 18, 19, 20, 21, 22, 23, 24, 25, 26, 27, 28, 29, 30, 31, 32, 33, 34, 35, 36, 37, 38, 39, 40, 41, 42, 43, 44, 45, 46, 47, 48, 49, 50, 51, 52, 53, 54, 55, 56, 57, 58, 59, 60, 61, 62, 63, 64, 65, 66, 67, 68, 69, 70, 71, 72, 73, 74, 75, 76, 77, 78, 79, 80, 81, 82, 83, 84, 85, 86, 87, 88, 89, 90, 91, 92, 93, 94, 281, 282, 283, 284, 285, 286, 287, 288, 289, 290, 291, 292, 249, 250, 251, 252, 253, 254, 255, 256, 257, 258, 259, 260, 261, 262, 263, 264, 265, 266, 267, 268, 269, 270, 271, 272, 273, 274, 275, 276, 277, 278, 279, 280, 293, 294, 295, 296, 297, 298, 299, 300, 301, 302, 303, 304, 305, 306, 307, 308, 309, 310, 311, 312, 313] (by decide +kernel) (by decide +kernel)
set_option maxRecDepth 20000 in
theorem gX7_failIn_X7_copyOfLine : GoodIn wsX7_failIn (wsV RX7 330 RX7 yX7_copyOfLine wsX7_copyOfLine) := goodIn_app (goodIn_of _ (by decide +kernel)) ggX7_failIn_X7_copyOfLine
set_option maxRecDepth 20000 in
theorem ggX7_failIn_X7_ticksUntil : GoodIn wsX7_failIn wsX7_ticksUntil := goodIn_r _ [97, 98, 99, 100, 21, 101, 102, 35, 103, 34, 36, 32, 33, 104, 105, 106, 107, 108, 109, 110, 111, 112, 113, 114, 115, 66, 116, 73, 74, 69, 117, 118, 119, 120, 121, 30, 122, 123, 124, 125, 126, 127, 128, 129, 130, 131, 132, 46, 133, 50, 53, 54, 59, 60, 61, 134, 135, 136, 137, 42, 138, 139, 140, 141, 25, 142, 143, 144, 145, 51, 55, 146, 147, 148, 149, 150, 151, 152, 153, 154, 155, 156, 157, 158, 159, 160, 161, 162, 163, 164, 165, 166, 84, 167, 89, 168, 169, 170, 171, 52, 172, 173, 174, 175, 24, 176, 177, 178, 179, 180, 181, 56, 182, 183, 184, 185, 72, 186, 187, 188, 189, 70, 190, 191, 192, 193, 41, 29, 194, 195, 196, 197, 198, 199, 200, 201, 202, 203, 204, 205, 206, 207, 208, 209, 48, 58, 210, 7, 211, 212, 213, 214, 215, 216, 217, 218, 219, 49, 220, 221, 222, 223, 28, 224, 225, 226, 227, 228, 229, 230, 231, 232, 31, 233, 234, 235, 236, 237, 238, 239, 240, 23, 241, 242, 243, 244, 245, 246, 247, 248, 79, 77, 80, 78, 249, 250, 251, 252, 253, 254, 255, 256, 257, 258, 259, 260, 261, 262, 263, 264, 265, 305, 306, 307, 308, 309, 310, 311, 312, 313, 266, 267, 268, 269, 270, 271, 272, 273, 274, 275, 276, 277, 278, 279, 280, 293, 294, 295, 296, 297, 298, 299, 300, 301, 302, 303, 304] (by decide +kernel) (by decide +kernel)
set_option maxRecDepth 20000 in
theorem gX7_failIn_X7_ticksUntil : GoodIn wsX7_failIn (va_wsS RX7 340 yX7_ticksUntil wsX7_ticksUntil) := goodIn_app (goodIn_of _ (by decide +kernel)) ggX7_failIn_X7_ticksUntil
theorem dX7_failIn_0 : decode cX7_failIn 0 = .ok (.aload_n 0, 1) := by decide +kernel
theorem dX7_failIn_1 : decode cX7_failIn 1 = .ok (.iload_n 1, 1) := by decide +kernel
theorem dX7_failIn_2 : decode cX7_failIn 2 = .ok (.invokevirtual 133, 3) := by decide +kernel
theorem dX7_failIn_5 : decode cX7_failIn 5 = .ok (.aload_n 0, 1) := by decide +kernel
theorem dX7_failIn_6 : decode cX7_failIn 6 = .ok (.invokevirtual 330, 3) := by decide +kernel
theorem dX7_failIn_9 : decode cX7_failIn 9 = .ok (.astore_n 2, 1) := by decide +kernel
theorem dX7_failIn_10 : decode cX7_failIn 10 = .ok (.aload_n 2, 1) := by decide +kernel
theorem dX7_failIn_11 : decode cX7_failIn 11 = .ok (.getfield 137, 3) := by decide +kernel
theorem dX7_failIn_14 : decode cX7_failIn 14 = .ok (.iload_n 1, 1) := by decide +kernel
theorem dX7_failIn_15 : decode cX7_failIn 15 = .ok (.aaload, 1) := by decide +kernel
theorem dX7_failIn_16 : decode cX7_failIn 16 = .ok (.iconst 0, 1) := by decide +kernel
theorem dX7_failIn_17 : decode cX7_failIn 17 = .ok (.putfield 158, 3) := by decide +kernel
theorem dX7_failIn_20 : decode cX7_failIn 20 = .ok (.aload_n 2, 1) := by decide +kernel
theorem dX7_failIn_21 : decode cX7_failIn 21 = .ok (.getstatic 354, 3) := by decide +kernel
theorem dX7_failIn_24 : decode cX7_failIn 24 = .ok (.iload_n 1, 1) := by decide +kernel
theorem dX7_failIn_25 : decode cX7_failIn 25 = .ok (.sipush 2000, 3) := by decide +kernel
theorem dX7_failIn_28 : decode cX7_failIn 28 = .ok (.invokestatic 340, 3) := by decide +kernel
theorem dX7_failIn_31 : decode cX7_failIn 31 = .ok (.ireturn, 1) := by decide +kernel
set_option maxRecDepth 20000 in
theorem ggX7_blanksIn_X7_needRange : GoodIn wsX7_blanksIn wsX7_needRange := goodIn_ca (goodIn_r _ [5, 6, 7] (by decide +kernel) (by decide +kernel)) (goodIn_sub (fun _ h => List.mem_cons_of_mem _ (List.mem_append_right _ h)) (by decide +kernel))
set_option maxRecDepth 20000 in
theorem gX7_blanksIn_X7_needRange : GoodIn wsX7_blanksIn (va_wsS RX7 251 yX7_needRange wsX7_needRange) := goodIn_app (goodIn_of _ (by decide +kernel)) ggX7_blanksIn_X7_needRange
set_option maxRecDepth 20000 in
theorem ggX7_blanksIn_X7_copyBehind : GoodIn wsX7_blanksIn wsX7_copyBehind := goodIn_r _ [11, 12, 13, 14, 4, 15, 16, 17, 18, 19, 20, 21, 22, 23, 24, 25, 26, 27, 28, 29, 30, 31, 32, 33, 34, 35, 36, 37, 38, 39, 40, 41, 42, 43, 44, 45, 46, 47, 48, 49, 50, 51, 52, 53, 54, 55, 56, 57, 58, 59, 60, 61, 62, 63, 64, 65, 66, 67, 68, 69, 70, 71, 72, 73, 74, 75, 76, 77, 78, 79, 80, 81, 82, 83, 84, 85, 86, 87, 88, 89, 90, 91, 92, 93, 94, 95, 96, 97, 98, 99, 100, 101, 102, 103, 104, 105, 106, 107, 108, 109, 110, 111, 112, 113, 114, 115, 116, 117, 118, 119, 120, 121, 122, 123, 124, 125, 126, 127, 128, 129, 130, 131, 132, 133, 134, 135, 136, 137, 138, 139, 140, 141, 142, 143, 144, 145, 146, 147, 148, 149, 150, 151, 152, 153, 154, 155, 156, 157, 158, 159, 160, 161, 162, 163, 164, 165, 166, 167, 168, 169, 170, 171, 172, 173, 174, 175, 176, 177, 178, 179, 180, 181, 182, 183, 184, 185, 186, 187, 188, 189, 190, 191, 192, 193, 194, 195, 196, 197, 198, 199, 200, 201, 202, 203, 204, 205, 206, 207, 208, 209, 210, 211, 212, 213, 214, 215, 216, 217, 218, 219, 220, 221, 222, 223, 224, 225, 226, 227, 228, 246, 247, 248, 249, 250, 251, 252, 253, 254, 255, 256, 257, 229, 230, 231, 232, 233, 234, 235, 236, 237, 238, 239, 240, 241, 242, 243, 244, 245, 258, 259, 260, 261, 262, 263, 264, 265, 266, 267, 268, 269, 270, 271, 272, 273, 274, 275, 276, 277, 278, 279, 280, 281, 282, 283, 284, 285, 286, 287, 288, 289, 290, 291, 292, 293] (by decide +kernel) (by decide +kernel)
set_option maxRecDepth 20000 in
theorem gX7_blanksIn_X7_copyBehind : GoodIn wsX7_blanksIn (wsV RX7 350 RX7 yX7_copyBehind wsX7_copyBehind) := goodIn_app (goodIn_of _ (by decide +kernel)) ggX7_blanksIn_X7_copyBehind
theorem dX7_blanksIn_0 : decode cX7_blanksIn 0 = .ok (.iload_n 1, 1) := by decide +kernel
theorem dX7_blanksIn_1 : decode cX7_blanksIn 1 = .ok (.iconst 1, 1) := by decide +kernel
theorem dX7_blanksIn_2 : decode cX7_blanksIn 2 = .ok (.sipush 2000, 3) := by decide +kernel
theorem dX7_blanksIn_5 : decode cX7_blanksIn 5 = .ok (.invokestatic 251, 3) := by decide +kernel
theorem dX7_blanksIn_8 : decode cX7_blanksIn 8 = .ok (.aload_n 0, 1) := by decide +kernel
theorem dX7_blanksIn_9 : decode cX7_blanksIn 9 = .ok (.iload_n 1, 1) := by decide +kernel
theorem dX7_blanksIn_10 : decode cX7_blanksIn 10 = .ok (.invokevirtual 350, 3) := by decide +kernel
theorem dX7_blanksIn_13 : decode cX7_blanksIn 13 = .ok (.getfield 110, 3) := by decide +kernel
theorem dX7_blanksIn_16 : decode cX7_blanksIn 16 = .ok (.ireturn, 1) := by decide +kernel
set_option maxRecDepth 20000 in
theorem ggX7_restIn_X7_needStation : GoodIn wsX7_restIn wsX7_needStation := goodIn_ca (goodIn_r _ [6, 7, 8, 9, 10, 247, 248, 249, 250, 251, 252, 253, 254, 255, 256, 257, 258, 259, 260, 261, 262, 263, 264, 265, 266, 267, 268, 269, 270, 271, 272, 273, 274, 275] (by decide +kernel) (by decide +kernel)) (goodIn_sub (fun _ h => List.mem_cons_of_mem _ (List.mem_append_right _ h)) (by decide +kernel))
set_option maxRecDepth 20000 in
theorem gX7_restIn_X7_needStation : GoodIn wsX7_restIn (wsV RX7 133 RX7 yX7_needStation wsX7_needStation) := goodIn_app (goodIn_of _ (by decide +kernel)) ggX7_restIn_X7_needStation
set_option maxRecDepth 20000 in
theorem ggX7_restIn_X7_copyOfLine : GoodIn wsX7_restIn wsX7_copyOfLine := goodIn_r _ [14, 15, 9, 16, 17, 18, 19, 20, 21, 22, 23, 24, 25, 26, 27, 28, 29, 30, 31, 32, 33, 34, 35, 36, 37, 38, 39, 40, 41, 42, 43, 44, 45, 46, 47, 48, 49, 50, 51, 52, 53, 54, 55, 56, 57, 58, 59, 60, 61, 62, 63, 64, 65, 66, 67, 68, 69, 70, 71, 72, 73, 74, 75, 76, 77, 78, 79, 80, 81, 82, 83, 84, 85, 86, 87, 88, 89, 90, 91, 92, 247, 248, 249, 250, 251, 252, 253, 254, 255, 256, 257, 258, 259, 260, 261, 262, 263, 264, 265, 266, 267, 268, 269, 270, 271, 272, 273, 274, 275, 276, 277, 278, 279, 280, 281, 282, 283, 284, 285, 286, 287, 288, 289, 290, 291, 292, 293, 294, 295, 296, 297, 298, 299, 300, 301, 302, 303, 304, 305, 306, 307, 308, 309, 310, 311] (by decide +kernel) (by decide +kernel)
set_option maxRecDepth 20000 in
theorem gX7_restIn_X7_copyOfLine : GoodIn wsX7_restIn (wsV RX7 330 RX7 yX7_copyOfLine wsX7_copyOfLine) := goodIn_app (goodIn_of _ (by decide +kernel)) ggX7_restIn_X7_copyOfLine
set_option maxRecDepth 20000 in
theorem ggX7_restIn_X7_ticksUntil : GoodIn wsX7_restIn wsX7_ticksUntil := goodIn_r _ [95, 96, 97, 98, 19, 99, 100, 33, 101, 32, 34, 30, 31, 102, 103, 104, 105, 106, 107, 108, 109, 110, 111, 112, 113, 64, 114, 71, 72, 67, 115, 116, 117, 118, 119, 28, 120, 121, 122, 123, 124, 125, 126, 127, 128, 129, 130, 44, 131, 48, 51, 52, 57, 58, 59, 132, 133, 134, 135, 40, 136, 137, 138, 139, 23, 140, 141, 142, 143, 49, 53, 144, 145, 146, 147, 148, 149, 150, 151, 152, 153, 154, 155, 156, 157, 158, 159, 160, 161, 162, 163, 164, 82, 165, 87, 166, 167, 168, 169, 50, 170, 171, 172, 173, 22, 174, 175, 176, 177, 178, 179, 54, 180, 181, 182, 183, 70, 184, 185, 186, 187, 68, 188, 189, 190, 191, 39, 27, 192, 193, 194, 195, 196, 197, 198, 199, 200, 201, 202, 203, 204, 205, 206, 207, 46, 56, 208, 5, 209, 210, 211, 212, 213, 214, 215, 216, 217, 47, 218, 219, 220, 221, 26, 222, 223, 224, 225, 226, 227, 228, 229, 230, 29, 231, 232, 233, 234, 235, 236, 237, 238, 21, 239, 240, 241, 242, 243, 244, 245, 246, 77, 75, 78, 76, 259, 260, 261, 262, 263, 264, 265, 266, 267, 268, 269, 270, 271, 272, 273, 274, 275, 303, 304, 305, 306, 307, 308, 309, 310, 311, 276, 277, 278, 279, 280, 281, 282, 283, 284, 285, 286, 287, 288, 289, 290, 291, 292, 293, 294, 295, 296, 297, 298, 299, 300, 301, 302] (by decide +kernel) (by decide +kernel)
set_option maxRecDepth 20000 in
theorem gX7_restIn_X7_ticksUntil : GoodIn wsX7_restIn (va_wsS RX7 340 yX7_ticksUntil wsX7_ticksUntil) := goodIn_app (goodIn_of _ (by decide +kernel)) ggX7_restIn_X7_ticksUntil
theorem dX7_restIn_0 : decode cX7_restIn 0 = .ok (.aload_n 0, 1) := by decide +kernel
theorem dX7_restIn_1 : decode cX7_restIn 1 = .ok (.iload_n 1, 1) := by decide +kernel
theorem dX7_restIn_2 : decode cX7_restIn 2 = .ok (.invokevirtual 133, 3) := by decide +kernel
theorem dX7_restIn_5 : decode cX7_restIn 5 = .ok (.aload_n 0, 1) := by decide +kernel
theorem dX7_restIn_6 : decode cX7_restIn 6 = .ok (.invokevirtual 330, 3) := by decide +kernel
theorem dX7_restIn_9 : decode cX7_restIn 9 = .ok (.getstatic 357, 3) := by decide +kernel
theorem dX7_restIn_12 : decode cX7_restIn 12 = .ok (.iload_n 1, 1) := by decide +kernel
theorem dX7_restIn_13 : decode cX7_restIn 13 = .ok (.sipush 2000, 3) := by decide +kernel
theorem dX7_restIn_16 : decode cX7_restIn 16 = .ok (.invokestatic 340, 3) := by decide +kernel
theorem dX7_restIn_19 : decode cX7_restIn 19 = .ok (.ireturn, 1) := by decide +kernel
set_option maxRecDepth 20000 in
theorem ggX7_lotBy_X7_copyOfLine : GoodIn wsX7_lotBy wsX7_copyOfLine := goodIn_r _ [9, 10, 1, 11, 12, 13, 14, 15, 16, 17, 18, 19, 20, 21, 22, 23, 24, 25, 26, 27, 28, 29, 30, 31, 32, 33, 34, 35, 36, 37, 38, 39, 40, 41, 42, 43, 44, 45, 46, 47, 48, 49, 50, 51, 52, 53, 54, 55, 56, 57, 58, 59, 60, 61, 62, 63, 64, 65, 66, 67, 68, 69, 70, 71, 72, 73, 74, 75, 76, 77, 78, 79, 80, 81, 82, 83, 84, 85, 86, 87, 246, 247, 248, 249, 250, 251, 252, 253, 254, 255, 256, 257, 258, 259, 260, 261, 262, 263, 264, 265, 266, 267, 268, 269, 270, 271, 272, 273, 274, 275, 276, 277, 278, 279, 280, 281, 282, 283, 284, 285, 286, 287, 288, 289, 290, 291, 292, 293, 294, 295, 296, 297, 298, 299, 300, 301, 302, 303, 304, 305, 306, 307, 308, 309, 310] (by decide +kernel) (by decide +kernel)
set_option maxRecDepth 20000 in
theorem gX7_lotBy_X7_copyOfLine : GoodIn wsX7_lotBy (wsV RX7 330 RX7 yX7_copyOfLine wsX7_copyOfLine) := goodIn_app (goodIn_of _ (by decide +kernel)) ggX7_lotBy_X7_copyOfLine
set_option maxRecDepth 20000 in
theorem ggX7_lotBy_X7_ticksUntil : GoodIn wsX7_lotBy wsX7_ticksUntil := goodIn_r _ [90, 91, 92, 93, 14, 94, 95, 28, 96, 27, 29, 25, 26, 97, 98, 99, 100, 101, 102, 103, 104, 105, 106, 107, 108, 59, 109, 66, 67, 62, 110, 111, 112, 113, 114, 23, 115, 116, 117, 118, 119, 120, 121, 122, 123, 124, 125, 39, 126, 43, 46, 47, 52, 53, 54, 127, 128, 129, 130, 35, 131, 132, 133, 134, 18, 135, 136, 137, 138, 44, 48, 139, 140, 141, 142, 143, 144, 145, 146, 147, 148, 149, 150, 151, 152, 153, 154, 155, 156, 157, 158, 159, 77, 160, 82, 161, 162, 163, 164, 45, 165, 166, 167, 168, 17, 169, 170, 171, 172, 173, 174, 49, 175, 176, 177, 178, 65, 179, 180, 181, 182, 63, 183, 184, 185, 186, 34, 22, 187, 188, 189, 190, 191, 192, 193, 194, 195, 196, 197, 198, 199, 200, 201, 202, 41, 51, 203, 8, 204, 205, 206, 207, 208, 209, 210, 211, 212, 42, 213, 214, 215, 216, 21, 217, 218, 219, 220, 221, 222, 223, 224, 225, 24, 226, 227, 228, 229, 230, 231, 232, 233, 16, 234, 235, 236, 237, 238, 239, 240, 241, 72, 70, 73, 71, 258, 259, 260, 261, 262, 263, 264, 265, 266, 267, 268, 269, 270, 271, 272, 273, 274, 302, 303, 304, 305, 306, 307, 308, 309, 310, 275, 276, 277, 278, 279, 280, 281, 282, 283, 284, 285, 286, 287, 288, 289, 290, 291, 292, 293, 294, 295, 296, 297, 298, 299, 300, 301] (by decide +kernel) (by decide +kernel)
set_option maxRecDepth 20000 in
theorem gX7_lotBy_X7_ticksUntil : GoodIn wsX7_lotBy (va_wsS RX7 340 yX7_ticksUntil wsX7_ticksUntil) := goodIn_app (goodIn_of _ (by decide +kernel)) ggX7_lotBy_X7_ticksUntil
set_option maxRecDepth 20000 in
theorem ggX7_lotBy_X7_lotsFinishedBefore : GoodIn wsX7_lotBy wsX7_lotsFinishedBefore := goodIn_r _ [245, 1, 2, 4, 246, 247, 248, 249, 250, 251, 252, 253, 254, 255, 256, 257, 258, 259, 260, 261, 262, 263, 264, 265, 266, 267, 268, 269, 270, 271, 272, 273, 274] (by decide +kernel) (by decide +kernel)
set_option maxRecDepth 20000 in
theorem gX7_lotBy_X7_lotsFinishedBefore : GoodIn wsX7_lotBy (wsV RX7 360 RX7 yX7_lotsFinishedBefore wsX7_lotsFinishedBefore) := goodIn_app (goodIn_of _ (by decide +kernel)) ggX7_lotBy_X7_lotsFinishedBefore
theorem dX7_lotBy_0 : decode cX7_lotBy 0 = .ok (.iload_n 1, 1) := by decide +kernel
theorem dX7_lotBy_1 : decode cX7_lotBy 1 = .ok (.ifCond .lt 14, 3) := by decide +kernel
theorem dX7_lotBy_4 : decode cX7_lotBy 4 = .ok (.iload_n 1, 1) := by decide +kernel
theorem dX7_lotBy_5 : decode cX7_lotBy 5 = .ok (.aload_n 0, 1) := by decide +kernel
theorem dX7_lotBy_6 : decode cX7_lotBy 6 = .ok (.getfield 10, 3) := by decide +kernel
theorem dX7_lotBy_9 : decode cX7_lotBy 9 = .ok (.getfield 100, 3) := by decide +kernel
theorem dX7_lotBy_12 : decode cX7_lotBy 12 = .ok (.if_icmp .lt 5, 3) := by decide +kernel
theorem dX7_lotBy_15 : decode cX7_lotBy 15 = .ok (.iconst (-1), 1) := by decide +kernel
theorem dX7_lotBy_16 : decode cX7_lotBy 16 = .ok (.ireturn, 1) := by decide +kernel
theorem dX7_lotBy_17 : decode cX7_lotBy 17 = .ok (.iconst 0, 1) := by decide +kernel
theorem dX7_lotBy_18 : decode cX7_lotBy 18 = .ok (.istore_n 2, 1) := by decide +kernel
theorem dX7_lotBy_19 : decode cX7_lotBy 19 = .ok (.iload_n 2, 1) := by decide +kernel
theorem dX7_lotBy_20 : decode cX7_lotBy 20 = .ok (.aload_n 0, 1) := by decide +kernel
theorem dX7_lotBy_21 : decode cX7_lotBy 21 = .ok (.getfield 10, 3) := by decide +kernel
theorem dX7_lotBy_24 : decode cX7_lotBy 24 = .ok (.getfield 100, 3) := by decide +kernel
theorem dX7_lotBy_27 : decode cX7_lotBy 27 = .ok (.if_icmp .ge 42, 3) := by decide +kernel
theorem dX7_lotBy_30 : decode cX7_lotBy 30 = .ok (.aload_n 0, 1) := by decide +kernel
theorem dX7_lotBy_31 : decode cX7_lotBy 31 = .ok (.invokevirtual 330, 3) := by decide +kernel
theorem dX7_lotBy_34 : decode cX7_lotBy 34 = .ok (.getstatic 344, 3) := by decide +kernel
theorem dX7_lotBy_37 : decode cX7_lotBy 37 = .ok (.iload_n 2, 1) := by decide +kernel
theorem dX7_lotBy_38 : decode cX7_lotBy 38 = .ok (.sipush 2000, 3) := by decide +kernel
theorem dX7_lotBy_41 : decode cX7_lotBy 41 = .ok (.invokestatic 340, 3) := by decide +kernel
theorem dX7_lotBy_44 : decode cX7_lotBy 44 = .ok (.istore_n 3, 1) := by decide +kernel
theorem dX7_lotBy_45 : decode cX7_lotBy 45 = .ok (.aload_n 0, 1) := by decide +kernel
theorem dX7_lotBy_46 : decode cX7_lotBy 46 = .ok (.getfield 37, 3) := by decide +kernel
theorem dX7_lotBy_49 : decode cX7_lotBy 49 = .ok (.iload_n 2, 1) := by decide +kernel
theorem dX7_lotBy_50 : decode cX7_lotBy 50 = .ok (.iload_n 3, 1) := by decide +kernel
theorem dX7_lotBy_51 : decode cX7_lotBy 51 = .ok (.iconst (-1), 1) := by decide +kernel
theorem dX7_lotBy_52 : decode cX7_lotBy 52 = .ok (.if_icmp .ne 9, 3) := by decide +kernel
theorem dX7_lotBy_55 : decode cX7_lotBy 55 = .ok (.sipush 2001, 3) := by decide +kernel
theorem dX7_lotBy_58 : decode cX7_lotBy 58 = .ok (.goto 4, 3) := by decide +kernel
theorem dX7_lotBy_61 : decode cX7_lotBy 61 = .ok (.iload_n 3, 1) := by decide +kernel
theorem dX7_lotBy_62 : decode cX7_lotBy 62 = .ok (.iastore, 1) := by decide +kernel
theorem dX7_lotBy_63 : decode cX7_lotBy 63 = .ok (.iinc 2 1, 3) := by decide +kernel
theorem dX7_lotBy_66 : decode cX7_lotBy 66 = .ok (.goto (-47), 3) := by decide +kernel
theorem dX7_lotBy_69 : decode cX7_lotBy 69 = .ok (.iconst 0, 1) := by decide +kernel
theorem dX7_lotBy_70 : decode cX7_lotBy 70 = .ok (.istore_n 2, 1) := by decide +kernel
theorem dX7_lotBy_71 : decode cX7_lotBy 71 = .ok (.iload_n 2, 1) := by decide +kernel
theorem dX7_lotBy_72 : decode cX7_lotBy 72 = .ok (.aload_n 0, 1) := by decide +kernel
theorem dX7_lotBy_73 : decode cX7_lotBy 73 = .ok (.getfield 10, 3) := by decide +kernel
theorem dX7_lotBy_76 : decode cX7_lotBy 76 = .ok (.getfield 100, 3) := by decide +kernel
theorem dX7_lotBy_79 : decode cX7_lotBy 79 = .ok (.if_icmp .ge 20, 3) := by decide +kernel
theorem dX7_lotBy_82 : decode cX7_lotBy 82 = .ok (.aload_n 0, 1) := by decide +kernel
theorem dX7_lotBy_83 : decode cX7_lotBy 83 = .ok (.iload_n 2, 1) := by decide +kernel
theorem dX7_lotBy_84 : decode cX7_lotBy 84 = .ok (.invokevirtual 360, 3) := by decide +kernel
theorem dX7_lotBy_87 : decode cX7_lotBy 87 = .ok (.iload_n 1, 1) := by decide +kernel
theorem dX7_lotBy_88 : decode cX7_lotBy 88 = .ok (.if_icmp .ne 5, 3) := by decide +kernel
theorem dX7_lotBy_91 : decode cX7_lotBy 91 = .ok (.iload_n 2, 1) := by decide +kernel
theorem dX7_lotBy_92 : decode cX7_lotBy 92 = .ok (.ireturn, 1) := by decide +kernel
theorem dX7_lotBy_93 : decode cX7_lotBy 93 = .ok (.iinc 2 1, 3) := by decide +kernel
theorem dX7_lotBy_96 : decode cX7_lotBy 96 = .ok (.goto (-25), 3) := by decide +kernel
theorem dX7_lotBy_99 : decode cX7_lotBy 99 = .ok (.iconst (-1), 1) := by decide +kernel
theorem dX7_lotBy_100 : decode cX7_lotBy 100 = .ok (.ireturn, 1) := by decide +kernel
theorem dX7_lotsFinishedBefore_0 : decode cX7_lotsFinishedBefore 0 = .ok (.iconst 0, 1) := by decide +kernel
theorem dX7_lotsFinishedBefore_1 : decode cX7_lotsFinishedBefore 1 = .ok (.istore_n 2, 1) := by decide +kernel
theorem dX7_lotsFinishedBefore_2 : decode cX7_lotsFinishedBefore 2 = .ok (.iconst 0, 1) := by decide +kernel
theorem dX7_lotsFinishedBefore_3 : decode cX7_lotsFinishedBefore 3 = .ok (.istore_n 3, 1) := by decide +kernel
theorem dX7_lotsFinishedBefore_4 : decode cX7_lotsFinishedBefore 4 = .ok (.iload_n 3, 1) := by decide +kernel
theorem dX7_lotsFinishedBefore_5 : decode cX7_lotsFinishedBefore 5 = .ok (.aload_n 0, 1) := by decide +kernel
theorem dX7_lotsFinishedBefore_6 : decode cX7_lotsFinishedBefore 6 = .ok (.getfield 10, 3) := by decide +kernel
theorem dX7_lotsFinishedBefore_9 : decode cX7_lotsFinishedBefore 9 = .ok (.getfield 100, 3) := by decide +kernel
theorem dX7_lotsFinishedBefore_12 : decode cX7_lotsFinishedBefore 12 = .ok (.if_icmp .ge 59, 3) := by decide +kernel
theorem dX7_lotsFinishedBefore_15 : decode cX7_lotsFinishedBefore 15 = .ok (.aload_n 0, 1) := by decide +kernel
theorem dX7_lotsFinishedBefore_16 : decode cX7_lotsFinishedBefore 16 = .ok (.getfield 37, 3) := by decide +kernel
theorem dX7_lotsFinishedBefore_19 : decode cX7_lotsFinishedBefore 19 = .ok (.iload_n 3, 1) := by decide +kernel
theorem dX7_lotsFinishedBefore_20 : decode cX7_lotsFinishedBefore 20 = .ok (.iaload, 1) := by decide +kernel
theorem dX7_lotsFinishedBefore_21 : decode cX7_lotsFinishedBefore 21 = .ok (.aload_n 0, 1) := by decide +kernel
theorem dX7_lotsFinishedBefore_22 : decode cX7_lotsFinishedBefore 22 = .ok (.getfield 37, 3) := by decide +kernel
theorem dX7_lotsFinishedBefore_25 : decode cX7_lotsFinishedBefore 25 = .ok (.iload_n 1, 1) := by decide +kernel
theorem dX7_lotsFinishedBefore_26 : decode cX7_lotsFinishedBefore 26 = .ok (.iaload, 1) := by decide +kernel
theorem dX7_lotsFinishedBefore_27 : decode cX7_lotsFinishedBefore 27 = .ok (.if_icmp .ge 7, 3) := by decide +kernel
theorem dX7_lotsFinishedBefore_30 : decode cX7_lotsFinishedBefore 30 = .ok (.iconst 1, 1) := by decide +kernel
theorem dX7_lotsFinishedBefore_31 : decode cX7_lotsFinishedBefore 31 = .ok (.goto 4, 3) := by decide +kernel
theorem dX7_lotsFinishedBefore_34 : decode cX7_lotsFinishedBefore 34 = .ok (.iconst 0, 1) := by decide +kernel
theorem dX7_lotsFinishedBefore_35 : decode cX7_lotsFinishedBefore 35 = .ok (.istore 4, 2) := by decide +kernel
theorem dX7_lotsFinishedBefore_37 : decode cX7_lotsFinishedBefore 37 = .ok (.iload 4, 2) := by decide +kernel
theorem dX7_lotsFinishedBefore_39 : decode cX7_lotsFinishedBefore 39 = .ok (.ifCond .ne 23, 3) := by decide +kernel
theorem dX7_lotsFinishedBefore_42 : decode cX7_lotsFinishedBefore 42 = .ok (.aload_n 0, 1) := by decide +kernel
theorem dX7_lotsFinishedBefore_43 : decode cX7_lotsFinishedBefore 43 = .ok (.getfield 37, 3) := by decide +kernel
theorem dX7_lotsFinishedBefore_46 : decode cX7_lotsFinishedBefore 46 = .ok (.iload_n 3, 1) := by decide +kernel
theorem dX7_lotsFinishedBefore_47 : decode cX7_lotsFinishedBefore 47 = .ok (.iaload, 1) := by decide +kernel
theorem dX7_lotsFinishedBefore_48 : decode cX7_lotsFinishedBefore 48 = .ok (.aload_n 0, 1) := by decide +kernel
theorem dX7_lotsFinishedBefore_49 : decode cX7_lotsFinishedBefore 49 = .ok (.getfield 37, 3) := by decide +kernel
theorem dX7_lotsFinishedBefore_52 : decode cX7_lotsFinishedBefore 52 = .ok (.iload_n 1, 1) := by decide +kernel
theorem dX7_lotsFinishedBefore_53 : decode cX7_lotsFinishedBefore 53 = .ok (.iaload, 1) := by decide +kernel
theorem dX7_lotsFinishedBefore_54 : decode cX7_lotsFinishedBefore 54 = .ok (.if_icmp .ne 11, 3) := by decide +kernel
theorem dX7_lotsFinishedBefore_57 : decode cX7_lotsFinishedBefore 57 = .ok (.iload_n 3, 1) := by decide +kernel
theorem dX7_lotsFinishedBefore_58 : decode cX7_lotsFinishedBefore 58 = .ok (.iload_n 1, 1) := by decide +kernel
theorem dX7_lotsFinishedBefore_59 : decode cX7_lotsFinishedBefore 59 = .ok (.if_icmp .ge 6, 3) := by decide +kernel
theorem dX7_lotsFinishedBefore_62 : decode cX7_lotsFinishedBefore 62 = .ok (.iinc 2 1, 3) := by decide +kernel
theorem dX7_lotsFinishedBefore_65 : decode cX7_lotsFinishedBefore 65 = .ok (.iinc 3 1, 3) := by decide +kernel
theorem dX7_lotsFinishedBefore_68 : decode cX7_lotsFinishedBefore 68 = .ok (.goto (-64), 3) := by decide +kernel
theorem dX7_lotsFinishedBefore_71 : decode cX7_lotsFinishedBefore 71 = .ok (.iload_n 2, 1) := by decide +kernel
theorem dX7_lotsFinishedBefore_72 : decode cX7_lotsFinishedBefore 72 = .ok (.ireturn, 1) := by decide +kernel
set_option maxRecDepth 20000 in
theorem ggX7_bestRank_X7_needLot : GoodIn wsX7_bestRank wsX7_needLot := goodIn_ca (goodIn_r _ [8, 9, 10, 11, 12, 278, 279, 280, 281, 282, 283, 284, 285, 286, 287, 288, 289, 249, 250, 251, 252, 253, 254, 255, 256, 257, 258, 259, 260, 261, 262, 263, 264, 265] (by decide +kernel) (by decide +kernel)) (goodIn_sub (fun _ h => List.mem_cons_of_mem _ (List.mem_append_right _ h)) (by decide +kernel))
set_option maxRecDepth 20000 in
theorem gX7_bestRank_X7_needLot : GoodIn wsX7_bestRank (wsV RX7 214 RX7 yX7_needLot wsX7_needLot) := goodIn_app (goodIn_of _ (by decide +kernel)) ggX7_bestRank_X7_needLot
set_option maxRecDepth 20000 in
theorem ggX7_bestRank_X7_copyOfLine : GoodIn wsX7_bestRank wsX7_copyOfLine := goodIn_r _ [16, 17, 11, 18, 19, 20, 21, 22, 23, 24, 25, 26, 27, 28, 29, 30, 31, 32, 33, 34, 35, 36, 37, 38, 39, 40, 41, 42, 43, 44, 45, 46, 47, 48, 49, 50, 51, 52, 53, 54, 55, 56, 57, 58, 59, 60, 61, 62, 63, 64, 65, 66, 67, 68, 69, 70, 71, 72, 73, 74, 75, 76, 77, 78, 79, 80, 81, 82, 83, 84, 85, 86, 87, 88, 89, 90, 91, 92, 93, 94, 278, 279, 280, 281, 282, 283, 284, 285, 286, 287, 288, 289, 249, 250, 251, 252, 253, 254, 255, 256, 257, 258, 259, 260, 261, 262, 263, 264, 265, 290, 291, 292, 293, 294, 295, 296, 297, 298, 299, 300, 301, 302, 303, 304, 266, 267, 268, 269, 270, 271, 272, 273, 274, 275, 276, 277, 305, 306, 307, 308, 309, 310, 311, 312, 313] (by decide +kernel) (by decide +kernel)
set_option maxRecDepth 20000 in
theorem gX7_bestRank_X7_copyOfLine : GoodIn wsX7_bestRank (wsV RX7 330 RX7 yX7_copyOfLine wsX7_copyOfLine) := goodIn_app (goodIn_of _ (by decide +kernel)) ggX7_bestRank_X7_copyOfLine
set_option maxRecDepth 20000 in
theorem ggX7_bestRank_X7_ticksUntil : GoodIn wsX7_bestRank wsX7_ticksUntil := goodIn_r _ [97, 98, 99, 100, 21, 101, 102, 35, 103, 34, 36, 32, 33, 104, 105, 106, 107, 108, 109, 110, 111, 112, 113, 114, 115, 66, 116, 73, 74, 69, 117, 118, 119, 120, 121, 30, 122, 123, 124, 125, 126, 127, 128, 129, 130, 131, 132, 46, 133, 50, 53, 54, 59, 60, 61, 134, 135, 136, 137, 42, 138, 139, 140, 141, 25, 142, 143, 144, 145, 51, 55, 146, 147, 148, 149, 150, 151, 152, 153, 154, 155, 156, 157, 158, 159, 160, 161, 162, 163, 164, 165, 166, 84, 167, 89, 168, 169, 170, 171, 52, 172, 173, 174, 175, 24, 176, 177, 178, 179, 180, 181, 56, 182, 183, 184, 185, 72, 186, 187, 188, 189, 70, 190, 191, 192, 193, 41, 29, 194, 195, 196, 197, 198, 199, 200, 201, 202, 203, 204, 205, 206, 207, 208, 209, 48, 58, 210, 7, 211, 212, 213, 214, 215, 216, 217, 218, 219, 49, 220, 221, 222, 223, 28, 224, 225, 226, 227, 228, 229, 230, 231, 232, 31, 233, 234, 235, 236, 237, 238, 239, 240, 23, 241, 242, 243, 244, 245, 246, 247, 248, 79, 77, 80, 78, 249, 250, 251, 252, 253, 254, 255, 256, 257, 258, 259, 260, 261, 262, 263, 264, 265, 305, 306, 307, 308, 309, 310, 311, 312, 313, 290, 291, 292, 293, 294, 295, 296, 297, 298, 299, 300, 301, 302, 303, 304, 266, 267, 268, 269, 270, 271, 272, 273, 274, 275, 276, 277] (by decide +kernel) (by decide +kernel)
set_option maxRecDepth 20000 in
theorem gX7_bestRank_X7_ticksUntil : GoodIn wsX7_bestRank (va_wsS RX7 340 yX7_ticksUntil wsX7_ticksUntil) := goodIn_app (goodIn_of _ (by decide +kernel)) ggX7_bestRank_X7_ticksUntil
theorem dX7_bestRank_0 : decode cX7_bestRank 0 = .ok (.aload_n 0, 1) := by decide +kernel
theorem dX7_bestRank_1 : decode cX7_bestRank 1 = .ok (.iload_n 1, 1) := by decide +kernel
theorem dX7_bestRank_2 : decode cX7_bestRank 2 = .ok (.invokevirtual 214, 3) := by decide +kernel
theorem dX7_bestRank_5 : decode cX7_bestRank 5 = .ok (.iconst (-1), 1) := by decide +kernel
theorem dX7_bestRank_6 : decode cX7_bestRank 6 = .ok (.istore_n 2, 1) := by decide +kernel
theorem dX7_bestRank_7 : decode cX7_bestRank 7 = .ok (.sipush 2000, 3) := by decide +kernel
theorem dX7_bestRank_10 : decode cX7_bestRank 10 = .ok (.istore_n 3, 1) := by decide +kernel
theorem dX7_bestRank_11 : decode cX7_bestRank 11 = .ok (.iconst 0, 1) := by decide +kernel
theorem dX7_bestRank_12 : decode cX7_bestRank 12 = .ok (.istore 4, 2) := by decide +kernel
theorem dX7_bestRank_14 : decode cX7_bestRank 14 = .ok (.iload 4, 2) := by decide +kernel
theorem dX7_bestRank_16 : decode cX7_bestRank 16 = .ok (.bipush 9, 2) := by decide +kernel
theorem dX7_bestRank_18 : decode cX7_bestRank 18 = .ok (.if_icmp .gt 57, 3) := by decide +kernel
theorem dX7_bestRank_21 : decode cX7_bestRank 21 = .ok (.iload_n 3, 1) := by decide +kernel
theorem dX7_bestRank_22 : decode cX7_bestRank 22 = .ok (.ifCond .lt 53, 3) := by decide +kernel
theorem dX7_bestRank_25 : decode cX7_bestRank 25 = .ok (.aload_n 0, 1) := by decide +kernel
theorem dX7_bestRank_26 : decode cX7_bestRank 26 = .ok (.invokevirtual 330, 3) := by decide +kernel
theorem dX7_bestRank_29 : decode cX7_bestRank 29 = .ok (.astore 5, 2) := by decide +kernel
theorem dX7_bestRank_31 : decode cX7_bestRank 31 = .ok (.aload 5, 2) := by decide +kernel
theorem dX7_bestRank_33 : decode cX7_bestRank 33 = .ok (.getfield 217, 3) := by decide +kernel
theorem dX7_bestRank_36 : decode cX7_bestRank 36 = .ok (.iload_n 1, 1) := by decide +kernel
theorem dX7_bestRank_37 : decode cX7_bestRank 37 = .ok (.aaload, 1) := by decide +kernel
theorem dX7_bestRank_38 : decode cX7_bestRank 38 = .ok (.iload 4, 2) := by decide +kernel
theorem dX7_bestRank_40 : decode cX7_bestRank 40 = .ok (.putfield 221, 3) := by decide +kernel
theorem dX7_bestRank_43 : decode cX7_bestRank 43 = .ok (.aload 5, 2) := by decide +kernel
theorem dX7_bestRank_45 : decode cX7_bestRank 45 = .ok (.getstatic 344, 3) := by decide +kernel
theorem dX7_bestRank_48 : decode cX7_bestRank 48 = .ok (.iload_n 1, 1) := by decide +kernel
theorem dX7_bestRank_49 : decode cX7_bestRank 49 = .ok (.iload_n 3, 1) := by decide +kernel
theorem dX7_bestRank_50 : decode cX7_bestRank 50 = .ok (.invokestatic 340, 3) := by decide +kernel
theorem dX7_bestRank_53 : decode cX7_bestRank 53 = .ok (.istore 6, 2) := by decide +kernel
theorem dX7_bestRank_55 : decode cX7_bestRank 55 = .ok (.iload 6, 2) := by decide +kernel
theorem dX7_bestRank_57 : decode cX7_bestRank 57 = .ok (.iconst (-1), 1) := by decide +kernel
theorem dX7_bestRank_58 : decode cX7_bestRank 58 = .ok (.if_icmp .eq 11, 3) := by decide +kernel
theorem dX7_bestRank_61 : decode cX7_bestRank 61 = .ok (.iload 4, 2) := by decide +kernel
theorem dX7_bestRank_63 : decode cX7_bestRank 63 = .ok (.istore_n 2, 1) := by decide +kernel
theorem dX7_bestRank_64 : decode cX7_bestRank 64 = .ok (.iload 6, 2) := by decide +kernel
theorem dX7_bestRank_66 : decode cX7_bestRank 66 = .ok (.iconst 1, 1) := by decide +kernel
theorem dX7_bestRank_67 : decode cX7_bestRank 67 = .ok (.isub, 1) := by decide +kernel
theorem dX7_bestRank_68 : decode cX7_bestRank 68 = .ok (.istore_n 3, 1) := by decide +kernel
theorem dX7_bestRank_69 : decode cX7_bestRank 69 = .ok (.iinc 4 1, 3) := by decide +kernel
theorem dX7_bestRank_72 : decode cX7_bestRank 72 = .ok (.goto (-58), 3) := by decide +kernel
theorem dX7_bestRank_75 : decode cX7_bestRank 75 = .ok (.iload_n 2, 1) := by decide +kernel
theorem dX7_bestRank_76 : decode cX7_bestRank 76 = .ok (.ireturn, 1) := by decide +kernel
set_option maxRecDepth 20000 in
theorem ggX7_bestTray_X7_copyOfLine : GoodIn wsX7_bestTray wsX7_copyOfLine := goodIn_r _ [7, 8, 9, 10, 11, 12, 13, 14, 15, 16, 17, 18, 19, 20, 21, 22, 23, 24, 25, 26, 27, 28, 29, 30, 31, 32, 33, 34, 35, 36, 37, 38, 39, 40, 41, 42, 43, 44, 45, 46, 47, 48, 49, 50, 51, 52, 53, 54, 55, 56, 57, 58, 59, 60, 61, 62, 63, 64, 65, 66, 67, 68, 69, 70, 71, 72, 73, 74, 75, 76, 77, 78, 79, 80, 81, 82, 83, 84, 85, 86, 258, 259, 260, 261, 262, 263, 264, 265, 266, 267, 268, 269, 241, 242, 243, 244, 245, 246, 247, 248, 249, 250, 251, 252, 253, 254, 255, 256, 257, 270, 271, 272, 273, 274, 275, 276, 277, 278, 279, 280, 281, 282, 283, 284, 285, 286, 287, 288, 289, 290, 291, 292, 293, 294, 295, 296, 297, 298, 299, 300, 301, 302, 303, 304, 305] (by decide +kernel) (by decide +kernel)
set_option maxRecDepth 20000 in
theorem gX7_bestTray_X7_copyOfLine : GoodIn wsX7_bestTray (wsV RX7 330 RX7 yX7_copyOfLine wsX7_copyOfLine) := goodIn_app (goodIn_of _ (by decide +kernel)) ggX7_bestTray_X7_copyOfLine
set_option maxRecDepth 20000 in
theorem ggX7_bestTray_X7_ticksUntil : GoodIn wsX7_bestTray wsX7_ticksUntil := goodIn_r _ [89, 90, 91, 92, 13, 93, 94, 27, 95, 26, 28, 24, 25, 96, 97, 98, 99, 100, 101, 102, 103, 104, 105, 106, 107, 58, 108, 65, 66, 61, 109, 110, 111, 112, 113, 22, 114, 115, 116, 117, 118, 119, 120, 121, 122, 123, 124, 38, 125, 42, 45, 46, 51, 52, 53, 126, 127, 128, 129, 34, 130, 131, 132, 133, 17, 134, 135, 136, 137, 43, 47, 138, 139, 140, 141, 142, 143, 144, 145, 146, 147, 148, 149, 150, 151, 152, 153, 154, 155, 156, 157, 158, 76, 159, 81, 160, 161, 162, 163, 44, 164, 165, 166, 167, 16, 168, 169, 170, 171, 172, 173, 48, 174, 175, 176, 177, 64, 178, 179, 180, 181, 62, 182, 183, 184, 185, 33, 21, 186, 187, 188, 189, 190, 191, 192, 193, 194, 195, 196, 197, 198, 199, 200, 201, 40, 50, 202, 6, 203, 204, 205, 206, 207, 208, 209, 210, 211, 41, 212, 213, 214, 215, 20, 216, 217, 218, 219, 220, 221, 222, 223, 224, 23, 225, 226, 227, 228, 229, 230, 231, 232, 15, 233, 234, 235, 236, 237, 238, 239, 240, 71, 69, 72, 70, 241, 242, 243, 244, 245, 246, 247, 248, 249, 250, 251, 252, 253, 254, 255, 256, 257, 297, 298, 299, 300, 301, 302, 303, 304, 305, 270, 271, 272, 273, 274, 275, 276, 277, 278, 279, 280, 281, 282, 283, 284, 285, 286, 287, 288, 289, 290, 291, 292, 293, 294, 295, 296] (by decide +kernel) (by decide +kernel)
set_option maxRecDepth 20000 in
theorem gX7_bestTray_X7_ticksUntil : GoodIn wsX7_bestTray (va_wsS RX7 340 yX7_ticksUntil wsX7_ticksUntil) := goodIn_app (goodIn_of _ (by decide +kernel)) ggX7_bestTray_X7_ticksUntil
theorem dX7_bestTray_0 : decode cX7_bestTray 0 = .ok (.iconst (-1), 1) := by decide +kernel
theorem dX7_bestTray_1 : decode cX7_bestTray 1 = .ok (.istore_n 1, 1) := by decide +kernel
theorem dX7_bestTray_2 : decode cX7_bestTray 2 = .ok (.sipush 2000, 3) := by decide +kernel
theorem dX7_bestTray_5 : decode cX7_bestTray 5 = .ok (.istore_n 2, 1) := by decide +kernel
theorem dX7_bestTray_6 : decode cX7_bestTray 6 = .ok (.iconst 1, 1) := by decide +kernel
theorem dX7_bestTray_7 : decode cX7_bestTray 7 = .ok (.istore_n 3, 1) := by decide +kernel
theorem dX7_bestTray_8 : decode cX7_bestTray 8 = .ok (.iload_n 3, 1) := by decide +kernel
theorem dX7_bestTray_9 : decode cX7_bestTray 9 = .ok (.bipush 20, 2) := by decide +kernel
theorem dX7_bestTray_11 : decode cX7_bestTray 11 = .ok (.if_icmp .gt 50, 3) := by decide +kernel
theorem dX7_bestTray_14 : decode cX7_bestTray 14 = .ok (.iload_n 2, 1) := by decide +kernel
theorem dX7_bestTray_15 : decode cX7_bestTray 15 = .ok (.ifCond .lt 46, 3) := by decide +kernel
theorem dX7_bestTray_18 : decode cX7_bestTray 18 = .ok (.aload_n 0, 1) := by decide +kernel
theorem dX7_bestTray_19 : decode cX7_bestTray 19 = .ok (.invokevirtual 330, 3) := by decide +kernel
theorem dX7_bestTray_22 : decode cX7_bestTray 22 = .ok (.astore 4, 2) := by decide +kernel
theorem dX7_bestTray_24 : decode cX7_bestTray 24 = .ok (.aload 4, 2) := by decide +kernel
theorem dX7_bestTray_26 : decode cX7_bestTray 26 = .ok (.iload_n 3, 1) := by decide +kernel
theorem dX7_bestTray_27 : decode cX7_bestTray 27 = .ok (.putfield 121, 3) := by decide +kernel
theorem dX7_bestTray_30 : decode cX7_bestTray 30 = .ok (.aload 4, 2) := by decide +kernel
theorem dX7_bestTray_32 : decode cX7_bestTray 32 = .ok (.getstatic 347, 3) := by decide +kernel
theorem dX7_bestTray_35 : decode cX7_bestTray 35 = .ok (.iconst (-1), 1) := by decide +kernel
theorem dX7_bestTray_36 : decode cX7_bestTray 36 = .ok (.iload_n 2, 1) := by decide +kernel
theorem dX7_bestTray_37 : decode cX7_bestTray 37 = .ok (.invokestatic 340, 3) := by decide +kernel
theorem dX7_bestTray_40 : decode cX7_bestTray 40 = .ok (.istore 5, 2) := by decide +kernel
theorem dX7_bestTray_42 : decode cX7_bestTray 42 = .ok (.iload 5, 2) := by decide +kernel
theorem dX7_bestTray_44 : decode cX7_bestTray 44 = .ok (.iconst (-1), 1) := by decide +kernel
theorem dX7_bestTray_45 : decode cX7_bestTray 45 = .ok (.if_icmp .eq 10, 3) := by decide +kernel
theorem dX7_bestTray_48 : decode cX7_bestTray 48 = .ok (.iload_n 3, 1) := by decide +kernel
theorem dX7_bestTray_49 : decode cX7_bestTray 49 = .ok (.istore_n 1, 1) := by decide +kernel
theorem dX7_bestTray_50 : decode cX7_bestTray 50 = .ok (.iload 5, 2) := by decide +kernel
theorem dX7_bestTray_52 : decode cX7_bestTray 52 = .ok (.iconst 1, 1) := by decide +kernel
theorem dX7_bestTray_53 : decode cX7_bestTray 53 = .ok (.isub, 1) := by decide +kernel
theorem dX7_bestTray_54 : decode cX7_bestTray 54 = .ok (.istore_n 2, 1) := by decide +kernel
theorem dX7_bestTray_55 : decode cX7_bestTray 55 = .ok (.iinc 3 1, 3) := by decide +kernel
theorem dX7_bestTray_58 : decode cX7_bestTray 58 = .ok (.goto (-50), 3) := by decide +kernel
theorem dX7_bestTray_61 : decode cX7_bestTray 61 = .ok (.iload_n 1, 1) := by decide +kernel
theorem dX7_bestTray_62 : decode cX7_bestTray 62 = .ok (.ireturn, 1) := by decide +kernel
set_option maxRecDepth 20000 in
theorem ggX7_writeCard_X7_needCard : GoodIn wsX7_writeCard wsX7_needCard := goodIn_ca (goodIn_r _ [14, 15, 16, 1, 17, 18, 19, 20, 21, 22, 23, 24, 25, 26, 27, 28, 29, 30, 31, 32, 33, 34, 35, 36, 37, 38, 39, 40, 41, 42, 43, 44, 45, 46] (by decide +kernel) (by decide +kernel)) (goodIn_sub (fun _ h => List.mem_cons_of_mem _ (List.mem_append_right _ h)) (by decide +kernel))
set_option maxRecDepth 20000 in
theorem gX7_writeCard_X7_needCard : GoodIn wsX7_writeCard (wsV RX7 183 RX7 yX7_needCard wsX7_needCard) := goodIn_app (goodIn_of _ (by decide +kernel)) ggX7_writeCard_X7_needCard
theorem dX7_writeCard_0 : decode cX7_writeCard 0 = .ok (.aload_n 0, 1) := by decide +kernel
theorem dX7_writeCard_1 : decode cX7_writeCard 1 = .ok (.iload_n 1, 1) := by decide +kernel
theorem dX7_writeCard_2 : decode cX7_writeCard 2 = .ok (.invokevirtual 183, 3) := by decide +kernel
theorem dX7_writeCard_5 : decode cX7_writeCard 5 = .ok (.aload_n 0, 1) := by decide +kernel
theorem dX7_writeCard_6 : decode cX7_writeCard 6 = .ok (.getfield 10, 3) := by decide +kernel
theorem dX7_writeCard_9 : decode cX7_writeCard 9 = .ok (.getfield 186, 3) := by decide +kernel
theorem dX7_writeCard_12 : decode cX7_writeCard 12 = .ok (.iload_n 1, 1) := by decide +kernel
theorem dX7_writeCard_13 : decode cX7_writeCard 13 = .ok (.aaload, 1) := by decide +kernel
theorem dX7_writeCard_14 : decode cX7_writeCard 14 = .ok (.getfield 198, 3) := by decide +kernel
theorem dX7_writeCard_17 : decode cX7_writeCard 17 = .ok (.astore_n 2, 1) := by decide +kernel
theorem dX7_writeCard_18 : decode cX7_writeCard 18 = .ok (.aload_n 0, 1) := by decide +kernel
theorem dX7_writeCard_19 : decode cX7_writeCard 19 = .ok (.aload_n 2, 1) := by decide +kernel
theorem dX7_writeCard_20 : decode cX7_writeCard 20 = .ok (.arraylength, 1) := by decide +kernel
theorem dX7_writeCard_21 : decode cX7_writeCard 21 = .ok (.aload_n 0, 1) := by decide +kernel
theorem dX7_writeCard_22 : decode cX7_writeCard 22 = .ok (.getfield 26, 3) := by decide +kernel
theorem dX7_writeCard_25 : decode cX7_writeCard 25 = .ok (.arraylength, 1) := by decide +kernel
theorem dX7_writeCard_26 : decode cX7_writeCard 26 = .ok (.invokestatic 363, 3) := by decide +kernel
theorem dX7_writeCard_29 : decode cX7_writeCard 29 = .ok (.putfield 41, 3) := by decide +kernel
theorem dX7_writeCard_32 : decode cX7_writeCard 32 = .ok (.iconst 0, 1) := by decide +kernel
theorem dX7_writeCard_33 : decode cX7_writeCard 33 = .ok (.istore_n 3, 1) := by decide +kernel
theorem dX7_writeCard_34 : decode cX7_writeCard 34 = .ok (.iload_n 3, 1) := by decide +kernel
theorem dX7_writeCard_35 : decode cX7_writeCard 35 = .ok (.aload_n 0, 1) := by decide +kernel
theorem dX7_writeCard_36 : decode cX7_writeCard 36 = .ok (.getfield 41, 3) := by decide +kernel
theorem dX7_writeCard_39 : decode cX7_writeCard 39 = .ok (.if_icmp .ge 22, 3) := by decide +kernel
theorem dX7_writeCard_42 : decode cX7_writeCard 42 = .ok (.aload_n 0, 1) := by decide +kernel
theorem dX7_writeCard_43 : decode cX7_writeCard 43 = .ok (.getfield 26, 3) := by decide +kernel
theorem dX7_writeCard_46 : decode cX7_writeCard 46 = .ok (.iload_n 3, 1) := by decide +kernel
theorem dX7_writeCard_47 : decode cX7_writeCard 47 = .ok (.bipush 97, 2) := by decide +kernel
theorem dX7_writeCard_49 : decode cX7_writeCard 49 = .ok (.aload_n 2, 1) := by decide +kernel
theorem dX7_writeCard_50 : decode cX7_writeCard 50 = .ok (.iload_n 3, 1) := by decide +kernel
theorem dX7_writeCard_51 : decode cX7_writeCard 51 = .ok (.baload, 1) := by decide +kernel
theorem dX7_writeCard_52 : decode cX7_writeCard 52 = .ok (.iadd, 1) := by decide +kernel
theorem dX7_writeCard_53 : decode cX7_writeCard 53 = .ok (.i2b, 1) := by decide +kernel
theorem dX7_writeCard_54 : decode cX7_writeCard 54 = .ok (.bastore, 1) := by decide +kernel
theorem dX7_writeCard_55 : decode cX7_writeCard 55 = .ok (.iinc 3 1, 3) := by decide +kernel
theorem dX7_writeCard_58 : decode cX7_writeCard 58 = .ok (.goto (-24), 3) := by decide +kernel
theorem dX7_writeCard_61 : decode cX7_writeCard 61 = .ok (.aload_n 0, 1) := by decide +kernel
theorem dX7_writeCard_62 : decode cX7_writeCard 62 = .ok (.getfield 41, 3) := by decide +kernel
theorem dX7_writeCard_65 : decode cX7_writeCard 65 = .ok (.ireturn, 1) := by decide +kernel
theorem dX7_outputByte_0 : decode cX7_outputByte 0 = .ok (.iload_n 1, 1) := by decide +kernel
theorem dX7_outputByte_1 : decode cX7_outputByte 1 = .ok (.ifCond .lt 20, 3) := by decide +kernel
theorem dX7_outputByte_4 : decode cX7_outputByte 4 = .ok (.iload_n 1, 1) := by decide +kernel
theorem dX7_outputByte_5 : decode cX7_outputByte 5 = .ok (.aload_n 0, 1) := by decide +kernel
theorem dX7_outputByte_6 : decode cX7_outputByte 6 = .ok (.getfield 41, 3) := by decide +kernel
theorem dX7_outputByte_9 : decode cX7_outputByte 9 = .ok (.if_icmp .ge 12, 3) := by decide +kernel
theorem dX7_outputByte_12 : decode cX7_outputByte 12 = .ok (.aload_n 0, 1) := by decide +kernel
theorem dX7_outputByte_13 : decode cX7_outputByte 13 = .ok (.getfield 26, 3) := by decide +kernel
theorem dX7_outputByte_16 : decode cX7_outputByte 16 = .ok (.iload_n 1, 1) := by decide +kernel
theorem dX7_outputByte_17 : decode cX7_outputByte 17 = .ok (.baload, 1) := by decide +kernel
theorem dX7_outputByte_18 : decode cX7_outputByte 18 = .ok (.goto 4, 3) := by decide +kernel
theorem dX7_outputByte_21 : decode cX7_outputByte 21 = .ok (.iconst (-1), 1) := by decide +kernel
theorem dX7_outputByte_22 : decode cX7_outputByte 22 = .ok (.ireturn, 1) := by decide +kernel
set_option maxRecDepth 20000 in
theorem ggX7_undo_X3_copyFrom : GoodIn wsX7_undo wsX3_copyFrom := goodIn_r _ [9, 10, 11, 12, 13, 14, 15, 16, 17, 18, 19, 20, 21, 22, 23, 24, 25, 26, 27, 28, 29, 30, 31, 32, 33, 34, 35, 36, 37, 38, 39, 40, 41, 42, 43, 44, 45, 46, 47, 48, 49, 50, 51, 52, 53, 54, 55, 56, 57, 58, 59, 60, 61, 62, 63, 64, 65, 66, 67, 68, 69, 70, 71, 72, 73, 74, 75, 76, 77, 78, 79, 80, 81, 94, 95, 96, 97, 98, 99, 100, 101, 102, 103, 104, 105, 106, 107, 108, 109, 110, 111, 112, 113, 114, 115, 116, 117, 118, 119, 120, 121, 122, 123, 124, 125, 126, 127, 128, 129, 130, 131, 132, 133, 134, 135, 136, 137, 138, 139, 140, 141, 142, 143, 144, 145, 146] (by decide +kernel) (by decide +kernel)
set_option maxRecDepth 20000 in
theorem gX7_undo_X3_copyFrom : GoodIn wsX7_undo (wsV RX7 78 RX3 yX3_copyFrom wsX3_copyFrom) := goodIn_app (goodIn_of _ (by decide +kernel)) ggX7_undo_X3_copyFrom
theorem dX7_undo_0 : decode cX7_undo 0 = .ok (.aload_n 0, 1) := by decide +kernel
theorem dX7_undo_1 : decode cX7_undo 1 = .ok (.getfield 54, 3) := by decide +kernel
theorem dX7_undo_4 : decode cX7_undo 4 = .ok (.ifCond .ne 5, 3) := by decide +kernel
theorem dX7_undo_7 : decode cX7_undo 7 = .ok (.iconst (-1), 1) := by decide +kernel
theorem dX7_undo_8 : decode cX7_undo 8 = .ok (.ireturn, 1) := by decide +kernel
theorem dX7_undo_9 : decode cX7_undo 9 = .ok (.aload_n 0, 1) := by decide +kernel
theorem dX7_undo_10 : decode cX7_undo 10 = .ok (.dup, 1) := by decide +kernel
theorem dX7_undo_11 : decode cX7_undo 11 = .ok (.getfield 54, 3) := by decide +kernel
theorem dX7_undo_14 : decode cX7_undo 14 = .ok (.iconst 1, 1) := by decide +kernel
theorem dX7_undo_15 : decode cX7_undo 15 = .ok (.isub, 1) := by decide +kernel
theorem dX7_undo_16 : decode cX7_undo 16 = .ok (.putfield 54, 3) := by decide +kernel
theorem dX7_undo_19 : decode cX7_undo 19 = .ok (.aload_n 0, 1) := by decide +kernel
theorem dX7_undo_20 : decode cX7_undo 20 = .ok (.getfield 30, 3) := by decide +kernel
theorem dX7_undo_23 : decode cX7_undo 23 = .ok (.aload_n 0, 1) := by decide +kernel
theorem dX7_undo_24 : decode cX7_undo 24 = .ok (.getfield 51, 3) := by decide +kernel
theorem dX7_undo_27 : decode cX7_undo 27 = .ok (.aload_n 0, 1) := by decide +kernel
theorem dX7_undo_28 : decode cX7_undo 28 = .ok (.getfield 54, 3) := by decide +kernel
theorem dX7_undo_31 : decode cX7_undo 31 = .ok (.iadd, 1) := by decide +kernel
theorem dX7_undo_32 : decode cX7_undo 32 = .ok (.bipush 8, 2) := by decide +kernel
theorem dX7_undo_34 : decode cX7_undo 34 = .ok (.irem, 1) := by decide +kernel
theorem dX7_undo_35 : decode cX7_undo 35 = .ok (.aaload, 1) := by decide +kernel
theorem dX7_undo_36 : decode cX7_undo 36 = .ok (.astore_n 1, 1) := by decide +kernel
theorem dX7_undo_37 : decode cX7_undo 37 = .ok (.aload_n 1, 1) := by decide +kernel
theorem dX7_undo_38 : decode cX7_undo 38 = .ok (.ifnull 11, 3) := by decide +kernel
theorem dX7_undo_41 : decode cX7_undo 41 = .ok (.aload_n 0, 1) := by decide +kernel
theorem dX7_undo_42 : decode cX7_undo 42 = .ok (.getfield 10, 3) := by decide +kernel
theorem dX7_undo_45 : decode cX7_undo 45 = .ok (.aload_n 1, 1) := by decide +kernel
theorem dX7_undo_46 : decode cX7_undo 46 = .ok (.invokevirtual 78, 3) := by decide +kernel
theorem dX7_undo_49 : decode cX7_undo 49 = .ok (.aload_n 0, 1) := by decide +kernel
theorem dX7_undo_50 : decode cX7_undo 50 = .ok (.getfield 54, 3) := by decide +kernel
theorem dX7_undo_53 : decode cX7_undo 53 = .ok (.ireturn, 1) := by decide +kernel
set_option maxRecDepth 20000 in
theorem ggX7_saveSnapshot_X7_needRange : GoodIn wsX7_saveSnapshot wsX7_needRange := goodIn_ca (goodIn_r _ [10, 11, 12] (by decide +kernel) (by decide +kernel)) (goodIn_sub (fun _ h => List.mem_cons_of_mem _ (List.mem_append_right _ h)) (by decide +kernel))
set_option maxRecDepth 20000 in
theorem gX7_saveSnapshot_X7_needRange : GoodIn wsX7_saveSnapshot (va_wsS RX7 251 yX7_needRange wsX7_needRange) := goodIn_app (goodIn_of _ (by decide +kernel)) ggX7_saveSnapshot_X7_needRange
set_option maxRecDepth 20000 in
theorem ggX7_saveSnapshot_X3_init : GoodIn wsX7_saveSnapshot wsX3_init := goodIn_r _ [15, 16, 17, 18, 19, 20, 21, 22, 23, 24, 25, 26, 27, 28, 29, 30, 31, 32, 33, 34, 35, 36, 37, 38, 39, 40, 41, 42, 43, 44, 45, 46, 47, 48, 49, 123, 124, 125, 126, 127, 128, 129, 130, 131, 132, 133, 134, 135, 136, 137, 138, 139, 140, 141, 142, 143, 144, 145, 146, 147, 148, 149, 150, 151, 152, 153, 154, 155, 156, 157, 158, 159, 160, 161, 162, 163, 164, 165, 166, 167, 168, 169, 170, 171, 172, 173, 174, 175] (by decide +kernel) (by decide +kernel)
set_option maxRecDepth 20000 in
theorem gX7_saveSnapshot_X3_init : GoodIn wsX7_saveSnapshot (wsX3_init) := ggX7_saveSnapshot_X3_init
set_option maxRecDepth 20000 in
theorem ggX7_saveSnapshot_X3_copyFrom : GoodIn wsX7_saveSnapshot wsX3_copyFrom := goodIn_r _ [53, 19, 54, 55, 56, 57, 58, 59, 60, 61, 62, 21, 23, 25, 27, 63, 64, 65, 66, 28, 29, 67, 68, 69, 31, 70, 71, 72, 39, 73, 74, 75, 76, 77, 78, 79, 80, 81, 82, 83, 84, 85, 86, 87, 33, 88, 89, 90, 43, 91, 92, 93, 94, 95, 96, 97, 98, 44, 45, 99, 100, 101, 35, 102, 103, 104, 49, 105, 106, 107, 108, 109, 110, 123, 124, 125, 126, 127, 128, 129, 130, 131, 132, 133, 134, 135, 136, 137, 138, 139, 140, 141, 142, 143, 144, 145, 146, 147, 148, 149, 150, 151, 152, 153, 154, 155, 156, 157, 158, 159, 160, 161, 162, 163, 164, 165, 166, 167, 168, 169, 170, 171, 172, 173, 174, 175] (by decide +kernel) (by decide +kernel)
set_option maxRecDepth 20000 in
theorem gX7_saveSnapshot_X3_copyFrom : GoodIn wsX7_saveSnapshot (wsV RX7 78 RX3 yX3_copyFrom wsX3_copyFrom) := goodIn_app (goodIn_of _ (by decide +kernel)) ggX7_saveSnapshot_X3_copyFrom
theorem dX7_saveSnapshot_0 : decode cX7_saveSnapshot 0 = .ok (.iload_n 1, 1) := by decide +kernel
theorem dX7_saveSnapshot_1 : decode cX7_saveSnapshot 1 = .ok (.iconst 0, 1) := by decide +kernel
theorem dX7_saveSnapshot_2 : decode cX7_saveSnapshot 2 = .ok (.iconst 1, 1) := by decide +kernel
theorem dX7_saveSnapshot_3 : decode cX7_saveSnapshot 3 = .ok (.invokestatic 251, 3) := by decide +kernel
theorem dX7_saveSnapshot_6 : decode cX7_saveSnapshot 6 = .ok (.aload_n 0, 1) := by decide +kernel
theorem dX7_saveSnapshot_7 : decode cX7_saveSnapshot 7 = .ok (.getfield 34, 3) := by decide +kernel
theorem dX7_saveSnapshot_10 : decode cX7_saveSnapshot 10 = .ok (.iload_n 1, 1) := by decide +kernel
theorem dX7_saveSnapshot_11 : decode cX7_saveSnapshot 11 = .ok (.aaload, 1) := by decide +kernel
theorem dX7_saveSnapshot_12 : decode cX7_saveSnapshot 12 = .ok (.ifnonnull 16, 3) := by decide +kernel
theorem dX7_saveSnapshot_15 : decode cX7_saveSnapshot 15 = .ok (.aload_n 0, 1) := by decide +kernel
theorem dX7_saveSnapshot_16 : decode cX7_saveSnapshot 16 = .ok (.getfield 34, 3) := by decide +kernel
theorem dX7_saveSnapshot_19 : decode cX7_saveSnapshot 19 = .ok (.iload_n 1, 1) := by decide +kernel
theorem dX7_saveSnapshot_20 : decode cX7_saveSnapshot 20 = .ok (.new 7, 3) := by decide +kernel
theorem dX7_saveSnapshot_23 : decode cX7_saveSnapshot 23 = .ok (.dup, 1) := by decide +kernel
theorem dX7_saveSnapshot_24 : decode cX7_saveSnapshot 24 = .ok (.invokespecial 9, 3) := by decide +kernel
theorem dX7_saveSnapshot_27 : decode cX7_saveSnapshot 27 = .ok (.aastore, 1) := by decide +kernel
theorem dX7_saveSnapshot_28 : decode cX7_saveSnapshot 28 = .ok (.aload_n 0, 1) := by decide +kernel
theorem dX7_saveSnapshot_29 : decode cX7_saveSnapshot 29 = .ok (.getfield 34, 3) := by decide +kernel
theorem dX7_saveSnapshot_32 : decode cX7_saveSnapshot 32 = .ok (.iload_n 1, 1) := by decide +kernel
theorem dX7_saveSnapshot_33 : decode cX7_saveSnapshot 33 = .ok (.aaload, 1) := by decide +kernel
theorem dX7_saveSnapshot_34 : decode cX7_saveSnapshot 34 = .ok (.aload_n 0, 1) := by decide +kernel
theorem dX7_saveSnapshot_35 : decode cX7_saveSnapshot 35 = .ok (.getfield 10, 3) := by decide +kernel
theorem dX7_saveSnapshot_38 : decode cX7_saveSnapshot 38 = .ok (.invokevirtual 78, 3) := by decide +kernel
theorem dX7_saveSnapshot_41 : decode cX7_saveSnapshot 41 = .ok (.aload_n 0, 1) := by decide +kernel
theorem dX7_saveSnapshot_42 : decode cX7_saveSnapshot 42 = .ok (.getfield 10, 3) := by decide +kernel
theorem dX7_saveSnapshot_45 : decode cX7_saveSnapshot 45 = .ok (.getfield 263, 3) := by decide +kernel
theorem dX7_saveSnapshot_48 : decode cX7_saveSnapshot 48 = .ok (.ireturn, 1) := by decide +kernel
set_option maxRecDepth 20000 in
theorem ggX7_restoreSnapshot_X7_needRange : GoodIn wsX7_restoreSnapshot wsX7_needRange := goodIn_ca (goodIn_r _ [8, 9, 10] (by decide +kernel) (by decide +kernel)) (goodIn_sub (fun _ h => List.mem_cons_of_mem _ (List.mem_append_right _ h)) (by decide +kernel))
set_option maxRecDepth 20000 in
theorem gX7_restoreSnapshot_X7_needRange : GoodIn wsX7_restoreSnapshot (va_wsS RX7 251 yX7_needRange wsX7_needRange) := goodIn_app (goodIn_of _ (by decide +kernel)) ggX7_restoreSnapshot_X7_needRange
set_option maxRecDepth 20000 in
theorem ggX7_restoreSnapshot_X3_copyFrom : GoodIn wsX7_restoreSnapshot wsX3_copyFrom := goodIn_r _ [15, 16, 17, 18, 19, 20, 21, 22, 23, 24, 25, 26, 27, 28, 29, 30, 31, 32, 33, 34, 35, 36, 37, 38, 39, 40, 41, 42, 43, 44, 45, 46, 47, 48, 49, 50, 51, 52, 53, 54, 55, 56, 57, 58, 59, 60, 61, 62, 63, 64, 65, 66, 67, 68, 69, 70, 71, 72, 73, 74, 75, 76, 77, 78, 79, 80, 81, 82, 83, 84, 85, 86, 87, 100, 101, 102, 103, 104, 105, 106, 107, 108, 109, 110, 111, 112, 113, 114, 115, 116, 117, 118, 119, 120, 121, 122, 123, 124, 125, 126, 127, 128, 129, 130, 131, 132, 133, 134, 135, 136, 137, 138, 139, 140, 141, 142, 143, 144, 145, 146, 147, 148, 149, 150, 151, 152] (by decide +kernel) (by decide +kernel)
set_option maxRecDepth 20000 in
theorem gX7_restoreSnapshot_X3_copyFrom : GoodIn wsX7_restoreSnapshot (wsV RX7 78 RX3 yX3_copyFrom wsX3_copyFrom) := goodIn_app (goodIn_of _ (by decide +kernel)) ggX7_restoreSnapshot_X3_copyFrom
theorem dX7_restoreSnapshot_0 : decode cX7_restoreSnapshot 0 = .ok (.iload_n 1, 1) := by decide +kernel
theorem dX7_restoreSnapshot_1 : decode cX7_restoreSnapshot 1 = .ok (.iconst 0, 1) := by decide +kernel
theorem dX7_restoreSnapshot_2 : decode cX7_restoreSnapshot 2 = .ok (.iconst 1, 1) := by decide +kernel
theorem dX7_restoreSnapshot_3 : decode cX7_restoreSnapshot 3 = .ok (.invokestatic 251, 3) := by decide +kernel
theorem dX7_restoreSnapshot_6 : decode cX7_restoreSnapshot 6 = .ok (.aload_n 0, 1) := by decide +kernel
theorem dX7_restoreSnapshot_7 : decode cX7_restoreSnapshot 7 = .ok (.getfield 34, 3) := by decide +kernel
theorem dX7_restoreSnapshot_10 : decode cX7_restoreSnapshot 10 = .ok (.iload_n 1, 1) := by decide +kernel
theorem dX7_restoreSnapshot_11 : decode cX7_restoreSnapshot 11 = .ok (.aaload, 1) := by decide +kernel
theorem dX7_restoreSnapshot_12 : decode cX7_restoreSnapshot 12 = .ok (.ifnonnull 5, 3) := by decide +kernel
theorem dX7_restoreSnapshot_15 : decode cX7_restoreSnapshot 15 = .ok (.iconst (-1), 1) := by decide +kernel
theorem dX7_restoreSnapshot_16 : decode cX7_restoreSnapshot 16 = .ok (.ireturn, 1) := by decide +kernel
theorem dX7_restoreSnapshot_17 : decode cX7_restoreSnapshot 17 = .ok (.aload_n 0, 1) := by decide +kernel
theorem dX7_restoreSnapshot_18 : decode cX7_restoreSnapshot 18 = .ok (.getfield 10, 3) := by decide +kernel
theorem dX7_restoreSnapshot_21 : decode cX7_restoreSnapshot 21 = .ok (.aload_n 0, 1) := by decide +kernel
theorem dX7_restoreSnapshot_22 : decode cX7_restoreSnapshot 22 = .ok (.getfield 34, 3) := by decide +kernel
theorem dX7_restoreSnapshot_25 : decode cX7_restoreSnapshot 25 = .ok (.iload_n 1, 1) := by decide +kernel
theorem dX7_restoreSnapshot_26 : decode cX7_restoreSnapshot 26 = .ok (.aaload, 1) := by decide +kernel
theorem dX7_restoreSnapshot_27 : decode cX7_restoreSnapshot 27 = .ok (.invokevirtual 78, 3) := by decide +kernel
theorem dX7_restoreSnapshot_30 : decode cX7_restoreSnapshot 30 = .ok (.aload_n 0, 1) := by decide +kernel
theorem dX7_restoreSnapshot_31 : decode cX7_restoreSnapshot 31 = .ok (.iconst 0, 1) := by decide +kernel
theorem dX7_restoreSnapshot_32 : decode cX7_restoreSnapshot 32 = .ok (.putfield 54, 3) := by decide +kernel
theorem dX7_restoreSnapshot_35 : decode cX7_restoreSnapshot 35 = .ok (.aload_n 0, 1) := by decide +kernel
theorem dX7_restoreSnapshot_36 : decode cX7_restoreSnapshot 36 = .ok (.getfield 10, 3) := by decide +kernel
theorem dX7_restoreSnapshot_39 : decode cX7_restoreSnapshot 39 = .ok (.getfield 263, 3) := by decide +kernel
theorem dX7_restoreSnapshot_42 : decode cX7_restoreSnapshot 42 = .ok (.ireturn, 1) := by decide +kernel
set_option maxRecDepth 20000 in
theorem ggX8_init_X8_begins : GoodIn wsX8_init wsX8_begins := goodIn_r _ [22, 5, 23, 24, 25, 26, 27, 28, 29, 30, 31, 32, 33, 34, 35, 36, 37, 38, 39, 40, 41, 42, 43, 44, 45] (by decide +kernel) (by decide +kernel)
set_option maxRecDepth 20000 in
theorem gX8_init_X8_begins : GoodIn wsX8_init (wsV RX8 46 RX8 yX8_begins wsX8_begins) := goodIn_app (goodIn_of _ (by decide +kernel)) ggX8_init_X8_begins
theorem dX8_init_0 : decode cX8_init 0 = .ok (.aload_n 0, 1) := by decide +kernel
theorem dX8_init_1 : decode cX8_init 1 = .ok (.invokespecial 3, 3) := by decide +kernel
theorem dX8_init_4 : decode cX8_init 4 = .ok (.aload_n 0, 1) := by decide +kernel
theorem dX8_init_5 : decode cX8_init 5 = .ok (.sipush 1037, 3) := by decide +kernel
theorem dX8_init_8 : decode cX8_init 8 = .ok (.newarray .int, 2) := by decide +kernel
