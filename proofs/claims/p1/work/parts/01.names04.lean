theorem dX8_init_10 : decode cX8_init 10 = .ok (.putfield 9, 3) := by decide +kernel
theorem dX8_init_13 : decode cX8_init 13 = .ok (.aload_n 0, 1) := by decide +kernel
theorem dX8_init_14 : decode cX8_init 14 = .ok (.sipush 1037, 3) := by decide +kernel
theorem dX8_init_17 : decode cX8_init 17 = .ok (.newarray .int, 2) := by decide +kernel
theorem dX8_init_19 : decode cX8_init 19 = .ok (.putfield 13, 3) := by decide +kernel
theorem dX8_init_22 : decode cX8_init 22 = .ok (.aload_n 0, 1) := by decide +kernel
theorem dX8_init_23 : decode cX8_init 23 = .ok (.sipush 8296, 3) := by decide +kernel
theorem dX8_init_26 : decode cX8_init 26 = .ok (.newarray .int, 2) := by decide +kernel
theorem dX8_init_28 : decode cX8_init 28 = .ok (.putfield 16, 3) := by decide +kernel
theorem dX8_init_31 : decode cX8_init 31 = .ok (.aload_n 0, 1) := by decide +kernel
theorem dX8_init_32 : decode cX8_init 32 = .ok (.sipush 2074, 3) := by decide +kernel
theorem dX8_init_35 : decode cX8_init 35 = .ok (.newarray .int, 2) := by decide +kernel
theorem dX8_init_37 : decode cX8_init 37 = .ok (.putfield 19, 3) := by decide +kernel
theorem dX8_init_40 : decode cX8_init 40 = .ok (.aload_n 0, 1) := by decide +kernel
theorem dX8_init_41 : decode cX8_init 41 = .ok (.iconst 2, 1) := by decide +kernel
theorem dX8_init_42 : decode cX8_init 42 = .ok (.newarray .boolean, 2) := by decide +kernel
theorem dX8_init_44 : decode cX8_init 44 = .ok (.putfield 22, 3) := by decide +kernel
theorem dX8_init_47 : decode cX8_init 47 = .ok (.aload_n 0, 1) := by decide +kernel
theorem dX8_init_48 : decode cX8_init 48 = .ok (.sipush 600, 3) := by decide +kernel
theorem dX8_init_51 : decode cX8_init 51 = .ok (.newarray .byte, 2) := by decide +kernel
theorem dX8_init_53 : decode cX8_init 53 = .ok (.putfield 26, 3) := by decide +kernel
theorem dX8_init_56 : decode cX8_init 56 = .ok (.aload_n 0, 1) := by decide +kernel
theorem dX8_init_57 : decode cX8_init 57 = .ok (.iconst (-1), 1) := by decide +kernel
theorem dX8_init_58 : decode cX8_init 58 = .ok (.putfield 30, 3) := by decide +kernel
theorem dX8_init_61 : decode cX8_init 61 = .ok (.aload_n 0, 1) := by decide +kernel
theorem dX8_init_62 : decode cX8_init 62 = .ok (.sipush 192, 3) := by decide +kernel
theorem dX8_init_65 : decode cX8_init 65 = .ok (.newarray .int, 2) := by decide +kernel
theorem dX8_init_67 : decode cX8_init 67 = .ok (.putfield 34, 3) := by decide +kernel
theorem dX8_init_70 : decode cX8_init 70 = .ok (.aload_n 0, 1) := by decide +kernel
theorem dX8_init_71 : decode cX8_init 71 = .ok (.iconst 4, 1) := by decide +kernel
theorem dX8_init_72 : decode cX8_init 72 = .ok (.newarray .int, 2) := by decide +kernel
theorem dX8_init_74 : decode cX8_init 74 = .ok (.putfield 37, 3) := by decide +kernel
theorem dX8_init_77 : decode cX8_init 77 = .ok (.aload_n 0, 1) := by decide +kernel
theorem dX8_init_78 : decode cX8_init 78 = .ok (.bipush 6, 2) := by decide +kernel
theorem dX8_init_80 : decode cX8_init 80 = .ok (.newarray .int, 2) := by decide +kernel
theorem dX8_init_82 : decode cX8_init 82 = .ok (.putfield 40, 3) := by decide +kernel
theorem dX8_init_85 : decode cX8_init 85 = .ok (.aload_n 0, 1) := by decide +kernel
theorem dX8_init_86 : decode cX8_init 86 = .ok (.bipush 16, 2) := by decide +kernel
theorem dX8_init_88 : decode cX8_init 88 = .ok (.newarray .byte, 2) := by decide +kernel
theorem dX8_init_90 : decode cX8_init 90 = .ok (.putfield 43, 3) := by decide +kernel
theorem dX8_init_93 : decode cX8_init 93 = .ok (.aload_n 0, 1) := by decide +kernel
theorem dX8_init_94 : decode cX8_init 94 = .ok (.invokevirtual 46, 3) := by decide +kernel
theorem dX8_init_97 : decode cX8_init 97 = .ok (.return_, 1) := by decide +kernel
theorem dX8_thrown_0 : decode cX8_thrown 0 = .ok (.aload_n 0, 1) := by decide +kernel
theorem dX8_thrown_1 : decode cX8_thrown 1 = .ok (.getfield 49, 3) := by decide +kernel
theorem dX8_thrown_4 : decode cX8_thrown 4 = .ok (.ireturn, 1) := by decide +kernel
theorem dX8_in_0 : decode cX8_in 0 = .ok (.lload_n 0, 1) := by decide +kernel
theorem dX8_in_1 : decode cX8_in 1 = .ok (.lload_n 2, 1) := by decide +kernel
theorem dX8_in_2 : decode cX8_in 2 = .ok (.lcmp, 1) := by decide +kernel
theorem dX8_in_3 : decode cX8_in 3 = .ok (.ifCond .lt 14, 3) := by decide +kernel
theorem dX8_in_6 : decode cX8_in 6 = .ok (.lload_n 0, 1) := by decide +kernel
theorem dX8_in_7 : decode cX8_in 7 = .ok (.lload 4, 2) := by decide +kernel
theorem dX8_in_9 : decode cX8_in 9 = .ok (.lcmp, 1) := by decide +kernel
theorem dX8_in_10 : decode cX8_in 10 = .ok (.ifCond .gt 7, 3) := by decide +kernel
theorem dX8_in_13 : decode cX8_in 13 = .ok (.iconst 1, 1) := by decide +kernel
theorem dX8_in_14 : decode cX8_in 14 = .ok (.goto 4, 3) := by decide +kernel
theorem dX8_in_17 : decode cX8_in 17 = .ok (.iconst 0, 1) := by decide +kernel
theorem dX8_in_18 : decode cX8_in 18 = .ok (.ireturn, 1) := by decide +kernel
theorem dX8_copies_0 : decode cX8_copies 0 = .ok (.iconst 0, 1) := by decide +kernel
theorem dX8_copies_1 : decode cX8_copies 1 = .ok (.istore 4, 2) := by decide +kernel
theorem dX8_copies_3 : decode cX8_copies 3 = .ok (.iload 4, 2) := by decide +kernel
theorem dX8_copies_5 : decode cX8_copies 5 = .ok (.sipush 1037, 3) := by decide +kernel
theorem dX8_copies_8 : decode cX8_copies 8 = .ok (.if_icmp .ge 29, 3) := by decide +kernel
theorem dX8_copies_11 : decode cX8_copies 11 = .ok (.aload_n 2, 1) := by decide +kernel
theorem dX8_copies_12 : decode cX8_copies 12 = .ok (.sipush 1037, 3) := by decide +kernel
theorem dX8_copies_15 : decode cX8_copies 15 = .ok (.iload_n 3, 1) := by decide +kernel
theorem dX8_copies_16 : decode cX8_copies 16 = .ok (.imul, 1) := by decide +kernel
theorem dX8_copies_17 : decode cX8_copies 17 = .ok (.iload 4, 2) := by decide +kernel
theorem dX8_copies_19 : decode cX8_copies 19 = .ok (.iadd, 1) := by decide +kernel
theorem dX8_copies_20 : decode cX8_copies 20 = .ok (.aload_n 0, 1) := by decide +kernel
theorem dX8_copies_21 : decode cX8_copies 21 = .ok (.sipush 1037, 3) := by decide +kernel
theorem dX8_copies_24 : decode cX8_copies 24 = .ok (.iload_n 1, 1) := by decide +kernel
theorem dX8_copies_25 : decode cX8_copies 25 = .ok (.imul, 1) := by decide +kernel
theorem dX8_copies_26 : decode cX8_copies 26 = .ok (.iload 4, 2) := by decide +kernel
theorem dX8_copies_28 : decode cX8_copies 28 = .ok (.iadd, 1) := by decide +kernel
theorem dX8_copies_29 : decode cX8_copies 29 = .ok (.iaload, 1) := by decide +kernel
theorem dX8_copies_30 : decode cX8_copies 30 = .ok (.iastore, 1) := by decide +kernel
theorem dX8_copies_31 : decode cX8_copies 31 = .ok (.iinc 4 1, 3) := by decide +kernel
theorem dX8_copies_34 : decode cX8_copies 34 = .ok (.goto (-31), 3) := by decide +kernel
theorem dX8_copies_37 : decode cX8_copies 37 = .ok (.return_, 1) := by decide +kernel
theorem dX8_begins_0 : decode cX8_begins 0 = .ok (.iconst 0, 1) := by decide +kernel
theorem dX8_begins_1 : decode cX8_begins 1 = .ok (.istore_n 1, 1) := by decide +kernel
theorem dX8_begins_2 : decode cX8_begins 2 = .ok (.iload_n 1, 1) := by decide +kernel
theorem dX8_begins_3 : decode cX8_begins 3 = .ok (.sipush 1037, 3) := by decide +kernel
theorem dX8_begins_6 : decode cX8_begins 6 = .ok (.if_icmp .ge 16, 3) := by decide +kernel
theorem dX8_begins_9 : decode cX8_begins 9 = .ok (.aload_n 0, 1) := by decide +kernel
theorem dX8_begins_10 : decode cX8_begins 10 = .ok (.getfield 9, 3) := by decide +kernel
theorem dX8_begins_13 : decode cX8_begins 13 = .ok (.iload_n 1, 1) := by decide +kernel
theorem dX8_begins_14 : decode cX8_begins 14 = .ok (.iconst 0, 1) := by decide +kernel
theorem dX8_begins_15 : decode cX8_begins 15 = .ok (.iastore, 1) := by decide +kernel
theorem dX8_begins_16 : decode cX8_begins 16 = .ok (.iinc 1 1, 3) := by decide +kernel
theorem dX8_begins_19 : decode cX8_begins 19 = .ok (.goto (-17), 3) := by decide +kernel
theorem dX8_begins_22 : decode cX8_begins 22 = .ok (.aload_n 0, 1) := by decide +kernel
theorem dX8_begins_23 : decode cX8_begins 23 = .ok (.getfield 9, 3) := by decide +kernel
theorem dX8_begins_26 : decode cX8_begins 26 = .ok (.iconst 0, 1) := by decide +kernel
theorem dX8_begins_27 : decode cX8_begins 27 = .ok (.sipush 480, 3) := by decide +kernel
theorem dX8_begins_30 : decode cX8_begins 30 = .ok (.iastore, 1) := by decide +kernel
theorem dX8_begins_31 : decode cX8_begins 31 = .ok (.aload_n 0, 1) := by decide +kernel
theorem dX8_begins_32 : decode cX8_begins 32 = .ok (.getfield 9, 3) := by decide +kernel
theorem dX8_begins_35 : decode cX8_begins 35 = .ok (.iconst 1, 1) := by decide +kernel
theorem dX8_begins_36 : decode cX8_begins 36 = .ok (.iconst 1, 1) := by decide +kernel
theorem dX8_begins_37 : decode cX8_begins 37 = .ok (.iastore, 1) := by decide +kernel
theorem dX8_begins_38 : decode cX8_begins 38 = .ok (.aload_n 0, 1) := by decide +kernel
theorem dX8_begins_39 : decode cX8_begins 39 = .ok (.getfield 9, 3) := by decide +kernel
theorem dX8_begins_42 : decode cX8_begins 42 = .ok (.iconst 2, 1) := by decide +kernel
theorem dX8_begins_43 : decode cX8_begins 43 = .ok (.iconst 1, 1) := by decide +kernel
theorem dX8_begins_44 : decode cX8_begins 44 = .ok (.iastore, 1) := by decide +kernel
theorem dX8_begins_45 : decode cX8_begins 45 = .ok (.return_, 1) := by decide +kernel
theorem dX8_isThrown_0 : decode cX8_isThrown 0 = .ok (.aload_n 0, 1) := by decide +kernel
theorem dX8_isThrown_1 : decode cX8_isThrown 1 = .ok (.iload_n 1, 1) := by decide +kernel
theorem dX8_isThrown_2 : decode cX8_isThrown 2 = .ok (.ifCond .eq 7, 3) := by decide +kernel
theorem dX8_isThrown_5 : decode cX8_isThrown 5 = .ok (.iconst 0, 1) := by decide +kernel
theorem dX8_isThrown_6 : decode cX8_isThrown 6 = .ok (.goto 4, 3) := by decide +kernel
theorem dX8_isThrown_9 : decode cX8_isThrown 9 = .ok (.iload_n 2, 1) := by decide +kernel
theorem dX8_isThrown_10 : decode cX8_isThrown 10 = .ok (.putfield 49, 3) := by decide +kernel
theorem dX8_isThrown_13 : decode cX8_isThrown 13 = .ok (.iload_n 1, 1) := by decide +kernel
theorem dX8_isThrown_14 : decode cX8_isThrown 14 = .ok (.ifCond .ne 7, 3) := by decide +kernel
theorem dX8_isThrown_17 : decode cX8_isThrown 17 = .ok (.iconst 1, 1) := by decide +kernel
theorem dX8_isThrown_18 : decode cX8_isThrown 18 = .ok (.goto 4, 3) := by decide +kernel
theorem dX8_isThrown_21 : decode cX8_isThrown 21 = .ok (.iconst 0, 1) := by decide +kernel
theorem dX8_isThrown_22 : decode cX8_isThrown 22 = .ok (.ireturn, 1) := by decide +kernel
theorem dX8_of_0 : decode cX8_of 0 = .ok (.aload_n 0, 1) := by decide +kernel
theorem dX8_of_1 : decode cX8_of 1 = .ok (.getfield 9, 3) := by decide +kernel
theorem dX8_of_4 : decode cX8_of 4 = .ok (.bipush 17, 2) := by decide +kernel
theorem dX8_of_6 : decode cX8_of 6 = .ok (.bipush 16, 2) := by decide +kernel
theorem dX8_of_8 : decode cX8_of 8 = .ok (.iload_n 1, 1) := by decide +kernel
theorem dX8_of_9 : decode cX8_of 9 = .ok (.imul, 1) := by decide +kernel
theorem dX8_of_10 : decode cX8_of 10 = .ok (.iadd, 1) := by decide +kernel
theorem dX8_of_11 : decode cX8_of 11 = .ok (.iload_n 2, 1) := by decide +kernel
theorem dX8_of_12 : decode cX8_of 12 = .ok (.iadd, 1) := by decide +kernel
theorem dX8_of_13 : decode cX8_of 13 = .ok (.iaload, 1) := by decide +kernel
theorem dX8_of_14 : decode cX8_of 14 = .ok (.ireturn, 1) := by decide +kernel
theorem dX8_sets_0 : decode cX8_sets 0 = .ok (.aload_n 0, 1) := by decide +kernel
theorem dX8_sets_1 : decode cX8_sets 1 = .ok (.getfield 9, 3) := by decide +kernel
theorem dX8_sets_4 : decode cX8_sets 4 = .ok (.bipush 17, 2) := by decide +kernel
theorem dX8_sets_6 : decode cX8_sets 6 = .ok (.bipush 16, 2) := by decide +kernel
theorem dX8_sets_8 : decode cX8_sets 8 = .ok (.iload_n 1, 1) := by decide +kernel
theorem dX8_sets_9 : decode cX8_sets 9 = .ok (.imul, 1) := by decide +kernel
theorem dX8_sets_10 : decode cX8_sets 10 = .ok (.iadd, 1) := by decide +kernel
theorem dX8_sets_11 : decode cX8_sets 11 = .ok (.iload_n 2, 1) := by decide +kernel
theorem dX8_sets_12 : decode cX8_sets 12 = .ok (.iadd, 1) := by decide +kernel
theorem dX8_sets_13 : decode cX8_sets 13 = .ok (.iload_n 3, 1) := by decide +kernel
theorem dX8_sets_14 : decode cX8_sets 14 = .ok (.iastore, 1) := by decide +kernel
theorem dX8_sets_15 : decode cX8_sets 15 = .ok (.return_, 1) := by decide +kernel
theorem dX8_grows_0 : decode cX8_grows 0 = .ok (.aload_n 0, 1) := by decide +kernel
theorem dX8_grows_1 : decode cX8_grows 1 = .ok (.getfield 9, 3) := by decide +kernel
theorem dX8_grows_4 : decode cX8_grows 4 = .ok (.bipush 17, 2) := by decide +kernel
theorem dX8_grows_6 : decode cX8_grows 6 = .ok (.bipush 16, 2) := by decide +kernel
theorem dX8_grows_8 : decode cX8_grows 8 = .ok (.iload_n 1, 1) := by decide +kernel
theorem dX8_grows_9 : decode cX8_grows 9 = .ok (.imul, 1) := by decide +kernel
theorem dX8_grows_10 : decode cX8_grows 10 = .ok (.iadd, 1) := by decide +kernel
theorem dX8_grows_11 : decode cX8_grows 11 = .ok (.iload_n 2, 1) := by decide +kernel
theorem dX8_grows_12 : decode cX8_grows 12 = .ok (.iadd, 1) := by decide +kernel
theorem dX8_grows_13 : decode cX8_grows 13 = .ok (.dup2, 1) := by decide +kernel
theorem dX8_grows_14 : decode cX8_grows 14 = .ok (.iaload, 1) := by decide +kernel
theorem dX8_grows_15 : decode cX8_grows 15 = .ok (.iload_n 3, 1) := by decide +kernel
theorem dX8_grows_16 : decode cX8_grows 16 = .ok (.iadd, 1) := by decide +kernel
theorem dX8_grows_17 : decode cX8_grows 17 = .ok (.iastore, 1) := by decide +kernel
theorem dX8_grows_18 : decode cX8_grows 18 = .ok (.return_, 1) := by decide +kernel
theorem dX8_ofCard_0 : decode cX8_ofCard 0 = .ok (.aload_n 0, 1) := by decide +kernel
theorem dX8_ofCard_1 : decode cX8_ofCard 1 = .ok (.getfield 9, 3) := by decide +kernel
theorem dX8_ofCard_4 : decode cX8_ofCard 4 = .ok (.sipush 137, 3) := by decide +kernel
theorem dX8_ofCard_7 : decode cX8_ofCard 7 = .ok (.bipush 25, 2) := by decide +kernel
theorem dX8_ofCard_9 : decode cX8_ofCard 9 = .ok (.iload_n 1, 1) := by decide +kernel
theorem dX8_ofCard_10 : decode cX8_ofCard 10 = .ok (.imul, 1) := by decide +kernel
theorem dX8_ofCard_11 : decode cX8_ofCard 11 = .ok (.iadd, 1) := by decide +kernel
theorem dX8_ofCard_12 : decode cX8_ofCard 12 = .ok (.iload_n 2, 1) := by decide +kernel
theorem dX8_ofCard_13 : decode cX8_ofCard 13 = .ok (.iadd, 1) := by decide +kernel
theorem dX8_ofCard_14 : decode cX8_ofCard 14 = .ok (.iaload, 1) := by decide +kernel
theorem dX8_ofCard_15 : decode cX8_ofCard 15 = .ok (.ireturn, 1) := by decide +kernel
theorem dX8_setsCard_0 : decode cX8_setsCard 0 = .ok (.aload_n 0, 1) := by decide +kernel
theorem dX8_setsCard_1 : decode cX8_setsCard 1 = .ok (.getfield 9, 3) := by decide +kernel
theorem dX8_setsCard_4 : decode cX8_setsCard 4 = .ok (.sipush 137, 3) := by decide +kernel
theorem dX8_setsCard_7 : decode cX8_setsCard 7 = .ok (.bipush 25, 2) := by decide +kernel
theorem dX8_setsCard_9 : decode cX8_setsCard 9 = .ok (.iload_n 1, 1) := by decide +kernel
theorem dX8_setsCard_10 : decode cX8_setsCard 10 = .ok (.imul, 1) := by decide +kernel
theorem dX8_setsCard_11 : decode cX8_setsCard 11 = .ok (.iadd, 1) := by decide +kernel
theorem dX8_setsCard_12 : decode cX8_setsCard 12 = .ok (.iload_n 2, 1) := by decide +kernel
theorem dX8_setsCard_13 : decode cX8_setsCard 13 = .ok (.iadd, 1) := by decide +kernel
theorem dX8_setsCard_14 : decode cX8_setsCard 14 = .ok (.iload_n 3, 1) := by decide +kernel
theorem dX8_setsCard_15 : decode cX8_setsCard 15 = .ok (.iastore, 1) := by decide +kernel
theorem dX8_setsCard_16 : decode cX8_setsCard 16 = .ok (.return_, 1) := by decide +kernel
theorem dX8_ofLot_0 : decode cX8_ofLot 0 = .ok (.aload_n 0, 1) := by decide +kernel
theorem dX8_ofLot_1 : decode cX8_ofLot 1 = .ok (.getfield 9, 3) := by decide +kernel
theorem dX8_ofLot_4 : decode cX8_ofLot 4 = .ok (.bipush 113, 2) := by decide +kernel
theorem dX8_ofLot_6 : decode cX8_ofLot 6 = .ok (.iconst 4, 1) := by decide +kernel
theorem dX8_ofLot_7 : decode cX8_ofLot 7 = .ok (.iload_n 1, 1) := by decide +kernel
theorem dX8_ofLot_8 : decode cX8_ofLot 8 = .ok (.imul, 1) := by decide +kernel
theorem dX8_ofLot_9 : decode cX8_ofLot 9 = .ok (.iadd, 1) := by decide +kernel
theorem dX8_ofLot_10 : decode cX8_ofLot 10 = .ok (.iload_n 2, 1) := by decide +kernel
theorem dX8_ofLot_11 : decode cX8_ofLot 11 = .ok (.iadd, 1) := by decide +kernel
theorem dX8_ofLot_12 : decode cX8_ofLot 12 = .ok (.iaload, 1) := by decide +kernel
theorem dX8_ofLot_13 : decode cX8_ofLot 13 = .ok (.ireturn, 1) := by decide +kernel
set_option maxRecDepth 20000 in
theorem ggX8_isStation_X8_in : GoodIn wsX8_isStation wsX8_in := goodIn_r _ [5] (by decide +kernel) (by decide +kernel)
set_option maxRecDepth 20000 in
theorem gX8_isStation_X8_in : GoodIn wsX8_isStation (va_wsS RX8 52 yX8_in wsX8_in) := goodIn_app (goodIn_of _ (by decide +kernel)) ggX8_isStation_X8_in
theorem dX8_isStation_0 : decode cX8_isStation 0 = .ok (.iload_n 1, 1) := by decide +kernel
theorem dX8_isStation_1 : decode cX8_isStation 1 = .ok (.i2l, 1) := by decide +kernel
theorem dX8_isStation_2 : decode cX8_isStation 2 = .ok (.lconst 0, 1) := by decide +kernel
theorem dX8_isStation_3 : decode cX8_isStation 3 = .ok (.aload_n 0, 1) := by decide +kernel
theorem dX8_isStation_4 : decode cX8_isStation 4 = .ok (.getfield 9, 3) := by decide +kernel
theorem dX8_isStation_7 : decode cX8_isStation 7 = .ok (.bipush 7, 2) := by decide +kernel
theorem dX8_isStation_9 : decode cX8_isStation 9 = .ok (.iaload, 1) := by decide +kernel
theorem dX8_isStation_10 : decode cX8_isStation 10 = .ok (.iconst 1, 1) := by decide +kernel
theorem dX8_isStation_11 : decode cX8_isStation 11 = .ok (.isub, 1) := by decide +kernel
theorem dX8_isStation_12 : decode cX8_isStation 12 = .ok (.i2l, 1) := by decide +kernel
theorem dX8_isStation_13 : decode cX8_isStation 13 = .ok (.invokestatic 52, 3) := by decide +kernel
theorem dX8_isStation_16 : decode cX8_isStation 16 = .ok (.ireturn, 1) := by decide +kernel
set_option maxRecDepth 20000 in
theorem ggX8_isLot_X8_in : GoodIn wsX8_isLot wsX8_in := goodIn_r _ [5] (by decide +kernel) (by decide +kernel)
set_option maxRecDepth 20000 in
theorem gX8_isLot_X8_in : GoodIn wsX8_isLot (va_wsS RX8 52 yX8_in wsX8_in) := goodIn_app (goodIn_of _ (by decide +kernel)) ggX8_isLot_X8_in
theorem dX8_isLot_0 : decode cX8_isLot 0 = .ok (.iload_n 1, 1) := by decide +kernel
theorem dX8_isLot_1 : decode cX8_isLot 1 = .ok (.i2l, 1) := by decide +kernel
theorem dX8_isLot_2 : decode cX8_isLot 2 = .ok (.lconst 0, 1) := by decide +kernel
theorem dX8_isLot_3 : decode cX8_isLot 3 = .ok (.aload_n 0, 1) := by decide +kernel
theorem dX8_isLot_4 : decode cX8_isLot 4 = .ok (.getfield 9, 3) := by decide +kernel
theorem dX8_isLot_7 : decode cX8_isLot 7 = .ok (.bipush 8, 2) := by decide +kernel
theorem dX8_isLot_9 : decode cX8_isLot 9 = .ok (.iaload, 1) := by decide +kernel
theorem dX8_isLot_10 : decode cX8_isLot 10 = .ok (.iconst 1, 1) := by decide +kernel
theorem dX8_isLot_11 : decode cX8_isLot 11 = .ok (.isub, 1) := by decide +kernel
theorem dX8_isLot_12 : decode cX8_isLot 12 = .ok (.i2l, 1) := by decide +kernel
theorem dX8_isLot_13 : decode cX8_isLot 13 = .ok (.invokestatic 52, 3) := by decide +kernel
theorem dX8_isLot_16 : decode cX8_isLot 16 = .ok (.ireturn, 1) := by decide +kernel
set_option maxRecDepth 20000 in
theorem ggX8_isCard_X8_in : GoodIn wsX8_isCard wsX8_in := goodIn_r _ [5] (by decide +kernel) (by decide +kernel)
set_option maxRecDepth 20000 in
theorem gX8_isCard_X8_in : GoodIn wsX8_isCard (va_wsS RX8 52 yX8_in wsX8_in) := goodIn_app (goodIn_of _ (by decide +kernel)) ggX8_isCard_X8_in
theorem dX8_isCard_0 : decode cX8_isCard 0 = .ok (.iload_n 1, 1) := by decide +kernel
theorem dX8_isCard_1 : decode cX8_isCard 1 = .ok (.i2l, 1) := by decide +kernel
theorem dX8_isCard_2 : decode cX8_isCard 2 = .ok (.lconst 0, 1) := by decide +kernel
theorem dX8_isCard_3 : decode cX8_isCard 3 = .ok (.aload_n 0, 1) := by decide +kernel
theorem dX8_isCard_4 : decode cX8_isCard 4 = .ok (.getfield 9, 3) := by decide +kernel
theorem dX8_isCard_7 : decode cX8_isCard 7 = .ok (.bipush 9, 2) := by decide +kernel
theorem dX8_isCard_9 : decode cX8_isCard 9 = .ok (.iaload, 1) := by decide +kernel
theorem dX8_isCard_10 : decode cX8_isCard 10 = .ok (.iconst 1, 1) := by decide +kernel
theorem dX8_isCard_11 : decode cX8_isCard 11 = .ok (.isub, 1) := by decide +kernel
theorem dX8_isCard_12 : decode cX8_isCard 12 = .ok (.i2l, 1) := by decide +kernel
theorem dX8_isCard_13 : decode cX8_isCard 13 = .ok (.invokestatic 52, 3) := by decide +kernel
theorem dX8_isCard_16 : decode cX8_isCard 16 = .ok (.ireturn, 1) := by decide +kernel
theorem dX8_byteOf_0 : decode cX8_byteOf 0 = .ok (.lload_n 0, 1) := by decide +kernel
theorem dX8_byteOf_1 : decode cX8_byteOf 1 = .ok (.bipush 8, 2) := by decide +kernel
theorem dX8_byteOf_3 : decode cX8_byteOf 3 = .ok (.bipush 7, 2) := by decide +kernel
theorem dX8_byteOf_5 : decode cX8_byteOf 5 = .ok (.iload_n 2, 1) := by decide +kernel
theorem dX8_byteOf_6 : decode cX8_byteOf 6 = .ok (.isub, 1) := by decide +kernel
theorem dX8_byteOf_7 : decode cX8_byteOf 7 = .ok (.imul, 1) := by decide +kernel
theorem dX8_byteOf_8 : decode cX8_byteOf 8 = .ok (.lshr, 1) := by decide +kernel
theorem dX8_byteOf_9 : decode cX8_byteOf 9 = .ok (.ldc2_w 56, 3) := by decide +kernel
theorem dX8_byteOf_12 : decode cX8_byteOf 12 = .ok (.land, 1) := by decide +kernel
theorem dX8_byteOf_13 : decode cX8_byteOf 13 = .ok (.l2i, 1) := by decide +kernel
theorem dX8_byteOf_14 : decode cX8_byteOf 14 = .ok (.ireturn, 1) := by decide +kernel
set_option maxRecDepth 20000 in
theorem ggX8_append_X8_byteOf : GoodIn wsX8_append wsX8_byteOf := goodIn_r _ [7, 8] (by decide +kernel) (by decide +kernel)
set_option maxRecDepth 20000 in
theorem gX8_append_X8_byteOf : GoodIn wsX8_append (va_wsS RX8 58 yX8_byteOf wsX8_byteOf) := goodIn_app (goodIn_of _ (by decide +kernel)) ggX8_append_X8_byteOf
theorem dX8_append_0 : decode cX8_append 0 = .ok (.aload_n 0, 1) := by decide +kernel
theorem dX8_append_1 : decode cX8_append 1 = .ok (.iconst 0, 1) := by decide +kernel
theorem dX8_append_2 : decode cX8_append 2 = .ok (.putfield 49, 3) := by decide +kernel
theorem dX8_append_5 : decode cX8_append 5 = .ok (.iconst 0, 1) := by decide +kernel
theorem dX8_append_6 : decode cX8_append 6 = .ok (.istore_n 3, 1) := by decide +kernel
theorem dX8_append_7 : decode cX8_append 7 = .ok (.iconst 0, 1) := by decide +kernel
theorem dX8_append_8 : decode cX8_append 8 = .ok (.istore 4, 2) := by decide +kernel
theorem dX8_append_10 : decode cX8_append 10 = .ok (.iload 4, 2) := by decide +kernel
theorem dX8_append_12 : decode cX8_append 12 = .ok (.bipush 8, 2) := by decide +kernel
theorem dX8_append_14 : decode cX8_append 14 = .ok (.if_icmp .ge 26, 3) := by decide +kernel
theorem dX8_append_17 : decode cX8_append 17 = .ok (.iload_n 3, 1) := by decide +kernel
theorem dX8_append_18 : decode cX8_append 18 = .ok (.lload_n 1, 1) := by decide +kernel
theorem dX8_append_19 : decode cX8_append 19 = .ok (.iload 4, 2) := by decide +kernel
theorem dX8_append_21 : decode cX8_append 21 = .ok (.invokestatic 58, 3) := by decide +kernel
theorem dX8_append_24 : decode cX8_append 24 = .ok (.ifCond .ne 7, 3) := by decide +kernel
theorem dX8_append_27 : decode cX8_append 27 = .ok (.iconst 0, 1) := by decide +kernel
theorem dX8_append_28 : decode cX8_append 28 = .ok (.goto 4, 3) := by decide +kernel
theorem dX8_append_31 : decode cX8_append 31 = .ok (.iconst 1, 1) := by decide +kernel
theorem dX8_append_32 : decode cX8_append 32 = .ok (.iadd, 1) := by decide +kernel
theorem dX8_append_33 : decode cX8_append 33 = .ok (.istore_n 3, 1) := by decide +kernel
theorem dX8_append_34 : decode cX8_append 34 = .ok (.iinc 4 1, 3) := by decide +kernel
theorem dX8_append_37 : decode cX8_append 37 = .ok (.goto (-27), 3) := by decide +kernel
theorem dX8_append_40 : decode cX8_append 40 = .ok (.aload_n 0, 1) := by decide +kernel
theorem dX8_append_41 : decode cX8_append 41 = .ok (.getfield 62, 3) := by decide +kernel
theorem dX8_append_44 : decode cX8_append 44 = .ok (.iload_n 3, 1) := by decide +kernel
theorem dX8_append_45 : decode cX8_append 45 = .ok (.iadd, 1) := by decide +kernel
theorem dX8_append_46 : decode cX8_append 46 = .ok (.sipush 600, 3) := by decide +kernel
theorem dX8_append_49 : decode cX8_append 49 = .ok (.if_icmp .le 6, 3) := by decide +kernel
theorem dX8_append_52 : decode cX8_append 52 = .ok (.bipush (-2), 2) := by decide +kernel
theorem dX8_append_54 : decode cX8_append 54 = .ok (.ireturn, 1) := by decide +kernel
theorem dX8_append_55 : decode cX8_append 55 = .ok (.iconst 0, 1) := by decide +kernel
theorem dX8_append_56 : decode cX8_append 56 = .ok (.istore 4, 2) := by decide +kernel
theorem dX8_append_58 : decode cX8_append 58 = .ok (.iload 4, 2) := by decide +kernel
theorem dX8_append_60 : decode cX8_append 60 = .ok (.bipush 8, 2) := by decide +kernel
theorem dX8_append_62 : decode cX8_append 62 = .ok (.if_icmp .ge 44, 3) := by decide +kernel
theorem dX8_append_65 : decode cX8_append 65 = .ok (.lload_n 1, 1) := by decide +kernel
theorem dX8_append_66 : decode cX8_append 66 = .ok (.iload 4, 2) := by decide +kernel
theorem dX8_append_68 : decode cX8_append 68 = .ok (.invokestatic 58, 3) := by decide +kernel
theorem dX8_append_71 : decode cX8_append 71 = .ok (.ifCond .eq 29, 3) := by decide +kernel
theorem dX8_append_74 : decode cX8_append 74 = .ok (.aload_n 0, 1) := by decide +kernel
theorem dX8_append_75 : decode cX8_append 75 = .ok (.getfield 26, 3) := by decide +kernel
theorem dX8_append_78 : decode cX8_append 78 = .ok (.aload_n 0, 1) := by decide +kernel
theorem dX8_append_79 : decode cX8_append 79 = .ok (.getfield 62, 3) := by decide +kernel
theorem dX8_append_82 : decode cX8_append 82 = .ok (.lload_n 1, 1) := by decide +kernel
theorem dX8_append_83 : decode cX8_append 83 = .ok (.iload 4, 2) := by decide +kernel
theorem dX8_append_85 : decode cX8_append 85 = .ok (.invokestatic 58, 3) := by decide +kernel
theorem dX8_append_88 : decode cX8_append 88 = .ok (.i2b, 1) := by decide +kernel
theorem dX8_append_89 : decode cX8_append 89 = .ok (.bastore, 1) := by decide +kernel
theorem dX8_append_90 : decode cX8_append 90 = .ok (.aload_n 0, 1) := by decide +kernel
theorem dX8_append_91 : decode cX8_append 91 = .ok (.dup, 1) := by decide +kernel
theorem dX8_append_92 : decode cX8_append 92 = .ok (.getfield 62, 3) := by decide +kernel
theorem dX8_append_95 : decode cX8_append 95 = .ok (.iconst 1, 1) := by decide +kernel
theorem dX8_append_96 : decode cX8_append 96 = .ok (.iadd, 1) := by decide +kernel
theorem dX8_append_97 : decode cX8_append 97 = .ok (.putfield 62, 3) := by decide +kernel
theorem dX8_append_100 : decode cX8_append 100 = .ok (.iinc 4 1, 3) := by decide +kernel
theorem dX8_append_103 : decode cX8_append 103 = .ok (.goto (-45), 3) := by decide +kernel
theorem dX8_append_106 : decode cX8_append 106 = .ok (.aload_n 0, 1) := by decide +kernel
theorem dX8_append_107 : decode cX8_append 107 = .ok (.getfield 62, 3) := by decide +kernel
theorem dX8_append_110 : decode cX8_append 110 = .ok (.ireturn, 1) := by decide +kernel
theorem dX8_here_0 : decode cX8_here 0 = .ok (.aload_n 0, 1) := by decide +kernel
theorem dX8_here_1 : decode cX8_here 1 = .ok (.getfield 65, 3) := by decide +kernel
theorem dX8_here_4 : decode cX8_here 4 = .ok (.aload_n 0, 1) := by decide +kernel
theorem dX8_here_5 : decode cX8_here 5 = .ok (.getfield 62, 3) := by decide +kernel
theorem dX8_here_8 : decode cX8_here 8 = .ok (.if_icmp .ge 19, 3) := by decide +kernel
theorem dX8_here_11 : decode cX8_here 11 = .ok (.aload_n 0, 1) := by decide +kernel
theorem dX8_here_12 : decode cX8_here 12 = .ok (.getfield 26, 3) := by decide +kernel
theorem dX8_here_15 : decode cX8_here 15 = .ok (.aload_n 0, 1) := by decide +kernel
theorem dX8_here_16 : decode cX8_here 16 = .ok (.getfield 65, 3) := by decide +kernel
theorem dX8_here_19 : decode cX8_here 19 = .ok (.baload, 1) := by decide +kernel
theorem dX8_here_20 : decode cX8_here 20 = .ok (.sipush 255, 3) := by decide +kernel
theorem dX8_here_23 : decode cX8_here 23 = .ok (.iand, 1) := by decide +kernel
theorem dX8_here_24 : decode cX8_here 24 = .ok (.goto 4, 3) := by decide +kernel
theorem dX8_here_27 : decode cX8_here 27 = .ok (.iconst (-1), 1) := by decide +kernel
theorem dX8_here_28 : decode cX8_here 28 = .ok (.ireturn, 1) := by decide +kernel
set_option maxRecDepth 20000 in
theorem ggX8_next_X8_here : GoodIn wsX8_next wsX8_here := goodIn_r _ [7, 1, 8, 9, 10, 11, 12, 13, 14, 15, 16, 17, 18, 19, 20, 21, 22, 23, 24, 25, 26, 27, 28, 29, 30, 31, 32] (by decide +kernel) (by decide +kernel)
set_option maxRecDepth 20000 in
theorem gX8_next_X8_here : GoodIn wsX8_next (wsV RX8 68 RX8 yX8_here wsX8_here) := goodIn_app (goodIn_of _ (by decide +kernel)) ggX8_next_X8_here
theorem dX8_next_0 : decode cX8_next 0 = .ok (.aload_n 0, 1) := by decide +kernel
theorem dX8_next_1 : decode cX8_next 1 = .ok (.invokevirtual 68, 3) := by decide +kernel
theorem dX8_next_4 : decode cX8_next 4 = .ok (.bipush 32, 2) := by decide +kernel
theorem dX8_next_6 : decode cX8_next 6 = .ok (.if_icmp .ne 16, 3) := by decide +kernel
theorem dX8_next_9 : decode cX8_next 9 = .ok (.aload_n 0, 1) := by decide +kernel
theorem dX8_next_10 : decode cX8_next 10 = .ok (.dup, 1) := by decide +kernel
theorem dX8_next_11 : decode cX8_next 11 = .ok (.getfield 65, 3) := by decide +kernel
theorem dX8_next_14 : decode cX8_next 14 = .ok (.iconst 1, 1) := by decide +kernel
theorem dX8_next_15 : decode cX8_next 15 = .ok (.iadd, 1) := by decide +kernel
theorem dX8_next_16 : decode cX8_next 16 = .ok (.putfield 65, 3) := by decide +kernel
theorem dX8_next_19 : decode cX8_next 19 = .ok (.goto (-19), 3) := by decide +kernel
theorem dX8_next_22 : decode cX8_next 22 = .ok (.aload_n 0, 1) := by decide +kernel
theorem dX8_next_23 : decode cX8_next 23 = .ok (.aload_n 0, 1) := by decide +kernel
theorem dX8_next_24 : decode cX8_next 24 = .ok (.getfield 65, 3) := by decide +kernel
theorem dX8_next_27 : decode cX8_next 27 = .ok (.putfield 72, 3) := by decide +kernel
theorem dX8_next_30 : decode cX8_next 30 = .ok (.aload_n 0, 1) := by decide +kernel
theorem dX8_next_31 : decode cX8_next 31 = .ok (.invokevirtual 68, 3) := by decide +kernel
theorem dX8_next_34 : decode cX8_next 34 = .ok (.ireturn, 1) := by decide +kernel
theorem dX8_fails_0 : decode cX8_fails 0 = .ok (.aload_n 0, 1) := by decide +kernel
theorem dX8_fails_1 : decode cX8_fails 1 = .ok (.getfield 75, 3) := by decide +kernel
theorem dX8_fails_4 : decode cX8_fails 4 = .ok (.ifCond .ne 16, 3) := by decide +kernel
theorem dX8_fails_7 : decode cX8_fails 7 = .ok (.aload_n 0, 1) := by decide +kernel
theorem dX8_fails_8 : decode cX8_fails 8 = .ok (.iload_n 1, 1) := by decide +kernel
theorem dX8_fails_9 : decode cX8_fails 9 = .ok (.putfield 75, 3) := by decide +kernel
theorem dX8_fails_12 : decode cX8_fails 12 = .ok (.aload_n 0, 1) := by decide +kernel
theorem dX8_fails_13 : decode cX8_fails 13 = .ok (.aload_n 0, 1) := by decide +kernel
theorem dX8_fails_14 : decode cX8_fails 14 = .ok (.getfield 72, 3) := by decide +kernel
theorem dX8_fails_17 : decode cX8_fails 17 = .ok (.putfield 78, 3) := by decide +kernel
theorem dX8_fails_20 : decode cX8_fails 20 = .ok (.return_, 1) := by decide +kernel
set_option maxRecDepth 20000 in
theorem ggX8_reads_X8_next : GoodIn wsX8_reads wsX8_next := goodIn_r _ [8, 3, 9, 10, 11, 12, 7, 13, 14, 15, 19, 20, 21, 22, 23, 24, 25, 26, 27, 28, 29, 30, 31, 32, 33, 34, 35, 36, 37, 38, 39, 40, 41] (by decide +kernel) (by decide +kernel)
set_option maxRecDepth 20000 in
theorem gX8_reads_X8_next : GoodIn wsX8_reads (wsV RX8 81 RX8 yX8_next wsX8_next) := goodIn_app (goodIn_of _ (by decide +kernel)) ggX8_reads_X8_next
set_option maxRecDepth 20000 in
theorem ggX8_reads_X8_here : GoodIn wsX8_reads wsX8_here := goodIn_r _ [13, 3, 14, 15, 19, 20, 21, 22, 23, 24, 25, 26, 27, 28, 29, 30, 31, 32, 33, 34, 35, 36, 37, 38, 39, 40, 41] (by decide +kernel) (by decide +kernel)
set_option maxRecDepth 20000 in
theorem gX8_reads_X8_here : GoodIn wsX8_reads (wsV RX8 68 RX8 yX8_here wsX8_here) := goodIn_app (goodIn_of _ (by decide +kernel)) ggX8_reads_X8_here
set_option maxRecDepth 20000 in
theorem ggX8_reads_X8_in : GoodIn wsX8_reads wsX8_in := goodIn_r _ [18] (by decide +kernel) (by decide +kernel)
set_option maxRecDepth 20000 in
theorem gX8_reads_X8_in : GoodIn wsX8_reads (va_wsS RX8 52 yX8_in wsX8_in) := goodIn_app (goodIn_of _ (by decide +kernel)) ggX8_reads_X8_in
theorem dX8_reads_0 : decode cX8_reads 0 = .ok (.aload_n 0, 1) := by decide +kernel
theorem dX8_reads_1 : decode cX8_reads 1 = .ok (.invokevirtual 81, 3) := by decide +kernel
theorem dX8_reads_4 : decode cX8_reads 4 = .ok (.pop, 1) := by decide +kernel
theorem dX8_reads_5 : decode cX8_reads 5 = .ok (.aload_n 0, 1) := by decide +kernel
theorem dX8_reads_6 : decode cX8_reads 6 = .ok (.invokevirtual 68, 3) := by decide +kernel
theorem dX8_reads_9 : decode cX8_reads 9 = .ok (.i2l, 1) := by decide +kernel
theorem dX8_reads_10 : decode cX8_reads 10 = .ok (.ldc2_w 84, 3) := by decide +kernel
theorem dX8_reads_13 : decode cX8_reads 13 = .ok (.ldc2_w 86, 3) := by decide +kernel
theorem dX8_reads_16 : decode cX8_reads 16 = .ok (.invokestatic 52, 3) := by decide +kernel
theorem dX8_reads_19 : decode cX8_reads 19 = .ok (.ifCond .eq 16, 3) := by decide +kernel
theorem dX8_reads_22 : decode cX8_reads 22 = .ok (.aload_n 0, 1) := by decide +kernel
theorem dX8_reads_23 : decode cX8_reads 23 = .ok (.dup, 1) := by decide +kernel
theorem dX8_reads_24 : decode cX8_reads 24 = .ok (.getfield 65, 3) := by decide +kernel
theorem dX8_reads_27 : decode cX8_reads 27 = .ok (.iconst 1, 1) := by decide +kernel
theorem dX8_reads_28 : decode cX8_reads 28 = .ok (.iadd, 1) := by decide +kernel
theorem dX8_reads_29 : decode cX8_reads 29 = .ok (.putfield 65, 3) := by decide +kernel
theorem dX8_reads_32 : decode cX8_reads 32 = .ok (.goto (-27), 3) := by decide +kernel
theorem dX8_reads_35 : decode cX8_reads 35 = .ok (.return_, 1) := by decide +kernel
set_option maxRecDepth 20000 in
theorem ggX8_isWord_J0_length_8abf5 : GoodIn wsX8_isWord wsJ0_length_8abf5 := goodIn_r _ [8, 9, 10, 11, 12, 7, 13, 14, 15, 76, 77, 78, 79] (by decide +kernel) (by decide +kernel)
set_option maxRecDepth 20000 in
theorem gX8_isWord_J0_length_8abf5 : GoodIn wsX8_isWord (wsV RX8 88 RJ0 yJ0_length_8abf5 wsJ0_length_8abf5) := goodIn_app (goodIn_of _ (by decide +kernel)) ggX8_isWord_J0_length_8abf5
set_option maxRecDepth 20000 in
theorem ggX8_isWord_J0_charAt_5068e : GoodIn wsX8_isWord wsJ0_charAt_5068e := goodIn_r _ [19, 9, 20, 21, 22, 7, 23, 14, 15, 24, 25, 26, 27, 28, 29, 30, 31, 32, 33, 34, 35, 36, 37, 38, 39, 40, 41, 42, 43, 44, 45, 46, 47, 48, 49, 50, 51, 52, 76, 77, 78, 79] (by decide +kernel) (by decide +kernel)
set_option maxRecDepth 20000 in
theorem gX8_isWord_J0_charAt_5068e : GoodIn wsX8_isWord (wsV RX8 92 RJ0 yJ0_charAt_5068e wsJ0_charAt_5068e) := goodIn_app (goodIn_of _ (by decide +kernel)) ggX8_isWord_J0_charAt_5068e
theorem dX8_isWord_0 : decode cX8_isWord 0 = .ok (.aload_n 0, 1) := by decide +kernel
theorem dX8_isWord_1 : decode cX8_isWord 1 = .ok (.getfield 65, 3) := by decide +kernel
theorem dX8_isWord_4 : decode cX8_isWord 4 = .ok (.aload_n 0, 1) := by decide +kernel
theorem dX8_isWord_5 : decode cX8_isWord 5 = .ok (.getfield 72, 3) := by decide +kernel
theorem dX8_isWord_8 : decode cX8_isWord 8 = .ok (.isub, 1) := by decide +kernel
theorem dX8_isWord_9 : decode cX8_isWord 9 = .ok (.aload_n 1, 1) := by decide +kernel
theorem dX8_isWord_10 : decode cX8_isWord 10 = .ok (.invokevirtual 88, 3) := by decide +kernel
theorem dX8_isWord_13 : decode cX8_isWord 13 = .ok (.if_icmp .ne 7, 3) := by decide +kernel
theorem dX8_isWord_16 : decode cX8_isWord 16 = .ok (.iconst 1, 1) := by decide +kernel
theorem dX8_isWord_17 : decode cX8_isWord 17 = .ok (.goto 4, 3) := by decide +kernel
theorem dX8_isWord_20 : decode cX8_isWord 20 = .ok (.iconst 0, 1) := by decide +kernel
theorem dX8_isWord_21 : decode cX8_isWord 21 = .ok (.istore_n 2, 1) := by decide +kernel
theorem dX8_isWord_22 : decode cX8_isWord 22 = .ok (.iconst 0, 1) := by decide +kernel
theorem dX8_isWord_23 : decode cX8_isWord 23 = .ok (.istore_n 3, 1) := by decide +kernel
theorem dX8_isWord_24 : decode cX8_isWord 24 = .ok (.iload_n 2, 1) := by decide +kernel
theorem dX8_isWord_25 : decode cX8_isWord 25 = .ok (.ifCond .eq 42, 3) := by decide +kernel
theorem dX8_isWord_28 : decode cX8_isWord 28 = .ok (.iload_n 3, 1) := by decide +kernel
theorem dX8_isWord_29 : decode cX8_isWord 29 = .ok (.aload_n 1, 1) := by decide +kernel
theorem dX8_isWord_30 : decode cX8_isWord 30 = .ok (.invokevirtual 88, 3) := by decide +kernel
theorem dX8_isWord_33 : decode cX8_isWord 33 = .ok (.if_icmp .ge 34, 3) := by decide +kernel
theorem dX8_isWord_36 : decode cX8_isWord 36 = .ok (.aload_n 0, 1) := by decide +kernel
theorem dX8_isWord_37 : decode cX8_isWord 37 = .ok (.getfield 26, 3) := by decide +kernel
theorem dX8_isWord_40 : decode cX8_isWord 40 = .ok (.aload_n 0, 1) := by decide +kernel
theorem dX8_isWord_41 : decode cX8_isWord 41 = .ok (.getfield 72, 3) := by decide +kernel
theorem dX8_isWord_44 : decode cX8_isWord 44 = .ok (.iload_n 3, 1) := by decide +kernel
theorem dX8_isWord_45 : decode cX8_isWord 45 = .ok (.iadd, 1) := by decide +kernel
theorem dX8_isWord_46 : decode cX8_isWord 46 = .ok (.baload, 1) := by decide +kernel
theorem dX8_isWord_47 : decode cX8_isWord 47 = .ok (.aload_n 1, 1) := by decide +kernel
theorem dX8_isWord_48 : decode cX8_isWord 48 = .ok (.iload_n 3, 1) := by decide +kernel
theorem dX8_isWord_49 : decode cX8_isWord 49 = .ok (.invokevirtual 92, 3) := by decide +kernel
theorem dX8_isWord_52 : decode cX8_isWord 52 = .ok (.if_icmp .ne 7, 3) := by decide +kernel
theorem dX8_isWord_55 : decode cX8_isWord 55 = .ok (.iconst 1, 1) := by decide +kernel
theorem dX8_isWord_56 : decode cX8_isWord 56 = .ok (.goto 4, 3) := by decide +kernel
theorem dX8_isWord_59 : decode cX8_isWord 59 = .ok (.iconst 0, 1) := by decide +kernel
theorem dX8_isWord_60 : decode cX8_isWord 60 = .ok (.istore_n 2, 1) := by decide +kernel
theorem dX8_isWord_61 : decode cX8_isWord 61 = .ok (.iinc 3 1, 3) := by decide +kernel
theorem dX8_isWord_64 : decode cX8_isWord 64 = .ok (.goto (-40), 3) := by decide +kernel
theorem dX8_isWord_67 : decode cX8_isWord 67 = .ok (.iload_n 2, 1) := by decide +kernel
theorem dX8_isWord_68 : decode cX8_isWord 68 = .ok (.ireturn, 1) := by decide +kernel
set_option maxRecDepth 20000 in
theorem ggX8_number_X8_next : GoodIn wsX8_number wsX8_next := goodIn_r _ [14, 9, 15, 16, 17, 18, 13, 19, 20, 21, 30, 31, 32, 33, 34, 35, 36, 37, 38, 39, 40, 41, 42, 43, 44, 45, 46, 47, 48, 49, 50, 51, 52] (by decide +kernel) (by decide +kernel)
set_option maxRecDepth 20000 in
theorem gX8_number_X8_next : GoodIn wsX8_number (wsV RX8 81 RX8 yX8_next wsX8_next) := goodIn_app (goodIn_of _ (by decide +kernel)) ggX8_number_X8_next
set_option maxRecDepth 20000 in
theorem ggX8_number_X8_in : GoodIn wsX8_number wsX8_in := goodIn_r _ [24] (by decide +kernel) (by decide +kernel)
set_option maxRecDepth 20000 in
theorem gX8_number_X8_in : GoodIn wsX8_number (va_wsS RX8 52 yX8_in wsX8_in) := goodIn_app (goodIn_of _ (by decide +kernel)) ggX8_number_X8_in
set_option maxRecDepth 20000 in
theorem ggX8_number_X8_fails : GoodIn wsX8_number wsX8_fails := goodIn_r _ [28, 1, 15, 29, 30, 31, 32, 33, 34, 35, 36, 37, 38, 39, 40, 41, 42, 43, 44, 45, 46, 47, 48, 49, 50, 51, 52] (by decide +kernel) (by decide +kernel)
set_option maxRecDepth 20000 in
theorem gX8_number_X8_fails : GoodIn wsX8_number (wsV RX8 100 RX8 yX8_fails wsX8_fails) := goodIn_app (goodIn_of _ (by decide +kernel)) ggX8_number_X8_fails
set_option maxRecDepth 20000 in
theorem ggX8_number_X8_here : GoodIn wsX8_number wsX8_here := goodIn_r _ [19, 9, 20, 21, 30, 31, 32, 33, 34, 35, 36, 37, 38, 39, 40, 41, 42, 43, 44, 45, 46, 47, 48, 49, 50, 51, 52] (by decide +kernel) (by decide +kernel)
set_option maxRecDepth 20000 in
theorem gX8_number_X8_here : GoodIn wsX8_number (wsV RX8 68 RX8 yX8_here wsX8_here) := goodIn_app (goodIn_of _ (by decide +kernel)) ggX8_number_X8_here
theorem dX8_number_0 : decode cX8_number 0 = .ok (.aload_n 0, 1) := by decide +kernel
theorem dX8_number_1 : decode cX8_number 1 = .ok (.getfield 75, 3) := by decide +kernel
theorem dX8_number_4 : decode cX8_number 4 = .ok (.ifCond .eq 5, 3) := by decide +kernel
theorem dX8_number_7 : decode cX8_number 7 = .ok (.iload_n 1, 1) := by decide +kernel
theorem dX8_number_8 : decode cX8_number 8 = .ok (.ireturn, 1) := by decide +kernel
theorem dX8_number_9 : decode cX8_number 9 = .ok (.aload_n 0, 1) := by decide +kernel
theorem dX8_number_10 : decode cX8_number 10 = .ok (.invokevirtual 81, 3) := by decide +kernel
theorem dX8_number_13 : decode cX8_number 13 = .ok (.i2l, 1) := by decide +kernel
theorem dX8_number_14 : decode cX8_number 14 = .ok (.ldc2_w 96, 3) := by decide +kernel
theorem dX8_number_17 : decode cX8_number 17 = .ok (.ldc2_w 98, 3) := by decide +kernel
theorem dX8_number_20 : decode cX8_number 20 = .ok (.invokestatic 52, 3) := by decide +kernel
theorem dX8_number_23 : decode cX8_number 23 = .ok (.ifCond .ne 10, 3) := by decide +kernel
theorem dX8_number_26 : decode cX8_number 26 = .ok (.aload_n 0, 1) := by decide +kernel
theorem dX8_number_27 : decode cX8_number 27 = .ok (.iconst 1, 1) := by decide +kernel
theorem dX8_number_28 : decode cX8_number 28 = .ok (.invokevirtual 100, 3) := by decide +kernel
theorem dX8_number_31 : decode cX8_number 31 = .ok (.iload_n 1, 1) := by decide +kernel
theorem dX8_number_32 : decode cX8_number 32 = .ok (.ireturn, 1) := by decide +kernel
theorem dX8_number_33 : decode cX8_number 33 = .ok (.iconst 0, 1) := by decide +kernel
theorem dX8_number_34 : decode cX8_number 34 = .ok (.istore_n 3, 1) := by decide +kernel
theorem dX8_number_35 : decode cX8_number 35 = .ok (.aload_n 0, 1) := by decide +kernel
theorem dX8_number_36 : decode cX8_number 36 = .ok (.invokevirtual 68, 3) := by decide +kernel
theorem dX8_number_39 : decode cX8_number 39 = .ok (.i2l, 1) := by decide +kernel
theorem dX8_number_40 : decode cX8_number 40 = .ok (.ldc2_w 96, 3) := by decide +kernel
theorem dX8_number_43 : decode cX8_number 43 = .ok (.ldc2_w 98, 3) := by decide +kernel
theorem dX8_number_46 : decode cX8_number 46 = .ok (.invokestatic 52, 3) := by decide +kernel
theorem dX8_number_49 : decode cX8_number 49 = .ok (.ifCond .eq 34, 3) := by decide +kernel
theorem dX8_number_52 : decode cX8_number 52 = .ok (.ldc 104, 2) := by decide +kernel
theorem dX8_number_54 : decode cX8_number 54 = .ok (.bipush 10, 2) := by decide +kernel
theorem dX8_number_56 : decode cX8_number 56 = .ok (.iload_n 3, 1) := by decide +kernel
theorem dX8_number_57 : decode cX8_number 57 = .ok (.imul, 1) := by decide +kernel
theorem dX8_number_58 : decode cX8_number 58 = .ok (.aload_n 0, 1) := by decide +kernel
theorem dX8_number_59 : decode cX8_number 59 = .ok (.invokevirtual 68, 3) := by decide +kernel
theorem dX8_number_62 : decode cX8_number 62 = .ok (.iadd, 1) := by decide +kernel
theorem dX8_number_63 : decode cX8_number 63 = .ok (.bipush 48, 2) := by decide +kernel
theorem dX8_number_65 : decode cX8_number 65 = .ok (.isub, 1) := by decide +kernel
theorem dX8_number_66 : decode cX8_number 66 = .ok (.invokestatic 105, 3) := by decide +kernel
theorem dX8_number_69 : decode cX8_number 69 = .ok (.istore_n 3, 1) := by decide +kernel
theorem dX8_number_70 : decode cX8_number 70 = .ok (.aload_n 0, 1) := by decide +kernel
theorem dX8_number_71 : decode cX8_number 71 = .ok (.dup, 1) := by decide +kernel
theorem dX8_number_72 : decode cX8_number 72 = .ok (.getfield 65, 3) := by decide +kernel
theorem dX8_number_75 : decode cX8_number 75 = .ok (.iconst 1, 1) := by decide +kernel
theorem dX8_number_76 : decode cX8_number 76 = .ok (.iadd, 1) := by decide +kernel
theorem dX8_number_77 : decode cX8_number 77 = .ok (.putfield 65, 3) := by decide +kernel
theorem dX8_number_80 : decode cX8_number 80 = .ok (.goto (-45), 3) := by decide +kernel
theorem dX8_number_83 : decode cX8_number 83 = .ok (.iload_n 3, 1) := by decide +kernel
theorem dX8_number_84 : decode cX8_number 84 = .ok (.i2l, 1) := by decide +kernel
theorem dX8_number_85 : decode cX8_number 85 = .ok (.iload_n 1, 1) := by decide +kernel
theorem dX8_number_86 : decode cX8_number 86 = .ok (.i2l, 1) := by decide +kernel
theorem dX8_number_87 : decode cX8_number 87 = .ok (.iload_n 2, 1) := by decide +kernel
theorem dX8_number_88 : decode cX8_number 88 = .ok (.i2l, 1) := by decide +kernel
theorem dX8_number_89 : decode cX8_number 89 = .ok (.invokestatic 52, 3) := by decide +kernel
theorem dX8_number_92 : decode cX8_number 92 = .ok (.ifCond .ne 10, 3) := by decide +kernel
theorem dX8_number_95 : decode cX8_number 95 = .ok (.aload_n 0, 1) := by decide +kernel
theorem dX8_number_96 : decode cX8_number 96 = .ok (.iconst 2, 1) := by decide +kernel
theorem dX8_number_97 : decode cX8_number 97 = .ok (.invokevirtual 100, 3) := by decide +kernel
theorem dX8_number_100 : decode cX8_number 100 = .ok (.iload_n 1, 1) := by decide +kernel
theorem dX8_number_101 : decode cX8_number 101 = .ok (.ireturn, 1) := by decide +kernel
theorem dX8_number_102 : decode cX8_number 102 = .ok (.iload_n 3, 1) := by decide +kernel
theorem dX8_number_103 : decode cX8_number 103 = .ok (.ireturn, 1) := by decide +kernel
set_option maxRecDepth 20000 in
theorem ggX8_pieces_X8_next : GoodIn wsX8_pieces wsX8_next := goodIn_r _ [12, 13, 14, 15, 16, 17, 11, 18, 19, 20, 54, 55, 56, 57, 58, 59, 60, 61, 62, 63, 64, 65, 66, 67, 68, 69, 70, 71, 72, 73, 74, 75, 76] (by decide +kernel) (by decide +kernel)
set_option maxRecDepth 20000 in
theorem gX8_pieces_X8_next : GoodIn wsX8_pieces (wsV RX8 81 RX8 yX8_next wsX8_next) := goodIn_app (goodIn_of _ (by decide +kernel)) ggX8_pieces_X8_next
set_option maxRecDepth 20000 in
theorem ggX8_pieces_X8_in : GoodIn wsX8_pieces wsX8_in := goodIn_r _ [23] (by decide +kernel) (by decide +kernel)
set_option maxRecDepth 20000 in
theorem gX8_pieces_X8_in : GoodIn wsX8_pieces (va_wsS RX8 52 yX8_in wsX8_in) := goodIn_app (goodIn_of _ (by decide +kernel)) ggX8_pieces_X8_in
set_option maxRecDepth 20000 in
theorem ggX8_pieces_X8_takes : GoodIn wsX8_pieces wsX8_takes := goodIn_r _ [27, 2, 1, 28, 13, 29, 30, 31, 11, 32, 3, 14, 33, 54, 55, 56, 57, 58, 59, 60, 61, 62, 63, 64, 65, 66, 67, 68, 69, 70, 71, 72, 73, 74, 75, 76] (by decide +kernel) (by decide +kernel)
set_option maxRecDepth 20000 in
theorem gX8_pieces_X8_takes : GoodIn wsX8_pieces (wsV RX8 114 RX8 yX8_takes wsX8_takes) := goodIn_app (goodIn_of _ (by decide +kernel)) ggX8_pieces_X8_takes
set_option maxRecDepth 20000 in
theorem ggX8_pieces_X8_group : GoodIn wsX8_pieces wsX8_group := goodIn_r _ [37, 13, 3, 14, 38, 39, 40, 11, 41, 6, 7, 42, 43, 44, 45, 46, 8, 9, 10, 12, 15, 16, 17, 18, 19, 20, 21, 22, 23, 29, 30, 31, 32, 33, 47, 48, 49, 50, 51, 52, 53, 1, 2, 28, 0, 4, 5, 24, 25, 26, 27, 34, 35, 36, 54, 55, 56, 57, 58, 59, 60, 61, 62, 63, 64, 65, 66, 67, 68, 69, 70, 71, 72, 73, 74, 75, 76] (by decide +kernel) (by decide +kernel)
set_option maxRecDepth 20000 in
theorem gX8_pieces_X8_group : GoodIn wsX8_pieces (wsV RX8 118 RX8 yX8_group wsX8_group) := goodIn_app (goodIn_of _ (by decide +kernel)) ggX8_pieces_X8_group
set_option maxRecDepth 20000 in
theorem ggX8_pieces_X8_fails : GoodIn wsX8_pieces wsX8_fails := goodIn_r _ [32, 3, 14, 33, 54, 55, 56, 57, 58, 59, 60, 61, 62, 63, 64, 65, 66, 67, 68, 69, 70, 71, 72, 73, 74, 75, 76] (by decide +kernel) (by decide +kernel)
set_option maxRecDepth 20000 in
theorem gX8_pieces_X8_fails : GoodIn wsX8_pieces (wsV RX8 100 RX8 yX8_fails wsX8_fails) := goodIn_app (goodIn_of _ (by decide +kernel)) ggX8_pieces_X8_fails
theorem dX8_pieces_0 : decode cX8_pieces 0 = .ok (.aload_n 0, 1) := by decide +kernel
theorem dX8_pieces_1 : decode cX8_pieces 1 = .ok (.getfield 37, 3) := by decide +kernel
theorem dX8_pieces_4 : decode cX8_pieces 4 = .ok (.iload_n 1, 1) := by decide +kernel
theorem dX8_pieces_5 : decode cX8_pieces 5 = .ok (.aload_n 0, 1) := by decide +kernel
theorem dX8_pieces_6 : decode cX8_pieces 6 = .ok (.getfield 111, 3) := by decide +kernel
theorem dX8_pieces_9 : decode cX8_pieces 9 = .ok (.iastore, 1) := by decide +kernel
theorem dX8_pieces_10 : decode cX8_pieces 10 = .ok (.iconst 0, 1) := by decide +kernel
theorem dX8_pieces_11 : decode cX8_pieces 11 = .ok (.istore_n 2, 1) := by decide +kernel
theorem dX8_pieces_12 : decode cX8_pieces 12 = .ok (.aload_n 0, 1) := by decide +kernel
theorem dX8_pieces_13 : decode cX8_pieces 13 = .ok (.getfield 75, 3) := by decide +kernel
theorem dX8_pieces_16 : decode cX8_pieces 16 = .ok (.ifCond .ne 59, 3) := by decide +kernel
theorem dX8_pieces_19 : decode cX8_pieces 19 = .ok (.aload_n 0, 1) := by decide +kernel
theorem dX8_pieces_20 : decode cX8_pieces 20 = .ok (.invokevirtual 81, 3) := by decide +kernel
theorem dX8_pieces_23 : decode cX8_pieces 23 = .ok (.istore_n 3, 1) := by decide +kernel
theorem dX8_pieces_24 : decode cX8_pieces 24 = .ok (.iload_n 3, 1) := by decide +kernel
theorem dX8_pieces_25 : decode cX8_pieces 25 = .ok (.i2l, 1) := by decide +kernel
theorem dX8_pieces_26 : decode cX8_pieces 26 = .ok (.ldc2_w 84, 3) := by decide +kernel
theorem dX8_pieces_29 : decode cX8_pieces 29 = .ok (.ldc2_w 86, 3) := by decide +kernel
theorem dX8_pieces_32 : decode cX8_pieces 32 = .ok (.invokestatic 52, 3) := by decide +kernel
theorem dX8_pieces_35 : decode cX8_pieces 35 = .ok (.ifCond .eq 15, 3) := by decide +kernel
theorem dX8_pieces_38 : decode cX8_pieces 38 = .ok (.aload_n 0, 1) := by decide +kernel
theorem dX8_pieces_39 : decode cX8_pieces 39 = .ok (.iload_n 1, 1) := by decide +kernel
theorem dX8_pieces_40 : decode cX8_pieces 40 = .ok (.iload_n 3, 1) := by decide +kernel
theorem dX8_pieces_41 : decode cX8_pieces 41 = .ok (.bipush 97, 2) := by decide +kernel
theorem dX8_pieces_43 : decode cX8_pieces 43 = .ok (.isub, 1) := by decide +kernel
theorem dX8_pieces_44 : decode cX8_pieces 44 = .ok (.invokevirtual 114, 3) := by decide +kernel
theorem dX8_pieces_47 : decode cX8_pieces 47 = .ok (.goto 22, 3) := by decide +kernel
theorem dX8_pieces_50 : decode cX8_pieces 50 = .ok (.iload_n 3, 1) := by decide +kernel
theorem dX8_pieces_51 : decode cX8_pieces 51 = .ok (.i2l, 1) := by decide +kernel
theorem dX8_pieces_52 : decode cX8_pieces 52 = .ok (.ldc2_w 96, 3) := by decide +kernel
theorem dX8_pieces_55 : decode cX8_pieces 55 = .ok (.ldc2_w 98, 3) := by decide +kernel
theorem dX8_pieces_58 : decode cX8_pieces 58 = .ok (.invokestatic 52, 3) := by decide +kernel
theorem dX8_pieces_61 : decode cX8_pieces 61 = .ok (.ifCond .eq 14, 3) := by decide +kernel
theorem dX8_pieces_64 : decode cX8_pieces 64 = .ok (.aload_n 0, 1) := by decide +kernel
theorem dX8_pieces_65 : decode cX8_pieces 65 = .ok (.iload_n 1, 1) := by decide +kernel
theorem dX8_pieces_66 : decode cX8_pieces 66 = .ok (.invokevirtual 118, 3) := by decide +kernel
theorem dX8_pieces_69 : decode cX8_pieces 69 = .ok (.iinc 2 1, 3) := by decide +kernel
theorem dX8_pieces_72 : decode cX8_pieces 72 = .ok (.goto (-60), 3) := by decide +kernel
theorem dX8_pieces_75 : decode cX8_pieces 75 = .ok (.aload_n 0, 1) := by decide +kernel
theorem dX8_pieces_76 : decode cX8_pieces 76 = .ok (.getfield 75, 3) := by decide +kernel
theorem dX8_pieces_79 : decode cX8_pieces 79 = .ok (.ifCond .ne 12, 3) := by decide +kernel
theorem dX8_pieces_82 : decode cX8_pieces 82 = .ok (.iload_n 2, 1) := by decide +kernel
theorem dX8_pieces_83 : decode cX8_pieces 83 = .ok (.ifCond .ne 8, 3) := by decide +kernel
theorem dX8_pieces_86 : decode cX8_pieces 86 = .ok (.aload_n 0, 1) := by decide +kernel
theorem dX8_pieces_87 : decode cX8_pieces 87 = .ok (.iconst 1, 1) := by decide +kernel
theorem dX8_pieces_88 : decode cX8_pieces 88 = .ok (.invokevirtual 100, 3) := by decide +kernel
theorem dX8_pieces_91 : decode cX8_pieces 91 = .ok (.return_, 1) := by decide +kernel
set_option maxRecDepth 20000 in
theorem ggX8_takes_X8_fails : GoodIn wsX8_takes wsX8_fails := goodIn_r _ [9, 10, 11, 12, 13, 14, 15, 16, 17, 18, 19, 20, 21, 22, 23, 24, 25, 26, 27, 28, 29, 30, 31, 32, 33, 34, 35] (by decide +kernel) (by decide +kernel)
set_option maxRecDepth 20000 in
theorem gX8_takes_X8_fails : GoodIn wsX8_takes (wsV RX8 100 RX8 yX8_fails wsX8_fails) := goodIn_app (goodIn_of _ (by decide +kernel)) ggX8_takes_X8_fails
theorem dX8_takes_0 : decode cX8_takes 0 = .ok (.aload_n 0, 1) := by decide +kernel
theorem dX8_takes_1 : decode cX8_takes 1 = .ok (.getfield 111, 3) := by decide +kernel
theorem dX8_takes_4 : decode cX8_takes 4 = .ok (.aload_n 0, 1) := by decide +kernel
theorem dX8_takes_5 : decode cX8_takes 5 = .ok (.getfield 37, 3) := by decide +kernel
theorem dX8_takes_8 : decode cX8_takes 8 = .ok (.iload_n 1, 1) := by decide +kernel
theorem dX8_takes_9 : decode cX8_takes 9 = .ok (.iaload, 1) := by decide +kernel
theorem dX8_takes_10 : decode cX8_takes 10 = .ok (.isub, 1) := by decide +kernel
theorem dX8_takes_11 : decode cX8_takes 11 = .ok (.bipush 16, 2) := by decide +kernel
theorem dX8_takes_13 : decode cX8_takes 13 = .ok (.if_icmp .ne 9, 3) := by decide +kernel
theorem dX8_takes_16 : decode cX8_takes 16 = .ok (.aload_n 0, 1) := by decide +kernel
theorem dX8_takes_17 : decode cX8_takes 17 = .ok (.iconst 3, 1) := by decide +kernel
theorem dX8_takes_18 : decode cX8_takes 18 = .ok (.invokevirtual 100, 3) := by decide +kernel
theorem dX8_takes_21 : decode cX8_takes 21 = .ok (.return_, 1) := by decide +kernel
theorem dX8_takes_22 : decode cX8_takes 22 = .ok (.aload_n 0, 1) := by decide +kernel
theorem dX8_takes_23 : decode cX8_takes 23 = .ok (.getfield 34, 3) := by decide +kernel
theorem dX8_takes_26 : decode cX8_takes 26 = .ok (.aload_n 0, 1) := by decide +kernel
theorem dX8_takes_27 : decode cX8_takes 27 = .ok (.getfield 111, 3) := by decide +kernel
theorem dX8_takes_30 : decode cX8_takes 30 = .ok (.iload_n 2, 1) := by decide +kernel
theorem dX8_takes_31 : decode cX8_takes 31 = .ok (.iastore, 1) := by decide +kernel
theorem dX8_takes_32 : decode cX8_takes 32 = .ok (.aload_n 0, 1) := by decide +kernel
theorem dX8_takes_33 : decode cX8_takes 33 = .ok (.dup, 1) := by decide +kernel
theorem dX8_takes_34 : decode cX8_takes 34 = .ok (.getfield 111, 3) := by decide +kernel
theorem dX8_takes_37 : decode cX8_takes 37 = .ok (.iconst 1, 1) := by decide +kernel
theorem dX8_takes_38 : decode cX8_takes 38 = .ok (.iadd, 1) := by decide +kernel
theorem dX8_takes_39 : decode cX8_takes 39 = .ok (.putfield 111, 3) := by decide +kernel
theorem dX8_takes_42 : decode cX8_takes 42 = .ok (.aload_n 0, 1) := by decide +kernel
theorem dX8_takes_43 : decode cX8_takes 43 = .ok (.dup, 1) := by decide +kernel
theorem dX8_takes_44 : decode cX8_takes 44 = .ok (.getfield 65, 3) := by decide +kernel
theorem dX8_takes_47 : decode cX8_takes 47 = .ok (.iconst 1, 1) := by decide +kernel
theorem dX8_takes_48 : decode cX8_takes 48 = .ok (.iadd, 1) := by decide +kernel
theorem dX8_takes_49 : decode cX8_takes 49 = .ok (.putfield 65, 3) := by decide +kernel
theorem dX8_takes_52 : decode cX8_takes 52 = .ok (.return_, 1) := by decide +kernel
set_option maxRecDepth 20000 in
theorem ggX8_group_X8_number : GoodIn wsX8_group wsX8_number := goodIn_r _ [8, 2, 9, 10, 11, 12, 13, 14, 15, 1, 16, 17, 18, 7, 19, 3, 20, 21, 22, 23, 24, 25, 26, 27, 28, 29, 30, 31, 32, 33, 54, 55, 56, 57, 58, 59, 60, 61, 62, 63, 64, 65, 66, 67, 68, 69, 70, 71, 72, 73, 74, 75, 76] (by decide +kernel) (by decide +kernel)
set_option maxRecDepth 20000 in
theorem gX8_group_X8_number : GoodIn wsX8_group (wsV RX8 121 RX8 yX8_number wsX8_number) := goodIn_app (goodIn_of _ (by decide +kernel)) ggX8_group_X8_number
set_option maxRecDepth 20000 in
theorem ggX8_group_X8_fails : GoodIn wsX8_group wsX8_fails := goodIn_r _ [32, 2, 3, 33, 54, 55, 56, 57, 58, 59, 60, 61, 62, 63, 64, 65, 66, 67, 68, 69, 70, 71, 72, 73, 74, 75, 76] (by decide +kernel) (by decide +kernel)
set_option maxRecDepth 20000 in
theorem gX8_group_X8_fails : GoodIn wsX8_group (wsV RX8 100 RX8 yX8_fails wsX8_fails) := goodIn_app (goodIn_of _ (by decide +kernel)) ggX8_group_X8_fails
set_option maxRecDepth 20000 in
theorem ggX8_group_X8_next : GoodIn wsX8_group wsX8_next := goodIn_r _ [19, 1, 3, 20, 21, 22, 7, 23, 24, 25, 54, 55, 56, 57, 58, 59, 60, 61, 62, 63, 64, 65, 66, 67, 68, 69, 70, 71, 72, 73, 74, 75, 76] (by decide +kernel) (by decide +kernel)
set_option maxRecDepth 20000 in
theorem gX8_group_X8_next : GoodIn wsX8_group (wsV RX8 81 RX8 yX8_next wsX8_next) := goodIn_app (goodIn_of _ (by decide +kernel)) ggX8_group_X8_next
set_option maxRecDepth 20000 in
theorem ggX8_group_X8_pieces : GoodIn wsX8_group wsX8_pieces := goodIn_r _ [44, 41, 42, 2, 45, 46, 9, 10, 16, 17, 18, 7, 19, 1, 3, 20, 21, 22, 23, 24, 25, 26, 27, 28, 47, 48, 49, 50, 43, 29, 30, 31, 32, 33, 51, 52, 53, 0, 4, 5, 6, 8, 11, 12, 13, 14, 15, 34, 35, 36, 37, 38, 39, 40, 54, 55, 56, 57, 58, 59, 60, 61, 62, 63, 64, 65, 66, 67, 68, 69, 70, 71, 72, 73, 74, 75, 76] (by decide +kernel) (by decide +kernel)
set_option maxRecDepth 20000 in
theorem gX8_group_X8_pieces : GoodIn wsX8_group (wsV RX8 124 RX8 yX8_pieces wsX8_pieces) := goodIn_app (goodIn_of _ (by decide +kernel)) ggX8_group_X8_pieces
set_option maxRecDepth 20000 in
theorem ggX8_group_X8_repeats : GoodIn wsX8_group wsX8_repeats := goodIn_r _ [40, 41, 42, 43, 1, 29, 30, 31, 7, 32, 2, 3, 33, 54, 55, 56, 57, 58, 59, 60, 61, 62, 63, 64, 65, 66, 67, 68, 69, 70, 71, 72, 73, 74, 75, 76] (by decide +kernel) (by decide +kernel)
set_option maxRecDepth 20000 in
theorem gX8_group_X8_repeats : GoodIn wsX8_group (wsV RX8 127 RX8 yX8_repeats wsX8_repeats) := goodIn_app (goodIn_of _ (by decide +kernel)) ggX8_group_X8_repeats
theorem dX8_group_0 : decode cX8_group 0 = .ok (.aload_n 0, 1) := by decide +kernel
theorem dX8_group_1 : decode cX8_group 1 = .ok (.getfield 65, 3) := by decide +kernel
theorem dX8_group_4 : decode cX8_group 4 = .ok (.istore_n 2, 1) := by decide +kernel
theorem dX8_group_5 : decode cX8_group 5 = .ok (.aload_n 0, 1) := by decide +kernel
theorem dX8_group_6 : decode cX8_group 6 = .ok (.iconst 2, 1) := by decide +kernel
theorem dX8_group_7 : decode cX8_group 7 = .ok (.bipush 9, 2) := by decide +kernel
theorem dX8_group_9 : decode cX8_group 9 = .ok (.invokevirtual 121, 3) := by decide +kernel
theorem dX8_group_12 : decode cX8_group 12 = .ok (.istore_n 3, 1) := by decide +kernel
theorem dX8_group_13 : decode cX8_group 13 = .ok (.aload_n 0, 1) := by decide +kernel
theorem dX8_group_14 : decode cX8_group 14 = .ok (.getfield 75, 3) := by decide +kernel
theorem dX8_group_17 : decode cX8_group 17 = .ok (.ifCond .ne 18, 3) := by decide +kernel
theorem dX8_group_20 : decode cX8_group 20 = .ok (.iload_n 1, 1) := by decide +kernel
theorem dX8_group_21 : decode cX8_group 21 = .ok (.iconst 3, 1) := by decide +kernel
theorem dX8_group_22 : decode cX8_group 22 = .ok (.if_icmp .ne 13, 3) := by decide +kernel
theorem dX8_group_25 : decode cX8_group 25 = .ok (.aload_n 0, 1) := by decide +kernel
theorem dX8_group_26 : decode cX8_group 26 = .ok (.iload_n 2, 1) := by decide +kernel
theorem dX8_group_27 : decode cX8_group 27 = .ok (.putfield 72, 3) := by decide +kernel
theorem dX8_group_30 : decode cX8_group 30 = .ok (.aload_n 0, 1) := by decide +kernel
theorem dX8_group_31 : decode cX8_group 31 = .ok (.iconst 3, 1) := by decide +kernel
theorem dX8_group_32 : decode cX8_group 32 = .ok (.invokevirtual 100, 3) := by decide +kernel
theorem dX8_group_35 : decode cX8_group 35 = .ok (.aload_n 0, 1) := by decide +kernel
theorem dX8_group_36 : decode cX8_group 36 = .ok (.getfield 75, 3) := by decide +kernel
theorem dX8_group_39 : decode cX8_group 39 = .ok (.ifCond .ne 17, 3) := by decide +kernel
theorem dX8_group_42 : decode cX8_group 42 = .ok (.aload_n 0, 1) := by decide +kernel
theorem dX8_group_43 : decode cX8_group 43 = .ok (.invokevirtual 81, 3) := by decide +kernel
theorem dX8_group_46 : decode cX8_group 46 = .ok (.bipush 40, 2) := by decide +kernel
theorem dX8_group_48 : decode cX8_group 48 = .ok (.if_icmp .eq 8, 3) := by decide +kernel
theorem dX8_group_51 : decode cX8_group 51 = .ok (.aload_n 0, 1) := by decide +kernel
theorem dX8_group_52 : decode cX8_group 52 = .ok (.iconst 1, 1) := by decide +kernel
theorem dX8_group_53 : decode cX8_group 53 = .ok (.invokevirtual 100, 3) := by decide +kernel
theorem dX8_group_56 : decode cX8_group 56 = .ok (.aload_n 0, 1) := by decide +kernel
theorem dX8_group_57 : decode cX8_group 57 = .ok (.getfield 75, 3) := by decide +kernel
theorem dX8_group_60 : decode cX8_group 60 = .ok (.ifCond .eq 4, 3) := by decide +kernel
theorem dX8_group_63 : decode cX8_group 63 = .ok (.return_, 1) := by decide +kernel
theorem dX8_group_64 : decode cX8_group 64 = .ok (.aload_n 0, 1) := by decide +kernel
theorem dX8_group_65 : decode cX8_group 65 = .ok (.dup, 1) := by decide +kernel
theorem dX8_group_66 : decode cX8_group 66 = .ok (.getfield 65, 3) := by decide +kernel
theorem dX8_group_69 : decode cX8_group 69 = .ok (.iconst 1, 1) := by decide +kernel
theorem dX8_group_70 : decode cX8_group 70 = .ok (.iadd, 1) := by decide +kernel
theorem dX8_group_71 : decode cX8_group 71 = .ok (.putfield 65, 3) := by decide +kernel
theorem dX8_group_74 : decode cX8_group 74 = .ok (.aload_n 0, 1) := by decide +kernel
theorem dX8_group_75 : decode cX8_group 75 = .ok (.iload_n 1, 1) := by decide +kernel
theorem dX8_group_76 : decode cX8_group 76 = .ok (.iconst 1, 1) := by decide +kernel
theorem dX8_group_77 : decode cX8_group 77 = .ok (.iadd, 1) := by decide +kernel
theorem dX8_group_78 : decode cX8_group 78 = .ok (.invokevirtual 124, 3) := by decide +kernel
theorem dX8_group_81 : decode cX8_group 81 = .ok (.aload_n 0, 1) := by decide +kernel
theorem dX8_group_82 : decode cX8_group 82 = .ok (.getfield 75, 3) := by decide +kernel
theorem dX8_group_85 : decode cX8_group 85 = .ok (.ifCond .ne 17, 3) := by decide +kernel
theorem dX8_group_88 : decode cX8_group 88 = .ok (.aload_n 0, 1) := by decide +kernel
theorem dX8_group_89 : decode cX8_group 89 = .ok (.invokevirtual 81, 3) := by decide +kernel
theorem dX8_group_92 : decode cX8_group 92 = .ok (.bipush 41, 2) := by decide +kernel
theorem dX8_group_94 : decode cX8_group 94 = .ok (.if_icmp .eq 8, 3) := by decide +kernel
theorem dX8_group_97 : decode cX8_group 97 = .ok (.aload_n 0, 1) := by decide +kernel
theorem dX8_group_98 : decode cX8_group 98 = .ok (.iconst 1, 1) := by decide +kernel
theorem dX8_group_99 : decode cX8_group 99 = .ok (.invokevirtual 100, 3) := by decide +kernel
theorem dX8_group_102 : decode cX8_group 102 = .ok (.aload_n 0, 1) := by decide +kernel
theorem dX8_group_103 : decode cX8_group 103 = .ok (.getfield 75, 3) := by decide +kernel
theorem dX8_group_106 : decode cX8_group 106 = .ok (.ifCond .ne 9, 3) := by decide +kernel
theorem dX8_group_109 : decode cX8_group 109 = .ok (.aload_n 0, 1) := by decide +kernel
theorem dX8_group_110 : decode cX8_group 110 = .ok (.iload_n 1, 1) := by decide +kernel
theorem dX8_group_111 : decode cX8_group 111 = .ok (.iload_n 3, 1) := by decide +kernel
theorem dX8_group_112 : decode cX8_group 112 = .ok (.invokevirtual 127, 3) := by decide +kernel
theorem dX8_group_115 : decode cX8_group 115 = .ok (.return_, 1) := by decide +kernel
set_option maxRecDepth 20000 in
theorem ggX8_repeats_X8_fails : GoodIn wsX8_repeats wsX8_fails := goodIn_r _ [9, 10, 11, 12, 13, 14, 15, 16, 17, 18, 19, 20, 21, 22, 23, 24, 25, 26, 27, 28, 29, 30, 31, 32, 33, 34, 35] (by decide +kernel) (by decide +kernel)
set_option maxRecDepth 20000 in
theorem gX8_repeats_X8_fails : GoodIn wsX8_repeats (wsV RX8 100 RX8 yX8_fails wsX8_fails) := goodIn_app (goodIn_of _ (by decide +kernel)) ggX8_repeats_X8_fails
theorem dX8_repeats_0 : decode cX8_repeats 0 = .ok (.aload_n 0, 1) := by decide +kernel
theorem dX8_repeats_1 : decode cX8_repeats 1 = .ok (.getfield 37, 3) := by decide +kernel
theorem dX8_repeats_4 : decode cX8_repeats 4 = .ok (.iload_n 1, 1) := by decide +kernel
theorem dX8_repeats_5 : decode cX8_repeats 5 = .ok (.iconst 1, 1) := by decide +kernel
theorem dX8_repeats_6 : decode cX8_repeats 6 = .ok (.iadd, 1) := by decide +kernel
theorem dX8_repeats_7 : decode cX8_repeats 7 = .ok (.iaload, 1) := by decide +kernel
theorem dX8_repeats_8 : decode cX8_repeats 8 = .ok (.istore_n 3, 1) := by decide +kernel
theorem dX8_repeats_9 : decode cX8_repeats 9 = .ok (.aload_n 0, 1) := by decide +kernel
theorem dX8_repeats_10 : decode cX8_repeats 10 = .ok (.getfield 111, 3) := by decide +kernel
theorem dX8_repeats_13 : decode cX8_repeats 13 = .ok (.iload_n 3, 1) := by decide +kernel
theorem dX8_repeats_14 : decode cX8_repeats 14 = .ok (.isub, 1) := by decide +kernel
theorem dX8_repeats_15 : decode cX8_repeats 15 = .ok (.istore 4, 2) := by decide +kernel
theorem dX8_repeats_17 : decode cX8_repeats 17 = .ok (.iload_n 3, 1) := by decide +kernel
theorem dX8_repeats_18 : decode cX8_repeats 18 = .ok (.aload_n 0, 1) := by decide +kernel
theorem dX8_repeats_19 : decode cX8_repeats 19 = .ok (.getfield 37, 3) := by decide +kernel
theorem dX8_repeats_22 : decode cX8_repeats 22 = .ok (.iload_n 1, 1) := by decide +kernel
theorem dX8_repeats_23 : decode cX8_repeats 23 = .ok (.iaload, 1) := by decide +kernel
theorem dX8_repeats_24 : decode cX8_repeats 24 = .ok (.isub, 1) := by decide +kernel
theorem dX8_repeats_25 : decode cX8_repeats 25 = .ok (.iload 4, 2) := by decide +kernel
theorem dX8_repeats_27 : decode cX8_repeats 27 = .ok (.iload_n 2, 1) := by decide +kernel
theorem dX8_repeats_28 : decode cX8_repeats 28 = .ok (.imul, 1) := by decide +kernel
theorem dX8_repeats_29 : decode cX8_repeats 29 = .ok (.iadd, 1) := by decide +kernel
theorem dX8_repeats_30 : decode cX8_repeats 30 = .ok (.bipush 16, 2) := by decide +kernel
theorem dX8_repeats_32 : decode cX8_repeats 32 = .ok (.if_icmp .le 9, 3) := by decide +kernel
theorem dX8_repeats_35 : decode cX8_repeats 35 = .ok (.aload_n 0, 1) := by decide +kernel
theorem dX8_repeats_36 : decode cX8_repeats 36 = .ok (.iconst 3, 1) := by decide +kernel
theorem dX8_repeats_37 : decode cX8_repeats 37 = .ok (.invokevirtual 100, 3) := by decide +kernel
theorem dX8_repeats_40 : decode cX8_repeats 40 = .ok (.return_, 1) := by decide +kernel
theorem dX8_repeats_41 : decode cX8_repeats 41 = .ok (.iload 4, 2) := by decide +kernel
theorem dX8_repeats_43 : decode cX8_repeats 43 = .ok (.istore 5, 2) := by decide +kernel
theorem dX8_repeats_45 : decode cX8_repeats 45 = .ok (.iload 5, 2) := by decide +kernel
theorem dX8_repeats_47 : decode cX8_repeats 47 = .ok (.iload 4, 2) := by decide +kernel
theorem dX8_repeats_49 : decode cX8_repeats 49 = .ok (.iload_n 2, 1) := by decide +kernel
theorem dX8_repeats_50 : decode cX8_repeats 50 = .ok (.imul, 1) := by decide +kernel
theorem dX8_repeats_51 : decode cX8_repeats 51 = .ok (.if_icmp .ge 40, 3) := by decide +kernel
theorem dX8_repeats_54 : decode cX8_repeats 54 = .ok (.aload_n 0, 1) := by decide +kernel
theorem dX8_repeats_55 : decode cX8_repeats 55 = .ok (.getfield 34, 3) := by decide +kernel
theorem dX8_repeats_58 : decode cX8_repeats 58 = .ok (.iload_n 3, 1) := by decide +kernel
theorem dX8_repeats_59 : decode cX8_repeats 59 = .ok (.iload 5, 2) := by decide +kernel
theorem dX8_repeats_61 : decode cX8_repeats 61 = .ok (.iadd, 1) := by decide +kernel
theorem dX8_repeats_62 : decode cX8_repeats 62 = .ok (.aload_n 0, 1) := by decide +kernel
theorem dX8_repeats_63 : decode cX8_repeats 63 = .ok (.getfield 34, 3) := by decide +kernel
theorem dX8_repeats_66 : decode cX8_repeats 66 = .ok (.iload_n 3, 1) := by decide +kernel
theorem dX8_repeats_67 : decode cX8_repeats 67 = .ok (.iload 5, 2) := by decide +kernel
theorem dX8_repeats_69 : decode cX8_repeats 69 = .ok (.iadd, 1) := by decide +kernel
theorem dX8_repeats_70 : decode cX8_repeats 70 = .ok (.iload 4, 2) := by decide +kernel
theorem dX8_repeats_72 : decode cX8_repeats 72 = .ok (.isub, 1) := by decide +kernel
theorem dX8_repeats_73 : decode cX8_repeats 73 = .ok (.iaload, 1) := by decide +kernel
theorem dX8_repeats_74 : decode cX8_repeats 74 = .ok (.iastore, 1) := by decide +kernel
theorem dX8_repeats_75 : decode cX8_repeats 75 = .ok (.aload_n 0, 1) := by decide +kernel
theorem dX8_repeats_76 : decode cX8_repeats 76 = .ok (.dup, 1) := by decide +kernel
theorem dX8_repeats_77 : decode cX8_repeats 77 = .ok (.getfield 111, 3) := by decide +kernel
theorem dX8_repeats_80 : decode cX8_repeats 80 = .ok (.iconst 1, 1) := by decide +kernel
theorem dX8_repeats_81 : decode cX8_repeats 81 = .ok (.iadd, 1) := by decide +kernel
theorem dX8_repeats_82 : decode cX8_repeats 82 = .ok (.putfield 111, 3) := by decide +kernel
theorem dX8_repeats_85 : decode cX8_repeats 85 = .ok (.iinc 5 1, 3) := by decide +kernel
theorem dX8_repeats_88 : decode cX8_repeats 88 = .ok (.goto (-43), 3) := by decide +kernel
theorem dX8_repeats_91 : decode cX8_repeats 91 = .ok (.aload_n 0, 1) := by decide +kernel
theorem dX8_repeats_92 : decode cX8_repeats 92 = .ok (.dup, 1) := by decide +kernel
theorem dX8_repeats_93 : decode cX8_repeats 93 = .ok (.getfield 65, 3) := by decide +kernel
theorem dX8_repeats_96 : decode cX8_repeats 96 = .ok (.iconst 1, 1) := by decide +kernel
theorem dX8_repeats_97 : decode cX8_repeats 97 = .ok (.iadd, 1) := by decide +kernel
theorem dX8_repeats_98 : decode cX8_repeats 98 = .ok (.putfield 65, 3) := by decide +kernel
theorem dX8_repeats_101 : decode cX8_repeats 101 = .ok (.return_, 1) := by decide +kernel
set_option maxRecDepth 20000 in
theorem ggX8_text_X8_pieces : GoodIn wsX8_text wsX8_pieces := goodIn_r _ [6, 7, 1, 8, 9, 10, 11, 12, 13, 14, 15, 5, 16, 17, 18, 19, 20, 21, 22, 23, 24, 25, 26, 27, 28, 29, 30, 31, 32, 33, 34, 35, 36, 37, 38, 39, 40, 41, 42, 43, 44, 45, 46, 47, 48, 49, 50, 2, 3, 4, 51, 52, 53, 54, 55, 56, 57, 58, 59, 60, 61, 62, 63, 64, 65, 66, 67, 68, 69, 70, 71, 72, 73, 74, 75, 76, 77] (by decide +kernel) (by decide +kernel)
set_option maxRecDepth 20000 in
theorem gX8_text_X8_pieces : GoodIn wsX8_text (wsV RX8 124 RX8 yX8_pieces wsX8_pieces) := goodIn_app (goodIn_of _ (by decide +kernel)) ggX8_text_X8_pieces
theorem dX8_text_0 : decode cX8_text 0 = .ok (.aload_n 0, 1) := by decide +kernel
theorem dX8_text_1 : decode cX8_text 1 = .ok (.iconst 0, 1) := by decide +kernel
theorem dX8_text_2 : decode cX8_text 2 = .ok (.putfield 111, 3) := by decide +kernel
theorem dX8_text_5 : decode cX8_text 5 = .ok (.aload_n 0, 1) := by decide +kernel
theorem dX8_text_6 : decode cX8_text 6 = .ok (.iconst 0, 1) := by decide +kernel
theorem dX8_text_7 : decode cX8_text 7 = .ok (.invokevirtual 124, 3) := by decide +kernel
theorem dX8_text_10 : decode cX8_text 10 = .ok (.return_, 1) := by decide +kernel
set_option maxRecDepth 20000 in
theorem ggX8_adds_X8_setsCard : GoodIn wsX8_adds wsX8_setsCard := goodIn_r _ [8, 1, 13, 14, 15, 16, 17, 18, 19, 20, 21, 22, 23, 24, 25, 26, 27, 28, 29, 30, 31, 32, 33, 34, 35] (by decide +kernel) (by decide +kernel)
set_option maxRecDepth 20000 in
theorem gX8_adds_X8_setsCard : GoodIn wsX8_adds (wsV RX8 130 RX8 yX8_setsCard wsX8_setsCard) := goodIn_app (goodIn_of _ (by decide +kernel)) ggX8_adds_X8_setsCard
set_option maxRecDepth 20000 in
theorem ggX8_adds_X8_ofLot : GoodIn wsX8_adds wsX8_ofLot := goodIn_r _ [12, 1, 13, 14, 15, 16, 17, 18, 19, 20, 21, 22, 23, 24, 25, 26, 27, 28, 29, 30, 31, 32, 33, 34, 35] (by decide +kernel) (by decide +kernel)
set_option maxRecDepth 20000 in
theorem gX8_adds_X8_ofLot : GoodIn wsX8_adds (wsV RX8 134 RX8 yX8_ofLot wsX8_ofLot) := goodIn_app (goodIn_of _ (by decide +kernel)) ggX8_adds_X8_ofLot
theorem dX8_adds_0 : decode cX8_adds 0 = .ok (.aload_n 0, 1) := by decide +kernel
theorem dX8_adds_1 : decode cX8_adds 1 = .ok (.getfield 9, 3) := by decide +kernel
theorem dX8_adds_4 : decode cX8_adds 4 = .ok (.bipush 9, 2) := by decide +kernel
theorem dX8_adds_6 : decode cX8_adds 6 = .ok (.iaload, 1) := by decide +kernel
theorem dX8_adds_7 : decode cX8_adds 7 = .ok (.istore_n 2, 1) := by decide +kernel
theorem dX8_adds_8 : decode cX8_adds 8 = .ok (.aload_n 0, 1) := by decide +kernel
theorem dX8_adds_9 : decode cX8_adds 9 = .ok (.iload_n 2, 1) := by decide +kernel
theorem dX8_adds_10 : decode cX8_adds 10 = .ok (.iconst 0, 1) := by decide +kernel
theorem dX8_adds_11 : decode cX8_adds 11 = .ok (.iload_n 1, 1) := by decide +kernel
theorem dX8_adds_12 : decode cX8_adds 12 = .ok (.invokevirtual 130, 3) := by decide +kernel
theorem dX8_adds_15 : decode cX8_adds 15 = .ok (.aload_n 0, 1) := by decide +kernel
theorem dX8_adds_16 : decode cX8_adds 16 = .ok (.iload_n 2, 1) := by decide +kernel
theorem dX8_adds_17 : decode cX8_adds 17 = .ok (.iconst 1, 1) := by decide +kernel
theorem dX8_adds_18 : decode cX8_adds 18 = .ok (.aload_n 0, 1) := by decide +kernel
theorem dX8_adds_19 : decode cX8_adds 19 = .ok (.iload_n 1, 1) := by decide +kernel
theorem dX8_adds_20 : decode cX8_adds 20 = .ok (.iconst 1, 1) := by decide +kernel
theorem dX8_adds_21 : decode cX8_adds 21 = .ok (.invokevirtual 134, 3) := by decide +kernel
theorem dX8_adds_24 : decode cX8_adds 24 = .ok (.invokevirtual 130, 3) := by decide +kernel
theorem dX8_adds_27 : decode cX8_adds 27 = .ok (.aload_n 0, 1) := by decide +kernel
theorem dX8_adds_28 : decode cX8_adds 28 = .ok (.iload_n 2, 1) := by decide +kernel
theorem dX8_adds_29 : decode cX8_adds 29 = .ok (.iconst 2, 1) := by decide +kernel
theorem dX8_adds_30 : decode cX8_adds 30 = .ok (.aload_n 0, 1) := by decide +kernel
theorem dX8_adds_31 : decode cX8_adds 31 = .ok (.getfield 111, 3) := by decide +kernel
theorem dX8_adds_34 : decode cX8_adds 34 = .ok (.invokevirtual 130, 3) := by decide +kernel
theorem dX8_adds_37 : decode cX8_adds 37 = .ok (.iconst 0, 1) := by decide +kernel
theorem dX8_adds_38 : decode cX8_adds 38 = .ok (.istore_n 3, 1) := by decide +kernel
theorem dX8_adds_39 : decode cX8_adds 39 = .ok (.iload_n 3, 1) := by decide +kernel
theorem dX8_adds_40 : decode cX8_adds 40 = .ok (.bipush 22, 2) := by decide +kernel
theorem dX8_adds_42 : decode cX8_adds 42 = .ok (.if_icmp .ge 18, 3) := by decide +kernel
theorem dX8_adds_45 : decode cX8_adds 45 = .ok (.aload_n 0, 1) := by decide +kernel
theorem dX8_adds_46 : decode cX8_adds 46 = .ok (.iload_n 2, 1) := by decide +kernel
theorem dX8_adds_47 : decode cX8_adds 47 = .ok (.iconst 3, 1) := by decide +kernel
theorem dX8_adds_48 : decode cX8_adds 48 = .ok (.iload_n 3, 1) := by decide +kernel
theorem dX8_adds_49 : decode cX8_adds 49 = .ok (.iadd, 1) := by decide +kernel
theorem dX8_adds_50 : decode cX8_adds 50 = .ok (.iconst 0, 1) := by decide +kernel
theorem dX8_adds_51 : decode cX8_adds 51 = .ok (.invokevirtual 130, 3) := by decide +kernel
theorem dX8_adds_54 : decode cX8_adds 54 = .ok (.iinc 3 1, 3) := by decide +kernel
theorem dX8_adds_57 : decode cX8_adds 57 = .ok (.goto (-18), 3) := by decide +kernel
theorem dX8_adds_60 : decode cX8_adds 60 = .ok (.aload_n 0, 1) := by decide +kernel
theorem dX8_adds_61 : decode cX8_adds 61 = .ok (.iload_n 2, 1) := by decide +kernel
theorem dX8_adds_62 : decode cX8_adds 62 = .ok (.iconst 4, 1) := by decide +kernel
theorem dX8_adds_63 : decode cX8_adds 63 = .ok (.iconst (-1), 1) := by decide +kernel
theorem dX8_adds_64 : decode cX8_adds 64 = .ok (.invokevirtual 130, 3) := by decide +kernel
theorem dX8_adds_67 : decode cX8_adds 67 = .ok (.aload_n 0, 1) := by decide +kernel
theorem dX8_adds_68 : decode cX8_adds 68 = .ok (.iload_n 2, 1) := by decide +kernel
theorem dX8_adds_69 : decode cX8_adds 69 = .ok (.bipush 7, 2) := by decide +kernel
theorem dX8_adds_71 : decode cX8_adds 71 = .ok (.iconst (-1), 1) := by decide +kernel
theorem dX8_adds_72 : decode cX8_adds 72 = .ok (.invokevirtual 130, 3) := by decide +kernel
theorem dX8_adds_75 : decode cX8_adds 75 = .ok (.iconst 0, 1) := by decide +kernel
theorem dX8_adds_76 : decode cX8_adds 76 = .ok (.istore_n 3, 1) := by decide +kernel
theorem dX8_adds_77 : decode cX8_adds 77 = .ok (.iload_n 3, 1) := by decide +kernel
theorem dX8_adds_78 : decode cX8_adds 78 = .ok (.aload_n 0, 1) := by decide +kernel
theorem dX8_adds_79 : decode cX8_adds 79 = .ok (.getfield 111, 3) := by decide +kernel
theorem dX8_adds_82 : decode cX8_adds 82 = .ok (.if_icmp .ge 24, 3) := by decide +kernel
theorem dX8_adds_85 : decode cX8_adds 85 = .ok (.aload_n 0, 1) := by decide +kernel
theorem dX8_adds_86 : decode cX8_adds 86 = .ok (.iload_n 2, 1) := by decide +kernel
theorem dX8_adds_87 : decode cX8_adds 87 = .ok (.bipush 9, 2) := by decide +kernel
theorem dX8_adds_89 : decode cX8_adds 89 = .ok (.iload_n 3, 1) := by decide +kernel
theorem dX8_adds_90 : decode cX8_adds 90 = .ok (.iadd, 1) := by decide +kernel
theorem dX8_adds_91 : decode cX8_adds 91 = .ok (.aload_n 0, 1) := by decide +kernel
theorem dX8_adds_92 : decode cX8_adds 92 = .ok (.getfield 34, 3) := by decide +kernel
theorem dX8_adds_95 : decode cX8_adds 95 = .ok (.iload_n 3, 1) := by decide +kernel
theorem dX8_adds_96 : decode cX8_adds 96 = .ok (.iaload, 1) := by decide +kernel
theorem dX8_adds_97 : decode cX8_adds 97 = .ok (.invokevirtual 130, 3) := by decide +kernel
theorem dX8_adds_100 : decode cX8_adds 100 = .ok (.iinc 3 1, 3) := by decide +kernel
theorem dX8_adds_103 : decode cX8_adds 103 = .ok (.goto (-26), 3) := by decide +kernel
theorem dX8_adds_106 : decode cX8_adds 106 = .ok (.aload_n 0, 1) := by decide +kernel
theorem dX8_adds_107 : decode cX8_adds 107 = .ok (.getfield 9, 3) := by decide +kernel
theorem dX8_adds_110 : decode cX8_adds 110 = .ok (.bipush 9, 2) := by decide +kernel
theorem dX8_adds_112 : decode cX8_adds 112 = .ok (.dup2, 1) := by decide +kernel
theorem dX8_adds_113 : decode cX8_adds 113 = .ok (.iaload, 1) := by decide +kernel
theorem dX8_adds_114 : decode cX8_adds 114 = .ok (.iconst 1, 1) := by decide +kernel
theorem dX8_adds_115 : decode cX8_adds 115 = .ok (.iadd, 1) := by decide +kernel
theorem dX8_adds_116 : decode cX8_adds 116 = .ok (.iastore, 1) := by decide +kernel
theorem dX8_adds_117 : decode cX8_adds 117 = .ok (.aload_n 0, 1) := by decide +kernel
theorem dX8_adds_118 : decode cX8_adds 118 = .ok (.getfield 9, 3) := by decide +kernel
theorem dX8_adds_121 : decode cX8_adds 121 = .ok (.bipush 113, 2) := by decide +kernel
theorem dX8_adds_123 : decode cX8_adds 123 = .ok (.iconst 4, 1) := by decide +kernel
theorem dX8_adds_124 : decode cX8_adds 124 = .ok (.iload_n 1, 1) := by decide +kernel
theorem dX8_adds_125 : decode cX8_adds 125 = .ok (.imul, 1) := by decide +kernel
theorem dX8_adds_126 : decode cX8_adds 126 = .ok (.iadd, 1) := by decide +kernel
theorem dX8_adds_127 : decode cX8_adds 127 = .ok (.iconst 1, 1) := by decide +kernel
theorem dX8_adds_128 : decode cX8_adds 128 = .ok (.iadd, 1) := by decide +kernel
theorem dX8_adds_129 : decode cX8_adds 129 = .ok (.dup2, 1) := by decide +kernel
theorem dX8_adds_130 : decode cX8_adds 130 = .ok (.iaload, 1) := by decide +kernel
theorem dX8_adds_131 : decode cX8_adds 131 = .ok (.iconst 1, 1) := by decide +kernel
theorem dX8_adds_132 : decode cX8_adds 132 = .ok (.iadd, 1) := by decide +kernel
theorem dX8_adds_133 : decode cX8_adds 133 = .ok (.iastore, 1) := by decide +kernel
theorem dX8_adds_134 : decode cX8_adds 134 = .ok (.return_, 1) := by decide +kernel
set_option maxRecDepth 20000 in
theorem ggX8_tooMany_X8_fails : GoodIn wsX8_tooMany wsX8_fails := goodIn_r _ [7, 8, 2, 9, 10, 11, 12, 13, 14, 15, 16, 17, 18, 19, 20, 21, 22, 23, 24, 25, 26, 27, 28, 29, 30, 31, 32] (by decide +kernel) (by decide +kernel)
set_option maxRecDepth 20000 in
theorem gX8_tooMany_X8_fails : GoodIn wsX8_tooMany (wsV RX8 100 RX8 yX8_fails wsX8_fails) := goodIn_app (goodIn_of _ (by decide +kernel)) ggX8_tooMany_X8_fails
theorem dX8_tooMany_0 : decode cX8_tooMany 0 = .ok (.iload_n 1, 1) := by decide +kernel
theorem dX8_tooMany_1 : decode cX8_tooMany 1 = .ok (.ifCond .eq 16, 3) := by decide +kernel
theorem dX8_tooMany_4 : decode cX8_tooMany 4 = .ok (.aload_n 0, 1) := by decide +kernel
theorem dX8_tooMany_5 : decode cX8_tooMany 5 = .ok (.aload_n 0, 1) := by decide +kernel
theorem dX8_tooMany_6 : decode cX8_tooMany 6 = .ok (.getfield 137, 3) := by decide +kernel
theorem dX8_tooMany_9 : decode cX8_tooMany 9 = .ok (.putfield 72, 3) := by decide +kernel
theorem dX8_tooMany_12 : decode cX8_tooMany 12 = .ok (.aload_n 0, 1) := by decide +kernel
theorem dX8_tooMany_13 : decode cX8_tooMany 13 = .ok (.iconst 4, 1) := by decide +kernel
theorem dX8_tooMany_14 : decode cX8_tooMany 14 = .ok (.invokevirtual 100, 3) := by decide +kernel
theorem dX8_tooMany_17 : decode cX8_tooMany 17 = .ok (.return_, 1) := by decide +kernel
set_option maxRecDepth 20000 in
theorem ggX8_linePart_X8_reads : GoodIn wsX8_linePart wsX8_reads := goodIn_r _ [6, 7, 8, 9, 10, 11, 12, 5, 13, 14, 15, 16, 17, 18, 19, 20, 21, 22, 23, 94, 95, 96, 97, 98, 99, 100, 101, 102, 103, 104, 105, 106, 107, 108, 109, 110, 111, 112, 113, 114, 115, 116] (by decide +kernel) (by decide +kernel)
set_option maxRecDepth 20000 in
theorem gX8_linePart_X8_reads : GoodIn wsX8_linePart (wsV RX8 140 RX8 yX8_reads wsX8_reads) := goodIn_app (goodIn_of _ (by decide +kernel)) ggX8_linePart_X8_reads
set_option maxRecDepth 20000 in
theorem ggX8_linePart_X8_isWord : GoodIn wsX8_linePart wsX8_isWord := goodIn_r _ [27, 9, 14, 20, 28, 29, 30, 31, 32, 33, 34, 35, 36, 37, 38, 39, 40, 41, 42, 43, 44, 45, 46, 47, 48, 49, 50, 51, 52, 53, 54, 55, 56, 57, 58, 59, 60, 61, 62, 63, 64, 65, 66, 67, 68, 69, 70, 71, 72, 73, 74, 75, 76, 94, 95, 96, 97, 98, 99, 100, 101, 102, 103, 104, 105, 106, 107, 108, 109, 110, 111, 112, 113, 114, 115, 116, 117, 118, 119, 120] (by decide +kernel) (by decide +kernel)
set_option maxRecDepth 20000 in
theorem gX8_linePart_X8_isWord : GoodIn wsX8_linePart (wsV RX8 145 RX8 yX8_isWord wsX8_isWord) := goodIn_app (goodIn_of _ (by decide +kernel)) ggX8_linePart_X8_isWord
set_option maxRecDepth 20000 in
theorem ggX8_linePart_X8_fails : GoodIn wsX8_linePart wsX8_fails := goodIn_r _ [80, 81, 14, 82, 94, 95, 96, 97, 98, 99, 100, 101, 102, 103, 104, 105, 106, 107, 108, 109, 110, 111, 112, 113, 114, 115, 116] (by decide +kernel) (by decide +kernel)
set_option maxRecDepth 20000 in
theorem gX8_linePart_X8_fails : GoodIn wsX8_linePart (wsV RX8 100 RX8 yX8_fails wsX8_fails) := goodIn_app (goodIn_of _ (by decide +kernel)) ggX8_linePart_X8_fails
set_option maxRecDepth 20000 in
theorem ggX8_linePart_X8_number : GoodIn wsX8_linePart wsX8_number := goodIn_r _ [86, 81, 87, 88, 89, 90, 91, 92, 93, 9, 10, 11, 12, 5, 13, 14, 15, 16, 17, 18, 19, 20, 21, 22, 23, 77, 78, 79, 80, 82, 94, 95, 96, 97, 98, 99, 100, 101, 102, 103, 104, 105, 106, 107, 108, 109, 110, 111, 112, 113, 114, 115, 116] (by decide +kernel) (by decide +kernel)
set_option maxRecDepth 20000 in
theorem gX8_linePart_X8_number : GoodIn wsX8_linePart (wsV RX8 121 RX8 yX8_number wsX8_number) := goodIn_app (goodIn_of _ (by decide +kernel)) ggX8_linePart_X8_number
theorem dX8_linePart_0 : decode cX8_linePart 0 = .ok (.aload_n 0, 1) := by decide +kernel
theorem dX8_linePart_1 : decode cX8_linePart 1 = .ok (.invokevirtual 140, 3) := by decide +kernel
theorem dX8_linePart_4 : decode cX8_linePart 4 = .ok (.aload_n 0, 1) := by decide +kernel
theorem dX8_linePart_5 : decode cX8_linePart 5 = .ok (.ldc 143, 2) := by decide +kernel
theorem dX8_linePart_7 : decode cX8_linePart 7 = .ok (.invokevirtual 145, 3) := by decide +kernel
theorem dX8_linePart_10 : decode cX8_linePart 10 = .ok (.ifCond .ne 8, 3) := by decide +kernel
theorem dX8_linePart_13 : decode cX8_linePart 13 = .ok (.aload_n 0, 1) := by decide +kernel
theorem dX8_linePart_14 : decode cX8_linePart 14 = .ok (.iconst 1, 1) := by decide +kernel
theorem dX8_linePart_15 : decode cX8_linePart 15 = .ok (.invokevirtual 100, 3) := by decide +kernel
theorem dX8_linePart_18 : decode cX8_linePart 18 = .ok (.aload_n 0, 1) := by decide +kernel
theorem dX8_linePart_19 : decode cX8_linePart 19 = .ok (.getfield 9, 3) := by decide +kernel
theorem dX8_linePart_22 : decode cX8_linePart 22 = .ok (.iconst 0, 1) := by decide +kernel
theorem dX8_linePart_23 : decode cX8_linePart 23 = .ok (.aload_n 0, 1) := by decide +kernel
theorem dX8_linePart_24 : decode cX8_linePart 24 = .ok (.iconst 1, 1) := by decide +kernel
theorem dX8_linePart_25 : decode cX8_linePart 25 = .ok (.sipush 2000, 3) := by decide +kernel
theorem dX8_linePart_28 : decode cX8_linePart 28 = .ok (.invokevirtual 121, 3) := by decide +kernel
theorem dX8_linePart_31 : decode cX8_linePart 31 = .ok (.iastore, 1) := by decide +kernel
theorem dX8_linePart_32 : decode cX8_linePart 32 = .ok (.aload_n 0, 1) := by decide +kernel
theorem dX8_linePart_33 : decode cX8_linePart 33 = .ok (.getfield 9, 3) := by decide +kernel
theorem dX8_linePart_36 : decode cX8_linePart 36 = .ok (.iconst 3, 1) := by decide +kernel
theorem dX8_linePart_37 : decode cX8_linePart 37 = .ok (.aload_n 0, 1) := by decide +kernel
theorem dX8_linePart_38 : decode cX8_linePart 38 = .ok (.iconst 0, 1) := by decide +kernel
theorem dX8_linePart_39 : decode cX8_linePart 39 = .ok (.sipush 999, 3) := by decide +kernel
theorem dX8_linePart_42 : decode cX8_linePart 42 = .ok (.invokevirtual 121, 3) := by decide +kernel
theorem dX8_linePart_45 : decode cX8_linePart 45 = .ok (.iastore, 1) := by decide +kernel
theorem dX8_linePart_46 : decode cX8_linePart 46 = .ok (.aload_n 0, 1) := by decide +kernel
theorem dX8_linePart_47 : decode cX8_linePart 47 = .ok (.getfield 9, 3) := by decide +kernel
theorem dX8_linePart_50 : decode cX8_linePart 50 = .ok (.iconst 5, 1) := by decide +kernel
theorem dX8_linePart_51 : decode cX8_linePart 51 = .ok (.aload_n 0, 1) := by decide +kernel
theorem dX8_linePart_52 : decode cX8_linePart 52 = .ok (.getfield 9, 3) := by decide +kernel
theorem dX8_linePart_55 : decode cX8_linePart 55 = .ok (.iconst 3, 1) := by decide +kernel
theorem dX8_linePart_56 : decode cX8_linePart 56 = .ok (.iaload, 1) := by decide +kernel
theorem dX8_linePart_57 : decode cX8_linePart 57 = .ok (.iastore, 1) := by decide +kernel
theorem dX8_linePart_58 : decode cX8_linePart 58 = .ok (.aload_n 0, 1) := by decide +kernel
theorem dX8_linePart_59 : decode cX8_linePart 59 = .ok (.getfield 9, 3) := by decide +kernel
theorem dX8_linePart_62 : decode cX8_linePart 62 = .ok (.iconst 1, 1) := by decide +kernel
theorem dX8_linePart_63 : decode cX8_linePart 63 = .ok (.aload_n 0, 1) := by decide +kernel
theorem dX8_linePart_64 : decode cX8_linePart 64 = .ok (.iconst 1, 1) := by decide +kernel
theorem dX8_linePart_65 : decode cX8_linePart 65 = .ok (.bipush 20, 2) := by decide +kernel
theorem dX8_linePart_67 : decode cX8_linePart 67 = .ok (.invokevirtual 121, 3) := by decide +kernel
theorem dX8_linePart_70 : decode cX8_linePart 70 = .ok (.iastore, 1) := by decide +kernel
theorem dX8_linePart_71 : decode cX8_linePart 71 = .ok (.aload_n 0, 1) := by decide +kernel
theorem dX8_linePart_72 : decode cX8_linePart 72 = .ok (.getfield 9, 3) := by decide +kernel
theorem dX8_linePart_75 : decode cX8_linePart 75 = .ok (.iconst 2, 1) := by decide +kernel
theorem dX8_linePart_76 : decode cX8_linePart 76 = .ok (.aload_n 0, 1) := by decide +kernel
theorem dX8_linePart_77 : decode cX8_linePart 77 = .ok (.iconst 1, 1) := by decide +kernel
theorem dX8_linePart_78 : decode cX8_linePart 78 = .ok (.bipush 9, 2) := by decide +kernel
theorem dX8_linePart_80 : decode cX8_linePart 80 = .ok (.invokevirtual 121, 3) := by decide +kernel
theorem dX8_linePart_83 : decode cX8_linePart 83 = .ok (.iastore, 1) := by decide +kernel
theorem dX8_linePart_84 : decode cX8_linePart 84 = .ok (.return_, 1) := by decide +kernel
set_option maxRecDepth 20000 in
theorem ggX8_scriptPart_X8_next : GoodIn wsX8_scriptPart wsX8_next := goodIn_r _ [9, 4, 10, 11, 12, 13, 8, 14, 15, 16, 30, 31, 32, 33, 34, 35, 36, 37, 38, 39, 40, 41, 42, 43, 44, 45, 46, 47, 48, 49, 50, 51, 52] (by decide +kernel) (by decide +kernel)
set_option maxRecDepth 20000 in
theorem gX8_scriptPart_X8_next : GoodIn wsX8_scriptPart (wsV RX8 81 RX8 yX8_next wsX8_next) := goodIn_app (goodIn_of _ (by decide +kernel)) ggX8_scriptPart_X8_next
set_option maxRecDepth 20000 in
theorem ggX8_scriptPart_X8_in : GoodIn wsX8_scriptPart wsX8_in := goodIn_r _ [19] (by decide +kernel) (by decide +kernel)
set_option maxRecDepth 20000 in
theorem gX8_scriptPart_X8_in : GoodIn wsX8_scriptPart (va_wsS RX8 52 yX8_in wsX8_in) := goodIn_app (goodIn_of _ (by decide +kernel)) ggX8_scriptPart_X8_in
set_option maxRecDepth 20000 in
theorem ggX8_scriptPart_X8_fails : GoodIn wsX8_scriptPart wsX8_fails := goodIn_r _ [23, 1, 10, 24, 30, 31, 32, 33, 34, 35, 36, 37, 38, 39, 40, 41, 42, 43, 44, 45, 46, 47, 48, 49, 50, 51, 52] (by decide +kernel) (by decide +kernel)
set_option maxRecDepth 20000 in
theorem gX8_scriptPart_X8_fails : GoodIn wsX8_scriptPart (wsV RX8 100 RX8 yX8_fails wsX8_fails) := goodIn_app (goodIn_of _ (by decide +kernel)) ggX8_scriptPart_X8_fails
set_option maxRecDepth 20000 in
theorem ggX8_scriptPart_X8_here : GoodIn wsX8_scriptPart wsX8_here := goodIn_r _ [14, 4, 15, 16, 30, 31, 32, 33, 34, 35, 36, 37, 38, 39, 40, 41, 42, 43, 44, 45, 46, 47, 48, 49, 50, 51, 52] (by decide +kernel) (by decide +kernel)
set_option maxRecDepth 20000 in
theorem gX8_scriptPart_X8_here : GoodIn wsX8_scriptPart (wsV RX8 68 RX8 yX8_here wsX8_here) := goodIn_app (goodIn_of _ (by decide +kernel)) ggX8_scriptPart_X8_here
set_option maxRecDepth 20000 in
theorem ggX8_scriptPart_X8_sets : GoodIn wsX8_scriptPart wsX8_sets := goodIn_r _ [28, 29, 30, 31, 32, 33, 34, 35, 36, 37, 38, 39, 40, 41, 42, 43, 44, 45, 46, 47, 48, 49, 50, 51, 52] (by decide +kernel) (by decide +kernel)
set_option maxRecDepth 20000 in
theorem gX8_scriptPart_X8_sets : GoodIn wsX8_scriptPart (wsV RX8 149 RX8 yX8_sets wsX8_sets) := goodIn_app (goodIn_of _ (by decide +kernel)) ggX8_scriptPart_X8_sets
theorem dX8_scriptPart_0 : decode cX8_scriptPart 0 = .ok (.aload_n 0, 1) := by decide +kernel
theorem dX8_scriptPart_1 : decode cX8_scriptPart 1 = .ok (.getfield 75, 3) := by decide +kernel
theorem dX8_scriptPart_4 : decode cX8_scriptPart 4 = .ok (.ifCond .ne 25, 3) := by decide +kernel
theorem dX8_scriptPart_7 : decode cX8_scriptPart 7 = .ok (.aload_n 0, 1) := by decide +kernel
theorem dX8_scriptPart_8 : decode cX8_scriptPart 8 = .ok (.invokevirtual 81, 3) := by decide +kernel
theorem dX8_scriptPart_11 : decode cX8_scriptPart 11 = .ok (.i2l, 1) := by decide +kernel
theorem dX8_scriptPart_12 : decode cX8_scriptPart 12 = .ok (.ldc2_w 96, 3) := by decide +kernel
theorem dX8_scriptPart_15 : decode cX8_scriptPart 15 = .ok (.ldc2_w 98, 3) := by decide +kernel
theorem dX8_scriptPart_18 : decode cX8_scriptPart 18 = .ok (.invokestatic 52, 3) := by decide +kernel
theorem dX8_scriptPart_21 : decode cX8_scriptPart 21 = .ok (.ifCond .ne 8, 3) := by decide +kernel
theorem dX8_scriptPart_24 : decode cX8_scriptPart 24 = .ok (.aload_n 0, 1) := by decide +kernel
theorem dX8_scriptPart_25 : decode cX8_scriptPart 25 = .ok (.iconst 1, 1) := by decide +kernel
theorem dX8_scriptPart_26 : decode cX8_scriptPart 26 = .ok (.invokevirtual 100, 3) := by decide +kernel
theorem dX8_scriptPart_29 : decode cX8_scriptPart 29 = .ok (.aload_n 0, 1) := by decide +kernel
theorem dX8_scriptPart_30 : decode cX8_scriptPart 30 = .ok (.getfield 75, 3) := by decide +kernel
theorem dX8_scriptPart_33 : decode cX8_scriptPart 33 = .ok (.ifCond .eq 4, 3) := by decide +kernel
theorem dX8_scriptPart_36 : decode cX8_scriptPart 36 = .ok (.return_, 1) := by decide +kernel
theorem dX8_scriptPart_37 : decode cX8_scriptPart 37 = .ok (.iconst 0, 1) := by decide +kernel
theorem dX8_scriptPart_38 : decode cX8_scriptPart 38 = .ok (.istore_n 2, 1) := by decide +kernel
theorem dX8_scriptPart_39 : decode cX8_scriptPart 39 = .ok (.iconst 0, 1) := by decide +kernel
theorem dX8_scriptPart_40 : decode cX8_scriptPart 40 = .ok (.istore_n 3, 1) := by decide +kernel
theorem dX8_scriptPart_41 : decode cX8_scriptPart 41 = .ok (.iconst 1, 1) := by decide +kernel
theorem dX8_scriptPart_42 : decode cX8_scriptPart 42 = .ok (.istore 4, 2) := by decide +kernel
theorem dX8_scriptPart_44 : decode cX8_scriptPart 44 = .ok (.aload_n 0, 1) := by decide +kernel
theorem dX8_scriptPart_45 : decode cX8_scriptPart 45 = .ok (.invokevirtual 68, 3) := by decide +kernel
theorem dX8_scriptPart_48 : decode cX8_scriptPart 48 = .ok (.i2l, 1) := by decide +kernel
theorem dX8_scriptPart_49 : decode cX8_scriptPart 49 = .ok (.ldc2_w 96, 3) := by decide +kernel
theorem dX8_scriptPart_52 : decode cX8_scriptPart 52 = .ok (.ldc2_w 98, 3) := by decide +kernel
theorem dX8_scriptPart_55 : decode cX8_scriptPart 55 = .ok (.invokestatic 52, 3) := by decide +kernel
theorem dX8_scriptPart_58 : decode cX8_scriptPart 58 = .ok (.ifCond .eq 68, 3) := by decide +kernel
theorem dX8_scriptPart_61 : decode cX8_scriptPart 61 = .ok (.iload 4, 2) := by decide +kernel
theorem dX8_scriptPart_63 : decode cX8_scriptPart 63 = .ok (.aload_n 0, 1) := by decide +kernel
theorem dX8_scriptPart_64 : decode cX8_scriptPart 64 = .ok (.invokevirtual 68, 3) := by decide +kernel
theorem dX8_scriptPart_67 : decode cX8_scriptPart 67 = .ok (.bipush 49, 2) := by decide +kernel
theorem dX8_scriptPart_69 : decode cX8_scriptPart 69 = .ok (.if_icmp .gt 13, 3) := by decide +kernel
theorem dX8_scriptPart_72 : decode cX8_scriptPart 72 = .ok (.iload_n 2, 1) := by decide +kernel
theorem dX8_scriptPart_73 : decode cX8_scriptPart 73 = .ok (.bipush 12, 2) := by decide +kernel
theorem dX8_scriptPart_75 : decode cX8_scriptPart 75 = .ok (.if_icmp .ge 7, 3) := by decide +kernel
theorem dX8_scriptPart_78 : decode cX8_scriptPart 78 = .ok (.iconst 1, 1) := by decide +kernel
theorem dX8_scriptPart_79 : decode cX8_scriptPart 79 = .ok (.goto 4, 3) := by decide +kernel
theorem dX8_scriptPart_82 : decode cX8_scriptPart 82 = .ok (.iconst 0, 1) := by decide +kernel
theorem dX8_scriptPart_83 : decode cX8_scriptPart 83 = .ok (.iand, 1) := by decide +kernel
theorem dX8_scriptPart_84 : decode cX8_scriptPart 84 = .ok (.istore 4, 2) := by decide +kernel
theorem dX8_scriptPart_86 : decode cX8_scriptPart 86 = .ok (.iload_n 3, 1) := by decide +kernel
theorem dX8_scriptPart_87 : decode cX8_scriptPart 87 = .ok (.iload_n 2, 1) := by decide +kernel
theorem dX8_scriptPart_88 : decode cX8_scriptPart 88 = .ok (.bipush 12, 2) := by decide +kernel
theorem dX8_scriptPart_90 : decode cX8_scriptPart 90 = .ok (.if_icmp .ge 17, 3) := by decide +kernel
theorem dX8_scriptPart_93 : decode cX8_scriptPart 93 = .ok (.aload_n 0, 1) := by decide +kernel
theorem dX8_scriptPart_94 : decode cX8_scriptPart 94 = .ok (.invokevirtual 68, 3) := by decide +kernel
theorem dX8_scriptPart_97 : decode cX8_scriptPart 97 = .ok (.bipush 48, 2) := by decide +kernel
theorem dX8_scriptPart_99 : decode cX8_scriptPart 99 = .ok (.isub, 1) := by decide +kernel
theorem dX8_scriptPart_100 : decode cX8_scriptPart 100 = .ok (.iconst 1, 1) := by decide +kernel
theorem dX8_scriptPart_101 : decode cX8_scriptPart 101 = .ok (.iand, 1) := by decide +kernel
theorem dX8_scriptPart_102 : decode cX8_scriptPart 102 = .ok (.iload_n 2, 1) := by decide +kernel
theorem dX8_scriptPart_103 : decode cX8_scriptPart 103 = .ok (.ishl, 1) := by decide +kernel
theorem dX8_scriptPart_104 : decode cX8_scriptPart 104 = .ok (.goto 4, 3) := by decide +kernel
theorem dX8_scriptPart_107 : decode cX8_scriptPart 107 = .ok (.iconst 0, 1) := by decide +kernel
theorem dX8_scriptPart_108 : decode cX8_scriptPart 108 = .ok (.ior, 1) := by decide +kernel
theorem dX8_scriptPart_109 : decode cX8_scriptPart 109 = .ok (.istore_n 3, 1) := by decide +kernel
theorem dX8_scriptPart_110 : decode cX8_scriptPart 110 = .ok (.iinc 2 1, 3) := by decide +kernel
theorem dX8_scriptPart_113 : decode cX8_scriptPart 113 = .ok (.aload_n 0, 1) := by decide +kernel
theorem dX8_scriptPart_114 : decode cX8_scriptPart 114 = .ok (.dup, 1) := by decide +kernel
theorem dX8_scriptPart_115 : decode cX8_scriptPart 115 = .ok (.getfield 65, 3) := by decide +kernel
theorem dX8_scriptPart_118 : decode cX8_scriptPart 118 = .ok (.iconst 1, 1) := by decide +kernel
theorem dX8_scriptPart_119 : decode cX8_scriptPart 119 = .ok (.iadd, 1) := by decide +kernel
theorem dX8_scriptPart_120 : decode cX8_scriptPart 120 = .ok (.putfield 65, 3) := by decide +kernel
theorem dX8_scriptPart_123 : decode cX8_scriptPart 123 = .ok (.goto (-79), 3) := by decide +kernel
theorem dX8_scriptPart_126 : decode cX8_scriptPart 126 = .ok (.iload 4, 2) := by decide +kernel
theorem dX8_scriptPart_128 : decode cX8_scriptPart 128 = .ok (.ifCond .ne 8, 3) := by decide +kernel
theorem dX8_scriptPart_131 : decode cX8_scriptPart 131 = .ok (.aload_n 0, 1) := by decide +kernel
theorem dX8_scriptPart_132 : decode cX8_scriptPart 132 = .ok (.iconst 2, 1) := by decide +kernel
theorem dX8_scriptPart_133 : decode cX8_scriptPart 133 = .ok (.invokevirtual 100, 3) := by decide +kernel
theorem dX8_scriptPart_136 : decode cX8_scriptPart 136 = .ok (.aload_n 0, 1) := by decide +kernel
theorem dX8_scriptPart_137 : decode cX8_scriptPart 137 = .ok (.iload_n 1, 1) := by decide +kernel
theorem dX8_scriptPart_138 : decode cX8_scriptPart 138 = .ok (.bipush 14, 2) := by decide +kernel
theorem dX8_scriptPart_140 : decode cX8_scriptPart 140 = .ok (.iload_n 2, 1) := by decide +kernel
theorem dX8_scriptPart_141 : decode cX8_scriptPart 141 = .ok (.invokevirtual 149, 3) := by decide +kernel
theorem dX8_scriptPart_144 : decode cX8_scriptPart 144 = .ok (.aload_n 0, 1) := by decide +kernel
theorem dX8_scriptPart_145 : decode cX8_scriptPart 145 = .ok (.iload_n 1, 1) := by decide +kernel
theorem dX8_scriptPart_146 : decode cX8_scriptPart 146 = .ok (.bipush 15, 2) := by decide +kernel
theorem dX8_scriptPart_148 : decode cX8_scriptPart 148 = .ok (.iload_n 3, 1) := by decide +kernel
theorem dX8_scriptPart_149 : decode cX8_scriptPart 149 = .ok (.invokevirtual 149, 3) := by decide +kernel
theorem dX8_scriptPart_152 : decode cX8_scriptPart 152 = .ok (.return_, 1) := by decide +kernel
set_option maxRecDepth 20000 in
theorem ggX8_stationPart_X8_tooMany : GoodIn wsX8_stationPart wsX8_tooMany := goodIn_r _ [7, 8, 9, 10, 11, 12, 6, 13, 2, 14, 51, 52, 53, 54, 55, 56, 57, 58, 59, 60, 61, 62, 63, 64, 65, 66, 67, 68, 69, 70, 71, 72, 73] (by decide +kernel) (by decide +kernel)
set_option maxRecDepth 20000 in
theorem gX8_stationPart_X8_tooMany : GoodIn wsX8_stationPart (wsV RX8 152 RX8 yX8_tooMany wsX8_tooMany) := goodIn_app (goodIn_of _ (by decide +kernel)) ggX8_stationPart_X8_tooMany
set_option maxRecDepth 20000 in
theorem ggX8_stationPart_X8_sets : GoodIn wsX8_stationPart wsX8_sets := goodIn_r _ [18, 1, 51, 52, 53, 54, 55, 56, 57, 58, 59, 60, 61, 62, 63, 64, 65, 66, 67, 68, 69, 70, 71, 72, 73] (by decide +kernel) (by decide +kernel)
set_option maxRecDepth 20000 in
theorem gX8_stationPart_X8_sets : GoodIn wsX8_stationPart (wsV RX8 149 RX8 yX8_sets wsX8_sets) := goodIn_app (goodIn_of _ (by decide +kernel)) ggX8_stationPart_X8_sets
set_option maxRecDepth 20000 in
theorem ggX8_stationPart_X8_mostPace : GoodIn wsX8_stationPart wsX8_mostPace := goodIn_r _ [21] (by decide +kernel) (by decide +kernel)
set_option maxRecDepth 20000 in
theorem gX8_stationPart_X8_mostPace : GoodIn wsX8_stationPart (va_wsS RX8 156 yX8_mostPace wsX8_mostPace) := goodIn_app (goodIn_of _ (by decide +kernel)) ggX8_stationPart_X8_mostPace
set_option maxRecDepth 20000 in
theorem ggX8_stationPart_X8_number : GoodIn wsX8_stationPart wsX8_number := goodIn_r _ [25, 2, 26, 27, 28, 29, 30, 31, 32, 33, 34, 35, 36, 6, 37, 9, 38, 39, 40, 41, 42, 43, 44, 45, 46, 10, 11, 12, 13, 14, 51, 52, 53, 54, 55, 56, 57, 58, 59, 60, 61, 62, 63, 64, 65, 66, 67, 68, 69, 70, 71, 72, 73] (by decide +kernel) (by decide +kernel)
set_option maxRecDepth 20000 in
theorem gX8_stationPart_X8_number : GoodIn wsX8_stationPart (wsV RX8 121 RX8 yX8_number wsX8_number) := goodIn_app (goodIn_of _ (by decide +kernel)) ggX8_stationPart_X8_number
set_option maxRecDepth 20000 in
theorem ggX8_stationPart_X8_scriptPart : GoodIn wsX8_stationPart wsX8_scriptPart := goodIn_r _ [50, 2, 26, 27, 33, 34, 35, 36, 6, 37, 9, 38, 39, 40, 41, 42, 43, 44, 45, 46, 10, 11, 12, 13, 14, 15, 16, 17, 18, 1, 51, 52, 53, 54, 55, 56, 57, 58, 59, 60, 61, 62, 63, 64, 65, 66, 67, 68, 69, 70, 71, 72, 73] (by decide +kernel) (by decide +kernel)
set_option maxRecDepth 20000 in
theorem gX8_stationPart_X8_scriptPart : GoodIn wsX8_stationPart (wsV RX8 160 RX8 yX8_scriptPart wsX8_scriptPart) := goodIn_app (goodIn_of _ (by decide +kernel)) ggX8_stationPart_X8_scriptPart
theorem dX8_stationPart_0 : decode cX8_stationPart 0 = .ok (.aload_n 0, 1) := by decide +kernel
theorem dX8_stationPart_1 : decode cX8_stationPart 1 = .ok (.aload_n 0, 1) := by decide +kernel
theorem dX8_stationPart_2 : decode cX8_stationPart 2 = .ok (.getfield 9, 3) := by decide +kernel
theorem dX8_stationPart_5 : decode cX8_stationPart 5 = .ok (.bipush 7, 2) := by decide +kernel
theorem dX8_stationPart_7 : decode cX8_stationPart 7 = .ok (.iaload, 1) := by decide +kernel
theorem dX8_stationPart_8 : decode cX8_stationPart 8 = .ok (.bipush 6, 2) := by decide +kernel
theorem dX8_stationPart_10 : decode cX8_stationPart 10 = .ok (.if_icmp .ne 7, 3) := by decide +kernel
theorem dX8_stationPart_13 : decode cX8_stationPart 13 = .ok (.iconst 1, 1) := by decide +kernel
theorem dX8_stationPart_14 : decode cX8_stationPart 14 = .ok (.goto 4, 3) := by decide +kernel
theorem dX8_stationPart_17 : decode cX8_stationPart 17 = .ok (.iconst 0, 1) := by decide +kernel
theorem dX8_stationPart_18 : decode cX8_stationPart 18 = .ok (.invokevirtual 152, 3) := by decide +kernel
theorem dX8_stationPart_21 : decode cX8_stationPart 21 = .ok (.aload_n 0, 1) := by decide +kernel
theorem dX8_stationPart_22 : decode cX8_stationPart 22 = .ok (.getfield 75, 3) := by decide +kernel
theorem dX8_stationPart_25 : decode cX8_stationPart 25 = .ok (.ifCond .eq 4, 3) := by decide +kernel
theorem dX8_stationPart_28 : decode cX8_stationPart 28 = .ok (.return_, 1) := by decide +kernel
theorem dX8_stationPart_29 : decode cX8_stationPart 29 = .ok (.aload_n 0, 1) := by decide +kernel
theorem dX8_stationPart_30 : decode cX8_stationPart 30 = .ok (.getfield 9, 3) := by decide +kernel
theorem dX8_stationPart_33 : decode cX8_stationPart 33 = .ok (.bipush 7, 2) := by decide +kernel
theorem dX8_stationPart_35 : decode cX8_stationPart 35 = .ok (.iaload, 1) := by decide +kernel
theorem dX8_stationPart_36 : decode cX8_stationPart 36 = .ok (.istore_n 2, 1) := by decide +kernel
theorem dX8_stationPart_37 : decode cX8_stationPart 37 = .ok (.aload_n 0, 1) := by decide +kernel
theorem dX8_stationPart_38 : decode cX8_stationPart 38 = .ok (.iload_n 2, 1) := by decide +kernel
theorem dX8_stationPart_39 : decode cX8_stationPart 39 = .ok (.iconst 0, 1) := by decide +kernel
theorem dX8_stationPart_40 : decode cX8_stationPart 40 = .ok (.iload_n 1, 1) := by decide +kernel
theorem dX8_stationPart_41 : decode cX8_stationPart 41 = .ok (.invokevirtual 149, 3) := by decide +kernel
theorem dX8_stationPart_44 : decode cX8_stationPart 44 = .ok (.aload_n 0, 1) := by decide +kernel
theorem dX8_stationPart_45 : decode cX8_stationPart 45 = .ok (.iload_n 2, 1) := by decide +kernel
theorem dX8_stationPart_46 : decode cX8_stationPart 46 = .ok (.iconst 1, 1) := by decide +kernel
theorem dX8_stationPart_47 : decode cX8_stationPart 47 = .ok (.aload_n 0, 1) := by decide +kernel
theorem dX8_stationPart_48 : decode cX8_stationPart 48 = .ok (.iconst 1, 1) := by decide +kernel
theorem dX8_stationPart_49 : decode cX8_stationPart 49 = .ok (.iload_n 1, 1) := by decide +kernel
theorem dX8_stationPart_50 : decode cX8_stationPart 50 = .ok (.invokestatic 156, 3) := by decide +kernel
theorem dX8_stationPart_53 : decode cX8_stationPart 53 = .ok (.invokevirtual 121, 3) := by decide +kernel
theorem dX8_stationPart_56 : decode cX8_stationPart 56 = .ok (.invokevirtual 149, 3) := by decide +kernel
theorem dX8_stationPart_59 : decode cX8_stationPart 59 = .ok (.aload_n 0, 1) := by decide +kernel
theorem dX8_stationPart_60 : decode cX8_stationPart 60 = .ok (.iload_n 2, 1) := by decide +kernel
theorem dX8_stationPart_61 : decode cX8_stationPart 61 = .ok (.iconst 2, 1) := by decide +kernel
theorem dX8_stationPart_62 : decode cX8_stationPart 62 = .ok (.iconst (-1), 1) := by decide +kernel
theorem dX8_stationPart_63 : decode cX8_stationPart 63 = .ok (.invokevirtual 149, 3) := by decide +kernel
theorem dX8_stationPart_66 : decode cX8_stationPart 66 = .ok (.aload_n 0, 1) := by decide +kernel
theorem dX8_stationPart_67 : decode cX8_stationPart 67 = .ok (.iload_n 2, 1) := by decide +kernel
theorem dX8_stationPart_68 : decode cX8_stationPart 68 = .ok (.bipush 8, 2) := by decide +kernel
theorem dX8_stationPart_70 : decode cX8_stationPart 70 = .ok (.iload_n 1, 1) := by decide +kernel
theorem dX8_stationPart_71 : decode cX8_stationPart 71 = .ok (.iconst 3, 1) := by decide +kernel
theorem dX8_stationPart_72 : decode cX8_stationPart 72 = .ok (.if_icmp .ne 7, 3) := by decide +kernel
theorem dX8_stationPart_75 : decode cX8_stationPart 75 = .ok (.iconst 0, 1) := by decide +kernel
theorem dX8_stationPart_76 : decode cX8_stationPart 76 = .ok (.goto 4, 3) := by decide +kernel
theorem dX8_stationPart_79 : decode cX8_stationPart 79 = .ok (.iconst (-1), 1) := by decide +kernel
theorem dX8_stationPart_80 : decode cX8_stationPart 80 = .ok (.invokevirtual 149, 3) := by decide +kernel
theorem dX8_stationPart_83 : decode cX8_stationPart 83 = .ok (.aload_n 0, 1) := by decide +kernel
theorem dX8_stationPart_84 : decode cX8_stationPart 84 = .ok (.iload_n 2, 1) := by decide +kernel
theorem dX8_stationPart_85 : decode cX8_stationPart 85 = .ok (.invokevirtual 160, 3) := by decide +kernel
theorem dX8_stationPart_88 : decode cX8_stationPart 88 = .ok (.aload_n 0, 1) := by decide +kernel
theorem dX8_stationPart_89 : decode cX8_stationPart 89 = .ok (.getfield 9, 3) := by decide +kernel
theorem dX8_stationPart_92 : decode cX8_stationPart 92 = .ok (.bipush 7, 2) := by decide +kernel
theorem dX8_stationPart_94 : decode cX8_stationPart 94 = .ok (.dup2, 1) := by decide +kernel
theorem dX8_stationPart_95 : decode cX8_stationPart 95 = .ok (.iaload, 1) := by decide +kernel
theorem dX8_stationPart_96 : decode cX8_stationPart 96 = .ok (.iconst 1, 1) := by decide +kernel
theorem dX8_stationPart_97 : decode cX8_stationPart 97 = .ok (.iadd, 1) := by decide +kernel
theorem dX8_stationPart_98 : decode cX8_stationPart 98 = .ok (.iastore, 1) := by decide +kernel
theorem dX8_stationPart_99 : decode cX8_stationPart 99 = .ok (.return_, 1) := by decide +kernel
theorem dX8_mostPace_0 : decode cX8_mostPace 0 = .ok (.iload_n 0, 1) := by decide +kernel
theorem dX8_mostPace_1 : decode cX8_mostPace 1 = .ok (.iconst 3, 1) := by decide +kernel
theorem dX8_mostPace_2 : decode cX8_mostPace 2 = .ok (.if_icmp .ne 8, 3) := by decide +kernel
theorem dX8_mostPace_5 : decode cX8_mostPace 5 = .ok (.bipush 9, 2) := by decide +kernel
theorem dX8_mostPace_7 : decode cX8_mostPace 7 = .ok (.goto 5, 3) := by decide +kernel
theorem dX8_mostPace_10 : decode cX8_mostPace 10 = .ok (.bipush 99, 2) := by decide +kernel
theorem dX8_mostPace_12 : decode cX8_mostPace 12 = .ok (.ireturn, 1) := by decide +kernel
set_option maxRecDepth 20000 in
theorem ggX8_restPart_X8_number : GoodIn wsX8_restPart wsX8_number := goodIn_r _ [7, 2, 8, 9, 10, 11, 12, 13, 14, 15, 16, 17, 18, 6, 19, 20, 21, 22, 23, 24, 25, 26, 27, 28, 29, 30, 31, 32, 33, 34, 39, 40, 41, 42, 43, 44, 45, 46, 47, 48, 49, 50, 51, 52, 53, 54, 55, 56, 57, 58, 59, 60, 61] (by decide +kernel) (by decide +kernel)
set_option maxRecDepth 20000 in
theorem gX8_restPart_X8_number : GoodIn wsX8_restPart (wsV RX8 121 RX8 yX8_number wsX8_number) := goodIn_app (goodIn_of _ (by decide +kernel)) ggX8_restPart_X8_number
set_option maxRecDepth 20000 in
theorem ggX8_restPart_X8_sets : GoodIn wsX8_restPart wsX8_sets := goodIn_r _ [38, 1, 39, 40, 41, 42, 43, 44, 45, 46, 47, 48, 49, 50, 51, 52, 53, 54, 55, 56, 57, 58, 59, 60, 61] (by decide +kernel) (by decide +kernel)
set_option maxRecDepth 20000 in
theorem gX8_restPart_X8_sets : GoodIn wsX8_restPart (wsV RX8 149 RX8 yX8_sets wsX8_sets) := goodIn_app (goodIn_of _ (by decide +kernel)) ggX8_restPart_X8_sets
theorem dX8_restPart_0 : decode cX8_restPart 0 = .ok (.aload_n 0, 1) := by decide +kernel
theorem dX8_restPart_1 : decode cX8_restPart 1 = .ok (.iconst 0, 1) := by decide +kernel
theorem dX8_restPart_2 : decode cX8_restPart 2 = .ok (.aload_n 0, 1) := by decide +kernel
theorem dX8_restPart_3 : decode cX8_restPart 3 = .ok (.getfield 9, 3) := by decide +kernel
theorem dX8_restPart_6 : decode cX8_restPart 6 = .ok (.bipush 7, 2) := by decide +kernel
theorem dX8_restPart_8 : decode cX8_restPart 8 = .ok (.iaload, 1) := by decide +kernel
theorem dX8_restPart_9 : decode cX8_restPart 9 = .ok (.iconst 1, 1) := by decide +kernel
theorem dX8_restPart_10 : decode cX8_restPart 10 = .ok (.isub, 1) := by decide +kernel
theorem dX8_restPart_11 : decode cX8_restPart 11 = .ok (.invokevirtual 121, 3) := by decide +kernel
theorem dX8_restPart_14 : decode cX8_restPart 14 = .ok (.istore_n 1, 1) := by decide +kernel
theorem dX8_restPart_15 : decode cX8_restPart 15 = .ok (.aload_n 0, 1) := by decide +kernel
theorem dX8_restPart_16 : decode cX8_restPart 16 = .ok (.iconst 1, 1) := by decide +kernel
theorem dX8_restPart_17 : decode cX8_restPart 17 = .ok (.bipush 99, 2) := by decide +kernel
theorem dX8_restPart_19 : decode cX8_restPart 19 = .ok (.invokevirtual 121, 3) := by decide +kernel
theorem dX8_restPart_22 : decode cX8_restPart 22 = .ok (.istore_n 2, 1) := by decide +kernel
theorem dX8_restPart_23 : decode cX8_restPart 23 = .ok (.aload_n 0, 1) := by decide +kernel
theorem dX8_restPart_24 : decode cX8_restPart 24 = .ok (.iconst 1, 1) := by decide +kernel
theorem dX8_restPart_25 : decode cX8_restPart 25 = .ok (.bipush 99, 2) := by decide +kernel
theorem dX8_restPart_27 : decode cX8_restPart 27 = .ok (.invokevirtual 121, 3) := by decide +kernel
theorem dX8_restPart_30 : decode cX8_restPart 30 = .ok (.istore_n 3, 1) := by decide +kernel
theorem dX8_restPart_31 : decode cX8_restPart 31 = .ok (.aload_n 0, 1) := by decide +kernel
theorem dX8_restPart_32 : decode cX8_restPart 32 = .ok (.getfield 75, 3) := by decide +kernel
theorem dX8_restPart_35 : decode cX8_restPart 35 = .ok (.ifCond .ne 19, 3) := by decide +kernel
theorem dX8_restPart_38 : decode cX8_restPart 38 = .ok (.aload_n 0, 1) := by decide +kernel
theorem dX8_restPart_39 : decode cX8_restPart 39 = .ok (.iload_n 1, 1) := by decide +kernel
theorem dX8_restPart_40 : decode cX8_restPart 40 = .ok (.bipush 9, 2) := by decide +kernel
theorem dX8_restPart_42 : decode cX8_restPart 42 = .ok (.iload_n 2, 1) := by decide +kernel
theorem dX8_restPart_43 : decode cX8_restPart 43 = .ok (.invokevirtual 149, 3) := by decide +kernel
theorem dX8_restPart_46 : decode cX8_restPart 46 = .ok (.aload_n 0, 1) := by decide +kernel
theorem dX8_restPart_47 : decode cX8_restPart 47 = .ok (.iload_n 1, 1) := by decide +kernel
theorem dX8_restPart_48 : decode cX8_restPart 48 = .ok (.bipush 10, 2) := by decide +kernel
theorem dX8_restPart_50 : decode cX8_restPart 50 = .ok (.iload_n 3, 1) := by decide +kernel
theorem dX8_restPart_51 : decode cX8_restPart 51 = .ok (.invokevirtual 149, 3) := by decide +kernel
theorem dX8_restPart_54 : decode cX8_restPart 54 = .ok (.return_, 1) := by decide +kernel
set_option maxRecDepth 20000 in
theorem ggX8_lotPart_X8_tooMany : GoodIn wsX8_lotPart wsX8_tooMany := goodIn_r _ [7, 8, 9, 10, 11, 12, 6, 13, 2, 14, 40, 41, 42, 43, 44, 45, 46, 47, 48, 49, 50, 51, 52, 53, 54, 55, 56, 57, 58, 59, 60, 61, 62] (by decide +kernel) (by decide +kernel)
set_option maxRecDepth 20000 in
theorem gX8_lotPart_X8_tooMany : GoodIn wsX8_lotPart (wsV RX8 152 RX8 yX8_tooMany wsX8_tooMany) := goodIn_app (goodIn_of _ (by decide +kernel)) ggX8_lotPart_X8_tooMany
set_option maxRecDepth 20000 in
theorem ggX8_lotPart_X8_number : GoodIn wsX8_lotPart wsX8_number := goodIn_r _ [18, 2, 19, 20, 21, 22, 23, 24, 25, 26, 27, 28, 29, 6, 30, 9, 31, 32, 33, 34, 35, 36, 37, 38, 39, 10, 11, 12, 13, 14, 40, 41, 42, 43, 44, 45, 46, 47, 48, 49, 50, 51, 52, 53, 54, 55, 56, 57, 58, 59, 60, 61, 62] (by decide +kernel) (by decide +kernel)
set_option maxRecDepth 20000 in
theorem gX8_lotPart_X8_number : GoodIn wsX8_lotPart (wsV RX8 121 RX8 yX8_number wsX8_number) := goodIn_app (goodIn_of _ (by decide +kernel)) ggX8_lotPart_X8_number
theorem dX8_lotPart_0 : decode cX8_lotPart 0 = .ok (.aload_n 0, 1) := by decide +kernel
theorem dX8_lotPart_1 : decode cX8_lotPart 1 = .ok (.aload_n 0, 1) := by decide +kernel
theorem dX8_lotPart_2 : decode cX8_lotPart 2 = .ok (.getfield 9, 3) := by decide +kernel
theorem dX8_lotPart_5 : decode cX8_lotPart 5 = .ok (.bipush 8, 2) := by decide +kernel
theorem dX8_lotPart_7 : decode cX8_lotPart 7 = .ok (.iaload, 1) := by decide +kernel
theorem dX8_lotPart_8 : decode cX8_lotPart 8 = .ok (.bipush 6, 2) := by decide +kernel
theorem dX8_lotPart_10 : decode cX8_lotPart 10 = .ok (.if_icmp .ne 7, 3) := by decide +kernel
theorem dX8_lotPart_13 : decode cX8_lotPart 13 = .ok (.iconst 1, 1) := by decide +kernel
theorem dX8_lotPart_14 : decode cX8_lotPart 14 = .ok (.goto 4, 3) := by decide +kernel
theorem dX8_lotPart_17 : decode cX8_lotPart 17 = .ok (.iconst 0, 1) := by decide +kernel
theorem dX8_lotPart_18 : decode cX8_lotPart 18 = .ok (.invokevirtual 152, 3) := by decide +kernel
theorem dX8_lotPart_21 : decode cX8_lotPart 21 = .ok (.aload_n 0, 1) := by decide +kernel
theorem dX8_lotPart_22 : decode cX8_lotPart 22 = .ok (.iconst 0, 1) := by decide +kernel
theorem dX8_lotPart_23 : decode cX8_lotPart 23 = .ok (.bipush 9, 2) := by decide +kernel
theorem dX8_lotPart_25 : decode cX8_lotPart 25 = .ok (.invokevirtual 121, 3) := by decide +kernel
theorem dX8_lotPart_28 : decode cX8_lotPart 28 = .ok (.istore_n 1, 1) := by decide +kernel
theorem dX8_lotPart_29 : decode cX8_lotPart 29 = .ok (.aload_n 0, 1) := by decide +kernel
theorem dX8_lotPart_30 : decode cX8_lotPart 30 = .ok (.getfield 75, 3) := by decide +kernel
theorem dX8_lotPart_33 : decode cX8_lotPart 33 = .ok (.ifCond .ne 34, 3) := by decide +kernel
theorem dX8_lotPart_36 : decode cX8_lotPart 36 = .ok (.aload_n 0, 1) := by decide +kernel
theorem dX8_lotPart_37 : decode cX8_lotPart 37 = .ok (.getfield 9, 3) := by decide +kernel
theorem dX8_lotPart_40 : decode cX8_lotPart 40 = .ok (.bipush 113, 2) := by decide +kernel
theorem dX8_lotPart_42 : decode cX8_lotPart 42 = .ok (.iconst 4, 1) := by decide +kernel
theorem dX8_lotPart_43 : decode cX8_lotPart 43 = .ok (.aload_n 0, 1) := by decide +kernel
theorem dX8_lotPart_44 : decode cX8_lotPart 44 = .ok (.getfield 9, 3) := by decide +kernel
theorem dX8_lotPart_47 : decode cX8_lotPart 47 = .ok (.bipush 8, 2) := by decide +kernel
theorem dX8_lotPart_49 : decode cX8_lotPart 49 = .ok (.iaload, 1) := by decide +kernel
theorem dX8_lotPart_50 : decode cX8_lotPart 50 = .ok (.imul, 1) := by decide +kernel
theorem dX8_lotPart_51 : decode cX8_lotPart 51 = .ok (.iadd, 1) := by decide +kernel
theorem dX8_lotPart_52 : decode cX8_lotPart 52 = .ok (.iconst 0, 1) := by decide +kernel
theorem dX8_lotPart_53 : decode cX8_lotPart 53 = .ok (.iadd, 1) := by decide +kernel
theorem dX8_lotPart_54 : decode cX8_lotPart 54 = .ok (.iload_n 1, 1) := by decide +kernel
theorem dX8_lotPart_55 : decode cX8_lotPart 55 = .ok (.iastore, 1) := by decide +kernel
theorem dX8_lotPart_56 : decode cX8_lotPart 56 = .ok (.aload_n 0, 1) := by decide +kernel
theorem dX8_lotPart_57 : decode cX8_lotPart 57 = .ok (.getfield 9, 3) := by decide +kernel
theorem dX8_lotPart_60 : decode cX8_lotPart 60 = .ok (.bipush 8, 2) := by decide +kernel
theorem dX8_lotPart_62 : decode cX8_lotPart 62 = .ok (.dup2, 1) := by decide +kernel
theorem dX8_lotPart_63 : decode cX8_lotPart 63 = .ok (.iaload, 1) := by decide +kernel
theorem dX8_lotPart_64 : decode cX8_lotPart 64 = .ok (.iconst 1, 1) := by decide +kernel
theorem dX8_lotPart_65 : decode cX8_lotPart 65 = .ok (.iadd, 1) := by decide +kernel
theorem dX8_lotPart_66 : decode cX8_lotPart 66 = .ok (.iastore, 1) := by decide +kernel
theorem dX8_lotPart_67 : decode cX8_lotPart 67 = .ok (.return_, 1) := by decide +kernel
set_option maxRecDepth 20000 in
theorem ggX8_cardPart_X8_tooMany : GoodIn wsX8_cardPart wsX8_tooMany := goodIn_r _ [7, 8, 9, 10, 11, 12, 6, 13, 2, 14, 77, 78, 79, 80, 81, 82, 83, 84, 85, 86, 87, 88, 89, 90, 91, 92, 93, 94, 95, 96, 97, 98, 99] (by decide +kernel) (by decide +kernel)
set_option maxRecDepth 20000 in
theorem gX8_cardPart_X8_tooMany : GoodIn wsX8_cardPart (wsV RX8 152 RX8 yX8_tooMany wsX8_tooMany) := goodIn_app (goodIn_of _ (by decide +kernel)) ggX8_cardPart_X8_tooMany
set_option maxRecDepth 20000 in
theorem ggX8_cardPart_X8_number : GoodIn wsX8_cardPart wsX8_number := goodIn_r _ [18, 2, 19, 20, 21, 22, 23, 24, 25, 26, 27, 28, 29, 6, 30, 9, 31, 32, 33, 34, 35, 36, 37, 38, 39, 10, 11, 12, 13, 14, 77, 78, 79, 80, 81, 82, 83, 84, 85, 86, 87, 88, 89, 90, 91, 92, 93, 94, 95, 96, 97, 98, 99] (by decide +kernel) (by decide +kernel)
set_option maxRecDepth 20000 in
theorem gX8_cardPart_X8_number : GoodIn wsX8_cardPart (wsV RX8 121 RX8 yX8_number wsX8_number) := goodIn_app (goodIn_of _ (by decide +kernel)) ggX8_cardPart_X8_number
set_option maxRecDepth 20000 in
theorem ggX8_cardPart_X8_text : GoodIn wsX8_cardPart wsX8_text := goodIn_r _ [43, 44, 45, 46, 47, 6, 48, 49, 2, 50, 51, 19, 20, 27, 28, 29, 30, 26, 9, 31, 32, 33, 34, 35, 36, 37, 38, 39, 52, 53, 54, 55, 56, 10, 11, 12, 13, 14, 57, 58, 59, 60, 15, 16, 17, 18, 21, 22, 23, 24, 25, 61, 62, 63, 64, 77, 78, 79, 80, 81, 82, 83, 84, 85, 86, 87, 88, 89, 90, 91, 92, 93, 94, 95, 96, 97, 98, 99] (by decide +kernel) (by decide +kernel)
set_option maxRecDepth 20000 in
theorem gX8_cardPart_X8_text : GoodIn wsX8_cardPart (wsV RX8 163 RX8 yX8_text wsX8_text) := goodIn_app (goodIn_of _ (by decide +kernel)) ggX8_cardPart_X8_text
set_option maxRecDepth 20000 in
theorem ggX8_cardPart_X8_adds : GoodIn wsX8_cardPart wsX8_adds := goodIn_r _ [68, 1, 44, 56, 69, 70, 71, 6, 72, 73, 74, 75, 76, 77, 78, 79, 80, 81, 82, 83, 84, 85, 86, 87, 88, 89, 90, 91, 92, 93, 94, 95, 96, 97, 98, 99] (by decide +kernel) (by decide +kernel)
set_option maxRecDepth 20000 in
theorem gX8_cardPart_X8_adds : GoodIn wsX8_cardPart (wsV RX8 166 RX8 yX8_adds wsX8_adds) := goodIn_app (goodIn_of _ (by decide +kernel)) ggX8_cardPart_X8_adds
theorem dX8_cardPart_0 : decode cX8_cardPart 0 = .ok (.aload_n 0, 1) := by decide +kernel
theorem dX8_cardPart_1 : decode cX8_cardPart 1 = .ok (.aload_n 0, 1) := by decide +kernel
theorem dX8_cardPart_2 : decode cX8_cardPart 2 = .ok (.getfield 9, 3) := by decide +kernel
theorem dX8_cardPart_5 : decode cX8_cardPart 5 = .ok (.bipush 9, 2) := by decide +kernel
theorem dX8_cardPart_7 : decode cX8_cardPart 7 = .ok (.iaload, 1) := by decide +kernel
theorem dX8_cardPart_8 : decode cX8_cardPart 8 = .ok (.bipush 30, 2) := by decide +kernel
theorem dX8_cardPart_10 : decode cX8_cardPart 10 = .ok (.if_icmp .ne 7, 3) := by decide +kernel
theorem dX8_cardPart_13 : decode cX8_cardPart 13 = .ok (.iconst 1, 1) := by decide +kernel
theorem dX8_cardPart_14 : decode cX8_cardPart 14 = .ok (.goto 4, 3) := by decide +kernel
theorem dX8_cardPart_17 : decode cX8_cardPart 17 = .ok (.iconst 0, 1) := by decide +kernel
theorem dX8_cardPart_18 : decode cX8_cardPart 18 = .ok (.invokevirtual 152, 3) := by decide +kernel
theorem dX8_cardPart_21 : decode cX8_cardPart 21 = .ok (.aload_n 0, 1) := by decide +kernel
theorem dX8_cardPart_22 : decode cX8_cardPart 22 = .ok (.iconst 0, 1) := by decide +kernel
theorem dX8_cardPart_23 : decode cX8_cardPart 23 = .ok (.aload_n 0, 1) := by decide +kernel
theorem dX8_cardPart_24 : decode cX8_cardPart 24 = .ok (.getfield 9, 3) := by decide +kernel
theorem dX8_cardPart_27 : decode cX8_cardPart 27 = .ok (.bipush 8, 2) := by decide +kernel
theorem dX8_cardPart_29 : decode cX8_cardPart 29 = .ok (.iaload, 1) := by decide +kernel
theorem dX8_cardPart_30 : decode cX8_cardPart 30 = .ok (.iconst 1, 1) := by decide +kernel
theorem dX8_cardPart_31 : decode cX8_cardPart 31 = .ok (.isub, 1) := by decide +kernel
theorem dX8_cardPart_32 : decode cX8_cardPart 32 = .ok (.invokevirtual 121, 3) := by decide +kernel
theorem dX8_cardPart_35 : decode cX8_cardPart 35 = .ok (.istore_n 1, 1) := by decide +kernel
theorem dX8_cardPart_36 : decode cX8_cardPart 36 = .ok (.aload_n 0, 1) := by decide +kernel
theorem dX8_cardPart_37 : decode cX8_cardPart 37 = .ok (.getfield 75, 3) := by decide +kernel
theorem dX8_cardPart_40 : decode cX8_cardPart 40 = .ok (.ifCond .ne 7, 3) := by decide +kernel
theorem dX8_cardPart_43 : decode cX8_cardPart 43 = .ok (.aload_n 0, 1) := by decide +kernel
theorem dX8_cardPart_44 : decode cX8_cardPart 44 = .ok (.invokevirtual 163, 3) := by decide +kernel
theorem dX8_cardPart_47 : decode cX8_cardPart 47 = .ok (.aload_n 0, 1) := by decide +kernel
theorem dX8_cardPart_48 : decode cX8_cardPart 48 = .ok (.getfield 75, 3) := by decide +kernel
theorem dX8_cardPart_51 : decode cX8_cardPart 51 = .ok (.ifCond .ne 8, 3) := by decide +kernel
theorem dX8_cardPart_54 : decode cX8_cardPart 54 = .ok (.aload_n 0, 1) := by decide +kernel
theorem dX8_cardPart_55 : decode cX8_cardPart 55 = .ok (.iload_n 1, 1) := by decide +kernel
theorem dX8_cardPart_56 : decode cX8_cardPart 56 = .ok (.invokevirtual 166, 3) := by decide +kernel
theorem dX8_cardPart_59 : decode cX8_cardPart 59 = .ok (.return_, 1) := by decide +kernel
set_option maxRecDepth 20000 in
theorem ggX8_statement_X8_reads : GoodIn wsX8_statement wsX8_reads := goodIn_r _ [7, 8, 9, 10, 11, 12, 13, 6, 14, 1, 15, 16, 17, 18, 19, 20, 21, 22, 23, 161, 162, 163, 164, 165, 166, 167, 168, 169, 170, 171, 172, 173, 174, 175, 176, 177, 178, 179, 180, 181, 182, 183] (by decide +kernel) (by decide +kernel)
set_option maxRecDepth 20000 in
theorem gX8_statement_X8_reads : GoodIn wsX8_statement (wsV RX8 140 RX8 yX8_reads wsX8_reads) := goodIn_app (goodIn_of _ (by decide +kernel)) ggX8_statement_X8_reads
set_option maxRecDepth 20000 in
theorem ggX8_statement_X8_isWord : GoodIn wsX8_statement wsX8_isWord := goodIn_r _ [27, 10, 1, 20, 28, 29, 30, 31, 32, 33, 34, 35, 36, 37, 38, 39, 40, 41, 42, 43, 44, 45, 46, 47, 48, 49, 50, 51, 52, 53, 54, 55, 56, 57, 58, 59, 60, 61, 62, 63, 64, 65, 66, 67, 68, 69, 70, 71, 72, 73, 74, 75, 76, 161, 162, 163, 164, 165, 166, 167, 168, 169, 170, 171, 172, 173, 174, 175, 176, 177, 178, 179, 180, 181, 182, 183, 184, 185, 186, 187] (by decide +kernel) (by decide +kernel)
set_option maxRecDepth 20000 in
theorem gX8_statement_X8_isWord : GoodIn wsX8_statement (wsV RX8 145 RX8 yX8_isWord wsX8_isWord) := goodIn_app (goodIn_of _ (by decide +kernel)) ggX8_statement_X8_isWord
set_option maxRecDepth 20000 in
theorem ggX8_statement_X8_stationPart : GoodIn wsX8_statement wsX8_stationPart := goodIn_r _ [80, 81, 82, 83, 84, 85, 6, 86, 2, 1, 87, 88, 89, 90, 91, 92, 93, 94, 95, 96, 97, 98, 99, 100, 101, 102, 103, 104, 105, 106, 107, 108, 109, 10, 11, 12, 13, 14, 15, 16, 17, 18, 19, 20, 21, 22, 23, 110, 111, 112, 113, 161, 162, 163, 164, 165, 166, 167, 168, 169, 170, 171, 172, 173, 174, 175, 176, 177, 178, 179, 180, 181, 182, 183] (by decide +kernel) (by decide +kernel)
set_option maxRecDepth 20000 in
theorem gX8_statement_X8_stationPart : GoodIn wsX8_statement (wsV RX8 171 RX8 yX8_stationPart wsX8_stationPart) := goodIn_app (goodIn_of _ (by decide +kernel)) ggX8_statement_X8_stationPart
set_option maxRecDepth 20000 in
theorem ggX8_statement_X8_restPart : GoodIn wsX8_statement wsX8_restPart := goodIn_r _ [117, 81, 82, 99, 100, 101, 6, 102, 103, 104, 105, 106, 107, 108, 109, 10, 11, 12, 13, 14, 1, 15, 16, 17, 18, 19, 20, 21, 22, 23, 87, 88, 89, 90, 91, 92, 93, 94, 95, 161, 162, 163, 164, 165, 166, 167, 168, 169, 170, 171, 172, 173, 174, 175, 176, 177, 178, 179, 180, 181, 182, 183] (by decide +kernel) (by decide +kernel)
set_option maxRecDepth 20000 in
theorem gX8_statement_X8_restPart : GoodIn wsX8_statement (wsV RX8 182 RX8 yX8_restPart wsX8_restPart) := goodIn_app (goodIn_of _ (by decide +kernel)) ggX8_statement_X8_restPart
set_option maxRecDepth 20000 in
theorem ggX8_statement_X8_lotPart : GoodIn wsX8_statement wsX8_lotPart := goodIn_r _ [121, 81, 82, 83, 84, 85, 6, 86, 2, 1, 87, 88, 89, 90, 91, 99, 100, 101, 102, 103, 104, 105, 106, 107, 108, 109, 10, 11, 12, 13, 14, 15, 16, 17, 18, 19, 20, 21, 22, 23, 161, 162, 163, 164, 165, 166, 167, 168, 169, 170, 171, 172, 173, 174, 175, 176, 177, 178, 179, 180, 181, 182, 183] (by decide +kernel) (by decide +kernel)
set_option maxRecDepth 20000 in
theorem gX8_statement_X8_lotPart : GoodIn wsX8_statement (wsV RX8 187 RX8 yX8_lotPart wsX8_lotPart) := goodIn_app (goodIn_of _ (by decide +kernel)) ggX8_statement_X8_lotPart
set_option maxRecDepth 20000 in
theorem ggX8_statement_X8_cardPart : GoodIn wsX8_statement wsX8_cardPart := goodIn_r _ [125, 81, 82, 83, 84, 85, 6, 86, 2, 1, 87, 88, 89, 90, 91, 99, 100, 101, 102, 103, 104, 105, 106, 107, 108, 109, 10, 11, 12, 13, 14, 15, 16, 17, 18, 19, 20, 21, 22, 23, 126, 127, 128, 129, 130, 131, 132, 133, 134, 135, 8, 9, 136, 137, 138, 139, 140, 141, 142, 143, 144, 145, 146, 147, 148, 149, 150, 151, 152, 153, 154, 155, 156, 157, 158, 159, 160, 161, 162, 163, 164, 165, 166, 167, 168, 169, 170, 171, 172, 173, 174, 175, 176, 177, 178, 179, 180, 181, 182, 183] (by decide +kernel) (by decide +kernel)
set_option maxRecDepth 20000 in
theorem gX8_statement_X8_cardPart : GoodIn wsX8_statement (wsV RX8 192 RX8 yX8_cardPart wsX8_cardPart) := goodIn_app (goodIn_of _ (by decide +kernel)) ggX8_statement_X8_cardPart
set_option maxRecDepth 20000 in
theorem ggX8_statement_X8_fails : GoodIn wsX8_statement wsX8_fails := goodIn_r _ [90, 82, 1, 91, 161, 162, 163, 164, 165, 166, 167, 168, 169, 170, 171, 172, 173, 174, 175, 176, 177, 178, 179, 180, 181, 182, 183] (by decide +kernel) (by decide +kernel)
set_option maxRecDepth 20000 in
theorem gX8_statement_X8_fails : GoodIn wsX8_statement (wsV RX8 100 RX8 yX8_fails wsX8_fails) := goodIn_app (goodIn_of _ (by decide +kernel)) ggX8_statement_X8_fails
theorem dX8_statement_0 : decode cX8_statement 0 = .ok (.aload_n 0, 1) := by decide +kernel
theorem dX8_statement_1 : decode cX8_statement 1 = .ok (.invokevirtual 140, 3) := by decide +kernel
theorem dX8_statement_4 : decode cX8_statement 4 = .ok (.aload_n 0, 1) := by decide +kernel
theorem dX8_statement_5 : decode cX8_statement 5 = .ok (.aload_n 0, 1) := by decide +kernel
theorem dX8_statement_6 : decode cX8_statement 6 = .ok (.getfield 72, 3) := by decide +kernel
theorem dX8_statement_9 : decode cX8_statement 9 = .ok (.putfield 137, 3) := by decide +kernel
theorem dX8_statement_12 : decode cX8_statement 12 = .ok (.aload_n 0, 1) := by decide +kernel
theorem dX8_statement_13 : decode cX8_statement 13 = .ok (.ldc 169, 2) := by decide +kernel
theorem dX8_statement_15 : decode cX8_statement 15 = .ok (.invokevirtual 145, 3) := by decide +kernel
theorem dX8_statement_18 : decode cX8_statement 18 = .ok (.ifCond .eq 11, 3) := by decide +kernel
theorem dX8_statement_21 : decode cX8_statement 21 = .ok (.aload_n 0, 1) := by decide +kernel
theorem dX8_statement_22 : decode cX8_statement 22 = .ok (.iconst 0, 1) := by decide +kernel
theorem dX8_statement_23 : decode cX8_statement 23 = .ok (.invokevirtual 171, 3) := by decide +kernel
theorem dX8_statement_26 : decode cX8_statement 26 = .ok (.goto 107, 3) := by decide +kernel
theorem dX8_statement_29 : decode cX8_statement 29 = .ok (.aload_n 0, 1) := by decide +kernel
theorem dX8_statement_30 : decode cX8_statement 30 = .ok (.ldc 174, 2) := by decide +kernel
theorem dX8_statement_32 : decode cX8_statement 32 = .ok (.invokevirtual 145, 3) := by decide +kernel
theorem dX8_statement_35 : decode cX8_statement 35 = .ok (.ifCond .eq 11, 3) := by decide +kernel
theorem dX8_statement_38 : decode cX8_statement 38 = .ok (.aload_n 0, 1) := by decide +kernel
theorem dX8_statement_39 : decode cX8_statement 39 = .ok (.iconst 1, 1) := by decide +kernel
theorem dX8_statement_40 : decode cX8_statement 40 = .ok (.invokevirtual 171, 3) := by decide +kernel
theorem dX8_statement_43 : decode cX8_statement 43 = .ok (.goto 90, 3) := by decide +kernel
theorem dX8_statement_46 : decode cX8_statement 46 = .ok (.aload_n 0, 1) := by decide +kernel
theorem dX8_statement_47 : decode cX8_statement 47 = .ok (.ldc 176, 2) := by decide +kernel
theorem dX8_statement_49 : decode cX8_statement 49 = .ok (.invokevirtual 145, 3) := by decide +kernel
theorem dX8_statement_52 : decode cX8_statement 52 = .ok (.ifCond .eq 11, 3) := by decide +kernel
theorem dX8_statement_55 : decode cX8_statement 55 = .ok (.aload_n 0, 1) := by decide +kernel
theorem dX8_statement_56 : decode cX8_statement 56 = .ok (.iconst 2, 1) := by decide +kernel
theorem dX8_statement_57 : decode cX8_statement 57 = .ok (.invokevirtual 171, 3) := by decide +kernel
theorem dX8_statement_60 : decode cX8_statement 60 = .ok (.goto 73, 3) := by decide +kernel
theorem dX8_statement_63 : decode cX8_statement 63 = .ok (.aload_n 0, 1) := by decide +kernel
theorem dX8_statement_64 : decode cX8_statement 64 = .ok (.ldc 178, 2) := by decide +kernel
theorem dX8_statement_66 : decode cX8_statement 66 = .ok (.invokevirtual 145, 3) := by decide +kernel
theorem dX8_statement_69 : decode cX8_statement 69 = .ok (.ifCond .eq 11, 3) := by decide +kernel
theorem dX8_statement_72 : decode cX8_statement 72 = .ok (.aload_n 0, 1) := by decide +kernel
theorem dX8_statement_73 : decode cX8_statement 73 = .ok (.iconst 3, 1) := by decide +kernel
theorem dX8_statement_74 : decode cX8_statement 74 = .ok (.invokevirtual 171, 3) := by decide +kernel
theorem dX8_statement_77 : decode cX8_statement 77 = .ok (.goto 56, 3) := by decide +kernel
theorem dX8_statement_80 : decode cX8_statement 80 = .ok (.aload_n 0, 1) := by decide +kernel
theorem dX8_statement_81 : decode cX8_statement 81 = .ok (.ldc 180, 2) := by decide +kernel
theorem dX8_statement_83 : decode cX8_statement 83 = .ok (.invokevirtual 145, 3) := by decide +kernel
theorem dX8_statement_86 : decode cX8_statement 86 = .ok (.ifCond .eq 10, 3) := by decide +kernel
theorem dX8_statement_89 : decode cX8_statement 89 = .ok (.aload_n 0, 1) := by decide +kernel
theorem dX8_statement_90 : decode cX8_statement 90 = .ok (.invokevirtual 182, 3) := by decide +kernel
theorem dX8_statement_93 : decode cX8_statement 93 = .ok (.goto 40, 3) := by decide +kernel
theorem dX8_statement_96 : decode cX8_statement 96 = .ok (.aload_n 0, 1) := by decide +kernel
theorem dX8_statement_97 : decode cX8_statement 97 = .ok (.ldc 185, 2) := by decide +kernel
theorem dX8_statement_99 : decode cX8_statement 99 = .ok (.invokevirtual 145, 3) := by decide +kernel
theorem dX8_statement_102 : decode cX8_statement 102 = .ok (.ifCond .eq 10, 3) := by decide +kernel
theorem dX8_statement_105 : decode cX8_statement 105 = .ok (.aload_n 0, 1) := by decide +kernel
theorem dX8_statement_106 : decode cX8_statement 106 = .ok (.invokevirtual 187, 3) := by decide +kernel
theorem dX8_statement_109 : decode cX8_statement 109 = .ok (.goto 24, 3) := by decide +kernel
theorem dX8_statement_112 : decode cX8_statement 112 = .ok (.aload_n 0, 1) := by decide +kernel
theorem dX8_statement_113 : decode cX8_statement 113 = .ok (.ldc 190, 2) := by decide +kernel
theorem dX8_statement_115 : decode cX8_statement 115 = .ok (.invokevirtual 145, 3) := by decide +kernel
theorem dX8_statement_118 : decode cX8_statement 118 = .ok (.ifCond .eq 10, 3) := by decide +kernel
theorem dX8_statement_121 : decode cX8_statement 121 = .ok (.aload_n 0, 1) := by decide +kernel
theorem dX8_statement_122 : decode cX8_statement 122 = .ok (.invokevirtual 192, 3) := by decide +kernel
theorem dX8_statement_125 : decode cX8_statement 125 = .ok (.goto 8, 3) := by decide +kernel
theorem dX8_statement_128 : decode cX8_statement 128 = .ok (.aload_n 0, 1) := by decide +kernel
theorem dX8_statement_129 : decode cX8_statement 129 = .ok (.iconst 1, 1) := by decide +kernel
theorem dX8_statement_130 : decode cX8_statement 130 = .ok (.invokevirtual 100, 3) := by decide +kernel
theorem dX8_statement_133 : decode cX8_statement 133 = .ok (.return_, 1) := by decide +kernel
set_option maxRecDepth 20000 in
theorem ggX8_isMore_X8_next : GoodIn wsX8_isMore wsX8_next := goodIn_r _ [8, 2, 9, 10, 11, 12, 7, 13, 14, 15, 21, 22, 23, 24, 25, 26, 27, 28, 29, 30, 31, 32, 33, 34, 35, 36, 37, 38, 39, 40, 41, 42, 43] (by decide +kernel) (by decide +kernel)
set_option maxRecDepth 20000 in
theorem gX8_isMore_X8_next : GoodIn wsX8_isMore (wsV RX8 81 RX8 yX8_next wsX8_next) := goodIn_app (goodIn_of _ (by decide +kernel)) ggX8_isMore_X8_next
set_option maxRecDepth 20000 in
theorem ggX8_isMore_X8_here : GoodIn wsX8_isMore wsX8_here := goodIn_r _ [13, 2, 14, 15, 21, 22, 23, 24, 25, 26, 27, 28, 29, 30, 31, 32, 33, 34, 35, 36, 37, 38, 39, 40, 41, 42, 43] (by decide +kernel) (by decide +kernel)
set_option maxRecDepth 20000 in
theorem gX8_isMore_X8_here : GoodIn wsX8_isMore (wsV RX8 68 RX8 yX8_here wsX8_here) := goodIn_app (goodIn_of _ (by decide +kernel)) ggX8_isMore_X8_here
set_option maxRecDepth 20000 in
theorem ggX8_isMore_X8_fails : GoodIn wsX8_isMore wsX8_fails := goodIn_r _ [19, 1, 9, 20, 21, 22, 23, 24, 25, 26, 27, 28, 29, 30, 31, 32, 33, 34, 35, 36, 37, 38, 39, 40, 41, 42, 43] (by decide +kernel) (by decide +kernel)
set_option maxRecDepth 20000 in
theorem gX8_isMore_X8_fails : GoodIn wsX8_isMore (wsV RX8 100 RX8 yX8_fails wsX8_fails) := goodIn_app (goodIn_of _ (by decide +kernel)) ggX8_isMore_X8_fails
theorem dX8_isMore_0 : decode cX8_isMore 0 = .ok (.aload_n 0, 1) := by decide +kernel
theorem dX8_isMore_1 : decode cX8_isMore 1 = .ok (.getfield 75, 3) := by decide +kernel
theorem dX8_isMore_4 : decode cX8_isMore 4 = .ok (.ifCond .ne 10, 3) := by decide +kernel
theorem dX8_isMore_7 : decode cX8_isMore 7 = .ok (.aload_n 0, 1) := by decide +kernel
theorem dX8_isMore_8 : decode cX8_isMore 8 = .ok (.invokevirtual 81, 3) := by decide +kernel
theorem dX8_isMore_11 : decode cX8_isMore 11 = .ok (.ifCond .ge 5, 3) := by decide +kernel
theorem dX8_isMore_14 : decode cX8_isMore 14 = .ok (.iconst 0, 1) := by decide +kernel
theorem dX8_isMore_15 : decode cX8_isMore 15 = .ok (.ireturn, 1) := by decide +kernel
theorem dX8_isMore_16 : decode cX8_isMore 16 = .ok (.aload_n 0, 1) := by decide +kernel
theorem dX8_isMore_17 : decode cX8_isMore 17 = .ok (.invokevirtual 68, 3) := by decide +kernel
theorem dX8_isMore_20 : decode cX8_isMore 20 = .ok (.bipush 59, 2) := by decide +kernel
theorem dX8_isMore_22 : decode cX8_isMore 22 = .ok (.if_icmp .eq 10, 3) := by decide +kernel
theorem dX8_isMore_25 : decode cX8_isMore 25 = .ok (.aload_n 0, 1) := by decide +kernel
theorem dX8_isMore_26 : decode cX8_isMore 26 = .ok (.iconst 1, 1) := by decide +kernel
theorem dX8_isMore_27 : decode cX8_isMore 27 = .ok (.invokevirtual 100, 3) := by decide +kernel
theorem dX8_isMore_30 : decode cX8_isMore 30 = .ok (.iconst 0, 1) := by decide +kernel
theorem dX8_isMore_31 : decode cX8_isMore 31 = .ok (.ireturn, 1) := by decide +kernel
theorem dX8_isMore_32 : decode cX8_isMore 32 = .ok (.aload_n 0, 1) := by decide +kernel
theorem dX8_isMore_33 : decode cX8_isMore 33 = .ok (.dup, 1) := by decide +kernel
theorem dX8_isMore_34 : decode cX8_isMore 34 = .ok (.getfield 65, 3) := by decide +kernel
theorem dX8_isMore_37 : decode cX8_isMore 37 = .ok (.iconst 1, 1) := by decide +kernel
theorem dX8_isMore_38 : decode cX8_isMore 38 = .ok (.iadd, 1) := by decide +kernel
theorem dX8_isMore_39 : decode cX8_isMore 39 = .ok (.putfield 65, 3) := by decide +kernel
theorem dX8_isMore_42 : decode cX8_isMore 42 = .ok (.aload_n 0, 1) := by decide +kernel
theorem dX8_isMore_43 : decode cX8_isMore 43 = .ok (.dup, 1) := by decide +kernel
theorem dX8_isMore_44 : decode cX8_isMore 44 = .ok (.getfield 195, 3) := by decide +kernel
theorem dX8_isMore_47 : decode cX8_isMore 47 = .ok (.iconst 1, 1) := by decide +kernel
theorem dX8_isMore_48 : decode cX8_isMore 48 = .ok (.iadd, 1) := by decide +kernel
theorem dX8_isMore_49 : decode cX8_isMore 49 = .ok (.putfield 195, 3) := by decide +kernel
theorem dX8_isMore_52 : decode cX8_isMore 52 = .ok (.iconst 1, 1) := by decide +kernel
theorem dX8_isMore_53 : decode cX8_isMore 53 = .ok (.ireturn, 1) := by decide +kernel
theorem dX8_starts_0 : decode cX8_starts 0 = .ok (.aload_n 0, 1) := by decide +kernel
theorem dX8_starts_1 : decode cX8_starts 1 = .ok (.iconst 0, 1) := by decide +kernel
theorem dX8_starts_2 : decode cX8_starts 2 = .ok (.putfield 49, 3) := by decide +kernel
theorem dX8_starts_5 : decode cX8_starts 5 = .ok (.aload_n 0, 1) := by decide +kernel
theorem dX8_starts_6 : decode cX8_starts 6 = .ok (.iconst 0, 1) := by decide +kernel
theorem dX8_starts_7 : decode cX8_starts 7 = .ok (.putfield 65, 3) := by decide +kernel
theorem dX8_starts_10 : decode cX8_starts 10 = .ok (.aload_n 0, 1) := by decide +kernel
theorem dX8_starts_11 : decode cX8_starts 11 = .ok (.iconst 0, 1) := by decide +kernel
theorem dX8_starts_12 : decode cX8_starts 12 = .ok (.putfield 75, 3) := by decide +kernel
theorem dX8_starts_15 : decode cX8_starts 15 = .ok (.aload_n 0, 1) := by decide +kernel
theorem dX8_starts_16 : decode cX8_starts 16 = .ok (.iconst 0, 1) := by decide +kernel
theorem dX8_starts_17 : decode cX8_starts 17 = .ok (.putfield 195, 3) := by decide +kernel
theorem dX8_starts_20 : decode cX8_starts 20 = .ok (.return_, 1) := by decide +kernel
theorem dX8_settles_0 : decode cX8_settles 0 = .ok (.aload_n 0, 1) := by decide +kernel
theorem dX8_settles_1 : decode cX8_settles 1 = .ok (.iconst 0, 1) := by decide +kernel
theorem dX8_settles_2 : decode cX8_settles 2 = .ok (.putfield 62, 3) := by decide +kernel
theorem dX8_settles_5 : decode cX8_settles 5 = .ok (.aload_n 0, 1) := by decide +kernel
theorem dX8_settles_6 : decode cX8_settles 6 = .ok (.aload_n 0, 1) := by decide +kernel
theorem dX8_settles_7 : decode cX8_settles 7 = .ok (.getfield 75, 3) := by decide +kernel
theorem dX8_settles_10 : decode cX8_settles 10 = .ok (.putfield 198, 3) := by decide +kernel
theorem dX8_settles_13 : decode cX8_settles 13 = .ok (.aload_n 0, 1) := by decide +kernel
theorem dX8_settles_14 : decode cX8_settles 14 = .ok (.aload_n 0, 1) := by decide +kernel
theorem dX8_settles_15 : decode cX8_settles 15 = .ok (.getfield 75, 3) := by decide +kernel
theorem dX8_settles_18 : decode cX8_settles 18 = .ok (.ifCond .ne 7, 3) := by decide +kernel
theorem dX8_settles_21 : decode cX8_settles 21 = .ok (.iconst (-1), 1) := by decide +kernel
theorem dX8_settles_22 : decode cX8_settles 22 = .ok (.goto 7, 3) := by decide +kernel
theorem dX8_settles_25 : decode cX8_settles 25 = .ok (.aload_n 0, 1) := by decide +kernel
theorem dX8_settles_26 : decode cX8_settles 26 = .ok (.getfield 195, 3) := by decide +kernel
theorem dX8_settles_29 : decode cX8_settles 29 = .ok (.putfield 30, 3) := by decide +kernel
theorem dX8_settles_32 : decode cX8_settles 32 = .ok (.return_, 1) := by decide +kernel
set_option maxRecDepth 20000 in
theorem ggX8_load_X8_starts : GoodIn wsX8_load wsX8_starts := goodIn_r _ [10, 11, 12, 3, 13, 194, 195, 196, 197, 198, 199, 200, 201, 202, 203, 204, 205, 206, 207, 208, 209, 210, 211, 212, 213, 214, 215, 216] (by decide +kernel) (by decide +kernel)
set_option maxRecDepth 20000 in
theorem gX8_load_X8_starts : GoodIn wsX8_load (wsV RX8 201 RX8 yX8_starts wsX8_starts) := goodIn_app (goodIn_of _ (by decide +kernel)) ggX8_load_X8_starts
set_option maxRecDepth 20000 in
theorem ggX8_load_X8_copies : GoodIn wsX8_load wsX8_copies := goodIn_r _ [16] (by decide +kernel) (by decide +kernel)
set_option maxRecDepth 20000 in
theorem gX8_load_X8_copies : GoodIn wsX8_load (va_wsS RX8 204 yX8_copies wsX8_copies) := goodIn_app (goodIn_of _ (by decide +kernel)) ggX8_load_X8_copies
set_option maxRecDepth 20000 in
theorem ggX8_load_X8_begins : GoodIn wsX8_load wsX8_begins := goodIn_r _ [20, 1, 194, 195, 196, 197, 198, 199, 200, 201, 202, 203, 204, 205, 206, 207, 208, 209, 210, 211, 212, 213, 214, 215, 216] (by decide +kernel) (by decide +kernel)
set_option maxRecDepth 20000 in
theorem gX8_load_X8_begins : GoodIn wsX8_load (wsV RX8 46 RX8 yX8_begins wsX8_begins) := goodIn_app (goodIn_of _ (by decide +kernel)) ggX8_load_X8_begins
set_option maxRecDepth 20000 in
theorem ggX8_load_X8_linePart : GoodIn wsX8_load wsX8_linePart := goodIn_r _ [24, 1, 25, 26, 27, 9, 28, 29, 30, 12, 31, 32, 33, 34, 35, 36, 37, 38, 39, 40, 41, 42, 43, 44, 45, 46, 47, 48, 49, 50, 51, 52, 53, 54, 55, 56, 57, 58, 59, 60, 61, 62, 63, 64, 65, 66, 67, 68, 69, 70, 71, 72, 73, 74, 75, 76, 77, 78, 79, 80, 81, 82, 83, 84, 85, 86, 87, 88, 89, 90, 91, 92, 93, 94, 95, 96, 97, 98, 99, 100, 101, 3, 4, 102, 103, 104, 105, 106, 107, 108, 109, 110, 111, 112, 194, 195, 196, 197, 198, 199, 200, 201, 202, 203, 204, 205, 206, 207, 208, 209, 210, 211, 212, 213, 214, 215, 216, 217, 218, 219, 220] (by decide +kernel) (by decide +kernel)
set_option maxRecDepth 20000 in
theorem gX8_load_X8_linePart : GoodIn wsX8_load (wsV RX8 207 RX8 yX8_linePart wsX8_linePart) := goodIn_app (goodIn_of _ (by decide +kernel)) ggX8_load_X8_linePart
set_option maxRecDepth 20000 in
theorem ggX8_load_X8_isMore : GoodIn wsX8_load wsX8_isMore := goodIn_r _ [116, 3, 12, 13, 31, 32, 33, 9, 34, 35, 36, 37, 38, 39, 40, 41, 98, 99, 100, 101, 4, 194, 195, 196, 197, 198, 199, 200, 201, 202, 203, 204, 205, 206, 207, 208, 209, 210, 211, 212, 213, 214, 215, 216] (by decide +kernel) (by decide +kernel)
set_option maxRecDepth 20000 in
theorem gX8_load_X8_isMore : GoodIn wsX8_load (wsV RX8 210 RX8 yX8_isMore wsX8_isMore) := goodIn_app (goodIn_of _ (by decide +kernel)) ggX8_load_X8_isMore
set_option maxRecDepth 20000 in
theorem ggX8_load_X8_statement : GoodIn wsX8_load wsX8_statement := goodIn_r _ [120, 35, 121, 25, 26, 27, 9, 28, 29, 30, 12, 31, 32, 33, 34, 36, 37, 38, 39, 40, 41, 42, 43, 44, 45, 46, 47, 48, 49, 50, 51, 52, 53, 54, 55, 56, 57, 58, 59, 60, 61, 62, 63, 64, 65, 66, 67, 68, 69, 70, 71, 72, 73, 74, 75, 76, 77, 78, 79, 80, 81, 82, 83, 84, 85, 86, 87, 88, 89, 90, 91, 92, 93, 94, 95, 96, 97, 122, 123, 124, 125, 1, 3, 126, 127, 128, 129, 98, 99, 100, 101, 4, 130, 131, 132, 133, 134, 135, 136, 102, 103, 104, 105, 106, 107, 108, 109, 110, 111, 112, 137, 138, 139, 140, 141, 142, 143, 144, 145, 146, 147, 148, 149, 150, 151, 152, 153, 154, 155, 156, 157, 158, 159, 160, 161, 162, 163, 164, 165, 166, 167, 168, 169, 170, 171, 172, 173, 174, 175, 176, 177, 178, 179, 180, 181, 182, 183, 184, 185, 186, 187, 194, 195, 196, 197, 198, 199, 200, 201, 202, 203, 204, 205, 206, 207, 208, 209, 210, 211, 212, 213, 214, 215, 216, 217, 218, 219, 220] (by decide +kernel) (by decide +kernel)
set_option maxRecDepth 20000 in
theorem gX8_load_X8_statement : GoodIn wsX8_load (wsV RX8 214 RX8 yX8_statement wsX8_statement) := goodIn_app (goodIn_of _ (by decide +kernel)) ggX8_load_X8_statement
set_option maxRecDepth 20000 in
theorem ggX8_load_X8_settles : GoodIn wsX8_load wsX8_settles := goodIn_r _ [191, 40, 3, 192, 13, 193, 194, 195, 196, 197, 198, 199, 200, 201, 202, 203, 204, 205, 206, 207, 208, 209, 210, 211, 212, 213, 214, 215, 216] (by decide +kernel) (by decide +kernel)
set_option maxRecDepth 20000 in
theorem gX8_load_X8_settles : GoodIn wsX8_load (wsV RX8 216 RX8 yX8_settles wsX8_settles) := goodIn_app (goodIn_of _ (by decide +kernel)) ggX8_load_X8_settles
theorem dX8_load_0 : decode cX8_load 0 = .ok (.aload_n 0, 1) := by decide +kernel
theorem dX8_load_1 : decode cX8_load 1 = .ok (.invokevirtual 201, 3) := by decide +kernel
theorem dX8_load_4 : decode cX8_load 4 = .ok (.aload_n 0, 1) := by decide +kernel
theorem dX8_load_5 : decode cX8_load 5 = .ok (.getfield 9, 3) := by decide +kernel
theorem dX8_load_8 : decode cX8_load 8 = .ok (.iconst 0, 1) := by decide +kernel
theorem dX8_load_9 : decode cX8_load 9 = .ok (.aload_n 0, 1) := by decide +kernel
theorem dX8_load_10 : decode cX8_load 10 = .ok (.getfield 13, 3) := by decide +kernel
theorem dX8_load_13 : decode cX8_load 13 = .ok (.iconst 0, 1) := by decide +kernel
theorem dX8_load_14 : decode cX8_load 14 = .ok (.invokestatic 204, 3) := by decide +kernel
theorem dX8_load_17 : decode cX8_load 17 = .ok (.aload_n 0, 1) := by decide +kernel
theorem dX8_load_18 : decode cX8_load 18 = .ok (.invokevirtual 46, 3) := by decide +kernel
theorem dX8_load_21 : decode cX8_load 21 = .ok (.aload_n 0, 1) := by decide +kernel
theorem dX8_load_22 : decode cX8_load 22 = .ok (.invokevirtual 207, 3) := by decide +kernel
theorem dX8_load_25 : decode cX8_load 25 = .ok (.aload_n 0, 1) := by decide +kernel
theorem dX8_load_26 : decode cX8_load 26 = .ok (.invokevirtual 210, 3) := by decide +kernel
theorem dX8_load_29 : decode cX8_load 29 = .ok (.ifCond .eq 10, 3) := by decide +kernel
theorem dX8_load_32 : decode cX8_load 32 = .ok (.aload_n 0, 1) := by decide +kernel
theorem dX8_load_33 : decode cX8_load 33 = .ok (.invokevirtual 214, 3) := by decide +kernel
theorem dX8_load_36 : decode cX8_load 36 = .ok (.goto (-11), 3) := by decide +kernel
theorem dX8_load_39 : decode cX8_load 39 = .ok (.aload_n 0, 1) := by decide +kernel
theorem dX8_load_40 : decode cX8_load 40 = .ok (.invokevirtual 216, 3) := by decide +kernel
theorem dX8_load_43 : decode cX8_load 43 = .ok (.aload_n 0, 1) := by decide +kernel
theorem dX8_load_44 : decode cX8_load 44 = .ok (.getfield 75, 3) := by decide +kernel
theorem dX8_load_47 : decode cX8_load 47 = .ok (.ifCond .eq 24, 3) := by decide +kernel
theorem dX8_load_50 : decode cX8_load 50 = .ok (.aload_n 0, 1) := by decide +kernel
theorem dX8_load_51 : decode cX8_load 51 = .ok (.getfield 13, 3) := by decide +kernel
theorem dX8_load_54 : decode cX8_load 54 = .ok (.iconst 0, 1) := by decide +kernel
theorem dX8_load_55 : decode cX8_load 55 = .ok (.aload_n 0, 1) := by decide +kernel
theorem dX8_load_56 : decode cX8_load 56 = .ok (.getfield 9, 3) := by decide +kernel
theorem dX8_load_59 : decode cX8_load 59 = .ok (.iconst 0, 1) := by decide +kernel
theorem dX8_load_60 : decode cX8_load 60 = .ok (.invokestatic 204, 3) := by decide +kernel
theorem dX8_load_63 : decode cX8_load 63 = .ok (.bipush (-100), 2) := by decide +kernel
theorem dX8_load_65 : decode cX8_load 65 = .ok (.aload_n 0, 1) := by decide +kernel
theorem dX8_load_66 : decode cX8_load 66 = .ok (.getfield 78, 3) := by decide +kernel
theorem dX8_load_69 : decode cX8_load 69 = .ok (.isub, 1) := by decide +kernel
theorem dX8_load_70 : decode cX8_load 70 = .ok (.ireturn, 1) := by decide +kernel
theorem dX8_load_71 : decode cX8_load 71 = .ok (.aload_n 0, 1) := by decide +kernel
theorem dX8_load_72 : decode cX8_load 72 = .ok (.iconst 0, 1) := by decide +kernel
theorem dX8_load_73 : decode cX8_load 73 = .ok (.putfield 219, 3) := by decide +kernel
theorem dX8_load_76 : decode cX8_load 76 = .ok (.aload_n 0, 1) := by decide +kernel
theorem dX8_load_77 : decode cX8_load 77 = .ok (.getfield 9, 3) := by decide +kernel
theorem dX8_load_80 : decode cX8_load 80 = .ok (.bipush 7, 2) := by decide +kernel
theorem dX8_load_82 : decode cX8_load 82 = .ok (.iaload, 1) := by decide +kernel
theorem dX8_load_83 : decode cX8_load 83 = .ok (.ireturn, 1) := by decide +kernel
set_option maxRecDepth 20000 in
theorem ggX8_order_X8_isLot : GoodIn wsX8_order wsX8_isLot := goodIn_r _ [10, 2, 11, 12, 9, 13, 101, 102, 103, 104, 105, 106, 107, 108, 109, 110, 111, 112, 113, 114, 115, 116, 117, 118, 119, 120, 121, 122, 123] (by decide +kernel) (by decide +kernel)
set_option maxRecDepth 20000 in
theorem gX8_order_X8_isLot : GoodIn wsX8_order (wsV RX8 222 RX8 yX8_isLot wsX8_isLot) := goodIn_app (goodIn_of _ (by decide +kernel)) ggX8_order_X8_isLot
set_option maxRecDepth 20000 in
theorem ggX8_order_X8_isThrown : GoodIn wsX8_order wsX8_isThrown := goodIn_r _ [17, 18, 101, 102, 103, 104, 105, 106, 107, 108, 109, 110, 111, 112, 113, 114, 115, 116, 117, 118, 119, 120, 121, 122, 123] (by decide +kernel) (by decide +kernel)
set_option maxRecDepth 20000 in
theorem gX8_order_X8_isThrown : GoodIn wsX8_order (wsV RX8 226 RX8 yX8_isThrown wsX8_isThrown) := goodIn_app (goodIn_of _ (by decide +kernel)) ggX8_order_X8_isThrown
set_option maxRecDepth 20000 in
theorem ggX8_order_X8_starts : GoodIn wsX8_order wsX8_starts := goodIn_r _ [22, 18, 23, 1, 24, 101, 102, 103, 104, 105, 106, 107, 108, 109, 110, 111, 112, 113, 114, 115, 116, 117, 118, 119, 120, 121, 122, 123] (by decide +kernel) (by decide +kernel)
set_option maxRecDepth 20000 in
theorem gX8_order_X8_starts : GoodIn wsX8_order (wsV RX8 201 RX8 yX8_starts wsX8_starts) := goodIn_app (goodIn_of _ (by decide +kernel)) ggX8_order_X8_starts
set_option maxRecDepth 20000 in
theorem ggX8_order_X8_text : GoodIn wsX8_order wsX8_text := goodIn_r _ [28, 29, 30, 31, 32, 9, 33, 34, 1, 35, 36, 37, 38, 39, 40, 41, 42, 23, 4, 43, 44, 45, 46, 3, 47, 11, 12, 13, 48, 49, 50, 51, 52, 53, 54, 55, 56, 5, 57, 58, 59, 60, 61, 62, 63, 64, 65, 66, 67, 68, 69, 70, 71, 72, 73, 101, 102, 103, 104, 105, 106, 107, 108, 109, 110, 111, 112, 113, 114, 115, 116, 117, 118, 119, 120, 121, 122, 123] (by decide +kernel) (by decide +kernel)
set_option maxRecDepth 20000 in
theorem gX8_order_X8_text : GoodIn wsX8_order (wsV RX8 163 RX8 yX8_text wsX8_text) := goodIn_app (goodIn_of _ (by decide +kernel)) ggX8_order_X8_text
set_option maxRecDepth 20000 in
theorem ggX8_order_X8_next : GoodIn wsX8_order wsX8_next := goodIn_r _ [42, 23, 4, 43, 44, 45, 9, 46, 3, 47, 101, 102, 103, 104, 105, 106, 107, 108, 109, 110, 111, 112, 113, 114, 115, 116, 117, 118, 119, 120, 121, 122, 123] (by decide +kernel) (by decide +kernel)
set_option maxRecDepth 20000 in
theorem gX8_order_X8_next : GoodIn wsX8_order (wsV RX8 81 RX8 yX8_next wsX8_next) := goodIn_app (goodIn_of _ (by decide +kernel)) ggX8_order_X8_next
set_option maxRecDepth 20000 in
theorem ggX8_order_X8_fails : GoodIn wsX8_order wsX8_fails := goodIn_r _ [56, 1, 4, 5, 101, 102, 103, 104, 105, 106, 107, 108, 109, 110, 111, 112, 113, 114, 115, 116, 117, 118, 119, 120, 121, 122, 123] (by decide +kernel) (by decide +kernel)
set_option maxRecDepth 20000 in
theorem gX8_order_X8_fails : GoodIn wsX8_order (wsV RX8 100 RX8 yX8_fails wsX8_fails) := goodIn_app (goodIn_of _ (by decide +kernel)) ggX8_order_X8_fails
set_option maxRecDepth 20000 in
theorem ggX8_order_X8_settles : GoodIn wsX8_order wsX8_settles := goodIn_r _ [77, 3, 1, 78, 24, 79, 101, 102, 103, 104, 105, 106, 107, 108, 109, 110, 111, 112, 113, 114, 115, 116, 117, 118, 119, 120, 121, 122, 123] (by decide +kernel) (by decide +kernel)
set_option maxRecDepth 20000 in
theorem gX8_order_X8_settles : GoodIn wsX8_order (wsV RX8 216 RX8 yX8_settles wsX8_settles) := goodIn_app (goodIn_of _ (by decide +kernel)) ggX8_order_X8_settles
set_option maxRecDepth 20000 in
theorem ggX8_order_X8_keeps : GoodIn wsX8_order wsX8_keeps := goodIn_r _ [83, 84, 85, 2, 86, 87, 9, 88, 101, 102, 103, 104, 105, 106, 107, 108, 109, 110, 111, 112, 113, 114, 115, 116, 117, 118, 119, 120, 121, 122, 123] (by decide +kernel) (by decide +kernel)
set_option maxRecDepth 20000 in
theorem gX8_order_X8_keeps : GoodIn wsX8_order (wsV RX8 230 RX8 yX8_keeps wsX8_keeps) := goodIn_app (goodIn_of _ (by decide +kernel)) ggX8_order_X8_keeps
set_option maxRecDepth 20000 in
theorem ggX8_order_X8_adds : GoodIn wsX8_order wsX8_adds := goodIn_r _ [92, 2, 29, 52, 93, 94, 95, 9, 96, 97, 98, 99, 100, 101, 102, 103, 104, 105, 106, 107, 108, 109, 110, 111, 112, 113, 114, 115, 116, 117, 118, 119, 120, 121, 122, 123] (by decide +kernel) (by decide +kernel)
set_option maxRecDepth 20000 in
theorem gX8_order_X8_adds : GoodIn wsX8_order (wsV RX8 166 RX8 yX8_adds wsX8_adds) := goodIn_app (goodIn_of _ (by decide +kernel)) ggX8_order_X8_adds
theorem dX8_order_0 : decode cX8_order 0 = .ok (.aload_n 0, 1) := by decide +kernel
theorem dX8_order_1 : decode cX8_order 1 = .ok (.aload_n 0, 1) := by decide +kernel
theorem dX8_order_2 : decode cX8_order 2 = .ok (.iload_n 1, 1) := by decide +kernel
theorem dX8_order_3 : decode cX8_order 3 = .ok (.invokevirtual 222, 3) := by decide +kernel
theorem dX8_order_6 : decode cX8_order 6 = .ok (.iconst 1, 1) := by decide +kernel
theorem dX8_order_7 : decode cX8_order 7 = .ok (.invokevirtual 226, 3) := by decide +kernel
theorem dX8_order_10 : decode cX8_order 10 = .ok (.ifCond .eq 5, 3) := by decide +kernel
theorem dX8_order_13 : decode cX8_order 13 = .ok (.iconst 0, 1) := by decide +kernel
theorem dX8_order_14 : decode cX8_order 14 = .ok (.ireturn, 1) := by decide +kernel
theorem dX8_order_15 : decode cX8_order 15 = .ok (.aload_n 0, 1) := by decide +kernel
theorem dX8_order_16 : decode cX8_order 16 = .ok (.invokevirtual 201, 3) := by decide +kernel
theorem dX8_order_19 : decode cX8_order 19 = .ok (.aload_n 0, 1) := by decide +kernel
theorem dX8_order_20 : decode cX8_order 20 = .ok (.invokevirtual 163, 3) := by decide +kernel
theorem dX8_order_23 : decode cX8_order 23 = .ok (.aload_n 0, 1) := by decide +kernel
theorem dX8_order_24 : decode cX8_order 24 = .ok (.getfield 75, 3) := by decide +kernel
theorem dX8_order_27 : decode cX8_order 27 = .ok (.ifCond .ne 15, 3) := by decide +kernel
theorem dX8_order_30 : decode cX8_order 30 = .ok (.aload_n 0, 1) := by decide +kernel
theorem dX8_order_31 : decode cX8_order 31 = .ok (.invokevirtual 81, 3) := by decide +kernel
theorem dX8_order_34 : decode cX8_order 34 = .ok (.ifCond .lt 8, 3) := by decide +kernel
theorem dX8_order_37 : decode cX8_order 37 = .ok (.aload_n 0, 1) := by decide +kernel
theorem dX8_order_38 : decode cX8_order 38 = .ok (.iconst 1, 1) := by decide +kernel
theorem dX8_order_39 : decode cX8_order 39 = .ok (.invokevirtual 100, 3) := by decide +kernel
theorem dX8_order_42 : decode cX8_order 42 = .ok (.aload_n 0, 1) := by decide +kernel
theorem dX8_order_43 : decode cX8_order 43 = .ok (.getfield 75, 3) := by decide +kernel
theorem dX8_order_46 : decode cX8_order 46 = .ok (.ifCond .ne 28, 3) := by decide +kernel
theorem dX8_order_49 : decode cX8_order 49 = .ok (.aload_n 0, 1) := by decide +kernel
theorem dX8_order_50 : decode cX8_order 50 = .ok (.getfield 9, 3) := by decide +kernel
theorem dX8_order_53 : decode cX8_order 53 = .ok (.bipush 9, 2) := by decide +kernel
theorem dX8_order_55 : decode cX8_order 55 = .ok (.iaload, 1) := by decide +kernel
theorem dX8_order_56 : decode cX8_order 56 = .ok (.bipush 30, 2) := by decide +kernel
theorem dX8_order_58 : decode cX8_order 58 = .ok (.if_icmp .ne 16, 3) := by decide +kernel
theorem dX8_order_61 : decode cX8_order 61 = .ok (.aload_n 0, 1) := by decide +kernel
theorem dX8_order_62 : decode cX8_order 62 = .ok (.aload_n 0, 1) := by decide +kernel
theorem dX8_order_63 : decode cX8_order 63 = .ok (.getfield 62, 3) := by decide +kernel
theorem dX8_order_66 : decode cX8_order 66 = .ok (.putfield 72, 3) := by decide +kernel
theorem dX8_order_69 : decode cX8_order 69 = .ok (.aload_n 0, 1) := by decide +kernel
theorem dX8_order_70 : decode cX8_order 70 = .ok (.iconst 4, 1) := by decide +kernel
theorem dX8_order_71 : decode cX8_order 71 = .ok (.invokevirtual 100, 3) := by decide +kernel
theorem dX8_order_74 : decode cX8_order 74 = .ok (.aload_n 0, 1) := by decide +kernel
theorem dX8_order_75 : decode cX8_order 75 = .ok (.invokevirtual 216, 3) := by decide +kernel
theorem dX8_order_78 : decode cX8_order 78 = .ok (.aload_n 0, 1) := by decide +kernel
theorem dX8_order_79 : decode cX8_order 79 = .ok (.getfield 75, 3) := by decide +kernel
theorem dX8_order_82 : decode cX8_order 82 = .ok (.ifCond .eq 11, 3) := by decide +kernel
theorem dX8_order_85 : decode cX8_order 85 = .ok (.bipush (-100), 2) := by decide +kernel
theorem dX8_order_87 : decode cX8_order 87 = .ok (.aload_n 0, 1) := by decide +kernel
theorem dX8_order_88 : decode cX8_order 88 = .ok (.getfield 78, 3) := by decide +kernel
theorem dX8_order_91 : decode cX8_order 91 = .ok (.isub, 1) := by decide +kernel
theorem dX8_order_92 : decode cX8_order 92 = .ok (.ireturn, 1) := by decide +kernel
theorem dX8_order_93 : decode cX8_order 93 = .ok (.aload_n 0, 1) := by decide +kernel
theorem dX8_order_94 : decode cX8_order 94 = .ok (.invokevirtual 230, 3) := by decide +kernel
theorem dX8_order_97 : decode cX8_order 97 = .ok (.aload_n 0, 1) := by decide +kernel
theorem dX8_order_98 : decode cX8_order 98 = .ok (.iload_n 1, 1) := by decide +kernel
theorem dX8_order_99 : decode cX8_order 99 = .ok (.invokevirtual 166, 3) := by decide +kernel
theorem dX8_order_102 : decode cX8_order 102 = .ok (.aload_n 0, 1) := by decide +kernel
theorem dX8_order_103 : decode cX8_order 103 = .ok (.getfield 9, 3) := by decide +kernel
theorem dX8_order_106 : decode cX8_order 106 = .ok (.bipush 9, 2) := by decide +kernel
theorem dX8_order_108 : decode cX8_order 108 = .ok (.iaload, 1) := by decide +kernel
theorem dX8_order_109 : decode cX8_order 109 = .ok (.iconst 1, 1) := by decide +kernel
theorem dX8_order_110 : decode cX8_order 110 = .ok (.isub, 1) := by decide +kernel
theorem dX8_order_111 : decode cX8_order 111 = .ok (.ireturn, 1) := by decide +kernel
theorem dX8_loadError_0 : decode cX8_loadError 0 = .ok (.aload_n 0, 1) := by decide +kernel
theorem dX8_loadError_1 : decode cX8_loadError 1 = .ok (.iconst 0, 1) := by decide +kernel
theorem dX8_loadError_2 : decode cX8_loadError 2 = .ok (.putfield 49, 3) := by decide +kernel
theorem dX8_loadError_5 : decode cX8_loadError 5 = .ok (.aload_n 0, 1) := by decide +kernel
theorem dX8_loadError_6 : decode cX8_loadError 6 = .ok (.getfield 198, 3) := by decide +kernel
theorem dX8_loadError_9 : decode cX8_loadError 9 = .ok (.ireturn, 1) := by decide +kernel
theorem dX8_loadStatement_0 : decode cX8_loadStatement 0 = .ok (.aload_n 0, 1) := by decide +kernel
theorem dX8_loadStatement_1 : decode cX8_loadStatement 1 = .ok (.iconst 0, 1) := by decide +kernel
theorem dX8_loadStatement_2 : decode cX8_loadStatement 2 = .ok (.putfield 49, 3) := by decide +kernel
theorem dX8_loadStatement_5 : decode cX8_loadStatement 5 = .ok (.aload_n 0, 1) := by decide +kernel
theorem dX8_loadStatement_6 : decode cX8_loadStatement 6 = .ok (.getfield 30, 3) := by decide +kernel
theorem dX8_loadStatement_9 : decode cX8_loadStatement 9 = .ok (.ireturn, 1) := by decide +kernel
set_option maxRecDepth 20000 in
theorem ggX8_inState_X8_ofCard : GoodIn wsX8_inState wsX8_ofCard := goodIn_r _ [6, 1, 7, 8, 9, 10, 11, 12, 13, 14, 15, 16, 17, 18, 19, 20, 21, 22, 23, 24, 25, 26, 27, 28, 29] (by decide +kernel) (by decide +kernel)
set_option maxRecDepth 20000 in
theorem gX8_inState_X8_ofCard : GoodIn wsX8_inState (wsV RX8 233 RX8 yX8_ofCard wsX8_ofCard) := goodIn_app (goodIn_of _ (by decide +kernel)) ggX8_inState_X8_ofCard
theorem dX8_inState_0 : decode cX8_inState 0 = .ok (.iconst 0, 1) := by decide +kernel
theorem dX8_inState_1 : decode cX8_inState 1 = .ok (.istore_n 2, 1) := by decide +kernel
theorem dX8_inState_2 : decode cX8_inState 2 = .ok (.iconst 0, 1) := by decide +kernel
theorem dX8_inState_3 : decode cX8_inState 3 = .ok (.istore_n 3, 1) := by decide +kernel
theorem dX8_inState_4 : decode cX8_inState 4 = .ok (.iload_n 3, 1) := by decide +kernel
theorem dX8_inState_5 : decode cX8_inState 5 = .ok (.aload_n 0, 1) := by decide +kernel
theorem dX8_inState_6 : decode cX8_inState 6 = .ok (.getfield 9, 3) := by decide +kernel
theorem dX8_inState_9 : decode cX8_inState 9 = .ok (.bipush 9, 2) := by decide +kernel
theorem dX8_inState_11 : decode cX8_inState 11 = .ok (.iaload, 1) := by decide +kernel
theorem dX8_inState_12 : decode cX8_inState 12 = .ok (.if_icmp .ge 27, 3) := by decide +kernel
theorem dX8_inState_15 : decode cX8_inState 15 = .ok (.iload_n 2, 1) := by decide +kernel
theorem dX8_inState_16 : decode cX8_inState 16 = .ok (.aload_n 0, 1) := by decide +kernel
theorem dX8_inState_17 : decode cX8_inState 17 = .ok (.iload_n 3, 1) := by decide +kernel
theorem dX8_inState_18 : decode cX8_inState 18 = .ok (.iconst 3, 1) := by decide +kernel
theorem dX8_inState_19 : decode cX8_inState 19 = .ok (.invokevirtual 233, 3) := by decide +kernel
theorem dX8_inState_22 : decode cX8_inState 22 = .ok (.iload_n 1, 1) := by decide +kernel
theorem dX8_inState_23 : decode cX8_inState 23 = .ok (.if_icmp .ne 7, 3) := by decide +kernel
theorem dX8_inState_26 : decode cX8_inState 26 = .ok (.iconst 1, 1) := by decide +kernel
theorem dX8_inState_27 : decode cX8_inState 27 = .ok (.goto 4, 3) := by decide +kernel
theorem dX8_inState_30 : decode cX8_inState 30 = .ok (.iconst 0, 1) := by decide +kernel
theorem dX8_inState_31 : decode cX8_inState 31 = .ok (.iadd, 1) := by decide +kernel
theorem dX8_inState_32 : decode cX8_inState 32 = .ok (.istore_n 2, 1) := by decide +kernel
theorem dX8_inState_33 : decode cX8_inState 33 = .ok (.iinc 3 1, 3) := by decide +kernel
theorem dX8_inState_36 : decode cX8_inState 36 = .ok (.goto (-32), 3) := by decide +kernel
theorem dX8_inState_39 : decode cX8_inState 39 = .ok (.iload_n 2, 1) := by decide +kernel
theorem dX8_inState_40 : decode cX8_inState 40 = .ok (.ireturn, 1) := by decide +kernel
set_option maxRecDepth 20000 in
theorem ggX8_count_X8_in : GoodIn wsX8_count wsX8_in := goodIn_r _ [7] (by decide +kernel) (by decide +kernel)
set_option maxRecDepth 20000 in
theorem gX8_count_X8_in : GoodIn wsX8_count (va_wsS RX8 52 yX8_in wsX8_in) := goodIn_app (goodIn_of _ (by decide +kernel)) ggX8_count_X8_in
set_option maxRecDepth 20000 in
theorem ggX8_count_X8_isThrown : GoodIn wsX8_count wsX8_isThrown := goodIn_r _ [11, 12, 21, 22, 23, 24, 25, 26, 27, 28, 29, 30, 31, 32, 33, 34, 35, 36, 37, 38, 39, 40, 41, 42, 43] (by decide +kernel) (by decide +kernel)
set_option maxRecDepth 20000 in
theorem gX8_count_X8_isThrown : GoodIn wsX8_count (wsV RX8 226 RX8 yX8_isThrown wsX8_isThrown) := goodIn_app (goodIn_of _ (by decide +kernel)) ggX8_count_X8_isThrown
set_option maxRecDepth 20000 in
theorem ggX8_count_X8_inState : GoodIn wsX8_count wsX8_inState := goodIn_r _ [16, 2, 17, 18, 19, 6, 20, 21, 22, 23, 24, 25, 26, 27, 28, 29, 30, 31, 32, 33, 34, 35, 36, 37, 38, 39, 40, 41, 42, 43] (by decide +kernel) (by decide +kernel)
set_option maxRecDepth 20000 in
theorem gX8_count_X8_inState : GoodIn wsX8_count (wsV RX8 238 RX8 yX8_inState wsX8_inState) := goodIn_app (goodIn_of _ (by decide +kernel)) ggX8_count_X8_inState
theorem dX8_count_0 : decode cX8_count 0 = .ok (.aload_n 0, 1) := by decide +kernel
theorem dX8_count_1 : decode cX8_count 1 = .ok (.iload_n 1, 1) := by decide +kernel
theorem dX8_count_2 : decode cX8_count 2 = .ok (.i2l, 1) := by decide +kernel
theorem dX8_count_3 : decode cX8_count 3 = .ok (.lconst 0, 1) := by decide +kernel
theorem dX8_count_4 : decode cX8_count 4 = .ok (.ldc2_w 236, 3) := by decide +kernel
theorem dX8_count_7 : decode cX8_count 7 = .ok (.invokestatic 52, 3) := by decide +kernel
theorem dX8_count_10 : decode cX8_count 10 = .ok (.iconst 1, 1) := by decide +kernel
theorem dX8_count_11 : decode cX8_count 11 = .ok (.invokevirtual 226, 3) := by decide +kernel
theorem dX8_count_14 : decode cX8_count 14 = .ok (.ifCond .eq 5, 3) := by decide +kernel
theorem dX8_count_17 : decode cX8_count 17 = .ok (.iconst 0, 1) := by decide +kernel
theorem dX8_count_18 : decode cX8_count 18 = .ok (.ireturn, 1) := by decide +kernel
theorem dX8_count_19 : decode cX8_count 19 = .ok (.iload_n 1, 1) := by decide +kernel
theorem dX8_count_20 : decode cX8_count 20 = .ok (.tableswitch 92 0 9 #[56, 64, 72, 80, 92, 92, 92, 92, 92, 87], 56) := by decide +kernel
theorem dX8_count_76 : decode cX8_count 76 = .ok (.aload_n 0, 1) := by decide +kernel
theorem dX8_count_77 : decode cX8_count 77 = .ok (.getfield 9, 3) := by decide +kernel
theorem dX8_count_80 : decode cX8_count 80 = .ok (.bipush 7, 2) := by decide +kernel
theorem dX8_count_82 : decode cX8_count 82 = .ok (.iaload, 1) := by decide +kernel
theorem dX8_count_83 : decode cX8_count 83 = .ok (.ireturn, 1) := by decide +kernel
theorem dX8_count_84 : decode cX8_count 84 = .ok (.aload_n 0, 1) := by decide +kernel
theorem dX8_count_85 : decode cX8_count 85 = .ok (.getfield 9, 3) := by decide +kernel
theorem dX8_count_88 : decode cX8_count 88 = .ok (.bipush 8, 2) := by decide +kernel
theorem dX8_count_90 : decode cX8_count 90 = .ok (.iaload, 1) := by decide +kernel
theorem dX8_count_91 : decode cX8_count 91 = .ok (.ireturn, 1) := by decide +kernel
theorem dX8_count_92 : decode cX8_count 92 = .ok (.aload_n 0, 1) := by decide +kernel
theorem dX8_count_93 : decode cX8_count 93 = .ok (.getfield 9, 3) := by decide +kernel
