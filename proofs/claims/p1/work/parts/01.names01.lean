theorem dX1_init_0 : decode cX1_init 0 = .ok (.aload_n 0, 1) := by decide +kernel
theorem dX1_init_1 : decode cX1_init 1 = .ok (.invokespecial 3, 3) := by decide +kernel
theorem dX1_init_4 : decode cX1_init 4 = .ok (.aload_n 0, 1) := by decide +kernel
theorem dX1_init_5 : decode cX1_init 5 = .ok (.getstatic 9, 3) := by decide +kernel
theorem dX1_init_8 : decode cX1_init 8 = .ok (.putfield 13, 3) := by decide +kernel
theorem dX1_init_11 : decode cX1_init 11 = .ok (.return_, 1) := by decide +kernel
theorem dX1_begin_0 : decode cX1_begin 0 = .ok (.aload_n 0, 1) := by decide +kernel
theorem dX1_begin_1 : decode cX1_begin 1 = .ok (.iload_n 1, 1) := by decide +kernel
theorem dX1_begin_2 : decode cX1_begin 2 = .ok (.putfield 18, 3) := by decide +kernel
theorem dX1_begin_5 : decode cX1_begin 5 = .ok (.aload_n 0, 1) := by decide +kernel
theorem dX1_begin_6 : decode cX1_begin 6 = .ok (.iload_n 2, 1) := by decide +kernel
theorem dX1_begin_7 : decode cX1_begin 7 = .ok (.putfield 22, 3) := by decide +kernel
theorem dX1_begin_10 : decode cX1_begin 10 = .ok (.aload_n 0, 1) := by decide +kernel
theorem dX1_begin_11 : decode cX1_begin 11 = .ok (.aload_n 3, 1) := by decide +kernel
theorem dX1_begin_12 : decode cX1_begin 12 = .ok (.putfield 13, 3) := by decide +kernel
theorem dX1_begin_15 : decode cX1_begin 15 = .ok (.aload_n 0, 1) := by decide +kernel
theorem dX1_begin_16 : decode cX1_begin 16 = .ok (.iconst 0, 1) := by decide +kernel
theorem dX1_begin_17 : decode cX1_begin 17 = .ok (.putfield 25, 3) := by decide +kernel
theorem dX1_begin_20 : decode cX1_begin 20 = .ok (.aload_n 0, 1) := by decide +kernel
theorem dX1_begin_21 : decode cX1_begin 21 = .ok (.iconst (-1), 1) := by decide +kernel
theorem dX1_begin_22 : decode cX1_begin 22 = .ok (.putfield 28, 3) := by decide +kernel
theorem dX1_begin_25 : decode cX1_begin 25 = .ok (.aload_n 0, 1) := by decide +kernel
theorem dX1_begin_26 : decode cX1_begin 26 = .ok (.iconst 0, 1) := by decide +kernel
theorem dX1_begin_27 : decode cX1_begin 27 = .ok (.putfield 31, 3) := by decide +kernel
theorem dX1_begin_30 : decode cX1_begin 30 = .ok (.aload_n 0, 1) := by decide +kernel
theorem dX1_begin_31 : decode cX1_begin 31 = .ok (.iconst 0, 1) := by decide +kernel
theorem dX1_begin_32 : decode cX1_begin 32 = .ok (.putfield 34, 3) := by decide +kernel
theorem dX1_begin_35 : decode cX1_begin 35 = .ok (.aload_n 0, 1) := by decide +kernel
theorem dX1_begin_36 : decode cX1_begin 36 = .ok (.iconst (-1), 1) := by decide +kernel
theorem dX1_begin_37 : decode cX1_begin 37 = .ok (.putfield 37, 3) := by decide +kernel
theorem dX1_begin_40 : decode cX1_begin 40 = .ok (.aload_n 0, 1) := by decide +kernel
theorem dX1_begin_41 : decode cX1_begin 41 = .ok (.iconst 0, 1) := by decide +kernel
theorem dX1_begin_42 : decode cX1_begin 42 = .ok (.putfield 40, 3) := by decide +kernel
theorem dX1_begin_45 : decode cX1_begin 45 = .ok (.return_, 1) := by decide +kernel
theorem dX1_copyFrom_0 : decode cX1_copyFrom 0 = .ok (.aload_n 0, 1) := by decide +kernel
theorem dX1_copyFrom_1 : decode cX1_copyFrom 1 = .ok (.aload_n 1, 1) := by decide +kernel
theorem dX1_copyFrom_2 : decode cX1_copyFrom 2 = .ok (.getfield 18, 3) := by decide +kernel
theorem dX1_copyFrom_5 : decode cX1_copyFrom 5 = .ok (.putfield 18, 3) := by decide +kernel
theorem dX1_copyFrom_8 : decode cX1_copyFrom 8 = .ok (.aload_n 0, 1) := by decide +kernel
theorem dX1_copyFrom_9 : decode cX1_copyFrom 9 = .ok (.aload_n 1, 1) := by decide +kernel
theorem dX1_copyFrom_10 : decode cX1_copyFrom 10 = .ok (.getfield 22, 3) := by decide +kernel
theorem dX1_copyFrom_13 : decode cX1_copyFrom 13 = .ok (.putfield 22, 3) := by decide +kernel
theorem dX1_copyFrom_16 : decode cX1_copyFrom 16 = .ok (.aload_n 0, 1) := by decide +kernel
theorem dX1_copyFrom_17 : decode cX1_copyFrom 17 = .ok (.aload_n 1, 1) := by decide +kernel
theorem dX1_copyFrom_18 : decode cX1_copyFrom 18 = .ok (.getfield 13, 3) := by decide +kernel
theorem dX1_copyFrom_21 : decode cX1_copyFrom 21 = .ok (.putfield 13, 3) := by decide +kernel
theorem dX1_copyFrom_24 : decode cX1_copyFrom 24 = .ok (.aload_n 0, 1) := by decide +kernel
theorem dX1_copyFrom_25 : decode cX1_copyFrom 25 = .ok (.aload_n 1, 1) := by decide +kernel
theorem dX1_copyFrom_26 : decode cX1_copyFrom 26 = .ok (.getfield 25, 3) := by decide +kernel
theorem dX1_copyFrom_29 : decode cX1_copyFrom 29 = .ok (.putfield 25, 3) := by decide +kernel
theorem dX1_copyFrom_32 : decode cX1_copyFrom 32 = .ok (.aload_n 0, 1) := by decide +kernel
theorem dX1_copyFrom_33 : decode cX1_copyFrom 33 = .ok (.aload_n 1, 1) := by decide +kernel
theorem dX1_copyFrom_34 : decode cX1_copyFrom 34 = .ok (.getfield 28, 3) := by decide +kernel
theorem dX1_copyFrom_37 : decode cX1_copyFrom 37 = .ok (.putfield 28, 3) := by decide +kernel
theorem dX1_copyFrom_40 : decode cX1_copyFrom 40 = .ok (.aload_n 0, 1) := by decide +kernel
theorem dX1_copyFrom_41 : decode cX1_copyFrom 41 = .ok (.aload_n 1, 1) := by decide +kernel
theorem dX1_copyFrom_42 : decode cX1_copyFrom 42 = .ok (.getfield 31, 3) := by decide +kernel
theorem dX1_copyFrom_45 : decode cX1_copyFrom 45 = .ok (.putfield 31, 3) := by decide +kernel
theorem dX1_copyFrom_48 : decode cX1_copyFrom 48 = .ok (.aload_n 0, 1) := by decide +kernel
theorem dX1_copyFrom_49 : decode cX1_copyFrom 49 = .ok (.aload_n 1, 1) := by decide +kernel
theorem dX1_copyFrom_50 : decode cX1_copyFrom 50 = .ok (.getfield 34, 3) := by decide +kernel
theorem dX1_copyFrom_53 : decode cX1_copyFrom 53 = .ok (.putfield 34, 3) := by decide +kernel
theorem dX1_copyFrom_56 : decode cX1_copyFrom 56 = .ok (.aload_n 0, 1) := by decide +kernel
theorem dX1_copyFrom_57 : decode cX1_copyFrom 57 = .ok (.aload_n 1, 1) := by decide +kernel
theorem dX1_copyFrom_58 : decode cX1_copyFrom 58 = .ok (.getfield 37, 3) := by decide +kernel
theorem dX1_copyFrom_61 : decode cX1_copyFrom 61 = .ok (.putfield 37, 3) := by decide +kernel
theorem dX1_copyFrom_64 : decode cX1_copyFrom 64 = .ok (.aload_n 0, 1) := by decide +kernel
theorem dX1_copyFrom_65 : decode cX1_copyFrom 65 = .ok (.aload_n 1, 1) := by decide +kernel
theorem dX1_copyFrom_66 : decode cX1_copyFrom 66 = .ok (.getfield 40, 3) := by decide +kernel
theorem dX1_copyFrom_69 : decode cX1_copyFrom 69 = .ok (.putfield 40, 3) := by decide +kernel
theorem dX1_copyFrom_72 : decode cX1_copyFrom 72 = .ok (.return_, 1) := by decide +kernel
theorem dX1_isFinished_0 : decode cX1_isFinished 0 = .ok (.aload_n 0, 1) := by decide +kernel
theorem dX1_isFinished_1 : decode cX1_isFinished 1 = .ok (.getfield 25, 3) := by decide +kernel
theorem dX1_isFinished_4 : decode cX1_isFinished 4 = .ok (.iconst 3, 1) := by decide +kernel
theorem dX1_isFinished_5 : decode cX1_isFinished 5 = .ok (.if_icmp .eq 11, 3) := by decide +kernel
theorem dX1_isFinished_8 : decode cX1_isFinished 8 = .ok (.aload_n 0, 1) := by decide +kernel
theorem dX1_isFinished_9 : decode cX1_isFinished 9 = .ok (.getfield 25, 3) := by decide +kernel
theorem dX1_isFinished_12 : decode cX1_isFinished 12 = .ok (.iconst 4, 1) := by decide +kernel
theorem dX1_isFinished_13 : decode cX1_isFinished 13 = .ok (.if_icmp .ne 7, 3) := by decide +kernel
theorem dX1_isFinished_16 : decode cX1_isFinished 16 = .ok (.iconst 1, 1) := by decide +kernel
theorem dX1_isFinished_17 : decode cX1_isFinished 17 = .ok (.goto 4, 3) := by decide +kernel
theorem dX1_isFinished_20 : decode cX1_isFinished 20 = .ok (.iconst 0, 1) := by decide +kernel
theorem dX1_isFinished_21 : decode cX1_isFinished 21 = .ok (.ireturn, 1) := by decide +kernel
set_option maxRecDepth 20000 in
theorem ggX3_init_X6_init : GoodIn wsX3_init wsX6_init := goodIn_r _ [22, 23, 2, 3, 24, 52, 53, 54, 55, 56, 57, 58, 59, 60, 61, 62, 63, 64, 65, 66] (by decide +kernel) (by decide +kernel)
set_option maxRecDepth 20000 in
theorem gX3_init_X6_init_n43 : GoodIn wsX3_init (wsX6_init) := ggX3_init_X6_init
set_option maxRecDepth 20000 in
theorem ggX3_init_X4_init : GoodIn wsX3_init wsX4_init := goodIn_r _ [26, 27, 2, 3, 11, 28, 29, 30, 67, 68, 69, 70, 71, 72, 73, 74, 75, 76, 77, 78] (by decide +kernel) (by decide +kernel)
set_option maxRecDepth 20000 in
theorem gX3_init_X4_init_n44 : GoodIn wsX3_init (wsX4_init) := ggX3_init_X4_init
set_option maxRecDepth 20000 in
theorem ggX3_init_X1_init : GoodIn wsX3_init wsX1_init := goodIn_r _ [32, 33, 2, 3, 34, 79, 80, 81, 82, 83, 84, 85, 86, 87] (by decide +kernel) (by decide +kernel)
set_option maxRecDepth 20000 in
theorem gX3_init_X1_init_n45 : GoodIn wsX3_init (wsX1_init) := ggX3_init_X1_init
theorem dX3_init_0 : decode cX3_init 0 = .ok (.aload_n 0, 1) := by decide +kernel
theorem dX3_init_1 : decode cX3_init 1 = .ok (.invokespecial 3, 3) := by decide +kernel
theorem dX3_init_4 : decode cX3_init 4 = .ok (.aload_n 0, 1) := by decide +kernel
theorem dX3_init_5 : decode cX3_init 5 = .ok (.iconst 1, 1) := by decide +kernel
theorem dX3_init_6 : decode cX3_init 6 = .ok (.putfield 9, 3) := by decide +kernel
theorem dX3_init_9 : decode cX3_init 9 = .ok (.aload_n 0, 1) := by decide +kernel
theorem dX3_init_10 : decode cX3_init 10 = .ok (.bipush 6, 2) := by decide +kernel
theorem dX3_init_12 : decode cX3_init 12 = .ok (.anewarray 15, 3) := by decide +kernel
theorem dX3_init_15 : decode cX3_init 15 = .ok (.putfield 17, 3) := by decide +kernel
theorem dX3_init_18 : decode cX3_init 18 = .ok (.aload_n 0, 1) := by decide +kernel
theorem dX3_init_19 : decode cX3_init 19 = .ok (.bipush 6, 2) := by decide +kernel
theorem dX3_init_21 : decode cX3_init 21 = .ok (.anewarray 21, 3) := by decide +kernel
theorem dX3_init_24 : decode cX3_init 24 = .ok (.putfield 23, 3) := by decide +kernel
theorem dX3_init_27 : decode cX3_init 27 = .ok (.aload_n 0, 1) := by decide +kernel
theorem dX3_init_28 : decode cX3_init 28 = .ok (.bipush 30, 2) := by decide +kernel
theorem dX3_init_30 : decode cX3_init 30 = .ok (.anewarray 27, 3) := by decide +kernel
theorem dX3_init_33 : decode cX3_init 33 = .ok (.putfield 29, 3) := by decide +kernel
theorem dX3_init_36 : decode cX3_init 36 = .ok (.aload_n 0, 1) := by decide +kernel
theorem dX3_init_37 : decode cX3_init 37 = .ok (.iconst 5, 1) := by decide +kernel
theorem dX3_init_38 : decode cX3_init 38 = .ok (.newarray .int, 2) := by decide +kernel
theorem dX3_init_40 : decode cX3_init 40 = .ok (.putfield 33, 3) := by decide +kernel
theorem dX3_init_43 : decode cX3_init 43 = .ok (.aload_n 0, 1) := by decide +kernel
theorem dX3_init_44 : decode cX3_init 44 = .ok (.bipush 30, 2) := by decide +kernel
theorem dX3_init_46 : decode cX3_init 46 = .ok (.newarray .int, 2) := by decide +kernel
theorem dX3_init_48 : decode cX3_init 48 = .ok (.putfield 37, 3) := by decide +kernel
theorem dX3_init_51 : decode cX3_init 51 = .ok (.aload_n 0, 1) := by decide +kernel
theorem dX3_init_52 : decode cX3_init 52 = .ok (.iconst 5, 1) := by decide +kernel
theorem dX3_init_53 : decode cX3_init 53 = .ok (.newarray .int, 2) := by decide +kernel
theorem dX3_init_55 : decode cX3_init 55 = .ok (.putfield 40, 3) := by decide +kernel
theorem dX3_init_58 : decode cX3_init 58 = .ok (.iconst 0, 1) := by decide +kernel
theorem dX3_init_59 : decode cX3_init 59 = .ok (.istore_n 1, 1) := by decide +kernel
theorem dX3_init_60 : decode cX3_init 60 = .ok (.iload_n 1, 1) := by decide +kernel
theorem dX3_init_61 : decode cX3_init 61 = .ok (.bipush 6, 2) := by decide +kernel
theorem dX3_init_63 : decode cX3_init 63 = .ok (.if_icmp .ge 22, 3) := by decide +kernel
theorem dX3_init_66 : decode cX3_init 66 = .ok (.aload_n 0, 1) := by decide +kernel
theorem dX3_init_67 : decode cX3_init 67 = .ok (.getfield 17, 3) := by decide +kernel
theorem dX3_init_70 : decode cX3_init 70 = .ok (.iload_n 1, 1) := by decide +kernel
theorem dX3_init_71 : decode cX3_init 71 = .ok (.new 15, 3) := by decide +kernel
theorem dX3_init_74 : decode cX3_init 74 = .ok (.dup, 1) := by decide +kernel
theorem dX3_init_75 : decode cX3_init 75 = .ok (.invokespecial 43, 3) := by decide +kernel
theorem dX3_init_78 : decode cX3_init 78 = .ok (.aastore, 1) := by decide +kernel
theorem dX3_init_79 : decode cX3_init 79 = .ok (.iinc 1 1, 3) := by decide +kernel
theorem dX3_init_82 : decode cX3_init 82 = .ok (.goto (-22), 3) := by decide +kernel
theorem dX3_init_85 : decode cX3_init 85 = .ok (.iconst 0, 1) := by decide +kernel
theorem dX3_init_86 : decode cX3_init 86 = .ok (.istore_n 1, 1) := by decide +kernel
theorem dX3_init_87 : decode cX3_init 87 = .ok (.iload_n 1, 1) := by decide +kernel
theorem dX3_init_88 : decode cX3_init 88 = .ok (.bipush 6, 2) := by decide +kernel
theorem dX3_init_90 : decode cX3_init 90 = .ok (.if_icmp .ge 22, 3) := by decide +kernel
theorem dX3_init_93 : decode cX3_init 93 = .ok (.aload_n 0, 1) := by decide +kernel
theorem dX3_init_94 : decode cX3_init 94 = .ok (.getfield 23, 3) := by decide +kernel
theorem dX3_init_97 : decode cX3_init 97 = .ok (.iload_n 1, 1) := by decide +kernel
theorem dX3_init_98 : decode cX3_init 98 = .ok (.new 21, 3) := by decide +kernel
theorem dX3_init_101 : decode cX3_init 101 = .ok (.dup, 1) := by decide +kernel
theorem dX3_init_102 : decode cX3_init 102 = .ok (.invokespecial 44, 3) := by decide +kernel
theorem dX3_init_105 : decode cX3_init 105 = .ok (.aastore, 1) := by decide +kernel
theorem dX3_init_106 : decode cX3_init 106 = .ok (.iinc 1 1, 3) := by decide +kernel
theorem dX3_init_109 : decode cX3_init 109 = .ok (.goto (-22), 3) := by decide +kernel
theorem dX3_init_112 : decode cX3_init 112 = .ok (.iconst 0, 1) := by decide +kernel
theorem dX3_init_113 : decode cX3_init 113 = .ok (.istore_n 1, 1) := by decide +kernel
theorem dX3_init_114 : decode cX3_init 114 = .ok (.iload_n 1, 1) := by decide +kernel
theorem dX3_init_115 : decode cX3_init 115 = .ok (.bipush 30, 2) := by decide +kernel
theorem dX3_init_117 : decode cX3_init 117 = .ok (.if_icmp .ge 22, 3) := by decide +kernel
theorem dX3_init_120 : decode cX3_init 120 = .ok (.aload_n 0, 1) := by decide +kernel
theorem dX3_init_121 : decode cX3_init 121 = .ok (.getfield 29, 3) := by decide +kernel
theorem dX3_init_124 : decode cX3_init 124 = .ok (.iload_n 1, 1) := by decide +kernel
theorem dX3_init_125 : decode cX3_init 125 = .ok (.new 27, 3) := by decide +kernel
theorem dX3_init_128 : decode cX3_init 128 = .ok (.dup, 1) := by decide +kernel
theorem dX3_init_129 : decode cX3_init 129 = .ok (.invokespecial 45, 3) := by decide +kernel
theorem dX3_init_132 : decode cX3_init 132 = .ok (.aastore, 1) := by decide +kernel
theorem dX3_init_133 : decode cX3_init 133 = .ok (.iinc 1 1, 3) := by decide +kernel
theorem dX3_init_136 : decode cX3_init 136 = .ok (.goto (-22), 3) := by decide +kernel
theorem dX3_init_139 : decode cX3_init 139 = .ok (.return_, 1) := by decide +kernel
set_option maxRecDepth 20000 in
theorem ggX3_begin_J7_fill_53178 : GoodIn wsX3_begin wsJ7_fill_53178 := goodIn_r _ [16] (by decide +kernel) (by decide +kernel)
set_option maxRecDepth 20000 in
theorem gX3_begin_J7_fill_53178 : GoodIn wsX3_begin (va_wsS RX3 73 yJ7_fill_53178 wsJ7_fill_53178) := goodIn_app (goodIn_of _ (by decide +kernel)) ggX3_begin_J7_fill_53178
theorem dX3_begin_0 : decode cX3_begin 0 = .ok (.aload_n 0, 1) := by decide +kernel
theorem dX3_begin_1 : decode cX3_begin 1 = .ok (.iload_n 1, 1) := by decide +kernel
theorem dX3_begin_2 : decode cX3_begin 2 = .ok (.putfield 9, 3) := by decide +kernel
theorem dX3_begin_5 : decode cX3_begin 5 = .ok (.aload_n 0, 1) := by decide +kernel
theorem dX3_begin_6 : decode cX3_begin 6 = .ok (.iload_n 2, 1) := by decide +kernel
theorem dX3_begin_7 : decode cX3_begin 7 = .ok (.putfield 46, 3) := by decide +kernel
theorem dX3_begin_10 : decode cX3_begin 10 = .ok (.aload_n 0, 1) := by decide +kernel
theorem dX3_begin_11 : decode cX3_begin 11 = .ok (.iconst 0, 1) := by decide +kernel
theorem dX3_begin_12 : decode cX3_begin 12 = .ok (.putfield 49, 3) := by decide +kernel
theorem dX3_begin_15 : decode cX3_begin 15 = .ok (.aload_n 0, 1) := by decide +kernel
theorem dX3_begin_16 : decode cX3_begin 16 = .ok (.iload_n 2, 1) := by decide +kernel
theorem dX3_begin_17 : decode cX3_begin 17 = .ok (.putfield 52, 3) := by decide +kernel
theorem dX3_begin_20 : decode cX3_begin 20 = .ok (.aload_n 0, 1) := by decide +kernel
theorem dX3_begin_21 : decode cX3_begin 21 = .ok (.iload_n 3, 1) := by decide +kernel
theorem dX3_begin_22 : decode cX3_begin 22 = .ok (.putfield 55, 3) := by decide +kernel
theorem dX3_begin_25 : decode cX3_begin 25 = .ok (.aload_n 0, 1) := by decide +kernel
theorem dX3_begin_26 : decode cX3_begin 26 = .ok (.iload 4, 2) := by decide +kernel
theorem dX3_begin_28 : decode cX3_begin 28 = .ok (.putfield 58, 3) := by decide +kernel
theorem dX3_begin_31 : decode cX3_begin 31 = .ok (.aload_n 0, 1) := by decide +kernel
theorem dX3_begin_32 : decode cX3_begin 32 = .ok (.iconst 0, 1) := by decide +kernel
theorem dX3_begin_33 : decode cX3_begin 33 = .ok (.putfield 61, 3) := by decide +kernel
theorem dX3_begin_36 : decode cX3_begin 36 = .ok (.aload_n 0, 1) := by decide +kernel
theorem dX3_begin_37 : decode cX3_begin 37 = .ok (.iconst 0, 1) := by decide +kernel
theorem dX3_begin_38 : decode cX3_begin 38 = .ok (.putfield 64, 3) := by decide +kernel
theorem dX3_begin_41 : decode cX3_begin 41 = .ok (.aload_n 0, 1) := by decide +kernel
theorem dX3_begin_42 : decode cX3_begin 42 = .ok (.iconst 0, 1) := by decide +kernel
theorem dX3_begin_43 : decode cX3_begin 43 = .ok (.putfield 67, 3) := by decide +kernel
theorem dX3_begin_46 : decode cX3_begin 46 = .ok (.aload_n 0, 1) := by decide +kernel
theorem dX3_begin_47 : decode cX3_begin 47 = .ok (.iconst 0, 1) := by decide +kernel
theorem dX3_begin_48 : decode cX3_begin 48 = .ok (.putfield 70, 3) := by decide +kernel
theorem dX3_begin_51 : decode cX3_begin 51 = .ok (.aload_n 0, 1) := by decide +kernel
theorem dX3_begin_52 : decode cX3_begin 52 = .ok (.getfield 33, 3) := by decide +kernel
theorem dX3_begin_55 : decode cX3_begin 55 = .ok (.iconst 0, 1) := by decide +kernel
theorem dX3_begin_56 : decode cX3_begin 56 = .ok (.invokestatic 73, 3) := by decide +kernel
theorem dX3_begin_59 : decode cX3_begin 59 = .ok (.aload_n 0, 1) := by decide +kernel
theorem dX3_begin_60 : decode cX3_begin 60 = .ok (.getfield 40, 3) := by decide +kernel
theorem dX3_begin_63 : decode cX3_begin 63 = .ok (.iconst 0, 1) := by decide +kernel
theorem dX3_begin_64 : decode cX3_begin 64 = .ok (.invokestatic 73, 3) := by decide +kernel
theorem dX3_begin_67 : decode cX3_begin 67 = .ok (.return_, 1) := by decide +kernel
set_option maxRecDepth 20000 in
theorem ggX3_copyFrom_X6_copyFrom : GoodIn wsX3_copyFrom wsX6_copyFrom := goodIn_r _ [25, 26, 27, 28, 29, 30, 31, 32, 33, 34, 35, 36, 37, 38, 39, 40, 90, 91, 92, 93, 94, 95, 96, 97, 98, 99, 100, 101, 102, 103, 104] (by decide +kernel) (by decide +kernel)
set_option maxRecDepth 20000 in
theorem gX3_copyFrom_X6_copyFrom : GoodIn wsX3_copyFrom (wsV RX3 79 RX6 yX6_copyFrom wsX6_copyFrom) := goodIn_app (goodIn_of _ (by decide +kernel)) ggX3_copyFrom_X6_copyFrom
set_option maxRecDepth 20000 in
theorem ggX3_copyFrom_X4_copyFrom : GoodIn wsX3_copyFrom wsX4_copyFrom := goodIn_r _ [45, 46, 47, 48, 49, 16, 17, 18, 50, 51, 52, 53, 54, 55, 56, 57, 58, 105, 106, 107, 108, 109, 110, 111, 112, 113, 114, 115, 116] (by decide +kernel) (by decide +kernel)
set_option maxRecDepth 20000 in
theorem gX3_copyFrom_X4_copyFrom : GoodIn wsX3_copyFrom (wsV RX3 83 RX4 yX4_copyFrom wsX4_copyFrom) := goodIn_app (goodIn_of _ (by decide +kernel)) ggX3_copyFrom_X4_copyFrom
set_option maxRecDepth 20000 in
theorem ggX3_copyFrom_X1_copyFrom : GoodIn wsX3_copyFrom wsX1_copyFrom := goodIn_r _ [63, 64, 65, 66, 67, 68, 69, 70, 71, 72, 117, 118, 119, 120, 121, 122, 123, 124, 125] (by decide +kernel) (by decide +kernel)
set_option maxRecDepth 20000 in
theorem gX3_copyFrom_X1_copyFrom : GoodIn wsX3_copyFrom (wsV RX3 86 RX1 yX1_copyFrom wsX1_copyFrom) := goodIn_app (goodIn_of _ (by decide +kernel)) ggX3_copyFrom_X1_copyFrom
theorem dX3_copyFrom_0 : decode cX3_copyFrom 0 = .ok (.aload_n 0, 1) := by decide +kernel
theorem dX3_copyFrom_1 : decode cX3_copyFrom 1 = .ok (.aload_n 1, 1) := by decide +kernel
theorem dX3_copyFrom_2 : decode cX3_copyFrom 2 = .ok (.getfield 9, 3) := by decide +kernel
theorem dX3_copyFrom_5 : decode cX3_copyFrom 5 = .ok (.putfield 9, 3) := by decide +kernel
theorem dX3_copyFrom_8 : decode cX3_copyFrom 8 = .ok (.aload_n 0, 1) := by decide +kernel
theorem dX3_copyFrom_9 : decode cX3_copyFrom 9 = .ok (.aload_n 1, 1) := by decide +kernel
theorem dX3_copyFrom_10 : decode cX3_copyFrom 10 = .ok (.getfield 55, 3) := by decide +kernel
theorem dX3_copyFrom_13 : decode cX3_copyFrom 13 = .ok (.putfield 55, 3) := by decide +kernel
theorem dX3_copyFrom_16 : decode cX3_copyFrom 16 = .ok (.aload_n 0, 1) := by decide +kernel
theorem dX3_copyFrom_17 : decode cX3_copyFrom 17 = .ok (.aload_n 1, 1) := by decide +kernel
theorem dX3_copyFrom_18 : decode cX3_copyFrom 18 = .ok (.getfield 58, 3) := by decide +kernel
theorem dX3_copyFrom_21 : decode cX3_copyFrom 21 = .ok (.putfield 58, 3) := by decide +kernel
theorem dX3_copyFrom_24 : decode cX3_copyFrom 24 = .ok (.aload_n 0, 1) := by decide +kernel
theorem dX3_copyFrom_25 : decode cX3_copyFrom 25 = .ok (.aload_n 1, 1) := by decide +kernel
theorem dX3_copyFrom_26 : decode cX3_copyFrom 26 = .ok (.getfield 46, 3) := by decide +kernel
theorem dX3_copyFrom_29 : decode cX3_copyFrom 29 = .ok (.putfield 46, 3) := by decide +kernel
theorem dX3_copyFrom_32 : decode cX3_copyFrom 32 = .ok (.aload_n 0, 1) := by decide +kernel
theorem dX3_copyFrom_33 : decode cX3_copyFrom 33 = .ok (.aload_n 1, 1) := by decide +kernel
theorem dX3_copyFrom_34 : decode cX3_copyFrom 34 = .ok (.getfield 49, 3) := by decide +kernel
theorem dX3_copyFrom_37 : decode cX3_copyFrom 37 = .ok (.putfield 49, 3) := by decide +kernel
theorem dX3_copyFrom_40 : decode cX3_copyFrom 40 = .ok (.aload_n 0, 1) := by decide +kernel
theorem dX3_copyFrom_41 : decode cX3_copyFrom 41 = .ok (.aload_n 1, 1) := by decide +kernel
theorem dX3_copyFrom_42 : decode cX3_copyFrom 42 = .ok (.getfield 52, 3) := by decide +kernel
theorem dX3_copyFrom_45 : decode cX3_copyFrom 45 = .ok (.putfield 52, 3) := by decide +kernel
theorem dX3_copyFrom_48 : decode cX3_copyFrom 48 = .ok (.aload_n 0, 1) := by decide +kernel
theorem dX3_copyFrom_49 : decode cX3_copyFrom 49 = .ok (.aload_n 1, 1) := by decide +kernel
theorem dX3_copyFrom_50 : decode cX3_copyFrom 50 = .ok (.getfield 61, 3) := by decide +kernel
theorem dX3_copyFrom_53 : decode cX3_copyFrom 53 = .ok (.putfield 61, 3) := by decide +kernel
theorem dX3_copyFrom_56 : decode cX3_copyFrom 56 = .ok (.aload_n 0, 1) := by decide +kernel
theorem dX3_copyFrom_57 : decode cX3_copyFrom 57 = .ok (.aload_n 1, 1) := by decide +kernel
theorem dX3_copyFrom_58 : decode cX3_copyFrom 58 = .ok (.getfield 64, 3) := by decide +kernel
theorem dX3_copyFrom_61 : decode cX3_copyFrom 61 = .ok (.putfield 64, 3) := by decide +kernel
theorem dX3_copyFrom_64 : decode cX3_copyFrom 64 = .ok (.aload_n 0, 1) := by decide +kernel
theorem dX3_copyFrom_65 : decode cX3_copyFrom 65 = .ok (.aload_n 1, 1) := by decide +kernel
theorem dX3_copyFrom_66 : decode cX3_copyFrom 66 = .ok (.getfield 67, 3) := by decide +kernel
theorem dX3_copyFrom_69 : decode cX3_copyFrom 69 = .ok (.putfield 67, 3) := by decide +kernel
theorem dX3_copyFrom_72 : decode cX3_copyFrom 72 = .ok (.aload_n 0, 1) := by decide +kernel
theorem dX3_copyFrom_73 : decode cX3_copyFrom 73 = .ok (.aload_n 1, 1) := by decide +kernel
theorem dX3_copyFrom_74 : decode cX3_copyFrom 74 = .ok (.getfield 70, 3) := by decide +kernel
theorem dX3_copyFrom_77 : decode cX3_copyFrom 77 = .ok (.putfield 70, 3) := by decide +kernel
theorem dX3_copyFrom_80 : decode cX3_copyFrom 80 = .ok (.iconst 0, 1) := by decide +kernel
theorem dX3_copyFrom_81 : decode cX3_copyFrom 81 = .ok (.istore_n 2, 1) := by decide +kernel
theorem dX3_copyFrom_82 : decode cX3_copyFrom 82 = .ok (.iload_n 2, 1) := by decide +kernel
theorem dX3_copyFrom_83 : decode cX3_copyFrom 83 = .ok (.aload_n 0, 1) := by decide +kernel
theorem dX3_copyFrom_84 : decode cX3_copyFrom 84 = .ok (.getfield 64, 3) := by decide +kernel
theorem dX3_copyFrom_87 : decode cX3_copyFrom 87 = .ok (.if_icmp .ge 24, 3) := by decide +kernel
theorem dX3_copyFrom_90 : decode cX3_copyFrom 90 = .ok (.aload_n 0, 1) := by decide +kernel
theorem dX3_copyFrom_91 : decode cX3_copyFrom 91 = .ok (.getfield 17, 3) := by decide +kernel
theorem dX3_copyFrom_94 : decode cX3_copyFrom 94 = .ok (.iload_n 2, 1) := by decide +kernel
theorem dX3_copyFrom_95 : decode cX3_copyFrom 95 = .ok (.aaload, 1) := by decide +kernel
theorem dX3_copyFrom_96 : decode cX3_copyFrom 96 = .ok (.aload_n 1, 1) := by decide +kernel
theorem dX3_copyFrom_97 : decode cX3_copyFrom 97 = .ok (.getfield 17, 3) := by decide +kernel
theorem dX3_copyFrom_100 : decode cX3_copyFrom 100 = .ok (.iload_n 2, 1) := by decide +kernel
theorem dX3_copyFrom_101 : decode cX3_copyFrom 101 = .ok (.aaload, 1) := by decide +kernel
theorem dX3_copyFrom_102 : decode cX3_copyFrom 102 = .ok (.invokevirtual 79, 3) := by decide +kernel
theorem dX3_copyFrom_105 : decode cX3_copyFrom 105 = .ok (.iinc 2 1, 3) := by decide +kernel
theorem dX3_copyFrom_108 : decode cX3_copyFrom 108 = .ok (.goto (-26), 3) := by decide +kernel
theorem dX3_copyFrom_111 : decode cX3_copyFrom 111 = .ok (.iconst 0, 1) := by decide +kernel
theorem dX3_copyFrom_112 : decode cX3_copyFrom 112 = .ok (.istore_n 2, 1) := by decide +kernel
theorem dX3_copyFrom_113 : decode cX3_copyFrom 113 = .ok (.iload_n 2, 1) := by decide +kernel
theorem dX3_copyFrom_114 : decode cX3_copyFrom 114 = .ok (.aload_n 0, 1) := by decide +kernel
theorem dX3_copyFrom_115 : decode cX3_copyFrom 115 = .ok (.getfield 67, 3) := by decide +kernel
theorem dX3_copyFrom_118 : decode cX3_copyFrom 118 = .ok (.if_icmp .ge 24, 3) := by decide +kernel
theorem dX3_copyFrom_121 : decode cX3_copyFrom 121 = .ok (.aload_n 0, 1) := by decide +kernel
theorem dX3_copyFrom_122 : decode cX3_copyFrom 122 = .ok (.getfield 23, 3) := by decide +kernel
theorem dX3_copyFrom_125 : decode cX3_copyFrom 125 = .ok (.iload_n 2, 1) := by decide +kernel
theorem dX3_copyFrom_126 : decode cX3_copyFrom 126 = .ok (.aaload, 1) := by decide +kernel
theorem dX3_copyFrom_127 : decode cX3_copyFrom 127 = .ok (.aload_n 1, 1) := by decide +kernel
theorem dX3_copyFrom_128 : decode cX3_copyFrom 128 = .ok (.getfield 23, 3) := by decide +kernel
theorem dX3_copyFrom_131 : decode cX3_copyFrom 131 = .ok (.iload_n 2, 1) := by decide +kernel
theorem dX3_copyFrom_132 : decode cX3_copyFrom 132 = .ok (.aaload, 1) := by decide +kernel
theorem dX3_copyFrom_133 : decode cX3_copyFrom 133 = .ok (.invokevirtual 83, 3) := by decide +kernel
theorem dX3_copyFrom_136 : decode cX3_copyFrom 136 = .ok (.iinc 2 1, 3) := by decide +kernel
theorem dX3_copyFrom_139 : decode cX3_copyFrom 139 = .ok (.goto (-26), 3) := by decide +kernel
theorem dX3_copyFrom_142 : decode cX3_copyFrom 142 = .ok (.iconst 0, 1) := by decide +kernel
theorem dX3_copyFrom_143 : decode cX3_copyFrom 143 = .ok (.istore_n 2, 1) := by decide +kernel
theorem dX3_copyFrom_144 : decode cX3_copyFrom 144 = .ok (.iload_n 2, 1) := by decide +kernel
theorem dX3_copyFrom_145 : decode cX3_copyFrom 145 = .ok (.aload_n 0, 1) := by decide +kernel
theorem dX3_copyFrom_146 : decode cX3_copyFrom 146 = .ok (.getfield 70, 3) := by decide +kernel
theorem dX3_copyFrom_149 : decode cX3_copyFrom 149 = .ok (.if_icmp .ge 24, 3) := by decide +kernel
theorem dX3_copyFrom_152 : decode cX3_copyFrom 152 = .ok (.aload_n 0, 1) := by decide +kernel
theorem dX3_copyFrom_153 : decode cX3_copyFrom 153 = .ok (.getfield 29, 3) := by decide +kernel
theorem dX3_copyFrom_156 : decode cX3_copyFrom 156 = .ok (.iload_n 2, 1) := by decide +kernel
theorem dX3_copyFrom_157 : decode cX3_copyFrom 157 = .ok (.aaload, 1) := by decide +kernel
theorem dX3_copyFrom_158 : decode cX3_copyFrom 158 = .ok (.aload_n 1, 1) := by decide +kernel
theorem dX3_copyFrom_159 : decode cX3_copyFrom 159 = .ok (.getfield 29, 3) := by decide +kernel
theorem dX3_copyFrom_162 : decode cX3_copyFrom 162 = .ok (.iload_n 2, 1) := by decide +kernel
theorem dX3_copyFrom_163 : decode cX3_copyFrom 163 = .ok (.aaload, 1) := by decide +kernel
theorem dX3_copyFrom_164 : decode cX3_copyFrom 164 = .ok (.invokevirtual 86, 3) := by decide +kernel
theorem dX3_copyFrom_167 : decode cX3_copyFrom 167 = .ok (.iinc 2 1, 3) := by decide +kernel
theorem dX3_copyFrom_170 : decode cX3_copyFrom 170 = .ok (.goto (-26), 3) := by decide +kernel
theorem dX3_copyFrom_173 : decode cX3_copyFrom 173 = .ok (.aload_n 1, 1) := by decide +kernel
theorem dX3_copyFrom_174 : decode cX3_copyFrom 174 = .ok (.getfield 33, 3) := by decide +kernel
theorem dX3_copyFrom_177 : decode cX3_copyFrom 177 = .ok (.iconst 0, 1) := by decide +kernel
theorem dX3_copyFrom_178 : decode cX3_copyFrom 178 = .ok (.aload_n 0, 1) := by decide +kernel
theorem dX3_copyFrom_179 : decode cX3_copyFrom 179 = .ok (.getfield 33, 3) := by decide +kernel
theorem dX3_copyFrom_182 : decode cX3_copyFrom 182 = .ok (.iconst 0, 1) := by decide +kernel
theorem dX3_copyFrom_183 : decode cX3_copyFrom 183 = .ok (.iconst 5, 1) := by decide +kernel
theorem dX3_copyFrom_184 : decode cX3_copyFrom 184 = .ok (.invokestatic 89, 3) := by decide +kernel
theorem dX3_copyFrom_187 : decode cX3_copyFrom 187 = .ok (.aload_n 1, 1) := by decide +kernel
theorem dX3_copyFrom_188 : decode cX3_copyFrom 188 = .ok (.getfield 37, 3) := by decide +kernel
theorem dX3_copyFrom_191 : decode cX3_copyFrom 191 = .ok (.iconst 0, 1) := by decide +kernel
theorem dX3_copyFrom_192 : decode cX3_copyFrom 192 = .ok (.aload_n 0, 1) := by decide +kernel
theorem dX3_copyFrom_193 : decode cX3_copyFrom 193 = .ok (.getfield 37, 3) := by decide +kernel
theorem dX3_copyFrom_196 : decode cX3_copyFrom 196 = .ok (.iconst 0, 1) := by decide +kernel
theorem dX3_copyFrom_197 : decode cX3_copyFrom 197 = .ok (.bipush 30, 2) := by decide +kernel
theorem dX3_copyFrom_199 : decode cX3_copyFrom 199 = .ok (.invokestatic 89, 3) := by decide +kernel
theorem dX3_copyFrom_202 : decode cX3_copyFrom 202 = .ok (.aload_n 1, 1) := by decide +kernel
theorem dX3_copyFrom_203 : decode cX3_copyFrom 203 = .ok (.getfield 40, 3) := by decide +kernel
theorem dX3_copyFrom_206 : decode cX3_copyFrom 206 = .ok (.iconst 0, 1) := by decide +kernel
theorem dX3_copyFrom_207 : decode cX3_copyFrom 207 = .ok (.aload_n 0, 1) := by decide +kernel
theorem dX3_copyFrom_208 : decode cX3_copyFrom 208 = .ok (.getfield 40, 3) := by decide +kernel
theorem dX3_copyFrom_211 : decode cX3_copyFrom 211 = .ok (.iconst 0, 1) := by decide +kernel
theorem dX3_copyFrom_212 : decode cX3_copyFrom 212 = .ok (.iconst 5, 1) := by decide +kernel
theorem dX3_copyFrom_213 : decode cX3_copyFrom 213 = .ok (.invokestatic 89, 3) := by decide +kernel
theorem dX3_copyFrom_216 : decode cX3_copyFrom 216 = .ok (.return_, 1) := by decide +kernel
set_option maxRecDepth 20000 in
theorem ggX3_addStation_X6_begin : GoodIn wsX3_addStation wsX6_begin := goodIn_r _ [7, 8, 9, 10, 11, 12, 13, 14, 15, 16, 17, 18, 19, 20, 21, 22, 40, 41, 42, 43, 44, 45, 46, 47, 48, 49, 50, 51, 52, 53, 54] (by decide +kernel) (by decide +kernel)
set_option maxRecDepth 20000 in
theorem gX3_addStation_X6_begin : GoodIn wsX3_addStation (wsV RX3 95 RX6 yX6_begin wsX6_begin) := goodIn_app (goodIn_of _ (by decide +kernel)) ggX3_addStation_X6_begin
theorem dX3_addStation_0 : decode cX3_addStation 0 = .ok (.aload_n 0, 1) := by decide +kernel
theorem dX3_addStation_1 : decode cX3_addStation 1 = .ok (.getfield 64, 3) := by decide +kernel
theorem dX3_addStation_4 : decode cX3_addStation 4 = .ok (.bipush 6, 2) := by decide +kernel
theorem dX3_addStation_6 : decode cX3_addStation 6 = .ok (.if_icmp .ge 28, 3) := by decide +kernel
theorem dX3_addStation_9 : decode cX3_addStation 9 = .ok (.aload_n 0, 1) := by decide +kernel
theorem dX3_addStation_10 : decode cX3_addStation 10 = .ok (.getfield 17, 3) := by decide +kernel
theorem dX3_addStation_13 : decode cX3_addStation 13 = .ok (.aload_n 0, 1) := by decide +kernel
theorem dX3_addStation_14 : decode cX3_addStation 14 = .ok (.getfield 64, 3) := by decide +kernel
theorem dX3_addStation_17 : decode cX3_addStation 17 = .ok (.aaload, 1) := by decide +kernel
theorem dX3_addStation_18 : decode cX3_addStation 18 = .ok (.iload_n 1, 1) := by decide +kernel
theorem dX3_addStation_19 : decode cX3_addStation 19 = .ok (.iload_n 2, 1) := by decide +kernel
theorem dX3_addStation_20 : decode cX3_addStation 20 = .ok (.aload_n 3, 1) := by decide +kernel
theorem dX3_addStation_21 : decode cX3_addStation 21 = .ok (.invokevirtual 95, 3) := by decide +kernel
theorem dX3_addStation_24 : decode cX3_addStation 24 = .ok (.aload_n 0, 1) := by decide +kernel
theorem dX3_addStation_25 : decode cX3_addStation 25 = .ok (.dup, 1) := by decide +kernel
theorem dX3_addStation_26 : decode cX3_addStation 26 = .ok (.getfield 64, 3) := by decide +kernel
theorem dX3_addStation_29 : decode cX3_addStation 29 = .ok (.iconst 1, 1) := by decide +kernel
theorem dX3_addStation_30 : decode cX3_addStation 30 = .ok (.iadd, 1) := by decide +kernel
theorem dX3_addStation_31 : decode cX3_addStation 31 = .ok (.putfield 64, 3) := by decide +kernel
theorem dX3_addStation_34 : decode cX3_addStation 34 = .ok (.return_, 1) := by decide +kernel
set_option maxRecDepth 20000 in
theorem ggX3_addLot_X4_begin : GoodIn wsX3_addLot wsX4_begin := goodIn_r _ [7, 8, 9, 10, 11, 12, 13, 14, 15, 16, 34, 35, 36, 37, 38, 39, 40, 41, 42, 43, 44, 45] (by decide +kernel) (by decide +kernel)
set_option maxRecDepth 20000 in
theorem gX3_addLot_X4_begin : GoodIn wsX3_addLot (wsV RX3 99 RX4 yX4_begin wsX4_begin) := goodIn_app (goodIn_of _ (by decide +kernel)) ggX3_addLot_X4_begin
theorem dX3_addLot_0 : decode cX3_addLot 0 = .ok (.aload_n 0, 1) := by decide +kernel
theorem dX3_addLot_1 : decode cX3_addLot 1 = .ok (.getfield 67, 3) := by decide +kernel
theorem dX3_addLot_4 : decode cX3_addLot 4 = .ok (.bipush 6, 2) := by decide +kernel
theorem dX3_addLot_6 : decode cX3_addLot 6 = .ok (.if_icmp .ge 26, 3) := by decide +kernel
theorem dX3_addLot_9 : decode cX3_addLot 9 = .ok (.aload_n 0, 1) := by decide +kernel
theorem dX3_addLot_10 : decode cX3_addLot 10 = .ok (.getfield 23, 3) := by decide +kernel
theorem dX3_addLot_13 : decode cX3_addLot 13 = .ok (.aload_n 0, 1) := by decide +kernel
theorem dX3_addLot_14 : decode cX3_addLot 14 = .ok (.getfield 67, 3) := by decide +kernel
theorem dX3_addLot_17 : decode cX3_addLot 17 = .ok (.aaload, 1) := by decide +kernel
theorem dX3_addLot_18 : decode cX3_addLot 18 = .ok (.iload_n 1, 1) := by decide +kernel
theorem dX3_addLot_19 : decode cX3_addLot 19 = .ok (.invokevirtual 99, 3) := by decide +kernel
theorem dX3_addLot_22 : decode cX3_addLot 22 = .ok (.aload_n 0, 1) := by decide +kernel
theorem dX3_addLot_23 : decode cX3_addLot 23 = .ok (.dup, 1) := by decide +kernel
theorem dX3_addLot_24 : decode cX3_addLot 24 = .ok (.getfield 67, 3) := by decide +kernel
theorem dX3_addLot_27 : decode cX3_addLot 27 = .ok (.iconst 1, 1) := by decide +kernel
theorem dX3_addLot_28 : decode cX3_addLot 28 = .ok (.iadd, 1) := by decide +kernel
theorem dX3_addLot_29 : decode cX3_addLot 29 = .ok (.putfield 67, 3) := by decide +kernel
theorem dX3_addLot_32 : decode cX3_addLot 32 = .ok (.return_, 1) := by decide +kernel
set_option maxRecDepth 20000 in
theorem ggX3_addCard_X1_begin : GoodIn wsX3_addCard wsX1_begin := goodIn_r _ [11, 12, 13, 14, 15, 16, 17, 18, 19, 20, 50, 51, 52, 53, 54, 55, 56, 57, 58] (by decide +kernel) (by decide +kernel)
set_option maxRecDepth 20000 in
theorem gX3_addCard_X1_begin : GoodIn wsX3_addCard (wsV RX3 105 RX1 yX1_begin wsX1_begin) := goodIn_app (goodIn_of _ (by decide +kernel)) ggX3_addCard_X1_begin
theorem dX3_addCard_0 : decode cX3_addCard 0 = .ok (.aload_n 0, 1) := by decide +kernel
theorem dX3_addCard_1 : decode cX3_addCard 1 = .ok (.getfield 70, 3) := by decide +kernel
theorem dX3_addCard_4 : decode cX3_addCard 4 = .ok (.bipush 30, 2) := by decide +kernel
theorem dX3_addCard_6 : decode cX3_addCard 6 = .ok (.if_icmp .ge 84, 3) := by decide +kernel
theorem dX3_addCard_9 : decode cX3_addCard 9 = .ok (.aload_n 0, 1) := by decide +kernel
theorem dX3_addCard_10 : decode cX3_addCard 10 = .ok (.getfield 29, 3) := by decide +kernel
theorem dX3_addCard_13 : decode cX3_addCard 13 = .ok (.aload_n 0, 1) := by decide +kernel
theorem dX3_addCard_14 : decode cX3_addCard 14 = .ok (.getfield 70, 3) := by decide +kernel
theorem dX3_addCard_17 : decode cX3_addCard 17 = .ok (.aaload, 1) := by decide +kernel
theorem dX3_addCard_18 : decode cX3_addCard 18 = .ok (.iload_n 1, 1) := by decide +kernel
theorem dX3_addCard_19 : decode cX3_addCard 19 = .ok (.aload_n 0, 1) := by decide +kernel
theorem dX3_addCard_20 : decode cX3_addCard 20 = .ok (.getfield 23, 3) := by decide +kernel
theorem dX3_addCard_23 : decode cX3_addCard 23 = .ok (.iload_n 1, 1) := by decide +kernel
theorem dX3_addCard_24 : decode cX3_addCard 24 = .ok (.aaload, 1) := by decide +kernel
theorem dX3_addCard_25 : decode cX3_addCard 25 = .ok (.getfield 102, 3) := by decide +kernel
theorem dX3_addCard_28 : decode cX3_addCard 28 = .ok (.aload_n 2, 1) := by decide +kernel
theorem dX3_addCard_29 : decode cX3_addCard 29 = .ok (.invokevirtual 105, 3) := by decide +kernel
theorem dX3_addCard_32 : decode cX3_addCard 32 = .ok (.aload_n 0, 1) := by decide +kernel
theorem dX3_addCard_33 : decode cX3_addCard 33 = .ok (.getfield 23, 3) := by decide +kernel
theorem dX3_addCard_36 : decode cX3_addCard 36 = .ok (.iload_n 1, 1) := by decide +kernel
theorem dX3_addCard_37 : decode cX3_addCard 37 = .ok (.aaload, 1) := by decide +kernel
theorem dX3_addCard_38 : decode cX3_addCard 38 = .ok (.getfield 106, 3) := by decide +kernel
theorem dX3_addCard_41 : decode cX3_addCard 41 = .ok (.aload_n 0, 1) := by decide +kernel
theorem dX3_addCard_42 : decode cX3_addCard 42 = .ok (.getfield 23, 3) := by decide +kernel
theorem dX3_addCard_45 : decode cX3_addCard 45 = .ok (.iload_n 1, 1) := by decide +kernel
theorem dX3_addCard_46 : decode cX3_addCard 46 = .ok (.aaload, 1) := by decide +kernel
theorem dX3_addCard_47 : decode cX3_addCard 47 = .ok (.getfield 102, 3) := by decide +kernel
theorem dX3_addCard_50 : decode cX3_addCard 50 = .ok (.aload_n 0, 1) := by decide +kernel
theorem dX3_addCard_51 : decode cX3_addCard 51 = .ok (.getfield 70, 3) := by decide +kernel
theorem dX3_addCard_54 : decode cX3_addCard 54 = .ok (.iastore, 1) := by decide +kernel
theorem dX3_addCard_55 : decode cX3_addCard 55 = .ok (.aload_n 0, 1) := by decide +kernel
theorem dX3_addCard_56 : decode cX3_addCard 56 = .ok (.getfield 23, 3) := by decide +kernel
theorem dX3_addCard_59 : decode cX3_addCard 59 = .ok (.iload_n 1, 1) := by decide +kernel
theorem dX3_addCard_60 : decode cX3_addCard 60 = .ok (.aaload, 1) := by decide +kernel
theorem dX3_addCard_61 : decode cX3_addCard 61 = .ok (.dup, 1) := by decide +kernel
theorem dX3_addCard_62 : decode cX3_addCard 62 = .ok (.getfield 102, 3) := by decide +kernel
theorem dX3_addCard_65 : decode cX3_addCard 65 = .ok (.iconst 1, 1) := by decide +kernel
theorem dX3_addCard_66 : decode cX3_addCard 66 = .ok (.iadd, 1) := by decide +kernel
theorem dX3_addCard_67 : decode cX3_addCard 67 = .ok (.putfield 102, 3) := by decide +kernel
theorem dX3_addCard_70 : decode cX3_addCard 70 = .ok (.aload_n 0, 1) := by decide +kernel
theorem dX3_addCard_71 : decode cX3_addCard 71 = .ok (.getfield 33, 3) := by decide +kernel
theorem dX3_addCard_74 : decode cX3_addCard 74 = .ok (.iconst 0, 1) := by decide +kernel
theorem dX3_addCard_75 : decode cX3_addCard 75 = .ok (.dup2, 1) := by decide +kernel
theorem dX3_addCard_76 : decode cX3_addCard 76 = .ok (.iaload, 1) := by decide +kernel
theorem dX3_addCard_77 : decode cX3_addCard 77 = .ok (.iconst 1, 1) := by decide +kernel
theorem dX3_addCard_78 : decode cX3_addCard 78 = .ok (.iadd, 1) := by decide +kernel
theorem dX3_addCard_79 : decode cX3_addCard 79 = .ok (.iastore, 1) := by decide +kernel
theorem dX3_addCard_80 : decode cX3_addCard 80 = .ok (.aload_n 0, 1) := by decide +kernel
theorem dX3_addCard_81 : decode cX3_addCard 81 = .ok (.dup, 1) := by decide +kernel
theorem dX3_addCard_82 : decode cX3_addCard 82 = .ok (.getfield 70, 3) := by decide +kernel
theorem dX3_addCard_85 : decode cX3_addCard 85 = .ok (.iconst 1, 1) := by decide +kernel
theorem dX3_addCard_86 : decode cX3_addCard 86 = .ok (.iadd, 1) := by decide +kernel
theorem dX3_addCard_87 : decode cX3_addCard 87 = .ok (.putfield 70, 3) := by decide +kernel
theorem dX3_addCard_90 : decode cX3_addCard 90 = .ok (.return_, 1) := by decide +kernel
theorem dX3_putAt_0 : decode cX3_putAt 0 = .ok (.aload_n 0, 1) := by decide +kernel
theorem dX3_putAt_1 : decode cX3_putAt 1 = .ok (.getfield 29, 3) := by decide +kernel
theorem dX3_putAt_4 : decode cX3_putAt 4 = .ok (.iload_n 1, 1) := by decide +kernel
theorem dX3_putAt_5 : decode cX3_putAt 5 = .ok (.aaload, 1) := by decide +kernel
theorem dX3_putAt_6 : decode cX3_putAt 6 = .ok (.iload_n 2, 1) := by decide +kernel
theorem dX3_putAt_7 : decode cX3_putAt 7 = .ok (.putfield 109, 3) := by decide +kernel
theorem dX3_putAt_10 : decode cX3_putAt 10 = .ok (.aload_n 0, 1) := by decide +kernel
theorem dX3_putAt_11 : decode cX3_putAt 11 = .ok (.getfield 23, 3) := by decide +kernel
theorem dX3_putAt_14 : decode cX3_putAt 14 = .ok (.aload_n 0, 1) := by decide +kernel
theorem dX3_putAt_15 : decode cX3_putAt 15 = .ok (.getfield 29, 3) := by decide +kernel
theorem dX3_putAt_18 : decode cX3_putAt 18 = .ok (.iload_n 1, 1) := by decide +kernel
theorem dX3_putAt_19 : decode cX3_putAt 19 = .ok (.aaload, 1) := by decide +kernel
theorem dX3_putAt_20 : decode cX3_putAt 20 = .ok (.getfield 112, 3) := by decide +kernel
theorem dX3_putAt_23 : decode cX3_putAt 23 = .ok (.aaload, 1) := by decide +kernel
theorem dX3_putAt_24 : decode cX3_putAt 24 = .ok (.getfield 106, 3) := by decide +kernel
theorem dX3_putAt_27 : decode cX3_putAt 27 = .ok (.iload_n 2, 1) := by decide +kernel
theorem dX3_putAt_28 : decode cX3_putAt 28 = .ok (.iload_n 1, 1) := by decide +kernel
theorem dX3_putAt_29 : decode cX3_putAt 29 = .ok (.iastore, 1) := by decide +kernel
theorem dX3_putAt_30 : decode cX3_putAt 30 = .ok (.return_, 1) := by decide +kernel
set_option maxRecDepth 20000 in
theorem ggX3_tick_X3_restOrWork : GoodIn wsX3_tick wsX3_restOrWork := goodIn_r _ [9, 10, 1, 4, 11, 12, 13, 14, 15, 16, 17, 18, 19, 20, 21, 22, 23, 24, 188, 189, 190, 191, 192, 193, 194, 195, 196, 197, 198, 199, 200, 201, 202, 171, 172, 173, 174, 175, 176, 177, 178, 179, 180, 181, 182, 183, 184, 185, 186, 187] (by decide +kernel) (by decide +kernel)
set_option maxRecDepth 20000 in
theorem gX3_tick_X3_restOrWork : GoodIn wsX3_tick (wsV RX3 119 RX3 yX3_restOrWork wsX3_restOrWork) := goodIn_app (goodIn_of _ (by decide +kernel)) ggX3_tick_X3_restOrWork
set_option maxRecDepth 20000 in
theorem ggX3_tick_X3_failCardIn : GoodIn wsX3_tick wsX3_failCardIn := goodIn_r _ [28, 4, 29, 30, 31, 32, 33, 34, 35, 36, 37, 38, 39, 17, 40, 41, 42, 43, 44, 45, 8, 46, 47, 48, 49, 50, 51, 52, 53, 54, 55, 56, 57, 58, 59, 60, 61, 62, 63, 64, 65, 66, 67, 68, 188, 189, 190, 191, 192, 193, 194, 195, 196, 197, 198, 199, 200, 201, 202, 171, 172, 173, 174, 175, 176, 177, 178, 179, 180, 181, 182, 183, 184, 185, 186, 187, 203, 204, 205, 206, 207, 208, 209, 210, 211, 212, 213, 214, 215, 216, 217, 218, 219, 220, 221, 222, 223] (by decide +kernel) (by decide +kernel)
set_option maxRecDepth 20000 in
theorem gX3_tick_X3_failCardIn : GoodIn wsX3_tick (wsV RX3 123 RX3 yX3_failCardIn wsX3_failCardIn) := goodIn_app (goodIn_of _ (by decide +kernel)) ggX3_tick_X3_failCardIn
set_option maxRecDepth 20000 in
theorem ggX3_tick_X6_hasReadyCard : GoodIn wsX3_tick wsX6_hasReadyCard := goodIn_r _ [72, 41, 73, 188, 189, 190, 191, 192, 193, 194, 195, 196, 197, 198, 199, 200, 201, 202] (by decide +kernel) (by decide +kernel)
set_option maxRecDepth 20000 in
theorem gX3_tick_X6_hasReadyCard : GoodIn wsX3_tick (wsV RX3 126 RX6 yX6_hasReadyCard wsX6_hasReadyCard) := goodIn_app (goodIn_of _ (by decide +kernel)) ggX3_tick_X6_hasReadyCard
set_option maxRecDepth 20000 in
theorem ggX3_tick_X3_comeOut : GoodIn wsX3_tick wsX3_comeOut := goodIn_r _ [77, 4, 29, 1, 31, 32, 53, 78, 79, 80, 30, 81, 82, 83, 17, 84, 41, 85, 86, 87, 88, 89, 90, 91, 92, 93, 94, 95, 96, 97, 98, 99, 100, 8, 101, 102, 103, 104, 105, 106, 49, 50, 51, 52, 54, 55, 56, 57, 58, 59, 60, 61, 62, 63, 64, 65, 66, 67, 68, 188, 189, 190, 191, 192, 193, 194, 195, 196, 197, 198, 199, 200, 201, 202, 171, 172, 173, 174, 175, 176, 177, 178, 179, 180, 181, 182, 183, 184, 185, 186, 187, 203, 204, 205, 206, 207, 208, 209, 210, 211, 212, 213, 214, 215, 216, 217, 218, 219, 220, 221, 222, 223] (by decide +kernel) (by decide +kernel)
set_option maxRecDepth 20000 in
theorem gX3_tick_X3_comeOut : GoodIn wsX3_tick (wsV RX3 130 RX3 yX3_comeOut wsX3_comeOut) := goodIn_app (goodIn_of _ (by decide +kernel)) ggX3_tick_X3_comeOut
set_option maxRecDepth 20000 in
theorem ggX3_tick_X3_goOn : GoodIn wsX3_tick wsX3_goOn := goodIn_r _ [110, 4, 1, 81, 82, 83, 17, 84, 41, 85, 111, 112, 113, 8, 114, 29, 3, 115, 30, 55, 116, 117, 118, 119, 120, 121, 122, 123, 124, 125, 126, 127, 128, 73, 129, 130, 131, 132, 133, 49, 50, 51, 52, 53, 54, 188, 189, 190, 191, 192, 193, 194, 195, 196, 197, 198, 199, 200, 201, 202, 171, 172, 173, 174, 175, 176, 177, 178, 179, 180, 181, 182, 183, 184, 185, 186, 187, 203, 204, 205, 206, 207, 208, 209, 210, 211] (by decide +kernel) (by decide +kernel)
set_option maxRecDepth 20000 in
theorem gX3_tick_X3_goOn : GoodIn wsX3_tick (wsV RX3 136 RX3 yX3_goOn wsX3_goOn) := goodIn_app (goodIn_of _ (by decide +kernel)) ggX3_tick_X3_goOn
set_option maxRecDepth 20000 in
theorem ggX3_tick_X3_feed : GoodIn wsX3_tick wsX3_feed := goodIn_r _ [137, 2, 138, 3, 4, 12, 30, 29, 47, 1, 139, 140, 141, 8, 142, 143, 54, 35, 79, 31, 32, 144, 111, 112, 113, 114, 115, 55, 116, 117, 118, 17, 119, 120, 121, 122, 123, 124, 125, 126, 127, 128, 73, 41, 129, 130, 131, 132, 133, 49, 50, 51, 52, 53, 171, 172, 173, 174, 175, 176, 177, 178, 179, 180, 181, 182, 183, 184, 185, 186, 187, 188, 189, 190, 191, 192, 193, 194, 195, 196, 197, 198, 199, 200, 201, 202, 203, 204, 205, 206, 207, 208, 209, 210, 211, 212, 213, 214, 215, 216, 217, 218, 219, 220, 221, 222, 223] (by decide +kernel) (by decide +kernel)
set_option maxRecDepth 20000 in
theorem gX3_tick_X3_feed : GoodIn wsX3_tick (wsV RX3 140 RX3 yX3_feed wsX3_feed) := goodIn_app (goodIn_of _ (by decide +kernel)) ggX3_tick_X3_feed
set_option maxRecDepth 20000 in
theorem ggX3_tick_X3_emptyTray : GoodIn wsX3_tick wsX3_emptyTray := goodIn_r _ [148, 149, 53, 31, 29, 54, 1, 86, 87, 88, 89, 90, 91, 92, 93, 94, 95, 96, 97, 98, 99, 100, 8, 101, 102, 103, 104, 32, 105, 106, 49, 50, 51, 52, 55, 56, 57, 58, 59, 60, 61, 62, 63, 64, 65, 66, 67, 68, 171, 172, 173, 174, 175, 176, 177, 178, 179, 180, 181, 182, 183, 184, 185, 186, 187, 203, 204, 205, 206, 207, 208, 209, 210, 211, 212, 213, 214, 215, 216, 217, 218, 219, 220, 221, 222, 223] (by decide +kernel) (by decide +kernel)
set_option maxRecDepth 20000 in
theorem gX3_tick_X3_emptyTray : GoodIn wsX3_tick (wsV RX3 143 RX3 yX3_emptyTray wsX3_emptyTray) := goodIn_app (goodIn_of _ (by decide +kernel)) ggX3_tick_X3_emptyTray
set_option maxRecDepth 20000 in
theorem ggX3_tick_X3_countReadyCards : GoodIn wsX3_tick wsX3_countReadyCards := goodIn_r _ [153, 2, 3, 30, 69, 70, 71, 17, 72, 41, 73, 171, 172, 173, 174, 175, 176, 177, 178, 179, 180, 181, 182, 183, 184, 185, 186, 187, 188, 189, 190, 191, 192, 193, 194, 195, 196, 197, 198, 199, 200, 201, 202] (by decide +kernel) (by decide +kernel)
set_option maxRecDepth 20000 in
theorem gX3_tick_X3_countReadyCards : GoodIn wsX3_tick (wsV RX3 146 RX3 yX3_countReadyCards wsX3_countReadyCards) := goodIn_app (goodIn_of _ (by decide +kernel)) ggX3_tick_X3_countReadyCards
set_option maxRecDepth 20000 in
theorem ggX3_tick_X3_passTime : GoodIn wsX3_tick wsX3_passTime := goodIn_r _ [157, 103, 158, 149, 31, 159, 160, 161, 8, 162, 163, 164, 165, 89, 166, 167, 168, 169, 170, 171, 172, 173, 174, 175, 176, 177, 178, 179, 180, 181, 182, 183, 184, 185, 186, 187, 212, 213, 214, 215, 216, 217, 218, 219, 220, 221, 222, 223] (by decide +kernel) (by decide +kernel)
set_option maxRecDepth 20000 in
theorem gX3_tick_X3_passTime : GoodIn wsX3_tick (wsV RX3 149 RX3 yX3_passTime wsX3_passTime) := goodIn_app (goodIn_of _ (by decide +kernel)) ggX3_tick_X3_passTime
theorem dX3_tick_0 : decode cX3_tick 0 = .ok (.aload_n 0, 1) := by decide +kernel
theorem dX3_tick_1 : decode cX3_tick 1 = .ok (.iconst 0, 1) := by decide +kernel
theorem dX3_tick_2 : decode cX3_tick 2 = .ok (.putfield 115, 3) := by decide +kernel
theorem dX3_tick_5 : decode cX3_tick 5 = .ok (.aload_n 0, 1) := by decide +kernel
theorem dX3_tick_6 : decode cX3_tick 6 = .ok (.getfield 64, 3) := by decide +kernel
theorem dX3_tick_9 : decode cX3_tick 9 = .ok (.iconst 1, 1) := by decide +kernel
theorem dX3_tick_10 : decode cX3_tick 10 = .ok (.isub, 1) := by decide +kernel
theorem dX3_tick_11 : decode cX3_tick 11 = .ok (.istore_n 1, 1) := by decide +kernel
theorem dX3_tick_12 : decode cX3_tick 12 = .ok (.iload_n 1, 1) := by decide +kernel
theorem dX3_tick_13 : decode cX3_tick 13 = .ok (.ifCond .lt 87, 3) := by decide +kernel
theorem dX3_tick_16 : decode cX3_tick 16 = .ok (.aload_n 0, 1) := by decide +kernel
theorem dX3_tick_17 : decode cX3_tick 17 = .ok (.getfield 17, 3) := by decide +kernel
theorem dX3_tick_20 : decode cX3_tick 20 = .ok (.iload_n 1, 1) := by decide +kernel
theorem dX3_tick_21 : decode cX3_tick 21 = .ok (.aaload, 1) := by decide +kernel
theorem dX3_tick_22 : decode cX3_tick 22 = .ok (.astore_n 2, 1) := by decide +kernel
theorem dX3_tick_23 : decode cX3_tick 23 = .ok (.aload_n 0, 1) := by decide +kernel
theorem dX3_tick_24 : decode cX3_tick 24 = .ok (.aload_n 2, 1) := by decide +kernel
theorem dX3_tick_25 : decode cX3_tick 25 = .ok (.invokevirtual 119, 3) := by decide +kernel
theorem dX3_tick_28 : decode cX3_tick 28 = .ok (.ifCond .eq 11, 3) := by decide +kernel
theorem dX3_tick_31 : decode cX3_tick 31 = .ok (.aload_n 0, 1) := by decide +kernel
theorem dX3_tick_32 : decode cX3_tick 32 = .ok (.aload_n 2, 1) := by decide +kernel
theorem dX3_tick_33 : decode cX3_tick 33 = .ok (.invokevirtual 123, 3) := by decide +kernel
theorem dX3_tick_36 : decode cX3_tick 36 = .ok (.goto 58, 3) := by decide +kernel
theorem dX3_tick_39 : decode cX3_tick 39 = .ok (.aload_n 2, 1) := by decide +kernel
theorem dX3_tick_40 : decode cX3_tick 40 = .ok (.invokevirtual 126, 3) := by decide +kernel
theorem dX3_tick_43 : decode cX3_tick 43 = .ok (.ifCond .eq 21, 3) := by decide +kernel
theorem dX3_tick_46 : decode cX3_tick 46 = .ok (.iload_n 1, 1) := by decide +kernel
theorem dX3_tick_47 : decode cX3_tick 47 = .ok (.aload_n 0, 1) := by decide +kernel
theorem dX3_tick_48 : decode cX3_tick 48 = .ok (.getfield 64, 3) := by decide +kernel
theorem dX3_tick_51 : decode cX3_tick 51 = .ok (.iconst 1, 1) := by decide +kernel
theorem dX3_tick_52 : decode cX3_tick 52 = .ok (.isub, 1) := by decide +kernel
theorem dX3_tick_53 : decode cX3_tick 53 = .ok (.if_icmp .ne 11, 3) := by decide +kernel
theorem dX3_tick_56 : decode cX3_tick 56 = .ok (.aload_n 0, 1) := by decide +kernel
theorem dX3_tick_57 : decode cX3_tick 57 = .ok (.aload_n 2, 1) := by decide +kernel
theorem dX3_tick_58 : decode cX3_tick 58 = .ok (.invokevirtual 130, 3) := by decide +kernel
theorem dX3_tick_61 : decode cX3_tick 61 = .ok (.goto 33, 3) := by decide +kernel
theorem dX3_tick_64 : decode cX3_tick 64 = .ok (.aload_n 2, 1) := by decide +kernel
theorem dX3_tick_65 : decode cX3_tick 65 = .ok (.invokevirtual 126, 3) := by decide +kernel
theorem dX3_tick_68 : decode cX3_tick 68 = .ok (.ifCond .eq 26, 3) := by decide +kernel
theorem dX3_tick_71 : decode cX3_tick 71 = .ok (.aload_n 0, 1) := by decide +kernel
theorem dX3_tick_72 : decode cX3_tick 72 = .ok (.getfield 17, 3) := by decide +kernel
theorem dX3_tick_75 : decode cX3_tick 75 = .ok (.iload_n 1, 1) := by decide +kernel
theorem dX3_tick_76 : decode cX3_tick 76 = .ok (.iconst 1, 1) := by decide +kernel
theorem dX3_tick_77 : decode cX3_tick 77 = .ok (.iadd, 1) := by decide +kernel
theorem dX3_tick_78 : decode cX3_tick 78 = .ok (.aaload, 1) := by decide +kernel
theorem dX3_tick_79 : decode cX3_tick 79 = .ok (.getfield 133, 3) := by decide +kernel
theorem dX3_tick_82 : decode cX3_tick 82 = .ok (.iconst (-1), 1) := by decide +kernel
theorem dX3_tick_83 : decode cX3_tick 83 = .ok (.if_icmp .ne 11, 3) := by decide +kernel
theorem dX3_tick_86 : decode cX3_tick 86 = .ok (.aload_n 0, 1) := by decide +kernel
theorem dX3_tick_87 : decode cX3_tick 87 = .ok (.aload_n 2, 1) := by decide +kernel
theorem dX3_tick_88 : decode cX3_tick 88 = .ok (.iload_n 1, 1) := by decide +kernel
theorem dX3_tick_89 : decode cX3_tick 89 = .ok (.iconst 1, 1) := by decide +kernel
theorem dX3_tick_90 : decode cX3_tick 90 = .ok (.iadd, 1) := by decide +kernel
theorem dX3_tick_91 : decode cX3_tick 91 = .ok (.invokevirtual 136, 3) := by decide +kernel
theorem dX3_tick_94 : decode cX3_tick 94 = .ok (.iinc 1 (-1), 3) := by decide +kernel
theorem dX3_tick_97 : decode cX3_tick 97 = .ok (.goto (-85), 3) := by decide +kernel
theorem dX3_tick_100 : decode cX3_tick 100 = .ok (.aload_n 0, 1) := by decide +kernel
theorem dX3_tick_101 : decode cX3_tick 101 = .ok (.invokevirtual 140, 3) := by decide +kernel
theorem dX3_tick_104 : decode cX3_tick 104 = .ok (.aload_n 0, 1) := by decide +kernel
theorem dX3_tick_105 : decode cX3_tick 105 = .ok (.invokevirtual 143, 3) := by decide +kernel
theorem dX3_tick_108 : decode cX3_tick 108 = .ok (.aload_n 0, 1) := by decide +kernel
theorem dX3_tick_109 : decode cX3_tick 109 = .ok (.invokevirtual 146, 3) := by decide +kernel
theorem dX3_tick_112 : decode cX3_tick 112 = .ok (.aload_n 0, 1) := by decide +kernel
theorem dX3_tick_113 : decode cX3_tick 113 = .ok (.invokevirtual 149, 3) := by decide +kernel
theorem dX3_tick_116 : decode cX3_tick 116 = .ok (.aload_n 0, 1) := by decide +kernel
theorem dX3_tick_117 : decode cX3_tick 117 = .ok (.getfield 115, 3) := by decide +kernel
theorem dX3_tick_120 : decode cX3_tick 120 = .ok (.ireturn, 1) := by decide +kernel
set_option maxRecDepth 20000 in
theorem ggX3_restOrWork_X6_useSign : GoodIn wsX3_restOrWork wsX6_useSign := goodIn_r _ [11, 12, 13, 14, 15, 16, 17, 18, 19, 20, 21, 22, 23, 24, 25, 26, 27, 28, 29, 30, 31, 32] (by decide +kernel) (by decide +kernel)
set_option maxRecDepth 20000 in
theorem gX3_restOrWork_X6_useSign : GoodIn wsX3_restOrWork (wsV RX3 164 RX6 yX6_useSign wsX6_useSign) := goodIn_app (goodIn_of _ (by decide +kernel)) ggX3_restOrWork_X6_useSign
theorem dX3_restOrWork_0 : decode cX3_restOrWork 0 = .ok (.aload_n 1, 1) := by decide +kernel
theorem dX3_restOrWork_1 : decode cX3_restOrWork 1 = .ok (.getfield 152, 3) := by decide +kernel
theorem dX3_restOrWork_4 : decode cX3_restOrWork 4 = .ok (.ifCond .le 20, 3) := by decide +kernel
theorem dX3_restOrWork_7 : decode cX3_restOrWork 7 = .ok (.aload_n 1, 1) := by decide +kernel
theorem dX3_restOrWork_8 : decode cX3_restOrWork 8 = .ok (.dup, 1) := by decide +kernel
theorem dX3_restOrWork_9 : decode cX3_restOrWork 9 = .ok (.getfield 152, 3) := by decide +kernel
theorem dX3_restOrWork_12 : decode cX3_restOrWork 12 = .ok (.iconst 1, 1) := by decide +kernel
theorem dX3_restOrWork_13 : decode cX3_restOrWork 13 = .ok (.isub, 1) := by decide +kernel
theorem dX3_restOrWork_14 : decode cX3_restOrWork 14 = .ok (.putfield 152, 3) := by decide +kernel
theorem dX3_restOrWork_17 : decode cX3_restOrWork 17 = .ok (.aload_n 0, 1) := by decide +kernel
theorem dX3_restOrWork_18 : decode cX3_restOrWork 18 = .ok (.iconst 1, 1) := by decide +kernel
theorem dX3_restOrWork_19 : decode cX3_restOrWork 19 = .ok (.putfield 115, 3) := by decide +kernel
theorem dX3_restOrWork_22 : decode cX3_restOrWork 22 = .ok (.iconst 0, 1) := by decide +kernel
theorem dX3_restOrWork_23 : decode cX3_restOrWork 23 = .ok (.ireturn, 1) := by decide +kernel
theorem dX3_restOrWork_24 : decode cX3_restOrWork 24 = .ok (.aload_n 1, 1) := by decide +kernel
theorem dX3_restOrWork_25 : decode cX3_restOrWork 25 = .ok (.getfield 133, 3) := by decide +kernel
theorem dX3_restOrWork_28 : decode cX3_restOrWork 28 = .ok (.iconst (-1), 1) := by decide +kernel
theorem dX3_restOrWork_29 : decode cX3_restOrWork 29 = .ok (.if_icmp .eq 17, 3) := by decide +kernel
theorem dX3_restOrWork_32 : decode cX3_restOrWork 32 = .ok (.aload_n 1, 1) := by decide +kernel
theorem dX3_restOrWork_33 : decode cX3_restOrWork 33 = .ok (.getfield 155, 3) := by decide +kernel
theorem dX3_restOrWork_36 : decode cX3_restOrWork 36 = .ok (.ifCond .eq 10, 3) := by decide +kernel
theorem dX3_restOrWork_39 : decode cX3_restOrWork 39 = .ok (.aload_n 1, 1) := by decide +kernel
theorem dX3_restOrWork_40 : decode cX3_restOrWork 40 = .ok (.getfield 158, 3) := by decide +kernel
theorem dX3_restOrWork_43 : decode cX3_restOrWork 43 = .ok (.ifCond .eq 5, 3) := by decide +kernel
theorem dX3_restOrWork_46 : decode cX3_restOrWork 46 = .ok (.iconst 0, 1) := by decide +kernel
theorem dX3_restOrWork_47 : decode cX3_restOrWork 47 = .ok (.ireturn, 1) := by decide +kernel
theorem dX3_restOrWork_48 : decode cX3_restOrWork 48 = .ok (.aload_n 1, 1) := by decide +kernel
theorem dX3_restOrWork_49 : decode cX3_restOrWork 49 = .ok (.dup, 1) := by decide +kernel
theorem dX3_restOrWork_50 : decode cX3_restOrWork 50 = .ok (.getfield 161, 3) := by decide +kernel
theorem dX3_restOrWork_53 : decode cX3_restOrWork 53 = .ok (.iconst 1, 1) := by decide +kernel
theorem dX3_restOrWork_54 : decode cX3_restOrWork 54 = .ok (.iadd, 1) := by decide +kernel
theorem dX3_restOrWork_55 : decode cX3_restOrWork 55 = .ok (.putfield 161, 3) := by decide +kernel
theorem dX3_restOrWork_58 : decode cX3_restOrWork 58 = .ok (.aload_n 1, 1) := by decide +kernel
theorem dX3_restOrWork_59 : decode cX3_restOrWork 59 = .ok (.dup, 1) := by decide +kernel
theorem dX3_restOrWork_60 : decode cX3_restOrWork 60 = .ok (.getfield 155, 3) := by decide +kernel
theorem dX3_restOrWork_63 : decode cX3_restOrWork 63 = .ok (.iconst 1, 1) := by decide +kernel
theorem dX3_restOrWork_64 : decode cX3_restOrWork 64 = .ok (.isub, 1) := by decide +kernel
theorem dX3_restOrWork_65 : decode cX3_restOrWork 65 = .ok (.putfield 155, 3) := by decide +kernel
theorem dX3_restOrWork_68 : decode cX3_restOrWork 68 = .ok (.aload_n 0, 1) := by decide +kernel
theorem dX3_restOrWork_69 : decode cX3_restOrWork 69 = .ok (.iconst 1, 1) := by decide +kernel
theorem dX3_restOrWork_70 : decode cX3_restOrWork 70 = .ok (.putfield 115, 3) := by decide +kernel
theorem dX3_restOrWork_73 : decode cX3_restOrWork 73 = .ok (.aload_n 1, 1) := by decide +kernel
theorem dX3_restOrWork_74 : decode cX3_restOrWork 74 = .ok (.getfield 155, 3) := by decide +kernel
theorem dX3_restOrWork_77 : decode cX3_restOrWork 77 = .ok (.ifCond .ne 14, 3) := by decide +kernel
theorem dX3_restOrWork_80 : decode cX3_restOrWork 80 = .ok (.aload_n 1, 1) := by decide +kernel
theorem dX3_restOrWork_81 : decode cX3_restOrWork 81 = .ok (.invokevirtual 164, 3) := by decide +kernel
theorem dX3_restOrWork_84 : decode cX3_restOrWork 84 = .ok (.ifCond .eq 7, 3) := by decide +kernel
theorem dX3_restOrWork_87 : decode cX3_restOrWork 87 = .ok (.iconst 1, 1) := by decide +kernel
theorem dX3_restOrWork_88 : decode cX3_restOrWork 88 = .ok (.goto 4, 3) := by decide +kernel
theorem dX3_restOrWork_91 : decode cX3_restOrWork 91 = .ok (.iconst 0, 1) := by decide +kernel
theorem dX3_restOrWork_92 : decode cX3_restOrWork 92 = .ok (.ireturn, 1) := by decide +kernel
set_option maxRecDepth 20000 in
theorem ggX3_failCardIn_X6_letFail : GoodIn wsX3_failCardIn wsX6_letFail := goodIn_r _ [14, 15, 16, 44, 45, 46, 47, 48, 49, 50, 51, 52, 53, 54, 55, 56, 57, 58] (by decide +kernel) (by decide +kernel)
set_option maxRecDepth 20000 in
theorem gX3_failCardIn_X6_letFail : GoodIn wsX3_failCardIn (wsV RX3 167 RX6 yX6_letFail wsX6_letFail) := goodIn_app (goodIn_of _ (by decide +kernel)) ggX3_failCardIn_X6_letFail
set_option maxRecDepth 20000 in
theorem ggX3_failCardIn_X3_abandon : GoodIn wsX3_failCardIn wsX3_abandon := goodIn_r _ [21, 2, 22, 4, 5, 23, 24, 25, 26, 20, 27, 28, 29, 30, 31, 32, 33, 34, 35, 36, 37, 38, 39, 40, 41, 42, 43, 59, 60, 61, 62, 63, 64, 65, 66, 67, 68, 69, 70, 71, 72, 73, 74, 75, 76, 77, 78, 79, 80, 81, 82, 83, 84, 85, 86, 87, 88, 89, 90, 91, 92, 93, 94, 95, 96] (by decide +kernel) (by decide +kernel)
set_option maxRecDepth 20000 in
theorem gX3_failCardIn_X3_abandon : GoodIn wsX3_failCardIn (wsV RX3 177 RX3 yX3_abandon wsX3_abandon) := goodIn_app (goodIn_of _ (by decide +kernel)) ggX3_failCardIn_X3_abandon
set_option maxRecDepth 20000 in
theorem ggX3_failCardIn_X3_changeState : GoodIn wsX3_failCardIn wsX3_changeState := goodIn_r _ [27, 28, 29, 30, 59, 60, 61, 62, 63, 64, 65, 66, 67, 68, 69, 70, 71, 72, 73, 74, 75, 76, 77, 78, 79, 80, 81, 82, 83, 84] (by decide +kernel) (by decide +kernel)
set_option maxRecDepth 20000 in
theorem gX3_failCardIn_X3_changeState : GoodIn wsX3_failCardIn (wsV RX3 180 RX3 yX3_changeState wsX3_changeState) := goodIn_app (goodIn_of _ (by decide +kernel)) ggX3_failCardIn_X3_changeState
theorem dX3_failCardIn_0 : decode cX3_failCardIn 0 = .ok (.aload_n 1, 1) := by decide +kernel
theorem dX3_failCardIn_1 : decode cX3_failCardIn 1 = .ok (.getfield 133, 3) := by decide +kernel
theorem dX3_failCardIn_4 : decode cX3_failCardIn 4 = .ok (.istore_n 2, 1) := by decide +kernel
theorem dX3_failCardIn_5 : decode cX3_failCardIn 5 = .ok (.aload_n 0, 1) := by decide +kernel
theorem dX3_failCardIn_6 : decode cX3_failCardIn 6 = .ok (.getfield 29, 3) := by decide +kernel
theorem dX3_failCardIn_9 : decode cX3_failCardIn 9 = .ok (.iload_n 2, 1) := by decide +kernel
theorem dX3_failCardIn_10 : decode cX3_failCardIn 10 = .ok (.aaload, 1) := by decide +kernel
theorem dX3_failCardIn_11 : decode cX3_failCardIn 11 = .ok (.astore_n 3, 1) := by decide +kernel
theorem dX3_failCardIn_12 : decode cX3_failCardIn 12 = .ok (.aload_n 1, 1) := by decide +kernel
theorem dX3_failCardIn_13 : decode cX3_failCardIn 13 = .ok (.invokevirtual 167, 3) := by decide +kernel
theorem dX3_failCardIn_16 : decode cX3_failCardIn 16 = .ok (.aload_n 0, 1) := by decide +kernel
theorem dX3_failCardIn_17 : decode cX3_failCardIn 17 = .ok (.getfield 40, 3) := by decide +kernel
theorem dX3_failCardIn_20 : decode cX3_failCardIn 20 = .ok (.iconst 1, 1) := by decide +kernel
theorem dX3_failCardIn_21 : decode cX3_failCardIn 21 = .ok (.dup2, 1) := by decide +kernel
theorem dX3_failCardIn_22 : decode cX3_failCardIn 22 = .ok (.iaload, 1) := by decide +kernel
theorem dX3_failCardIn_23 : decode cX3_failCardIn 23 = .ok (.iconst 1, 1) := by decide +kernel
theorem dX3_failCardIn_24 : decode cX3_failCardIn 24 = .ok (.iadd, 1) := by decide +kernel
theorem dX3_failCardIn_25 : decode cX3_failCardIn 25 = .ok (.iastore, 1) := by decide +kernel
theorem dX3_failCardIn_26 : decode cX3_failCardIn 26 = .ok (.aload_n 0, 1) := by decide +kernel
theorem dX3_failCardIn_27 : decode cX3_failCardIn 27 = .ok (.getfield 23, 3) := by decide +kernel
theorem dX3_failCardIn_30 : decode cX3_failCardIn 30 = .ok (.aload_n 3, 1) := by decide +kernel
theorem dX3_failCardIn_31 : decode cX3_failCardIn 31 = .ok (.getfield 112, 3) := by decide +kernel
theorem dX3_failCardIn_34 : decode cX3_failCardIn 34 = .ok (.aaload, 1) := by decide +kernel
theorem dX3_failCardIn_35 : decode cX3_failCardIn 35 = .ok (.dup, 1) := by decide +kernel
theorem dX3_failCardIn_36 : decode cX3_failCardIn 36 = .ok (.getfield 170, 3) := by decide +kernel
theorem dX3_failCardIn_39 : decode cX3_failCardIn 39 = .ok (.iconst 1, 1) := by decide +kernel
theorem dX3_failCardIn_40 : decode cX3_failCardIn 40 = .ok (.iadd, 1) := by decide +kernel
theorem dX3_failCardIn_41 : decode cX3_failCardIn 41 = .ok (.putfield 170, 3) := by decide +kernel
theorem dX3_failCardIn_44 : decode cX3_failCardIn 44 = .ok (.aload_n 0, 1) := by decide +kernel
theorem dX3_failCardIn_45 : decode cX3_failCardIn 45 = .ok (.getfield 23, 3) := by decide +kernel
theorem dX3_failCardIn_48 : decode cX3_failCardIn 48 = .ok (.aload_n 3, 1) := by decide +kernel
theorem dX3_failCardIn_49 : decode cX3_failCardIn 49 = .ok (.getfield 112, 3) := by decide +kernel
theorem dX3_failCardIn_52 : decode cX3_failCardIn 52 = .ok (.aaload, 1) := by decide +kernel
theorem dX3_failCardIn_53 : decode cX3_failCardIn 53 = .ok (.dup, 1) := by decide +kernel
theorem dX3_failCardIn_54 : decode cX3_failCardIn 54 = .ok (.getfield 173, 3) := by decide +kernel
theorem dX3_failCardIn_57 : decode cX3_failCardIn 57 = .ok (.iconst 1, 1) := by decide +kernel
theorem dX3_failCardIn_58 : decode cX3_failCardIn 58 = .ok (.iadd, 1) := by decide +kernel
theorem dX3_failCardIn_59 : decode cX3_failCardIn 59 = .ok (.putfield 173, 3) := by decide +kernel
theorem dX3_failCardIn_62 : decode cX3_failCardIn 62 = .ok (.aload_n 3, 1) := by decide +kernel
theorem dX3_failCardIn_63 : decode cX3_failCardIn 63 = .ok (.dup, 1) := by decide +kernel
theorem dX3_failCardIn_64 : decode cX3_failCardIn 64 = .ok (.getfield 176, 3) := by decide +kernel
theorem dX3_failCardIn_67 : decode cX3_failCardIn 67 = .ok (.iconst 1, 1) := by decide +kernel
theorem dX3_failCardIn_68 : decode cX3_failCardIn 68 = .ok (.iadd, 1) := by decide +kernel
theorem dX3_failCardIn_69 : decode cX3_failCardIn 69 = .ok (.putfield 176, 3) := by decide +kernel
theorem dX3_failCardIn_72 : decode cX3_failCardIn 72 = .ok (.aload_n 3, 1) := by decide +kernel
theorem dX3_failCardIn_73 : decode cX3_failCardIn 73 = .ok (.getfield 176, 3) := by decide +kernel
theorem dX3_failCardIn_76 : decode cX3_failCardIn 76 = .ok (.aload_n 0, 1) := by decide +kernel
theorem dX3_failCardIn_77 : decode cX3_failCardIn 77 = .ok (.getfield 58, 3) := by decide +kernel
theorem dX3_failCardIn_80 : decode cX3_failCardIn 80 = .ok (.if_icmp .lt 11, 3) := by decide +kernel
theorem dX3_failCardIn_83 : decode cX3_failCardIn 83 = .ok (.aload_n 0, 1) := by decide +kernel
theorem dX3_failCardIn_84 : decode cX3_failCardIn 84 = .ok (.iload_n 2, 1) := by decide +kernel
theorem dX3_failCardIn_85 : decode cX3_failCardIn 85 = .ok (.invokevirtual 177, 3) := by decide +kernel
theorem dX3_failCardIn_88 : decode cX3_failCardIn 88 = .ok (.goto 9, 3) := by decide +kernel
theorem dX3_failCardIn_91 : decode cX3_failCardIn 91 = .ok (.aload_n 0, 1) := by decide +kernel
theorem dX3_failCardIn_92 : decode cX3_failCardIn 92 = .ok (.aload_n 3, 1) := by decide +kernel
theorem dX3_failCardIn_93 : decode cX3_failCardIn 93 = .ok (.iconst 0, 1) := by decide +kernel
theorem dX3_failCardIn_94 : decode cX3_failCardIn 94 = .ok (.invokevirtual 180, 3) := by decide +kernel
theorem dX3_failCardIn_97 : decode cX3_failCardIn 97 = .ok (.return_, 1) := by decide +kernel
set_option maxRecDepth 20000 in
theorem ggX3_goOn_X6_letGoOn : GoodIn wsX3_goOn wsX6_letGoOn := goodIn_r _ [7, 8, 9, 45, 46, 47, 48, 49, 50, 51, 52, 53, 54, 55, 56, 57, 58, 59] (by decide +kernel) (by decide +kernel)
set_option maxRecDepth 20000 in
theorem gX3_goOn_X6_letGoOn : GoodIn wsX3_goOn (wsV RX3 184 RX6 yX6_letGoOn wsX6_letGoOn) := goodIn_app (goodIn_of _ (by decide +kernel)) ggX3_goOn_X6_letGoOn
set_option maxRecDepth 20000 in
theorem ggX3_goOn_X3_enter : GoodIn wsX3_goOn wsX3_enter := goodIn_r _ [14, 15, 16, 17, 18, 19, 20, 21, 22, 6, 23, 24, 25, 26, 27, 28, 29, 30, 31, 32, 33, 8, 34, 35, 36, 37, 38, 39, 40, 41, 13, 42, 43, 44, 60, 61, 62, 63, 64, 65, 66, 67, 68, 69, 70, 71, 72, 73, 74, 75, 76, 77, 78, 79, 80, 81, 82, 83, 84, 85, 45, 46, 47, 48, 49, 50, 51, 52, 53, 54, 55, 56, 57, 58, 59] (by decide +kernel) (by decide +kernel)
set_option maxRecDepth 20000 in
theorem gX3_goOn_X3_enter : GoodIn wsX3_goOn (wsV RX3 187 RX3 yX3_enter wsX3_enter) := goodIn_app (goodIn_of _ (by decide +kernel)) ggX3_goOn_X3_enter
theorem dX3_goOn_0 : decode cX3_goOn 0 = .ok (.aload_n 1, 1) := by decide +kernel
theorem dX3_goOn_1 : decode cX3_goOn 1 = .ok (.getfield 133, 3) := by decide +kernel
theorem dX3_goOn_4 : decode cX3_goOn 4 = .ok (.istore_n 3, 1) := by decide +kernel
theorem dX3_goOn_5 : decode cX3_goOn 5 = .ok (.aload_n 1, 1) := by decide +kernel
theorem dX3_goOn_6 : decode cX3_goOn 6 = .ok (.invokevirtual 184, 3) := by decide +kernel
theorem dX3_goOn_9 : decode cX3_goOn 9 = .ok (.aload_n 0, 1) := by decide +kernel
theorem dX3_goOn_10 : decode cX3_goOn 10 = .ok (.iload_n 3, 1) := by decide +kernel
theorem dX3_goOn_11 : decode cX3_goOn 11 = .ok (.iload_n 2, 1) := by decide +kernel
theorem dX3_goOn_12 : decode cX3_goOn 12 = .ok (.invokevirtual 187, 3) := by decide +kernel
theorem dX3_goOn_15 : decode cX3_goOn 15 = .ok (.aload_n 0, 1) := by decide +kernel
theorem dX3_goOn_16 : decode cX3_goOn 16 = .ok (.iconst 1, 1) := by decide +kernel
theorem dX3_goOn_17 : decode cX3_goOn 17 = .ok (.putfield 115, 3) := by decide +kernel
theorem dX3_goOn_20 : decode cX3_goOn 20 = .ok (.return_, 1) := by decide +kernel
set_option maxRecDepth 20000 in
theorem ggX3_comeOut_X6_letGoOn : GoodIn wsX3_comeOut wsX6_letGoOn := goodIn_r _ [15, 16, 17, 59, 60, 61, 62, 63, 64, 65, 66, 67, 68, 69, 70, 71, 72, 73] (by decide +kernel) (by decide +kernel)
set_option maxRecDepth 20000 in
theorem gX3_comeOut_X6_letGoOn : GoodIn wsX3_comeOut (wsV RX3 184 RX6 yX6_letGoOn wsX6_letGoOn) := goodIn_app (goodIn_of _ (by decide +kernel)) ggX3_comeOut_X6_letGoOn
set_option maxRecDepth 20000 in
theorem ggX3_comeOut_X4_nextCard : GoodIn wsX3_comeOut wsX4_nextCard := goodIn_r _ [22, 23, 24, 25, 26, 21, 27, 28, 29, 100, 101, 102, 103, 104, 105, 106, 107, 108, 109, 110, 111] (by decide +kernel) (by decide +kernel)
set_option maxRecDepth 20000 in
theorem gX3_comeOut_X4_nextCard : GoodIn wsX3_comeOut (wsV RX3 191 RX4 yX4_nextCard wsX4_nextCard) := goodIn_app (goodIn_of _ (by decide +kernel)) ggX3_comeOut_X4_nextCard
set_option maxRecDepth 20000 in
theorem ggX3_comeOut_X3_leave : GoodIn wsX3_comeOut wsX3_leave := goodIn_r _ [34, 2, 35, 6, 36, 37, 4, 5, 38, 39, 40, 41, 42, 33, 43, 44, 45, 46, 47, 48, 49, 50, 51, 52, 53, 54, 55, 56, 57, 58, 74, 75, 76, 77, 78, 79, 80, 81, 82, 83, 84, 85, 86, 87, 88, 89, 90, 91, 92, 93, 94, 95, 96, 97, 98, 99, 100, 101, 102, 103, 104, 105, 106, 107, 108, 109, 110, 111] (by decide +kernel) (by decide +kernel)
set_option maxRecDepth 20000 in
theorem gX3_comeOut_X3_leave : GoodIn wsX3_comeOut (wsV RX3 195 RX3 yX3_leave wsX3_leave) := goodIn_app (goodIn_of _ (by decide +kernel)) ggX3_comeOut_X3_leave
set_option maxRecDepth 20000 in
theorem ggX3_comeOut_X3_changeState : GoodIn wsX3_comeOut wsX3_changeState := goodIn_r _ [43, 6, 44, 45, 74, 75, 76, 77, 78, 79, 80, 81, 82, 83, 84, 85, 86, 87, 88, 89, 90, 91, 92, 93, 94, 95, 96, 97, 98, 99] (by decide +kernel) (by decide +kernel)
set_option maxRecDepth 20000 in
theorem gX3_comeOut_X3_changeState : GoodIn wsX3_comeOut (wsV RX3 180 RX3 yX3_changeState wsX3_changeState) := goodIn_app (goodIn_of _ (by decide +kernel)) ggX3_comeOut_X3_changeState
theorem dX3_comeOut_0 : decode cX3_comeOut 0 = .ok (.aload_n 1, 1) := by decide +kernel
theorem dX3_comeOut_1 : decode cX3_comeOut 1 = .ok (.getfield 133, 3) := by decide +kernel
theorem dX3_comeOut_4 : decode cX3_comeOut 4 = .ok (.istore_n 2, 1) := by decide +kernel
theorem dX3_comeOut_5 : decode cX3_comeOut 5 = .ok (.aload_n 0, 1) := by decide +kernel
theorem dX3_comeOut_6 : decode cX3_comeOut 6 = .ok (.getfield 29, 3) := by decide +kernel
theorem dX3_comeOut_9 : decode cX3_comeOut 9 = .ok (.iload_n 2, 1) := by decide +kernel
theorem dX3_comeOut_10 : decode cX3_comeOut 10 = .ok (.aaload, 1) := by decide +kernel
theorem dX3_comeOut_11 : decode cX3_comeOut 11 = .ok (.astore_n 3, 1) := by decide +kernel
theorem dX3_comeOut_12 : decode cX3_comeOut 12 = .ok (.aload_n 1, 1) := by decide +kernel
theorem dX3_comeOut_13 : decode cX3_comeOut 13 = .ok (.invokevirtual 184, 3) := by decide +kernel
theorem dX3_comeOut_16 : decode cX3_comeOut 16 = .ok (.aload_n 0, 1) := by decide +kernel
theorem dX3_comeOut_17 : decode cX3_comeOut 17 = .ok (.iconst 1, 1) := by decide +kernel
theorem dX3_comeOut_18 : decode cX3_comeOut 18 = .ok (.putfield 115, 3) := by decide +kernel
theorem dX3_comeOut_21 : decode cX3_comeOut 21 = .ok (.aload_n 0, 1) := by decide +kernel
theorem dX3_comeOut_22 : decode cX3_comeOut 22 = .ok (.getfield 23, 3) := by decide +kernel
theorem dX3_comeOut_25 : decode cX3_comeOut 25 = .ok (.aload_n 3, 1) := by decide +kernel
theorem dX3_comeOut_26 : decode cX3_comeOut 26 = .ok (.getfield 112, 3) := by decide +kernel
theorem dX3_comeOut_29 : decode cX3_comeOut 29 = .ok (.aaload, 1) := by decide +kernel
theorem dX3_comeOut_30 : decode cX3_comeOut 30 = .ok (.invokevirtual 191, 3) := by decide +kernel
theorem dX3_comeOut_33 : decode cX3_comeOut 33 = .ok (.iload_n 2, 1) := by decide +kernel
theorem dX3_comeOut_34 : decode cX3_comeOut 34 = .ok (.if_icmp .ne 11, 3) := by decide +kernel
theorem dX3_comeOut_37 : decode cX3_comeOut 37 = .ok (.aload_n 0, 1) := by decide +kernel
theorem dX3_comeOut_38 : decode cX3_comeOut 38 = .ok (.iload_n 2, 1) := by decide +kernel
theorem dX3_comeOut_39 : decode cX3_comeOut 39 = .ok (.invokevirtual 195, 3) := by decide +kernel
theorem dX3_comeOut_42 : decode cX3_comeOut 42 = .ok (.goto 69, 3) := by decide +kernel
theorem dX3_comeOut_45 : decode cX3_comeOut 45 = .ok (.aload_n 0, 1) := by decide +kernel
theorem dX3_comeOut_46 : decode cX3_comeOut 46 = .ok (.getfield 33, 3) := by decide +kernel
theorem dX3_comeOut_49 : decode cX3_comeOut 49 = .ok (.iconst 2, 1) := by decide +kernel
theorem dX3_comeOut_50 : decode cX3_comeOut 50 = .ok (.iaload, 1) := by decide +kernel
theorem dX3_comeOut_51 : decode cX3_comeOut 51 = .ok (.aload_n 0, 1) := by decide +kernel
theorem dX3_comeOut_52 : decode cX3_comeOut 52 = .ok (.getfield 55, 3) := by decide +kernel
theorem dX3_comeOut_55 : decode cX3_comeOut 55 = .ok (.if_icmp .ge 12, 3) := by decide +kernel
theorem dX3_comeOut_58 : decode cX3_comeOut 58 = .ok (.aload_n 0, 1) := by decide +kernel
theorem dX3_comeOut_59 : decode cX3_comeOut 59 = .ok (.aload_n 3, 1) := by decide +kernel
theorem dX3_comeOut_60 : decode cX3_comeOut 60 = .ok (.iconst 2, 1) := by decide +kernel
theorem dX3_comeOut_61 : decode cX3_comeOut 61 = .ok (.invokevirtual 180, 3) := by decide +kernel
theorem dX3_comeOut_64 : decode cX3_comeOut 64 = .ok (.goto 47, 3) := by decide +kernel
theorem dX3_comeOut_67 : decode cX3_comeOut 67 = .ok (.aload_n 3, 1) := by decide +kernel
theorem dX3_comeOut_68 : decode cX3_comeOut 68 = .ok (.dup, 1) := by decide +kernel
theorem dX3_comeOut_69 : decode cX3_comeOut 69 = .ok (.getfield 198, 3) := by decide +kernel
theorem dX3_comeOut_72 : decode cX3_comeOut 72 = .ok (.iconst 1, 1) := by decide +kernel
theorem dX3_comeOut_73 : decode cX3_comeOut 73 = .ok (.iadd, 1) := by decide +kernel
theorem dX3_comeOut_74 : decode cX3_comeOut 74 = .ok (.putfield 198, 3) := by decide +kernel
theorem dX3_comeOut_77 : decode cX3_comeOut 77 = .ok (.aload_n 0, 1) := by decide +kernel
theorem dX3_comeOut_78 : decode cX3_comeOut 78 = .ok (.getfield 23, 3) := by decide +kernel
theorem dX3_comeOut_81 : decode cX3_comeOut 81 = .ok (.aload_n 3, 1) := by decide +kernel
theorem dX3_comeOut_82 : decode cX3_comeOut 82 = .ok (.getfield 112, 3) := by decide +kernel
theorem dX3_comeOut_85 : decode cX3_comeOut 85 = .ok (.aaload, 1) := by decide +kernel
theorem dX3_comeOut_86 : decode cX3_comeOut 86 = .ok (.dup, 1) := by decide +kernel
theorem dX3_comeOut_87 : decode cX3_comeOut 87 = .ok (.getfield 201, 3) := by decide +kernel
theorem dX3_comeOut_90 : decode cX3_comeOut 90 = .ok (.iconst 1, 1) := by decide +kernel
theorem dX3_comeOut_91 : decode cX3_comeOut 91 = .ok (.iadd, 1) := by decide +kernel
theorem dX3_comeOut_92 : decode cX3_comeOut 92 = .ok (.putfield 201, 3) := by decide +kernel
theorem dX3_comeOut_95 : decode cX3_comeOut 95 = .ok (.aload_n 0, 1) := by decide +kernel
theorem dX3_comeOut_96 : decode cX3_comeOut 96 = .ok (.getfield 40, 3) := by decide +kernel
theorem dX3_comeOut_99 : decode cX3_comeOut 99 = .ok (.iconst 2, 1) := by decide +kernel
theorem dX3_comeOut_100 : decode cX3_comeOut 100 = .ok (.dup2, 1) := by decide +kernel
theorem dX3_comeOut_101 : decode cX3_comeOut 101 = .ok (.iaload, 1) := by decide +kernel
theorem dX3_comeOut_102 : decode cX3_comeOut 102 = .ok (.iconst 1, 1) := by decide +kernel
theorem dX3_comeOut_103 : decode cX3_comeOut 103 = .ok (.iadd, 1) := by decide +kernel
theorem dX3_comeOut_104 : decode cX3_comeOut 104 = .ok (.iastore, 1) := by decide +kernel
theorem dX3_comeOut_105 : decode cX3_comeOut 105 = .ok (.aload_n 0, 1) := by decide +kernel
theorem dX3_comeOut_106 : decode cX3_comeOut 106 = .ok (.aload_n 3, 1) := by decide +kernel
theorem dX3_comeOut_107 : decode cX3_comeOut 107 = .ok (.iconst 0, 1) := by decide +kernel
theorem dX3_comeOut_108 : decode cX3_comeOut 108 = .ok (.invokevirtual 180, 3) := by decide +kernel
theorem dX3_comeOut_111 : decode cX3_comeOut 111 = .ok (.return_, 1) := by decide +kernel
set_option maxRecDepth 20000 in
theorem ggX3_feed_X3_nextWaiting : GoodIn wsX3_feed wsX3_nextWaiting := goodIn_r _ [14, 15, 7, 16, 8, 17, 18, 19, 20, 21, 54, 55, 56, 57, 58, 59, 60, 61, 62, 63, 64, 65, 66, 67, 68, 69, 70, 86, 87, 88, 89, 90, 91, 92, 93, 94, 95, 96, 97, 98, 99, 100, 101, 102, 103, 104, 105, 106] (by decide +kernel) (by decide +kernel)
set_option maxRecDepth 20000 in
theorem gX3_feed_X3_nextWaiting : GoodIn wsX3_feed (wsV RX3 202 RX3 yX3_nextWaiting wsX3_nextWaiting) := goodIn_app (goodIn_of _ (by decide +kernel)) ggX3_feed_X3_nextWaiting
set_option maxRecDepth 20000 in
theorem ggX3_feed_X3_enter : GoodIn wsX3_feed wsX3_enter := goodIn_r _ [25, 7, 3, 26, 6, 27, 28, 29, 30, 31, 32, 33, 34, 35, 36, 37, 38, 39, 40, 41, 42, 43, 44, 45, 46, 47, 48, 49, 50, 51, 13, 52, 53, 16, 54, 55, 56, 57, 58, 59, 60, 61, 62, 63, 64, 65, 66, 67, 68, 69, 70, 86, 87, 88, 89, 90, 91, 92, 93, 94, 71, 72, 73, 74, 75, 76, 77, 78, 79, 80, 81, 82, 83, 84, 85] (by decide +kernel) (by decide +kernel)
set_option maxRecDepth 20000 in
theorem gX3_feed_X3_enter : GoodIn wsX3_feed (wsV RX3 187 RX3 yX3_enter wsX3_enter) := goodIn_app (goodIn_of _ (by decide +kernel)) ggX3_feed_X3_enter
theorem dX3_feed_0 : decode cX3_feed 0 = .ok (.aload_n 0, 1) := by decide +kernel
theorem dX3_feed_1 : decode cX3_feed 1 = .ok (.getfield 64, 3) := by decide +kernel
theorem dX3_feed_4 : decode cX3_feed 4 = .ok (.ifCond .eq 35, 3) := by decide +kernel
theorem dX3_feed_7 : decode cX3_feed 7 = .ok (.aload_n 0, 1) := by decide +kernel
theorem dX3_feed_8 : decode cX3_feed 8 = .ok (.getfield 52, 3) := by decide +kernel
theorem dX3_feed_11 : decode cX3_feed 11 = .ok (.ifCond .le 28, 3) := by decide +kernel
theorem dX3_feed_14 : decode cX3_feed 14 = .ok (.aload_n 0, 1) := by decide +kernel
theorem dX3_feed_15 : decode cX3_feed 15 = .ok (.getfield 17, 3) := by decide +kernel
theorem dX3_feed_18 : decode cX3_feed 18 = .ok (.iconst 0, 1) := by decide +kernel
theorem dX3_feed_19 : decode cX3_feed 19 = .ok (.aaload, 1) := by decide +kernel
theorem dX3_feed_20 : decode cX3_feed 20 = .ok (.getfield 133, 3) := by decide +kernel
theorem dX3_feed_23 : decode cX3_feed 23 = .ok (.iconst (-1), 1) := by decide +kernel
theorem dX3_feed_24 : decode cX3_feed 24 = .ok (.if_icmp .ne 15, 3) := by decide +kernel
theorem dX3_feed_27 : decode cX3_feed 27 = .ok (.aload_n 0, 1) := by decide +kernel
theorem dX3_feed_28 : decode cX3_feed 28 = .ok (.getfield 17, 3) := by decide +kernel
theorem dX3_feed_31 : decode cX3_feed 31 = .ok (.iconst 0, 1) := by decide +kernel
theorem dX3_feed_32 : decode cX3_feed 32 = .ok (.aaload, 1) := by decide +kernel
theorem dX3_feed_33 : decode cX3_feed 33 = .ok (.getfield 158, 3) := by decide +kernel
theorem dX3_feed_36 : decode cX3_feed 36 = .ok (.ifCond .eq 4, 3) := by decide +kernel
theorem dX3_feed_39 : decode cX3_feed 39 = .ok (.return_, 1) := by decide +kernel
theorem dX3_feed_40 : decode cX3_feed 40 = .ok (.aload_n 0, 1) := by decide +kernel
theorem dX3_feed_41 : decode cX3_feed 41 = .ok (.invokevirtual 202, 3) := by decide +kernel
theorem dX3_feed_44 : decode cX3_feed 44 = .ok (.istore_n 1, 1) := by decide +kernel
theorem dX3_feed_45 : decode cX3_feed 45 = .ok (.iload_n 1, 1) := by decide +kernel
theorem dX3_feed_46 : decode cX3_feed 46 = .ok (.iconst (-1), 1) := by decide +kernel
theorem dX3_feed_47 : decode cX3_feed 47 = .ok (.if_icmp .eq 44, 3) := by decide +kernel
theorem dX3_feed_50 : decode cX3_feed 50 = .ok (.aload_n 0, 1) := by decide +kernel
theorem dX3_feed_51 : decode cX3_feed 51 = .ok (.dup, 1) := by decide +kernel
theorem dX3_feed_52 : decode cX3_feed 52 = .ok (.getfield 52, 3) := by decide +kernel
theorem dX3_feed_55 : decode cX3_feed 55 = .ok (.iconst 1, 1) := by decide +kernel
theorem dX3_feed_56 : decode cX3_feed 56 = .ok (.isub, 1) := by decide +kernel
theorem dX3_feed_57 : decode cX3_feed 57 = .ok (.putfield 52, 3) := by decide +kernel
theorem dX3_feed_60 : decode cX3_feed 60 = .ok (.aload_n 0, 1) := by decide +kernel
theorem dX3_feed_61 : decode cX3_feed 61 = .ok (.getfield 40, 3) := by decide +kernel
theorem dX3_feed_64 : decode cX3_feed 64 = .ok (.iconst 0, 1) := by decide +kernel
theorem dX3_feed_65 : decode cX3_feed 65 = .ok (.dup2, 1) := by decide +kernel
theorem dX3_feed_66 : decode cX3_feed 66 = .ok (.iaload, 1) := by decide +kernel
theorem dX3_feed_67 : decode cX3_feed 67 = .ok (.iconst 1, 1) := by decide +kernel
theorem dX3_feed_68 : decode cX3_feed 68 = .ok (.iadd, 1) := by decide +kernel
theorem dX3_feed_69 : decode cX3_feed 69 = .ok (.iastore, 1) := by decide +kernel
theorem dX3_feed_70 : decode cX3_feed 70 = .ok (.aload_n 0, 1) := by decide +kernel
theorem dX3_feed_71 : decode cX3_feed 71 = .ok (.getfield 29, 3) := by decide +kernel
theorem dX3_feed_74 : decode cX3_feed 74 = .ok (.iload_n 1, 1) := by decide +kernel
theorem dX3_feed_75 : decode cX3_feed 75 = .ok (.aaload, 1) := by decide +kernel
theorem dX3_feed_76 : decode cX3_feed 76 = .ok (.iconst 0, 1) := by decide +kernel
theorem dX3_feed_77 : decode cX3_feed 77 = .ok (.putfield 205, 3) := by decide +kernel
theorem dX3_feed_80 : decode cX3_feed 80 = .ok (.aload_n 0, 1) := by decide +kernel
theorem dX3_feed_81 : decode cX3_feed 81 = .ok (.iload_n 1, 1) := by decide +kernel
theorem dX3_feed_82 : decode cX3_feed 82 = .ok (.iconst 0, 1) := by decide +kernel
theorem dX3_feed_83 : decode cX3_feed 83 = .ok (.invokevirtual 187, 3) := by decide +kernel
theorem dX3_feed_86 : decode cX3_feed 86 = .ok (.aload_n 0, 1) := by decide +kernel
theorem dX3_feed_87 : decode cX3_feed 87 = .ok (.iconst 1, 1) := by decide +kernel
theorem dX3_feed_88 : decode cX3_feed 88 = .ok (.putfield 115, 3) := by decide +kernel
theorem dX3_feed_91 : decode cX3_feed 91 = .ok (.return_, 1) := by decide +kernel
theorem dX3_nextWaiting_0 : decode cX3_nextWaiting 0 = .ok (.iconst (-1), 1) := by decide +kernel
theorem dX3_nextWaiting_1 : decode cX3_nextWaiting 1 = .ok (.istore_n 1, 1) := by decide +kernel
theorem dX3_nextWaiting_2 : decode cX3_nextWaiting 2 = .ok (.iconst (-1), 1) := by decide +kernel
theorem dX3_nextWaiting_3 : decode cX3_nextWaiting 3 = .ok (.istore_n 2, 1) := by decide +kernel
theorem dX3_nextWaiting_4 : decode cX3_nextWaiting 4 = .ok (.iconst (-1), 1) := by decide +kernel
theorem dX3_nextWaiting_5 : decode cX3_nextWaiting 5 = .ok (.istore_n 3, 1) := by decide +kernel
theorem dX3_nextWaiting_6 : decode cX3_nextWaiting 6 = .ok (.iconst 0, 1) := by decide +kernel
theorem dX3_nextWaiting_7 : decode cX3_nextWaiting 7 = .ok (.istore 4, 2) := by decide +kernel
theorem dX3_nextWaiting_9 : decode cX3_nextWaiting 9 = .ok (.iload 4, 2) := by decide +kernel
theorem dX3_nextWaiting_11 : decode cX3_nextWaiting 11 = .ok (.aload_n 0, 1) := by decide +kernel
theorem dX3_nextWaiting_12 : decode cX3_nextWaiting 12 = .ok (.getfield 70, 3) := by decide +kernel
theorem dX3_nextWaiting_15 : decode cX3_nextWaiting 15 = .ok (.if_icmp .ge 93, 3) := by decide +kernel
theorem dX3_nextWaiting_18 : decode cX3_nextWaiting 18 = .ok (.aload_n 0, 1) := by decide +kernel
theorem dX3_nextWaiting_19 : decode cX3_nextWaiting 19 = .ok (.getfield 29, 3) := by decide +kernel
theorem dX3_nextWaiting_22 : decode cX3_nextWaiting 22 = .ok (.iload 4, 2) := by decide +kernel
theorem dX3_nextWaiting_24 : decode cX3_nextWaiting 24 = .ok (.aaload, 1) := by decide +kernel
theorem dX3_nextWaiting_25 : decode cX3_nextWaiting 25 = .ok (.astore 5, 2) := by decide +kernel
theorem dX3_nextWaiting_27 : decode cX3_nextWaiting 27 = .ok (.aload 5, 2) := by decide +kernel
theorem dX3_nextWaiting_29 : decode cX3_nextWaiting 29 = .ok (.getfield 208, 3) := by decide +kernel
theorem dX3_nextWaiting_32 : decode cX3_nextWaiting 32 = .ok (.ifCond .ne 70, 3) := by decide +kernel
theorem dX3_nextWaiting_35 : decode cX3_nextWaiting 35 = .ok (.aload 5, 2) := by decide +kernel
theorem dX3_nextWaiting_37 : decode cX3_nextWaiting 37 = .ok (.getfield 205, 3) := by decide +kernel
theorem dX3_nextWaiting_40 : decode cX3_nextWaiting 40 = .ok (.ifCond .eq 6, 3) := by decide +kernel
theorem dX3_nextWaiting_43 : decode cX3_nextWaiting 43 = .ok (.iload 4, 2) := by decide +kernel
theorem dX3_nextWaiting_45 : decode cX3_nextWaiting 45 = .ok (.ireturn, 1) := by decide +kernel
theorem dX3_nextWaiting_46 : decode cX3_nextWaiting 46 = .ok (.iload_n 1, 1) := by decide +kernel
theorem dX3_nextWaiting_47 : decode cX3_nextWaiting 47 = .ok (.iconst (-1), 1) := by decide +kernel
theorem dX3_nextWaiting_48 : decode cX3_nextWaiting 48 = .ok (.if_icmp .ne 20, 3) := by decide +kernel
theorem dX3_nextWaiting_51 : decode cX3_nextWaiting 51 = .ok (.aload 5, 2) := by decide +kernel
theorem dX3_nextWaiting_53 : decode cX3_nextWaiting 53 = .ok (.getfield 176, 3) := by decide +kernel
theorem dX3_nextWaiting_56 : decode cX3_nextWaiting 56 = .ok (.aload 5, 2) := by decide +kernel
theorem dX3_nextWaiting_58 : decode cX3_nextWaiting 58 = .ok (.getfield 198, 3) := by decide +kernel
theorem dX3_nextWaiting_61 : decode cX3_nextWaiting 61 = .ok (.iadd, 1) := by decide +kernel
theorem dX3_nextWaiting_62 : decode cX3_nextWaiting 62 = .ok (.ifCond .le 6, 3) := by decide +kernel
theorem dX3_nextWaiting_65 : decode cX3_nextWaiting 65 = .ok (.iload 4, 2) := by decide +kernel
theorem dX3_nextWaiting_67 : decode cX3_nextWaiting 67 = .ok (.istore_n 1, 1) := by decide +kernel
theorem dX3_nextWaiting_68 : decode cX3_nextWaiting 68 = .ok (.aload_n 0, 1) := by decide +kernel
theorem dX3_nextWaiting_69 : decode cX3_nextWaiting 69 = .ok (.getfield 23, 3) := by decide +kernel
theorem dX3_nextWaiting_72 : decode cX3_nextWaiting 72 = .ok (.aload 5, 2) := by decide +kernel
theorem dX3_nextWaiting_74 : decode cX3_nextWaiting 74 = .ok (.getfield 112, 3) := by decide +kernel
theorem dX3_nextWaiting_77 : decode cX3_nextWaiting 77 = .ok (.aaload, 1) := by decide +kernel
theorem dX3_nextWaiting_78 : decode cX3_nextWaiting 78 = .ok (.getfield 211, 3) := by decide +kernel
theorem dX3_nextWaiting_81 : decode cX3_nextWaiting 81 = .ok (.iload_n 3, 1) := by decide +kernel
theorem dX3_nextWaiting_82 : decode cX3_nextWaiting 82 = .ok (.if_icmp .le 20, 3) := by decide +kernel
theorem dX3_nextWaiting_85 : decode cX3_nextWaiting 85 = .ok (.iload 4, 2) := by decide +kernel
theorem dX3_nextWaiting_87 : decode cX3_nextWaiting 87 = .ok (.istore_n 2, 1) := by decide +kernel
theorem dX3_nextWaiting_88 : decode cX3_nextWaiting 88 = .ok (.aload_n 0, 1) := by decide +kernel
theorem dX3_nextWaiting_89 : decode cX3_nextWaiting 89 = .ok (.getfield 23, 3) := by decide +kernel
theorem dX3_nextWaiting_92 : decode cX3_nextWaiting 92 = .ok (.aload 5, 2) := by decide +kernel
theorem dX3_nextWaiting_94 : decode cX3_nextWaiting 94 = .ok (.getfield 112, 3) := by decide +kernel
theorem dX3_nextWaiting_97 : decode cX3_nextWaiting 97 = .ok (.aaload, 1) := by decide +kernel
theorem dX3_nextWaiting_98 : decode cX3_nextWaiting 98 = .ok (.getfield 211, 3) := by decide +kernel
theorem dX3_nextWaiting_101 : decode cX3_nextWaiting 101 = .ok (.istore_n 3, 1) := by decide +kernel
theorem dX3_nextWaiting_102 : decode cX3_nextWaiting 102 = .ok (.iinc 4 1, 3) := by decide +kernel
theorem dX3_nextWaiting_105 : decode cX3_nextWaiting 105 = .ok (.goto (-96), 3) := by decide +kernel
theorem dX3_nextWaiting_108 : decode cX3_nextWaiting 108 = .ok (.iload_n 1, 1) := by decide +kernel
theorem dX3_nextWaiting_109 : decode cX3_nextWaiting 109 = .ok (.iconst (-1), 1) := by decide +kernel
theorem dX3_nextWaiting_110 : decode cX3_nextWaiting 110 = .ok (.if_icmp .eq 7, 3) := by decide +kernel
theorem dX3_nextWaiting_113 : decode cX3_nextWaiting 113 = .ok (.iload_n 1, 1) := by decide +kernel
theorem dX3_nextWaiting_114 : decode cX3_nextWaiting 114 = .ok (.goto 4, 3) := by decide +kernel
theorem dX3_nextWaiting_117 : decode cX3_nextWaiting 117 = .ok (.iload_n 2, 1) := by decide +kernel
theorem dX3_nextWaiting_118 : decode cX3_nextWaiting 118 = .ok (.ireturn, 1) := by decide +kernel
set_option maxRecDepth 20000 in
theorem ggX3_emptyTray_X4_nextCard : GoodIn wsX3_emptyTray wsX4_nextCard := goodIn_r _ [11, 12, 13, 14, 15, 10, 16, 17, 18, 74, 75, 76, 77, 78, 79, 80, 81, 82, 83, 84, 85] (by decide +kernel) (by decide +kernel)
set_option maxRecDepth 20000 in
theorem gX3_emptyTray_X4_nextCard : GoodIn wsX3_emptyTray (wsV RX3 191 RX4 yX4_nextCard wsX4_nextCard) := goodIn_app (goodIn_of _ (by decide +kernel)) ggX3_emptyTray_X4_nextCard
set_option maxRecDepth 20000 in
theorem ggX3_emptyTray_X3_leave : GoodIn wsX3_emptyTray wsX3_leave := goodIn_r _ [23, 4, 24, 2, 25, 26, 3, 27, 28, 29, 30, 31, 32, 22, 33, 5, 34, 35, 36, 37, 38, 39, 40, 41, 42, 43, 44, 45, 46, 47, 48, 49, 50, 51, 52, 53, 54, 55, 56, 57, 58, 59, 60, 61, 62, 63, 64, 65, 66, 67, 68, 69, 70, 71, 72, 73, 74, 75, 76, 77, 78, 79, 80, 81, 82, 83, 84, 85] (by decide +kernel) (by decide +kernel)
set_option maxRecDepth 20000 in
theorem gX3_emptyTray_X3_leave : GoodIn wsX3_emptyTray (wsV RX3 195 RX3 yX3_leave wsX3_leave) := goodIn_app (goodIn_of _ (by decide +kernel)) ggX3_emptyTray_X3_leave
theorem dX3_emptyTray_0 : decode cX3_emptyTray 0 = .ok (.iconst 0, 1) := by decide +kernel
theorem dX3_emptyTray_1 : decode cX3_emptyTray 1 = .ok (.istore_n 1, 1) := by decide +kernel
theorem dX3_emptyTray_2 : decode cX3_emptyTray 2 = .ok (.iload_n 1, 1) := by decide +kernel
theorem dX3_emptyTray_3 : decode cX3_emptyTray 3 = .ok (.aload_n 0, 1) := by decide +kernel
theorem dX3_emptyTray_4 : decode cX3_emptyTray 4 = .ok (.getfield 67, 3) := by decide +kernel
theorem dX3_emptyTray_7 : decode cX3_emptyTray 7 = .ok (.if_icmp .ge 80, 3) := by decide +kernel
theorem dX3_emptyTray_10 : decode cX3_emptyTray 10 = .ok (.aload_n 0, 1) := by decide +kernel
theorem dX3_emptyTray_11 : decode cX3_emptyTray 11 = .ok (.getfield 33, 3) := by decide +kernel
theorem dX3_emptyTray_14 : decode cX3_emptyTray 14 = .ok (.iconst 2, 1) := by decide +kernel
theorem dX3_emptyTray_15 : decode cX3_emptyTray 15 = .ok (.iaload, 1) := by decide +kernel
theorem dX3_emptyTray_16 : decode cX3_emptyTray 16 = .ok (.ifCond .le 71, 3) := by decide +kernel
theorem dX3_emptyTray_19 : decode cX3_emptyTray 19 = .ok (.aload_n 0, 1) := by decide +kernel
theorem dX3_emptyTray_20 : decode cX3_emptyTray 20 = .ok (.getfield 23, 3) := by decide +kernel
theorem dX3_emptyTray_23 : decode cX3_emptyTray 23 = .ok (.iload_n 1, 1) := by decide +kernel
theorem dX3_emptyTray_24 : decode cX3_emptyTray 24 = .ok (.aaload, 1) := by decide +kernel
theorem dX3_emptyTray_25 : decode cX3_emptyTray 25 = .ok (.invokevirtual 191, 3) := by decide +kernel
theorem dX3_emptyTray_28 : decode cX3_emptyTray 28 = .ok (.istore_n 2, 1) := by decide +kernel
theorem dX3_emptyTray_29 : decode cX3_emptyTray 29 = .ok (.iconst 0, 1) := by decide +kernel
theorem dX3_emptyTray_30 : decode cX3_emptyTray 30 = .ok (.istore_n 3, 1) := by decide +kernel
theorem dX3_emptyTray_31 : decode cX3_emptyTray 31 = .ok (.iload_n 3, 1) := by decide +kernel
theorem dX3_emptyTray_32 : decode cX3_emptyTray 32 = .ok (.bipush 30, 2) := by decide +kernel
theorem dX3_emptyTray_34 : decode cX3_emptyTray 34 = .ok (.if_icmp .ge 47, 3) := by decide +kernel
theorem dX3_emptyTray_37 : decode cX3_emptyTray 37 = .ok (.iload_n 2, 1) := by decide +kernel
theorem dX3_emptyTray_38 : decode cX3_emptyTray 38 = .ok (.iconst (-1), 1) := by decide +kernel
theorem dX3_emptyTray_39 : decode cX3_emptyTray 39 = .ok (.if_icmp .eq 42, 3) := by decide +kernel
theorem dX3_emptyTray_42 : decode cX3_emptyTray 42 = .ok (.aload_n 0, 1) := by decide +kernel
theorem dX3_emptyTray_43 : decode cX3_emptyTray 43 = .ok (.getfield 29, 3) := by decide +kernel
theorem dX3_emptyTray_46 : decode cX3_emptyTray 46 = .ok (.iload_n 2, 1) := by decide +kernel
theorem dX3_emptyTray_47 : decode cX3_emptyTray 47 = .ok (.aaload, 1) := by decide +kernel
theorem dX3_emptyTray_48 : decode cX3_emptyTray 48 = .ok (.getfield 208, 3) := by decide +kernel
theorem dX3_emptyTray_51 : decode cX3_emptyTray 51 = .ok (.iconst 2, 1) := by decide +kernel
theorem dX3_emptyTray_52 : decode cX3_emptyTray 52 = .ok (.if_icmp .ne 29, 3) := by decide +kernel
theorem dX3_emptyTray_55 : decode cX3_emptyTray 55 = .ok (.aload_n 0, 1) := by decide +kernel
theorem dX3_emptyTray_56 : decode cX3_emptyTray 56 = .ok (.iload_n 2, 1) := by decide +kernel
theorem dX3_emptyTray_57 : decode cX3_emptyTray 57 = .ok (.invokevirtual 195, 3) := by decide +kernel
theorem dX3_emptyTray_60 : decode cX3_emptyTray 60 = .ok (.aload_n 0, 1) := by decide +kernel
theorem dX3_emptyTray_61 : decode cX3_emptyTray 61 = .ok (.iconst 1, 1) := by decide +kernel
theorem dX3_emptyTray_62 : decode cX3_emptyTray 62 = .ok (.putfield 115, 3) := by decide +kernel
theorem dX3_emptyTray_65 : decode cX3_emptyTray 65 = .ok (.aload_n 0, 1) := by decide +kernel
theorem dX3_emptyTray_66 : decode cX3_emptyTray 66 = .ok (.getfield 23, 3) := by decide +kernel
theorem dX3_emptyTray_69 : decode cX3_emptyTray 69 = .ok (.iload_n 1, 1) := by decide +kernel
theorem dX3_emptyTray_70 : decode cX3_emptyTray 70 = .ok (.aaload, 1) := by decide +kernel
theorem dX3_emptyTray_71 : decode cX3_emptyTray 71 = .ok (.invokevirtual 191, 3) := by decide +kernel
theorem dX3_emptyTray_74 : decode cX3_emptyTray 74 = .ok (.istore_n 2, 1) := by decide +kernel
theorem dX3_emptyTray_75 : decode cX3_emptyTray 75 = .ok (.iinc 3 1, 3) := by decide +kernel
theorem dX3_emptyTray_78 : decode cX3_emptyTray 78 = .ok (.goto (-47), 3) := by decide +kernel
theorem dX3_emptyTray_81 : decode cX3_emptyTray 81 = .ok (.iinc 1 1, 3) := by decide +kernel
theorem dX3_emptyTray_84 : decode cX3_emptyTray 84 = .ok (.goto (-82), 3) := by decide +kernel
theorem dX3_emptyTray_87 : decode cX3_emptyTray 87 = .ok (.return_, 1) := by decide +kernel
set_option maxRecDepth 20000 in
theorem ggX3_countReadyCards_X6_hasReadyCard : GoodIn wsX3_countReadyCards wsX6_hasReadyCard := goodIn_r _ [8, 9, 10, 28, 29, 30, 31, 32, 33, 34, 35, 36, 37, 38, 39, 40, 41, 42] (by decide +kernel) (by decide +kernel)
set_option maxRecDepth 20000 in
theorem gX3_countReadyCards_X6_hasReadyCard : GoodIn wsX3_countReadyCards (wsV RX3 126 RX6 yX6_hasReadyCard wsX6_hasReadyCard) := goodIn_app (goodIn_of _ (by decide +kernel)) ggX3_countReadyCards_X6_hasReadyCard
theorem dX3_countReadyCards_0 : decode cX3_countReadyCards 0 = .ok (.iconst 0, 1) := by decide +kernel
theorem dX3_countReadyCards_1 : decode cX3_countReadyCards 1 = .ok (.istore_n 1, 1) := by decide +kernel
theorem dX3_countReadyCards_2 : decode cX3_countReadyCards 2 = .ok (.iload_n 1, 1) := by decide +kernel
theorem dX3_countReadyCards_3 : decode cX3_countReadyCards 3 = .ok (.aload_n 0, 1) := by decide +kernel
theorem dX3_countReadyCards_4 : decode cX3_countReadyCards 4 = .ok (.getfield 64, 3) := by decide +kernel
theorem dX3_countReadyCards_7 : decode cX3_countReadyCards 7 = .ok (.if_icmp .ge 31, 3) := by decide +kernel
theorem dX3_countReadyCards_10 : decode cX3_countReadyCards 10 = .ok (.aload_n 0, 1) := by decide +kernel
theorem dX3_countReadyCards_11 : decode cX3_countReadyCards 11 = .ok (.getfield 17, 3) := by decide +kernel
theorem dX3_countReadyCards_14 : decode cX3_countReadyCards 14 = .ok (.iload_n 1, 1) := by decide +kernel
theorem dX3_countReadyCards_15 : decode cX3_countReadyCards 15 = .ok (.aaload, 1) := by decide +kernel
theorem dX3_countReadyCards_16 : decode cX3_countReadyCards 16 = .ok (.invokevirtual 126, 3) := by decide +kernel
theorem dX3_countReadyCards_19 : decode cX3_countReadyCards 19 = .ok (.ifCond .eq 13, 3) := by decide +kernel
theorem dX3_countReadyCards_22 : decode cX3_countReadyCards 22 = .ok (.aload_n 0, 1) := by decide +kernel
theorem dX3_countReadyCards_23 : decode cX3_countReadyCards 23 = .ok (.getfield 40, 3) := by decide +kernel
theorem dX3_countReadyCards_26 : decode cX3_countReadyCards 26 = .ok (.iconst 4, 1) := by decide +kernel
theorem dX3_countReadyCards_27 : decode cX3_countReadyCards 27 = .ok (.dup2, 1) := by decide +kernel
theorem dX3_countReadyCards_28 : decode cX3_countReadyCards 28 = .ok (.iaload, 1) := by decide +kernel
theorem dX3_countReadyCards_29 : decode cX3_countReadyCards 29 = .ok (.iconst 1, 1) := by decide +kernel
theorem dX3_countReadyCards_30 : decode cX3_countReadyCards 30 = .ok (.iadd, 1) := by decide +kernel
theorem dX3_countReadyCards_31 : decode cX3_countReadyCards 31 = .ok (.iastore, 1) := by decide +kernel
theorem dX3_countReadyCards_32 : decode cX3_countReadyCards 32 = .ok (.iinc 1 1, 3) := by decide +kernel
theorem dX3_countReadyCards_35 : decode cX3_countReadyCards 35 = .ok (.goto (-33), 3) := by decide +kernel
theorem dX3_countReadyCards_38 : decode cX3_countReadyCards 38 = .ok (.return_, 1) := by decide +kernel
set_option maxRecDepth 20000 in
theorem ggX3_passTime_X3_daysOver : GoodIn wsX3_passTime wsX3_daysOver := goodIn_r _ [9, 2, 1, 19, 20, 21, 22, 23, 24, 25, 26, 27, 28, 29, 30, 31, 32, 33, 34, 35] (by decide +kernel) (by decide +kernel)
set_option maxRecDepth 20000 in
theorem gX3_passTime_X3_daysOver : GoodIn wsX3_passTime (wsV RX3 214 RX3 yX3_daysOver wsX3_daysOver) := goodIn_app (goodIn_of _ (by decide +kernel)) ggX3_passTime_X3_daysOver
set_option maxRecDepth 20000 in
theorem ggX3_passTime_X4_endDay : GoodIn wsX3_passTime wsX4_endDay := goodIn_r _ [14, 15, 16, 17, 18, 36, 37, 38, 39, 40, 41, 42, 43, 44, 45, 46, 47] (by decide +kernel) (by decide +kernel)
set_option maxRecDepth 20000 in
theorem gX3_passTime_X4_endDay : GoodIn wsX3_passTime (wsV RX3 217 RX4 yX4_endDay wsX4_endDay) := goodIn_app (goodIn_of _ (by decide +kernel)) ggX3_passTime_X4_endDay
theorem dX3_passTime_0 : decode cX3_passTime 0 = .ok (.aload_n 0, 1) := by decide +kernel
theorem dX3_passTime_1 : decode cX3_passTime 1 = .ok (.dup, 1) := by decide +kernel
theorem dX3_passTime_2 : decode cX3_passTime 2 = .ok (.getfield 61, 3) := by decide +kernel
theorem dX3_passTime_5 : decode cX3_passTime 5 = .ok (.iconst 1, 1) := by decide +kernel
theorem dX3_passTime_6 : decode cX3_passTime 6 = .ok (.iadd, 1) := by decide +kernel
theorem dX3_passTime_7 : decode cX3_passTime 7 = .ok (.putfield 61, 3) := by decide +kernel
theorem dX3_passTime_10 : decode cX3_passTime 10 = .ok (.aload_n 0, 1) := by decide +kernel
theorem dX3_passTime_11 : decode cX3_passTime 11 = .ok (.getfield 9, 3) := by decide +kernel
theorem dX3_passTime_14 : decode cX3_passTime 14 = .ok (.ifCond .le 55, 3) := by decide +kernel
theorem dX3_passTime_17 : decode cX3_passTime 17 = .ok (.aload_n 0, 1) := by decide +kernel
theorem dX3_passTime_18 : decode cX3_passTime 18 = .ok (.getfield 61, 3) := by decide +kernel
theorem dX3_passTime_21 : decode cX3_passTime 21 = .ok (.aload_n 0, 1) := by decide +kernel
theorem dX3_passTime_22 : decode cX3_passTime 22 = .ok (.getfield 9, 3) := by decide +kernel
theorem dX3_passTime_25 : decode cX3_passTime 25 = .ok (.irem, 1) := by decide +kernel
theorem dX3_passTime_26 : decode cX3_passTime 26 = .ok (.ifCond .ne 43, 3) := by decide +kernel
theorem dX3_passTime_29 : decode cX3_passTime 29 = .ok (.aload_n 0, 1) := by decide +kernel
theorem dX3_passTime_30 : decode cX3_passTime 30 = .ok (.invokevirtual 214, 3) := by decide +kernel
theorem dX3_passTime_33 : decode cX3_passTime 33 = .ok (.iconst 1, 1) := by decide +kernel
theorem dX3_passTime_34 : decode cX3_passTime 34 = .ok (.isub, 1) := by decide +kernel
theorem dX3_passTime_35 : decode cX3_passTime 35 = .ok (.bipush 10, 2) := by decide +kernel
theorem dX3_passTime_37 : decode cX3_passTime 37 = .ok (.irem, 1) := by decide +kernel
theorem dX3_passTime_38 : decode cX3_passTime 38 = .ok (.istore_n 1, 1) := by decide +kernel
theorem dX3_passTime_39 : decode cX3_passTime 39 = .ok (.iconst 0, 1) := by decide +kernel
theorem dX3_passTime_40 : decode cX3_passTime 40 = .ok (.istore_n 2, 1) := by decide +kernel
theorem dX3_passTime_41 : decode cX3_passTime 41 = .ok (.iload_n 2, 1) := by decide +kernel
theorem dX3_passTime_42 : decode cX3_passTime 42 = .ok (.aload_n 0, 1) := by decide +kernel
theorem dX3_passTime_43 : decode cX3_passTime 43 = .ok (.getfield 67, 3) := by decide +kernel
theorem dX3_passTime_46 : decode cX3_passTime 46 = .ok (.if_icmp .ge 23, 3) := by decide +kernel
theorem dX3_passTime_49 : decode cX3_passTime 49 = .ok (.iload_n 1, 1) := by decide +kernel
theorem dX3_passTime_50 : decode cX3_passTime 50 = .ok (.ifCond .lt 19, 3) := by decide +kernel
theorem dX3_passTime_53 : decode cX3_passTime 53 = .ok (.aload_n 0, 1) := by decide +kernel
theorem dX3_passTime_54 : decode cX3_passTime 54 = .ok (.getfield 23, 3) := by decide +kernel
theorem dX3_passTime_57 : decode cX3_passTime 57 = .ok (.iload_n 2, 1) := by decide +kernel
theorem dX3_passTime_58 : decode cX3_passTime 58 = .ok (.aaload, 1) := by decide +kernel
theorem dX3_passTime_59 : decode cX3_passTime 59 = .ok (.iload_n 1, 1) := by decide +kernel
theorem dX3_passTime_60 : decode cX3_passTime 60 = .ok (.invokevirtual 217, 3) := by decide +kernel
theorem dX3_passTime_63 : decode cX3_passTime 63 = .ok (.iinc 2 1, 3) := by decide +kernel
theorem dX3_passTime_66 : decode cX3_passTime 66 = .ok (.goto (-25), 3) := by decide +kernel
theorem dX3_passTime_69 : decode cX3_passTime 69 = .ok (.return_, 1) := by decide +kernel
theorem dX3_daysOver_0 : decode cX3_daysOver 0 = .ok (.aload_n 0, 1) := by decide +kernel
theorem dX3_daysOver_1 : decode cX3_daysOver 1 = .ok (.getfield 9, 3) := by decide +kernel
theorem dX3_daysOver_4 : decode cX3_daysOver 4 = .ok (.ifCond .le 15, 3) := by decide +kernel
theorem dX3_daysOver_7 : decode cX3_daysOver 7 = .ok (.aload_n 0, 1) := by decide +kernel
theorem dX3_daysOver_8 : decode cX3_daysOver 8 = .ok (.getfield 61, 3) := by decide +kernel
theorem dX3_daysOver_11 : decode cX3_daysOver 11 = .ok (.aload_n 0, 1) := by decide +kernel
theorem dX3_daysOver_12 : decode cX3_daysOver 12 = .ok (.getfield 9, 3) := by decide +kernel
theorem dX3_daysOver_15 : decode cX3_daysOver 15 = .ok (.idiv, 1) := by decide +kernel
theorem dX3_daysOver_16 : decode cX3_daysOver 16 = .ok (.goto 4, 3) := by decide +kernel
theorem dX3_daysOver_19 : decode cX3_daysOver 19 = .ok (.iconst 0, 1) := by decide +kernel
theorem dX3_daysOver_20 : decode cX3_daysOver 20 = .ok (.ireturn, 1) := by decide +kernel
set_option maxRecDepth 20000 in
theorem ggX3_enter_X6_turnsOf : GoodIn wsX3_enter wsX6_turnsOf := goodIn_r _ [10, 11, 12, 13, 14, 15, 60, 61, 62, 63, 64, 65, 66, 67, 68, 69, 70, 71, 72, 73, 74] (by decide +kernel) (by decide +kernel)
set_option maxRecDepth 20000 in
theorem gX3_enter_X6_turnsOf : GoodIn wsX3_enter (wsV RX3 224 RX6 yX6_turnsOf wsX6_turnsOf) := goodIn_app (goodIn_of _ (by decide +kernel)) ggX3_enter_X6_turnsOf
set_option maxRecDepth 20000 in
theorem ggX3_enter_X6_takeIn : GoodIn wsX3_enter wsX6_takeIn := goodIn_r _ [19, 20, 11, 12, 21, 22, 23, 24, 9, 25, 26, 60, 61, 62, 63, 64, 65, 66, 67, 68, 69, 70, 71, 72, 73, 74] (by decide +kernel) (by decide +kernel)
set_option maxRecDepth 20000 in
theorem gX3_enter_X6_takeIn : GoodIn wsX3_enter (wsV RX3 228 RX6 yX6_takeIn wsX6_takeIn) := goodIn_app (goodIn_of _ (by decide +kernel)) ggX3_enter_X6_takeIn
set_option maxRecDepth 20000 in
theorem ggX3_enter_X3_changeState : GoodIn wsX3_enter wsX3_changeState := goodIn_r _ [31, 32, 33, 5, 34, 35, 36, 37, 38, 39, 40, 41, 42, 43, 44, 45, 46, 47, 48, 49, 50, 51, 52, 53, 54, 55, 56, 57, 58, 59] (by decide +kernel) (by decide +kernel)
set_option maxRecDepth 20000 in
theorem gX3_enter_X3_changeState : GoodIn wsX3_enter (wsV RX3 180 RX3 yX3_changeState wsX3_changeState) := goodIn_app (goodIn_of _ (by decide +kernel)) ggX3_enter_X3_changeState
theorem dX3_enter_0 : decode cX3_enter 0 = .ok (.aload_n 0, 1) := by decide +kernel
theorem dX3_enter_1 : decode cX3_enter 1 = .ok (.getfield 29, 3) := by decide +kernel
theorem dX3_enter_4 : decode cX3_enter 4 = .ok (.iload_n 1, 1) := by decide +kernel
theorem dX3_enter_5 : decode cX3_enter 5 = .ok (.aaload, 1) := by decide +kernel
theorem dX3_enter_6 : decode cX3_enter 6 = .ok (.astore_n 3, 1) := by decide +kernel
theorem dX3_enter_7 : decode cX3_enter 7 = .ok (.aload_n 0, 1) := by decide +kernel
theorem dX3_enter_8 : decode cX3_enter 8 = .ok (.getfield 17, 3) := by decide +kernel
theorem dX3_enter_11 : decode cX3_enter 11 = .ok (.iload_n 2, 1) := by decide +kernel
theorem dX3_enter_12 : decode cX3_enter 12 = .ok (.aaload, 1) := by decide +kernel
theorem dX3_enter_13 : decode cX3_enter 13 = .ok (.astore 4, 2) := by decide +kernel
theorem dX3_enter_15 : decode cX3_enter 15 = .ok (.aload 4, 2) := by decide +kernel
theorem dX3_enter_17 : decode cX3_enter 17 = .ok (.aload_n 3, 1) := by decide +kernel
theorem dX3_enter_18 : decode cX3_enter 18 = .ok (.getfield 220, 3) := by decide +kernel
theorem dX3_enter_21 : decode cX3_enter 21 = .ok (.invokevirtual 224, 3) := by decide +kernel
theorem dX3_enter_24 : decode cX3_enter 24 = .ok (.istore 5, 2) := by decide +kernel
theorem dX3_enter_26 : decode cX3_enter 26 = .ok (.aload_n 0, 1) := by decide +kernel
theorem dX3_enter_27 : decode cX3_enter 27 = .ok (.getfield 40, 3) := by decide +kernel
theorem dX3_enter_30 : decode cX3_enter 30 = .ok (.iconst 3, 1) := by decide +kernel
theorem dX3_enter_31 : decode cX3_enter 31 = .ok (.dup2, 1) := by decide +kernel
theorem dX3_enter_32 : decode cX3_enter 32 = .ok (.iaload, 1) := by decide +kernel
theorem dX3_enter_33 : decode cX3_enter 33 = .ok (.iload 5, 2) := by decide +kernel
theorem dX3_enter_35 : decode cX3_enter 35 = .ok (.iadd, 1) := by decide +kernel
theorem dX3_enter_36 : decode cX3_enter 36 = .ok (.iastore, 1) := by decide +kernel
theorem dX3_enter_37 : decode cX3_enter 37 = .ok (.aload 4, 2) := by decide +kernel
theorem dX3_enter_39 : decode cX3_enter 39 = .ok (.iload_n 1, 1) := by decide +kernel
theorem dX3_enter_40 : decode cX3_enter 40 = .ok (.aload_n 3, 1) := by decide +kernel
theorem dX3_enter_41 : decode cX3_enter 41 = .ok (.getfield 220, 3) := by decide +kernel
theorem dX3_enter_44 : decode cX3_enter 44 = .ok (.iload 5, 2) := by decide +kernel
theorem dX3_enter_46 : decode cX3_enter 46 = .ok (.invokevirtual 228, 3) := by decide +kernel
theorem dX3_enter_49 : decode cX3_enter 49 = .ok (.aload_n 0, 1) := by decide +kernel
theorem dX3_enter_50 : decode cX3_enter 50 = .ok (.aload_n 3, 1) := by decide +kernel
theorem dX3_enter_51 : decode cX3_enter 51 = .ok (.iconst 1, 1) := by decide +kernel
theorem dX3_enter_52 : decode cX3_enter 52 = .ok (.invokevirtual 180, 3) := by decide +kernel
theorem dX3_enter_55 : decode cX3_enter 55 = .ok (.aload_n 3, 1) := by decide +kernel
theorem dX3_enter_56 : decode cX3_enter 56 = .ok (.iload_n 2, 1) := by decide +kernel
theorem dX3_enter_57 : decode cX3_enter 57 = .ok (.putfield 232, 3) := by decide +kernel
theorem dX3_enter_60 : decode cX3_enter 60 = .ok (.return_, 1) := by decide +kernel
set_option maxRecDepth 20000 in
theorem ggX3_leave_X3_changeState : GoodIn wsX3_leave wsX3_changeState := goodIn_r _ [14, 3, 15, 16, 30, 31, 32, 33, 34, 35, 36, 37, 38, 39, 40, 41, 42, 43, 44, 45, 46, 47, 48, 49, 50, 51, 52, 53, 54, 55] (by decide +kernel) (by decide +kernel)
set_option maxRecDepth 20000 in
theorem gX3_leave_X3_changeState : GoodIn wsX3_leave (wsV RX3 180 RX3 yX3_changeState wsX3_changeState) := goodIn_app (goodIn_of _ (by decide +kernel)) ggX3_leave_X3_changeState
set_option maxRecDepth 20000 in
theorem ggX3_leave_X3_findNextCard : GoodIn wsX3_leave wsX3_findNextCard := goodIn_r _ [20, 21, 22, 1, 23, 24, 25, 26, 27, 28, 29, 56, 57, 58, 59, 60, 61, 62, 63, 64, 65, 66, 67, 30, 31, 32, 33, 34, 35, 36, 37, 38, 39, 40, 41, 42, 43, 44, 45, 46, 47, 48, 49, 50, 51, 52, 53, 54, 55] (by decide +kernel) (by decide +kernel)
set_option maxRecDepth 20000 in
theorem gX3_leave_X3_findNextCard : GoodIn wsX3_leave (wsV RX3 244 RX3 yX3_findNextCard wsX3_findNextCard) := goodIn_app (goodIn_of _ (by decide +kernel)) ggX3_leave_X3_findNextCard
theorem dX3_leave_0 : decode cX3_leave 0 = .ok (.aload_n 0, 1) := by decide +kernel
theorem dX3_leave_1 : decode cX3_leave 1 = .ok (.getfield 29, 3) := by decide +kernel
theorem dX3_leave_4 : decode cX3_leave 4 = .ok (.iload_n 1, 1) := by decide +kernel
theorem dX3_leave_5 : decode cX3_leave 5 = .ok (.aaload, 1) := by decide +kernel
theorem dX3_leave_6 : decode cX3_leave 6 = .ok (.astore_n 2, 1) := by decide +kernel
theorem dX3_leave_7 : decode cX3_leave 7 = .ok (.aload_n 0, 1) := by decide +kernel
theorem dX3_leave_8 : decode cX3_leave 8 = .ok (.getfield 37, 3) := by decide +kernel
theorem dX3_leave_11 : decode cX3_leave 11 = .ok (.aload_n 0, 1) := by decide +kernel
theorem dX3_leave_12 : decode cX3_leave 12 = .ok (.getfield 33, 3) := by decide +kernel
theorem dX3_leave_15 : decode cX3_leave 15 = .ok (.iconst 3, 1) := by decide +kernel
theorem dX3_leave_16 : decode cX3_leave 16 = .ok (.iaload, 1) := by decide +kernel
theorem dX3_leave_17 : decode cX3_leave 17 = .ok (.iload_n 1, 1) := by decide +kernel
theorem dX3_leave_18 : decode cX3_leave 18 = .ok (.iastore, 1) := by decide +kernel
theorem dX3_leave_19 : decode cX3_leave 19 = .ok (.aload_n 2, 1) := by decide +kernel
theorem dX3_leave_20 : decode cX3_leave 20 = .ok (.aload_n 0, 1) := by decide +kernel
theorem dX3_leave_21 : decode cX3_leave 21 = .ok (.getfield 61, 3) := by decide +kernel
theorem dX3_leave_24 : decode cX3_leave 24 = .ok (.putfield 235, 3) := by decide +kernel
theorem dX3_leave_27 : decode cX3_leave 27 = .ok (.aload_n 0, 1) := by decide +kernel
theorem dX3_leave_28 : decode cX3_leave 28 = .ok (.aload_n 2, 1) := by decide +kernel
theorem dX3_leave_29 : decode cX3_leave 29 = .ok (.iconst 3, 1) := by decide +kernel
theorem dX3_leave_30 : decode cX3_leave 30 = .ok (.invokevirtual 180, 3) := by decide +kernel
theorem dX3_leave_33 : decode cX3_leave 33 = .ok (.aload_n 0, 1) := by decide +kernel
theorem dX3_leave_34 : decode cX3_leave 34 = .ok (.getfield 23, 3) := by decide +kernel
theorem dX3_leave_37 : decode cX3_leave 37 = .ok (.aload_n 2, 1) := by decide +kernel
theorem dX3_leave_38 : decode cX3_leave 38 = .ok (.getfield 112, 3) := by decide +kernel
theorem dX3_leave_41 : decode cX3_leave 41 = .ok (.aaload, 1) := by decide +kernel
theorem dX3_leave_42 : decode cX3_leave 42 = .ok (.dup, 1) := by decide +kernel
theorem dX3_leave_43 : decode cX3_leave 43 = .ok (.getfield 238, 3) := by decide +kernel
theorem dX3_leave_46 : decode cX3_leave 46 = .ok (.iconst 1, 1) := by decide +kernel
theorem dX3_leave_47 : decode cX3_leave 47 = .ok (.iadd, 1) := by decide +kernel
theorem dX3_leave_48 : decode cX3_leave 48 = .ok (.putfield 238, 3) := by decide +kernel
theorem dX3_leave_51 : decode cX3_leave 51 = .ok (.aload_n 0, 1) := by decide +kernel
theorem dX3_leave_52 : decode cX3_leave 52 = .ok (.getfield 23, 3) := by decide +kernel
theorem dX3_leave_55 : decode cX3_leave 55 = .ok (.aload_n 2, 1) := by decide +kernel
theorem dX3_leave_56 : decode cX3_leave 56 = .ok (.getfield 112, 3) := by decide +kernel
theorem dX3_leave_59 : decode cX3_leave 59 = .ok (.aaload, 1) := by decide +kernel
theorem dX3_leave_60 : decode cX3_leave 60 = .ok (.dup, 1) := by decide +kernel
theorem dX3_leave_61 : decode cX3_leave 61 = .ok (.getfield 241, 3) := by decide +kernel
theorem dX3_leave_64 : decode cX3_leave 64 = .ok (.iconst 1, 1) := by decide +kernel
theorem dX3_leave_65 : decode cX3_leave 65 = .ok (.iadd, 1) := by decide +kernel
theorem dX3_leave_66 : decode cX3_leave 66 = .ok (.putfield 241, 3) := by decide +kernel
theorem dX3_leave_69 : decode cX3_leave 69 = .ok (.aload_n 0, 1) := by decide +kernel
theorem dX3_leave_70 : decode cX3_leave 70 = .ok (.aload_n 0, 1) := by decide +kernel
theorem dX3_leave_71 : decode cX3_leave 71 = .ok (.getfield 23, 3) := by decide +kernel
theorem dX3_leave_74 : decode cX3_leave 74 = .ok (.aload_n 2, 1) := by decide +kernel
theorem dX3_leave_75 : decode cX3_leave 75 = .ok (.getfield 112, 3) := by decide +kernel
theorem dX3_leave_78 : decode cX3_leave 78 = .ok (.aaload, 1) := by decide +kernel
theorem dX3_leave_79 : decode cX3_leave 79 = .ok (.invokevirtual 244, 3) := by decide +kernel
theorem dX3_leave_82 : decode cX3_leave 82 = .ok (.return_, 1) := by decide +kernel
set_option maxRecDepth 20000 in
theorem ggX3_abandon_X3_changeState : GoodIn wsX3_abandon wsX3_changeState := goodIn_r _ [10, 11, 12, 13, 27, 28, 29, 30, 31, 32, 33, 34, 35, 36, 37, 38, 39, 40, 41, 42, 43, 44, 45, 46, 47, 48, 49, 50, 51, 52] (by decide +kernel) (by decide +kernel)
set_option maxRecDepth 20000 in
theorem gX3_abandon_X3_changeState : GoodIn wsX3_abandon (wsV RX3 180 RX3 yX3_changeState wsX3_changeState) := goodIn_app (goodIn_of _ (by decide +kernel)) ggX3_abandon_X3_changeState
set_option maxRecDepth 20000 in
theorem ggX3_abandon_X3_findNextCard : GoodIn wsX3_abandon wsX3_findNextCard := goodIn_r _ [17, 18, 19, 1, 20, 21, 22, 23, 24, 25, 26, 53, 54, 55, 56, 57, 58, 59, 60, 61, 62, 63, 64, 27, 28, 29, 30, 31, 32, 33, 34, 35, 36, 37, 38, 39, 40, 41, 42, 43, 44, 45, 46, 47, 48, 49, 50, 51, 52] (by decide +kernel) (by decide +kernel)
set_option maxRecDepth 20000 in
theorem gX3_abandon_X3_findNextCard : GoodIn wsX3_abandon (wsV RX3 244 RX3 yX3_findNextCard wsX3_findNextCard) := goodIn_app (goodIn_of _ (by decide +kernel)) ggX3_abandon_X3_findNextCard
theorem dX3_abandon_0 : decode cX3_abandon 0 = .ok (.aload_n 0, 1) := by decide +kernel
theorem dX3_abandon_1 : decode cX3_abandon 1 = .ok (.getfield 29, 3) := by decide +kernel
theorem dX3_abandon_4 : decode cX3_abandon 4 = .ok (.iload_n 1, 1) := by decide +kernel
theorem dX3_abandon_5 : decode cX3_abandon 5 = .ok (.aaload, 1) := by decide +kernel
theorem dX3_abandon_6 : decode cX3_abandon 6 = .ok (.astore_n 2, 1) := by decide +kernel
theorem dX3_abandon_7 : decode cX3_abandon 7 = .ok (.aload_n 2, 1) := by decide +kernel
theorem dX3_abandon_8 : decode cX3_abandon 8 = .ok (.iconst 0, 1) := by decide +kernel
theorem dX3_abandon_9 : decode cX3_abandon 9 = .ok (.putfield 205, 3) := by decide +kernel
theorem dX3_abandon_12 : decode cX3_abandon 12 = .ok (.aload_n 0, 1) := by decide +kernel
theorem dX3_abandon_13 : decode cX3_abandon 13 = .ok (.aload_n 2, 1) := by decide +kernel
theorem dX3_abandon_14 : decode cX3_abandon 14 = .ok (.iconst 4, 1) := by decide +kernel
theorem dX3_abandon_15 : decode cX3_abandon 15 = .ok (.invokevirtual 180, 3) := by decide +kernel
theorem dX3_abandon_18 : decode cX3_abandon 18 = .ok (.aload_n 0, 1) := by decide +kernel
theorem dX3_abandon_19 : decode cX3_abandon 19 = .ok (.getfield 23, 3) := by decide +kernel
theorem dX3_abandon_22 : decode cX3_abandon 22 = .ok (.aload_n 2, 1) := by decide +kernel
theorem dX3_abandon_23 : decode cX3_abandon 23 = .ok (.getfield 112, 3) := by decide +kernel
theorem dX3_abandon_26 : decode cX3_abandon 26 = .ok (.aaload, 1) := by decide +kernel
theorem dX3_abandon_27 : decode cX3_abandon 27 = .ok (.dup, 1) := by decide +kernel
theorem dX3_abandon_28 : decode cX3_abandon 28 = .ok (.getfield 247, 3) := by decide +kernel
theorem dX3_abandon_31 : decode cX3_abandon 31 = .ok (.iconst 1, 1) := by decide +kernel
theorem dX3_abandon_32 : decode cX3_abandon 32 = .ok (.iadd, 1) := by decide +kernel
theorem dX3_abandon_33 : decode cX3_abandon 33 = .ok (.putfield 247, 3) := by decide +kernel
theorem dX3_abandon_36 : decode cX3_abandon 36 = .ok (.aload_n 0, 1) := by decide +kernel
theorem dX3_abandon_37 : decode cX3_abandon 37 = .ok (.aload_n 0, 1) := by decide +kernel
theorem dX3_abandon_38 : decode cX3_abandon 38 = .ok (.getfield 23, 3) := by decide +kernel
theorem dX3_abandon_41 : decode cX3_abandon 41 = .ok (.aload_n 2, 1) := by decide +kernel
theorem dX3_abandon_42 : decode cX3_abandon 42 = .ok (.getfield 112, 3) := by decide +kernel
theorem dX3_abandon_45 : decode cX3_abandon 45 = .ok (.aaload, 1) := by decide +kernel
theorem dX3_abandon_46 : decode cX3_abandon 46 = .ok (.invokevirtual 244, 3) := by decide +kernel
theorem dX3_abandon_49 : decode cX3_abandon 49 = .ok (.return_, 1) := by decide +kernel
theorem dX3_changeState_0 : decode cX3_changeState 0 = .ok (.aload_n 0, 1) := by decide +kernel
theorem dX3_changeState_1 : decode cX3_changeState 1 = .ok (.getfield 33, 3) := by decide +kernel
theorem dX3_changeState_4 : decode cX3_changeState 4 = .ok (.aload_n 1, 1) := by decide +kernel
theorem dX3_changeState_5 : decode cX3_changeState 5 = .ok (.getfield 208, 3) := by decide +kernel
theorem dX3_changeState_8 : decode cX3_changeState 8 = .ok (.dup2, 1) := by decide +kernel
theorem dX3_changeState_9 : decode cX3_changeState 9 = .ok (.iaload, 1) := by decide +kernel
theorem dX3_changeState_10 : decode cX3_changeState 10 = .ok (.iconst 1, 1) := by decide +kernel
theorem dX3_changeState_11 : decode cX3_changeState 11 = .ok (.isub, 1) := by decide +kernel
theorem dX3_changeState_12 : decode cX3_changeState 12 = .ok (.iastore, 1) := by decide +kernel
theorem dX3_changeState_13 : decode cX3_changeState 13 = .ok (.aload_n 0, 1) := by decide +kernel
theorem dX3_changeState_14 : decode cX3_changeState 14 = .ok (.getfield 33, 3) := by decide +kernel
theorem dX3_changeState_17 : decode cX3_changeState 17 = .ok (.iload_n 2, 1) := by decide +kernel
theorem dX3_changeState_18 : decode cX3_changeState 18 = .ok (.dup2, 1) := by decide +kernel
theorem dX3_changeState_19 : decode cX3_changeState 19 = .ok (.iaload, 1) := by decide +kernel
theorem dX3_changeState_20 : decode cX3_changeState 20 = .ok (.iconst 1, 1) := by decide +kernel
theorem dX3_changeState_21 : decode cX3_changeState 21 = .ok (.iadd, 1) := by decide +kernel
theorem dX3_changeState_22 : decode cX3_changeState 22 = .ok (.iastore, 1) := by decide +kernel
theorem dX3_changeState_23 : decode cX3_changeState 23 = .ok (.aload_n 1, 1) := by decide +kernel
theorem dX3_changeState_24 : decode cX3_changeState 24 = .ok (.iload_n 2, 1) := by decide +kernel
theorem dX3_changeState_25 : decode cX3_changeState 25 = .ok (.putfield 208, 3) := by decide +kernel
theorem dX3_changeState_28 : decode cX3_changeState 28 = .ok (.aload_n 1, 1) := by decide +kernel
theorem dX3_changeState_29 : decode cX3_changeState 29 = .ok (.iconst (-1), 1) := by decide +kernel
theorem dX3_changeState_30 : decode cX3_changeState 30 = .ok (.putfield 232, 3) := by decide +kernel
theorem dX3_changeState_33 : decode cX3_changeState 33 = .ok (.return_, 1) := by decide +kernel
set_option maxRecDepth 20000 in
theorem ggX3_findNextCard_X1_isFinished : GoodIn wsX3_findNextCard wsX1_isFinished := goodIn_r _ [9, 10, 40, 41, 42, 43, 44, 45, 46, 47, 48] (by decide +kernel) (by decide +kernel)
set_option maxRecDepth 20000 in
theorem gX3_findNextCard_X1_isFinished : GoodIn wsX3_findNextCard (wsV RX3 253 RX1 yX1_isFinished wsX1_isFinished) := goodIn_app (goodIn_of _ (by decide +kernel)) ggX3_findNextCard_X1_isFinished
theorem dX3_findNextCard_0 : decode cX3_findNextCard 0 = .ok (.aload_n 1, 1) := by decide +kernel
theorem dX3_findNextCard_1 : decode cX3_findNextCard 1 = .ok (.getfield 250, 3) := by decide +kernel
theorem dX3_findNextCard_4 : decode cX3_findNextCard 4 = .ok (.aload_n 1, 1) := by decide +kernel
theorem dX3_findNextCard_5 : decode cX3_findNextCard 5 = .ok (.getfield 102, 3) := by decide +kernel
theorem dX3_findNextCard_8 : decode cX3_findNextCard 8 = .ok (.if_icmp .ge 36, 3) := by decide +kernel
theorem dX3_findNextCard_11 : decode cX3_findNextCard 11 = .ok (.aload_n 0, 1) := by decide +kernel
theorem dX3_findNextCard_12 : decode cX3_findNextCard 12 = .ok (.getfield 29, 3) := by decide +kernel
theorem dX3_findNextCard_15 : decode cX3_findNextCard 15 = .ok (.aload_n 1, 1) := by decide +kernel
theorem dX3_findNextCard_16 : decode cX3_findNextCard 16 = .ok (.getfield 106, 3) := by decide +kernel
theorem dX3_findNextCard_19 : decode cX3_findNextCard 19 = .ok (.aload_n 1, 1) := by decide +kernel
theorem dX3_findNextCard_20 : decode cX3_findNextCard 20 = .ok (.getfield 250, 3) := by decide +kernel
theorem dX3_findNextCard_23 : decode cX3_findNextCard 23 = .ok (.iaload, 1) := by decide +kernel
theorem dX3_findNextCard_24 : decode cX3_findNextCard 24 = .ok (.aaload, 1) := by decide +kernel
theorem dX3_findNextCard_25 : decode cX3_findNextCard 25 = .ok (.invokevirtual 253, 3) := by decide +kernel
theorem dX3_findNextCard_28 : decode cX3_findNextCard 28 = .ok (.ifCond .eq 16, 3) := by decide +kernel
theorem dX3_findNextCard_31 : decode cX3_findNextCard 31 = .ok (.aload_n 1, 1) := by decide +kernel
theorem dX3_findNextCard_32 : decode cX3_findNextCard 32 = .ok (.dup, 1) := by decide +kernel
theorem dX3_findNextCard_33 : decode cX3_findNextCard 33 = .ok (.getfield 250, 3) := by decide +kernel
theorem dX3_findNextCard_36 : decode cX3_findNextCard 36 = .ok (.iconst 1, 1) := by decide +kernel
theorem dX3_findNextCard_37 : decode cX3_findNextCard 37 = .ok (.iadd, 1) := by decide +kernel
theorem dX3_findNextCard_38 : decode cX3_findNextCard 38 = .ok (.putfield 250, 3) := by decide +kernel
theorem dX3_findNextCard_41 : decode cX3_findNextCard 41 = .ok (.goto (-41), 3) := by decide +kernel
theorem dX3_findNextCard_44 : decode cX3_findNextCard 44 = .ok (.return_, 1) := by decide +kernel
set_option maxRecDepth 20000 in
theorem ggX3_ticksToCome_X1_isFinished : GoodIn wsX3_ticksToCome wsX1_isFinished := goodIn_r _ [9, 10, 47, 48, 49, 50, 51, 52, 53, 54, 55] (by decide +kernel) (by decide +kernel)
set_option maxRecDepth 20000 in
theorem gX3_ticksToCome_X1_isFinished : GoodIn wsX3_ticksToCome (wsV RX3 253 RX1 yX1_isFinished wsX1_isFinished) := goodIn_app (goodIn_of _ (by decide +kernel)) ggX3_ticksToCome_X1_isFinished
set_option maxRecDepth 20000 in
theorem ggX3_ticksToCome_X6_ticksOf : GoodIn wsX3_ticksToCome wsX6_ticksOf := goodIn_r _ [15, 16, 17, 18, 14, 19, 20, 21, 22, 23, 24, 25, 26, 27, 28, 29, 56, 57, 58, 59, 60, 61, 62, 63, 64, 65, 66, 67, 68, 69, 70] (by decide +kernel) (by decide +kernel)
set_option maxRecDepth 20000 in
theorem gX3_ticksToCome_X6_ticksOf : GoodIn wsX3_ticksToCome (wsV RX3 256 RX6 yX6_ticksOf wsX6_ticksOf) := goodIn_app (goodIn_of _ (by decide +kernel)) ggX3_ticksToCome_X6_ticksOf
theorem dX3_ticksToCome_0 : decode cX3_ticksToCome 0 = .ok (.iconst 0, 1) := by decide +kernel
theorem dX3_ticksToCome_1 : decode cX3_ticksToCome 1 = .ok (.istore_n 2, 1) := by decide +kernel
theorem dX3_ticksToCome_2 : decode cX3_ticksToCome 2 = .ok (.iconst 0, 1) := by decide +kernel
theorem dX3_ticksToCome_3 : decode cX3_ticksToCome 3 = .ok (.istore_n 3, 1) := by decide +kernel
theorem dX3_ticksToCome_4 : decode cX3_ticksToCome 4 = .ok (.iload_n 3, 1) := by decide +kernel
theorem dX3_ticksToCome_5 : decode cX3_ticksToCome 5 = .ok (.aload_n 0, 1) := by decide +kernel
theorem dX3_ticksToCome_6 : decode cX3_ticksToCome 6 = .ok (.getfield 70, 3) := by decide +kernel
theorem dX3_ticksToCome_9 : decode cX3_ticksToCome 9 = .ok (.if_icmp .ge 42, 3) := by decide +kernel
theorem dX3_ticksToCome_12 : decode cX3_ticksToCome 12 = .ok (.aload_n 0, 1) := by decide +kernel
theorem dX3_ticksToCome_13 : decode cX3_ticksToCome 13 = .ok (.getfield 29, 3) := by decide +kernel
theorem dX3_ticksToCome_16 : decode cX3_ticksToCome 16 = .ok (.iload_n 3, 1) := by decide +kernel
theorem dX3_ticksToCome_17 : decode cX3_ticksToCome 17 = .ok (.aaload, 1) := by decide +kernel
theorem dX3_ticksToCome_18 : decode cX3_ticksToCome 18 = .ok (.invokevirtual 253, 3) := by decide +kernel
theorem dX3_ticksToCome_21 : decode cX3_ticksToCome 21 = .ok (.ifCond .ne 24, 3) := by decide +kernel
theorem dX3_ticksToCome_24 : decode cX3_ticksToCome 24 = .ok (.iload_n 2, 1) := by decide +kernel
theorem dX3_ticksToCome_25 : decode cX3_ticksToCome 25 = .ok (.aload_n 0, 1) := by decide +kernel
theorem dX3_ticksToCome_26 : decode cX3_ticksToCome 26 = .ok (.getfield 17, 3) := by decide +kernel
theorem dX3_ticksToCome_29 : decode cX3_ticksToCome 29 = .ok (.iload_n 1, 1) := by decide +kernel
theorem dX3_ticksToCome_30 : decode cX3_ticksToCome 30 = .ok (.aaload, 1) := by decide +kernel
theorem dX3_ticksToCome_31 : decode cX3_ticksToCome 31 = .ok (.aload_n 0, 1) := by decide +kernel
theorem dX3_ticksToCome_32 : decode cX3_ticksToCome 32 = .ok (.getfield 29, 3) := by decide +kernel
theorem dX3_ticksToCome_35 : decode cX3_ticksToCome 35 = .ok (.iload_n 3, 1) := by decide +kernel
theorem dX3_ticksToCome_36 : decode cX3_ticksToCome 36 = .ok (.aaload, 1) := by decide +kernel
theorem dX3_ticksToCome_37 : decode cX3_ticksToCome 37 = .ok (.getfield 220, 3) := by decide +kernel
theorem dX3_ticksToCome_40 : decode cX3_ticksToCome 40 = .ok (.invokevirtual 256, 3) := by decide +kernel
theorem dX3_ticksToCome_43 : decode cX3_ticksToCome 43 = .ok (.iadd, 1) := by decide +kernel
theorem dX3_ticksToCome_44 : decode cX3_ticksToCome 44 = .ok (.istore_n 2, 1) := by decide +kernel
theorem dX3_ticksToCome_45 : decode cX3_ticksToCome 45 = .ok (.iinc 3 1, 3) := by decide +kernel
theorem dX3_ticksToCome_48 : decode cX3_ticksToCome 48 = .ok (.goto (-44), 3) := by decide +kernel
theorem dX3_ticksToCome_51 : decode cX3_ticksToCome 51 = .ok (.iload_n 2, 1) := by decide +kernel
theorem dX3_ticksToCome_52 : decode cX3_ticksToCome 52 = .ok (.ireturn, 1) := by decide +kernel
set_option maxRecDepth 20000 in
theorem ggX3_hasHappened_Jx29ce0_ordinal_8abf5 : GoodIn wsX3_hasHappened wsJx29ce0_ordinal_8abf5 := goodIn_r _ [15, 16] (by decide +kernel) (by decide +kernel)
set_option maxRecDepth 20000 in
theorem gX3_hasHappened_Jx29ce0_ordinal_8abf5_u264X2 : GoodIn wsX3_hasHappened (va_wsU RX3 264 RX2 "java/lang/Enum" ⟨"CardLine$Event", "ordinal", "()I"⟩ yJx29ce0_ordinal_8abf5 wsJx29ce0_ordinal_8abf5) := goodIn_app (goodIn_of _ (by decide +kernel)) ggX3_hasHappened_Jx29ce0_ordinal_8abf5
set_option maxRecDepth 20000 in
theorem ggX3_hasHappened_X4_isFinished : GoodIn wsX3_hasHappened wsX4_isFinished := goodIn_r _ [21, 22, 23, 24, 66, 67, 68, 69, 70, 71, 72, 73, 74, 75, 76, 77] (by decide +kernel) (by decide +kernel)
set_option maxRecDepth 20000 in
theorem gX3_hasHappened_X4_isFinished : GoodIn wsX3_hasHappened (wsV RX3 269 RX4 yX4_isFinished wsX4_isFinished) := goodIn_app (goodIn_of _ (by decide +kernel)) ggX3_hasHappened_X4_isFinished
theorem dX3_hasHappened_0 : decode cX3_hasHappened 0 = .ok (.getstatic 259, 3) := by decide +kernel
theorem dX3_hasHappened_3 : decode cX3_hasHappened 3 = .ok (.aload_n 1, 1) := by decide +kernel
theorem dX3_hasHappened_4 : decode cX3_hasHappened 4 = .ok (.invokevirtual 264, 3) := by decide +kernel
theorem dX3_hasHappened_7 : decode cX3_hasHappened 7 = .ok (.iaload, 1) := by decide +kernel
theorem dX3_hasHappened_8 : decode cX3_hasHappened 8 = .ok (.tableswitch 105 1 4 #[32, 51, 61, 87], 32) := by decide +kernel
theorem dX3_hasHappened_40 : decode cX3_hasHappened 40 = .ok (.aload_n 0, 1) := by decide +kernel
theorem dX3_hasHappened_41 : decode cX3_hasHappened 41 = .ok (.getfield 29, 3) := by decide +kernel
theorem dX3_hasHappened_44 : decode cX3_hasHappened 44 = .ok (.iload_n 2, 1) := by decide +kernel
theorem dX3_hasHappened_45 : decode cX3_hasHappened 45 = .ok (.aaload, 1) := by decide +kernel
theorem dX3_hasHappened_46 : decode cX3_hasHappened 46 = .ok (.getfield 208, 3) := by decide +kernel
theorem dX3_hasHappened_49 : decode cX3_hasHappened 49 = .ok (.iconst 3, 1) := by decide +kernel
theorem dX3_hasHappened_50 : decode cX3_hasHappened 50 = .ok (.if_icmp .ne 7, 3) := by decide +kernel
theorem dX3_hasHappened_53 : decode cX3_hasHappened 53 = .ok (.iconst 1, 1) := by decide +kernel
theorem dX3_hasHappened_54 : decode cX3_hasHappened 54 = .ok (.goto 4, 3) := by decide +kernel
theorem dX3_hasHappened_57 : decode cX3_hasHappened 57 = .ok (.iconst 0, 1) := by decide +kernel
theorem dX3_hasHappened_58 : decode cX3_hasHappened 58 = .ok (.ireturn, 1) := by decide +kernel
theorem dX3_hasHappened_59 : decode cX3_hasHappened 59 = .ok (.aload_n 0, 1) := by decide +kernel
theorem dX3_hasHappened_60 : decode cX3_hasHappened 60 = .ok (.getfield 23, 3) := by decide +kernel
theorem dX3_hasHappened_63 : decode cX3_hasHappened 63 = .ok (.iload_n 2, 1) := by decide +kernel
theorem dX3_hasHappened_64 : decode cX3_hasHappened 64 = .ok (.aaload, 1) := by decide +kernel
theorem dX3_hasHappened_65 : decode cX3_hasHappened 65 = .ok (.invokevirtual 269, 3) := by decide +kernel
theorem dX3_hasHappened_68 : decode cX3_hasHappened 68 = .ok (.ireturn, 1) := by decide +kernel
theorem dX3_hasHappened_69 : decode cX3_hasHappened 69 = .ok (.aload_n 0, 1) := by decide +kernel
theorem dX3_hasHappened_70 : decode cX3_hasHappened 70 = .ok (.getfield 33, 3) := by decide +kernel
theorem dX3_hasHappened_73 : decode cX3_hasHappened 73 = .ok (.iconst 3, 1) := by decide +kernel
theorem dX3_hasHappened_74 : decode cX3_hasHappened 74 = .ok (.iaload, 1) := by decide +kernel
theorem dX3_hasHappened_75 : decode cX3_hasHappened 75 = .ok (.aload_n 0, 1) := by decide +kernel
theorem dX3_hasHappened_76 : decode cX3_hasHappened 76 = .ok (.getfield 33, 3) := by decide +kernel
theorem dX3_hasHappened_79 : decode cX3_hasHappened 79 = .ok (.iconst 4, 1) := by decide +kernel
theorem dX3_hasHappened_80 : decode cX3_hasHappened 80 = .ok (.iaload, 1) := by decide +kernel
theorem dX3_hasHappened_81 : decode cX3_hasHappened 81 = .ok (.iadd, 1) := by decide +kernel
theorem dX3_hasHappened_82 : decode cX3_hasHappened 82 = .ok (.aload_n 0, 1) := by decide +kernel
theorem dX3_hasHappened_83 : decode cX3_hasHappened 83 = .ok (.getfield 70, 3) := by decide +kernel
theorem dX3_hasHappened_86 : decode cX3_hasHappened 86 = .ok (.if_icmp .ne 7, 3) := by decide +kernel
theorem dX3_hasHappened_89 : decode cX3_hasHappened 89 = .ok (.iconst 1, 1) := by decide +kernel
theorem dX3_hasHappened_90 : decode cX3_hasHappened 90 = .ok (.goto 4, 3) := by decide +kernel
theorem dX3_hasHappened_93 : decode cX3_hasHappened 93 = .ok (.iconst 0, 1) := by decide +kernel
theorem dX3_hasHappened_94 : decode cX3_hasHappened 94 = .ok (.ireturn, 1) := by decide +kernel
theorem dX3_hasHappened_95 : decode cX3_hasHappened 95 = .ok (.aload_n 0, 1) := by decide +kernel
theorem dX3_hasHappened_96 : decode cX3_hasHappened 96 = .ok (.getfield 17, 3) := by decide +kernel
theorem dX3_hasHappened_99 : decode cX3_hasHappened 99 = .ok (.iload_n 2, 1) := by decide +kernel
theorem dX3_hasHappened_100 : decode cX3_hasHappened 100 = .ok (.aaload, 1) := by decide +kernel
theorem dX3_hasHappened_101 : decode cX3_hasHappened 101 = .ok (.getfield 270, 3) := by decide +kernel
theorem dX3_hasHappened_104 : decode cX3_hasHappened 104 = .ok (.ifCond .le 7, 3) := by decide +kernel
theorem dX3_hasHappened_107 : decode cX3_hasHappened 107 = .ok (.iconst 1, 1) := by decide +kernel
theorem dX3_hasHappened_108 : decode cX3_hasHappened 108 = .ok (.goto 4, 3) := by decide +kernel
theorem dX3_hasHappened_111 : decode cX3_hasHappened 111 = .ok (.iconst 0, 1) := by decide +kernel
theorem dX3_hasHappened_112 : decode cX3_hasHappened 112 = .ok (.ireturn, 1) := by decide +kernel
theorem dX3_hasHappened_113 : decode cX3_hasHappened 113 = .ok (.aload_n 0, 1) := by decide +kernel
theorem dX3_hasHappened_114 : decode cX3_hasHappened 114 = .ok (.getfield 17, 3) := by decide +kernel
theorem dX3_hasHappened_117 : decode cX3_hasHappened 117 = .ok (.iload_n 2, 1) := by decide +kernel
theorem dX3_hasHappened_118 : decode cX3_hasHappened 118 = .ok (.aaload, 1) := by decide +kernel
theorem dX3_hasHappened_119 : decode cX3_hasHappened 119 = .ok (.getfield 152, 3) := by decide +kernel
theorem dX3_hasHappened_122 : decode cX3_hasHappened 122 = .ok (.ifCond .le 7, 3) := by decide +kernel
theorem dX3_hasHappened_125 : decode cX3_hasHappened 125 = .ok (.iconst 1, 1) := by decide +kernel
theorem dX3_hasHappened_126 : decode cX3_hasHappened 126 = .ok (.goto 4, 3) := by decide +kernel
theorem dX3_hasHappened_129 : decode cX3_hasHappened 129 = .ok (.iconst 0, 1) := by decide +kernel
theorem dX3_hasHappened_130 : decode cX3_hasHappened 130 = .ok (.ireturn, 1) := by decide +kernel
theorem dX4_init_0 : decode cX4_init 0 = .ok (.aload_n 0, 1) := by decide +kernel
theorem dX4_init_1 : decode cX4_init 1 = .ok (.invokespecial 3, 3) := by decide +kernel
theorem dX4_init_4 : decode cX4_init 4 = .ok (.aload_n 0, 1) := by decide +kernel
theorem dX4_init_5 : decode cX4_init 5 = .ok (.bipush 30, 2) := by decide +kernel
theorem dX4_init_7 : decode cX4_init 7 = .ok (.newarray .int, 2) := by decide +kernel
theorem dX4_init_9 : decode cX4_init 9 = .ok (.putfield 9, 3) := by decide +kernel
theorem dX4_init_12 : decode cX4_init 12 = .ok (.aload_n 0, 1) := by decide +kernel
theorem dX4_init_13 : decode cX4_init 13 = .ok (.bipush 10, 2) := by decide +kernel
theorem dX4_init_15 : decode cX4_init 15 = .ok (.newarray .int, 2) := by decide +kernel
theorem dX4_init_17 : decode cX4_init 17 = .ok (.putfield 15, 3) := by decide +kernel
theorem dX4_init_20 : decode cX4_init 20 = .ok (.aload_n 0, 1) := by decide +kernel
theorem dX4_init_21 : decode cX4_init 21 = .ok (.bipush 10, 2) := by decide +kernel
theorem dX4_init_23 : decode cX4_init 23 = .ok (.newarray .int, 2) := by decide +kernel
theorem dX4_init_25 : decode cX4_init 25 = .ok (.putfield 18, 3) := by decide +kernel
theorem dX4_init_28 : decode cX4_init 28 = .ok (.return_, 1) := by decide +kernel
theorem dX4_begin_0 : decode cX4_begin 0 = .ok (.aload_n 0, 1) := by decide +kernel
theorem dX4_begin_1 : decode cX4_begin 1 = .ok (.iload_n 1, 1) := by decide +kernel
theorem dX4_begin_2 : decode cX4_begin 2 = .ok (.putfield 21, 3) := by decide +kernel
theorem dX4_begin_5 : decode cX4_begin 5 = .ok (.aload_n 0, 1) := by decide +kernel
theorem dX4_begin_6 : decode cX4_begin 6 = .ok (.iconst 0, 1) := by decide +kernel
theorem dX4_begin_7 : decode cX4_begin 7 = .ok (.putfield 25, 3) := by decide +kernel
theorem dX4_begin_10 : decode cX4_begin 10 = .ok (.aload_n 0, 1) := by decide +kernel
theorem dX4_begin_11 : decode cX4_begin 11 = .ok (.iconst 0, 1) := by decide +kernel
theorem dX4_begin_12 : decode cX4_begin 12 = .ok (.putfield 28, 3) := by decide +kernel
theorem dX4_begin_15 : decode cX4_begin 15 = .ok (.aload_n 0, 1) := by decide +kernel
theorem dX4_begin_16 : decode cX4_begin 16 = .ok (.iconst 0, 1) := by decide +kernel
theorem dX4_begin_17 : decode cX4_begin 17 = .ok (.putfield 31, 3) := by decide +kernel
theorem dX4_begin_20 : decode cX4_begin 20 = .ok (.aload_n 0, 1) := by decide +kernel
theorem dX4_begin_21 : decode cX4_begin 21 = .ok (.iconst 0, 1) := by decide +kernel
theorem dX4_begin_22 : decode cX4_begin 22 = .ok (.putfield 34, 3) := by decide +kernel
theorem dX4_begin_25 : decode cX4_begin 25 = .ok (.aload_n 0, 1) := by decide +kernel
theorem dX4_begin_26 : decode cX4_begin 26 = .ok (.iconst 0, 1) := by decide +kernel
theorem dX4_begin_27 : decode cX4_begin 27 = .ok (.putfield 37, 3) := by decide +kernel
theorem dX4_begin_30 : decode cX4_begin 30 = .ok (.aload_n 0, 1) := by decide +kernel
theorem dX4_begin_31 : decode cX4_begin 31 = .ok (.iconst 0, 1) := by decide +kernel
theorem dX4_begin_32 : decode cX4_begin 32 = .ok (.putfield 40, 3) := by decide +kernel
theorem dX4_begin_35 : decode cX4_begin 35 = .ok (.aload_n 0, 1) := by decide +kernel
theorem dX4_begin_36 : decode cX4_begin 36 = .ok (.iconst 0, 1) := by decide +kernel
theorem dX4_begin_37 : decode cX4_begin 37 = .ok (.putfield 43, 3) := by decide +kernel
theorem dX4_begin_40 : decode cX4_begin 40 = .ok (.aload_n 0, 1) := by decide +kernel
theorem dX4_begin_41 : decode cX4_begin 41 = .ok (.iconst 0, 1) := by decide +kernel
theorem dX4_begin_42 : decode cX4_begin 42 = .ok (.putfield 46, 3) := by decide +kernel
theorem dX4_begin_45 : decode cX4_begin 45 = .ok (.return_, 1) := by decide +kernel
theorem dX4_copyFrom_0 : decode cX4_copyFrom 0 = .ok (.aload_n 0, 1) := by decide +kernel
theorem dX4_copyFrom_1 : decode cX4_copyFrom 1 = .ok (.aload_n 1, 1) := by decide +kernel
theorem dX4_copyFrom_2 : decode cX4_copyFrom 2 = .ok (.getfield 21, 3) := by decide +kernel
theorem dX4_copyFrom_5 : decode cX4_copyFrom 5 = .ok (.putfield 21, 3) := by decide +kernel
theorem dX4_copyFrom_8 : decode cX4_copyFrom 8 = .ok (.aload_n 0, 1) := by decide +kernel
theorem dX4_copyFrom_9 : decode cX4_copyFrom 9 = .ok (.aload_n 1, 1) := by decide +kernel
theorem dX4_copyFrom_10 : decode cX4_copyFrom 10 = .ok (.getfield 25, 3) := by decide +kernel
theorem dX4_copyFrom_13 : decode cX4_copyFrom 13 = .ok (.putfield 25, 3) := by decide +kernel
theorem dX4_copyFrom_16 : decode cX4_copyFrom 16 = .ok (.aload_n 1, 1) := by decide +kernel
theorem dX4_copyFrom_17 : decode cX4_copyFrom 17 = .ok (.getfield 9, 3) := by decide +kernel
theorem dX4_copyFrom_20 : decode cX4_copyFrom 20 = .ok (.iconst 0, 1) := by decide +kernel
theorem dX4_copyFrom_21 : decode cX4_copyFrom 21 = .ok (.aload_n 0, 1) := by decide +kernel
theorem dX4_copyFrom_22 : decode cX4_copyFrom 22 = .ok (.getfield 9, 3) := by decide +kernel
theorem dX4_copyFrom_25 : decode cX4_copyFrom 25 = .ok (.iconst 0, 1) := by decide +kernel
theorem dX4_copyFrom_26 : decode cX4_copyFrom 26 = .ok (.bipush 30, 2) := by decide +kernel
theorem dX4_copyFrom_28 : decode cX4_copyFrom 28 = .ok (.invokestatic 49, 3) := by decide +kernel
theorem dX4_copyFrom_31 : decode cX4_copyFrom 31 = .ok (.aload_n 0, 1) := by decide +kernel
theorem dX4_copyFrom_32 : decode cX4_copyFrom 32 = .ok (.aload_n 1, 1) := by decide +kernel
theorem dX4_copyFrom_33 : decode cX4_copyFrom 33 = .ok (.getfield 28, 3) := by decide +kernel
theorem dX4_copyFrom_36 : decode cX4_copyFrom 36 = .ok (.putfield 28, 3) := by decide +kernel
theorem dX4_copyFrom_39 : decode cX4_copyFrom 39 = .ok (.aload_n 0, 1) := by decide +kernel
theorem dX4_copyFrom_40 : decode cX4_copyFrom 40 = .ok (.aload_n 1, 1) := by decide +kernel
theorem dX4_copyFrom_41 : decode cX4_copyFrom 41 = .ok (.getfield 31, 3) := by decide +kernel
theorem dX4_copyFrom_44 : decode cX4_copyFrom 44 = .ok (.putfield 31, 3) := by decide +kernel
theorem dX4_copyFrom_47 : decode cX4_copyFrom 47 = .ok (.aload_n 0, 1) := by decide +kernel
theorem dX4_copyFrom_48 : decode cX4_copyFrom 48 = .ok (.aload_n 1, 1) := by decide +kernel
theorem dX4_copyFrom_49 : decode cX4_copyFrom 49 = .ok (.getfield 34, 3) := by decide +kernel
theorem dX4_copyFrom_52 : decode cX4_copyFrom 52 = .ok (.putfield 34, 3) := by decide +kernel
theorem dX4_copyFrom_55 : decode cX4_copyFrom 55 = .ok (.aload_n 0, 1) := by decide +kernel
theorem dX4_copyFrom_56 : decode cX4_copyFrom 56 = .ok (.aload_n 1, 1) := by decide +kernel
theorem dX4_copyFrom_57 : decode cX4_copyFrom 57 = .ok (.getfield 37, 3) := by decide +kernel
theorem dX4_copyFrom_60 : decode cX4_copyFrom 60 = .ok (.putfield 37, 3) := by decide +kernel
theorem dX4_copyFrom_63 : decode cX4_copyFrom 63 = .ok (.aload_n 0, 1) := by decide +kernel
theorem dX4_copyFrom_64 : decode cX4_copyFrom 64 = .ok (.aload_n 1, 1) := by decide +kernel
theorem dX4_copyFrom_65 : decode cX4_copyFrom 65 = .ok (.getfield 40, 3) := by decide +kernel
theorem dX4_copyFrom_68 : decode cX4_copyFrom 68 = .ok (.putfield 40, 3) := by decide +kernel
theorem dX4_copyFrom_71 : decode cX4_copyFrom 71 = .ok (.aload_n 0, 1) := by decide +kernel
theorem dX4_copyFrom_72 : decode cX4_copyFrom 72 = .ok (.aload_n 1, 1) := by decide +kernel
theorem dX4_copyFrom_73 : decode cX4_copyFrom 73 = .ok (.getfield 43, 3) := by decide +kernel
theorem dX4_copyFrom_76 : decode cX4_copyFrom 76 = .ok (.putfield 43, 3) := by decide +kernel
theorem dX4_copyFrom_79 : decode cX4_copyFrom 79 = .ok (.aload_n 0, 1) := by decide +kernel
theorem dX4_copyFrom_80 : decode cX4_copyFrom 80 = .ok (.aload_n 1, 1) := by decide +kernel
theorem dX4_copyFrom_81 : decode cX4_copyFrom 81 = .ok (.getfield 46, 3) := by decide +kernel
theorem dX4_copyFrom_84 : decode cX4_copyFrom 84 = .ok (.putfield 46, 3) := by decide +kernel
theorem dX4_copyFrom_87 : decode cX4_copyFrom 87 = .ok (.aload_n 1, 1) := by decide +kernel
theorem dX4_copyFrom_88 : decode cX4_copyFrom 88 = .ok (.getfield 15, 3) := by decide +kernel
theorem dX4_copyFrom_91 : decode cX4_copyFrom 91 = .ok (.iconst 0, 1) := by decide +kernel
theorem dX4_copyFrom_92 : decode cX4_copyFrom 92 = .ok (.aload_n 0, 1) := by decide +kernel
theorem dX4_copyFrom_93 : decode cX4_copyFrom 93 = .ok (.getfield 15, 3) := by decide +kernel
theorem dX4_copyFrom_96 : decode cX4_copyFrom 96 = .ok (.iconst 0, 1) := by decide +kernel
theorem dX4_copyFrom_97 : decode cX4_copyFrom 97 = .ok (.bipush 10, 2) := by decide +kernel
theorem dX4_copyFrom_99 : decode cX4_copyFrom 99 = .ok (.invokestatic 49, 3) := by decide +kernel
theorem dX4_copyFrom_102 : decode cX4_copyFrom 102 = .ok (.aload_n 1, 1) := by decide +kernel
theorem dX4_copyFrom_103 : decode cX4_copyFrom 103 = .ok (.getfield 18, 3) := by decide +kernel
theorem dX4_copyFrom_106 : decode cX4_copyFrom 106 = .ok (.iconst 0, 1) := by decide +kernel
theorem dX4_copyFrom_107 : decode cX4_copyFrom 107 = .ok (.aload_n 0, 1) := by decide +kernel
theorem dX4_copyFrom_108 : decode cX4_copyFrom 108 = .ok (.getfield 18, 3) := by decide +kernel
theorem dX4_copyFrom_111 : decode cX4_copyFrom 111 = .ok (.iconst 0, 1) := by decide +kernel
theorem dX4_copyFrom_112 : decode cX4_copyFrom 112 = .ok (.bipush 10, 2) := by decide +kernel
theorem dX4_copyFrom_114 : decode cX4_copyFrom 114 = .ok (.invokestatic 49, 3) := by decide +kernel
theorem dX4_copyFrom_117 : decode cX4_copyFrom 117 = .ok (.return_, 1) := by decide +kernel
theorem dX4_cardAt_0 : decode cX4_cardAt 0 = .ok (.iload_n 1, 1) := by decide +kernel
theorem dX4_cardAt_1 : decode cX4_cardAt 1 = .ok (.ifCond .lt 20, 3) := by decide +kernel
theorem dX4_cardAt_4 : decode cX4_cardAt 4 = .ok (.iload_n 1, 1) := by decide +kernel
theorem dX4_cardAt_5 : decode cX4_cardAt 5 = .ok (.aload_n 0, 1) := by decide +kernel
theorem dX4_cardAt_6 : decode cX4_cardAt 6 = .ok (.getfield 25, 3) := by decide +kernel
theorem dX4_cardAt_9 : decode cX4_cardAt 9 = .ok (.if_icmp .ge 12, 3) := by decide +kernel
theorem dX4_cardAt_12 : decode cX4_cardAt 12 = .ok (.aload_n 0, 1) := by decide +kernel
theorem dX4_cardAt_13 : decode cX4_cardAt 13 = .ok (.getfield 9, 3) := by decide +kernel
theorem dX4_cardAt_16 : decode cX4_cardAt 16 = .ok (.iload_n 1, 1) := by decide +kernel
theorem dX4_cardAt_17 : decode cX4_cardAt 17 = .ok (.iaload, 1) := by decide +kernel
theorem dX4_cardAt_18 : decode cX4_cardAt 18 = .ok (.goto 4, 3) := by decide +kernel
theorem dX4_cardAt_21 : decode cX4_cardAt 21 = .ok (.iconst (-1), 1) := by decide +kernel
theorem dX4_cardAt_22 : decode cX4_cardAt 22 = .ok (.ireturn, 1) := by decide +kernel
set_option maxRecDepth 20000 in
theorem ggX4_nextCard_X4_cardAt : GoodIn wsX4_nextCard wsX4_cardAt := goodIn_r _ [6, 7, 8, 9, 10, 11, 12, 13, 14, 15, 16, 17, 18, 19, 20] (by decide +kernel) (by decide +kernel)
set_option maxRecDepth 20000 in
theorem gX4_nextCard_X4_cardAt : GoodIn wsX4_nextCard (wsV RX4 55 RX4 yX4_cardAt wsX4_cardAt) := goodIn_app (goodIn_of _ (by decide +kernel)) ggX4_nextCard_X4_cardAt
theorem dX4_nextCard_0 : decode cX4_nextCard 0 = .ok (.aload_n 0, 1) := by decide +kernel
theorem dX4_nextCard_1 : decode cX4_nextCard 1 = .ok (.aload_n 0, 1) := by decide +kernel
theorem dX4_nextCard_2 : decode cX4_nextCard 2 = .ok (.getfield 28, 3) := by decide +kernel
theorem dX4_nextCard_5 : decode cX4_nextCard 5 = .ok (.invokevirtual 55, 3) := by decide +kernel
theorem dX4_nextCard_8 : decode cX4_nextCard 8 = .ok (.ireturn, 1) := by decide +kernel
theorem dX4_isFinished_0 : decode cX4_isFinished 0 = .ok (.aload_n 0, 1) := by decide +kernel
theorem dX4_isFinished_1 : decode cX4_isFinished 1 = .ok (.getfield 31, 3) := by decide +kernel
theorem dX4_isFinished_4 : decode cX4_isFinished 4 = .ok (.aload_n 0, 1) := by decide +kernel
theorem dX4_isFinished_5 : decode cX4_isFinished 5 = .ok (.getfield 34, 3) := by decide +kernel
theorem dX4_isFinished_8 : decode cX4_isFinished 8 = .ok (.iadd, 1) := by decide +kernel
theorem dX4_isFinished_9 : decode cX4_isFinished 9 = .ok (.aload_n 0, 1) := by decide +kernel
theorem dX4_isFinished_10 : decode cX4_isFinished 10 = .ok (.getfield 25, 3) := by decide +kernel
theorem dX4_isFinished_13 : decode cX4_isFinished 13 = .ok (.if_icmp .ne 7, 3) := by decide +kernel
theorem dX4_isFinished_16 : decode cX4_isFinished 16 = .ok (.iconst 1, 1) := by decide +kernel
theorem dX4_isFinished_17 : decode cX4_isFinished 17 = .ok (.goto 4, 3) := by decide +kernel
theorem dX4_isFinished_20 : decode cX4_isFinished 20 = .ok (.iconst 0, 1) := by decide +kernel
theorem dX4_isFinished_21 : decode cX4_isFinished 21 = .ok (.ireturn, 1) := by decide +kernel
theorem dX4_endDay_0 : decode cX4_endDay 0 = .ok (.aload_n 0, 1) := by decide +kernel
theorem dX4_endDay_1 : decode cX4_endDay 1 = .ok (.getfield 15, 3) := by decide +kernel
theorem dX4_endDay_4 : decode cX4_endDay 4 = .ok (.iload_n 1, 1) := by decide +kernel
theorem dX4_endDay_5 : decode cX4_endDay 5 = .ok (.aload_n 0, 1) := by decide +kernel
theorem dX4_endDay_6 : decode cX4_endDay 6 = .ok (.getfield 43, 3) := by decide +kernel
theorem dX4_endDay_9 : decode cX4_endDay 9 = .ok (.iastore, 1) := by decide +kernel
theorem dX4_endDay_10 : decode cX4_endDay 10 = .ok (.aload_n 0, 1) := by decide +kernel
theorem dX4_endDay_11 : decode cX4_endDay 11 = .ok (.getfield 18, 3) := by decide +kernel
theorem dX4_endDay_14 : decode cX4_endDay 14 = .ok (.iload_n 1, 1) := by decide +kernel
theorem dX4_endDay_15 : decode cX4_endDay 15 = .ok (.aload_n 0, 1) := by decide +kernel
theorem dX4_endDay_16 : decode cX4_endDay 16 = .ok (.getfield 46, 3) := by decide +kernel
theorem dX4_endDay_19 : decode cX4_endDay 19 = .ok (.iastore, 1) := by decide +kernel
theorem dX4_endDay_20 : decode cX4_endDay 20 = .ok (.aload_n 0, 1) := by decide +kernel
theorem dX4_endDay_21 : decode cX4_endDay 21 = .ok (.iconst 0, 1) := by decide +kernel
theorem dX4_endDay_22 : decode cX4_endDay 22 = .ok (.putfield 43, 3) := by decide +kernel
theorem dX4_endDay_25 : decode cX4_endDay 25 = .ok (.aload_n 0, 1) := by decide +kernel
theorem dX4_endDay_26 : decode cX4_endDay 26 = .ok (.iconst 0, 1) := by decide +kernel
theorem dX4_endDay_27 : decode cX4_endDay 27 = .ok (.putfield 46, 3) := by decide +kernel
theorem dX4_endDay_30 : decode cX4_endDay 30 = .ok (.return_, 1) := by decide +kernel
theorem dX5_init_0 : decode cX5_init 0 = .ok (.aload_n 0, 1) := by decide +kernel
theorem dX5_init_1 : decode cX5_init 1 = .ok (.invokespecial 3, 3) := by decide +kernel
theorem dX5_init_4 : decode cX5_init 4 = .ok (.aload_n 0, 1) := by decide +kernel
theorem dX5_init_5 : decode cX5_init 5 = .ok (.sipush 600, 3) := by decide +kernel
theorem dX5_init_8 : decode cX5_init 8 = .ok (.newarray .byte, 2) := by decide +kernel
theorem dX5_init_10 : decode cX5_init 10 = .ok (.putfield 9, 3) := by decide +kernel
theorem dX5_init_13 : decode cX5_init 13 = .ok (.aload_n 0, 1) := by decide +kernel
theorem dX5_init_14 : decode cX5_init 14 = .ok (.bipush 64, 2) := by decide +kernel
theorem dX5_init_16 : decode cX5_init 16 = .ok (.newarray .byte, 2) := by decide +kernel
theorem dX5_init_18 : decode cX5_init 18 = .ok (.putfield 15, 3) := by decide +kernel
theorem dX5_init_21 : decode cX5_init 21 = .ok (.aload_n 0, 1) := by decide +kernel
theorem dX5_init_22 : decode cX5_init 22 = .ok (.iconst 4, 1) := by decide +kernel
theorem dX5_init_23 : decode cX5_init 23 = .ok (.newarray .int, 2) := by decide +kernel
theorem dX5_init_25 : decode cX5_init 25 = .ok (.putfield 18, 3) := by decide +kernel
theorem dX5_init_28 : decode cX5_init 28 = .ok (.aload_n 0, 1) := by decide +kernel
theorem dX5_init_29 : decode cX5_init 29 = .ok (.iconst 4, 1) := by decide +kernel
theorem dX5_init_30 : decode cX5_init 30 = .ok (.newarray .int, 2) := by decide +kernel
theorem dX5_init_32 : decode cX5_init 32 = .ok (.putfield 22, 3) := by decide +kernel
theorem dX5_init_35 : decode cX5_init 35 = .ok (.return_, 1) := by decide +kernel
theorem dX5_add_0 : decode cX5_add 0 = .ok (.aload_n 0, 1) := by decide +kernel
theorem dX5_add_1 : decode cX5_add 1 = .ok (.getfield 25, 3) := by decide +kernel
theorem dX5_add_4 : decode cX5_add 4 = .ok (.istore_n 3, 1) := by decide +kernel
theorem dX5_add_5 : decode cX5_add 5 = .ok (.bipush 56, 2) := by decide +kernel
theorem dX5_add_7 : decode cX5_add 7 = .ok (.istore 4, 2) := by decide +kernel
theorem dX5_add_9 : decode cX5_add 9 = .ok (.iload 4, 2) := by decide +kernel
theorem dX5_add_11 : decode cX5_add 11 = .ok (.ifCond .lt 21, 3) := by decide +kernel
theorem dX5_add_14 : decode cX5_add 14 = .ok (.lload_n 1, 1) := by decide +kernel
theorem dX5_add_15 : decode cX5_add 15 = .ok (.iload 4, 2) := by decide +kernel
theorem dX5_add_17 : decode cX5_add 17 = .ok (.lushr, 1) := by decide +kernel
theorem dX5_add_18 : decode cX5_add 18 = .ok (.l2i, 1) := by decide +kernel
theorem dX5_add_19 : decode cX5_add 19 = .ok (.i2b, 1) := by decide +kernel
theorem dX5_add_20 : decode cX5_add 20 = .ok (.ifCond .eq 6, 3) := by decide +kernel
theorem dX5_add_23 : decode cX5_add 23 = .ok (.iinc 3 1, 3) := by decide +kernel
theorem dX5_add_26 : decode cX5_add 26 = .ok (.iinc 4 (-8), 3) := by decide +kernel
theorem dX5_add_29 : decode cX5_add 29 = .ok (.goto (-20), 3) := by decide +kernel
theorem dX5_add_32 : decode cX5_add 32 = .ok (.iload_n 3, 1) := by decide +kernel
theorem dX5_add_33 : decode cX5_add 33 = .ok (.sipush 600, 3) := by decide +kernel
theorem dX5_add_36 : decode cX5_add 36 = .ok (.if_icmp .le 5, 3) := by decide +kernel
theorem dX5_add_39 : decode cX5_add 39 = .ok (.iconst 0, 1) := by decide +kernel
theorem dX5_add_40 : decode cX5_add 40 = .ok (.ireturn, 1) := by decide +kernel
theorem dX5_add_41 : decode cX5_add 41 = .ok (.bipush 56, 2) := by decide +kernel
theorem dX5_add_43 : decode cX5_add 43 = .ok (.istore 4, 2) := by decide +kernel
theorem dX5_add_45 : decode cX5_add 45 = .ok (.iload 4, 2) := by decide +kernel
theorem dX5_add_47 : decode cX5_add 47 = .ok (.ifCond .lt 53, 3) := by decide +kernel
theorem dX5_add_50 : decode cX5_add 50 = .ok (.lload_n 1, 1) := by decide +kernel
theorem dX5_add_51 : decode cX5_add 51 = .ok (.iload 4, 2) := by decide +kernel
theorem dX5_add_53 : decode cX5_add 53 = .ok (.lushr, 1) := by decide +kernel
theorem dX5_add_54 : decode cX5_add 54 = .ok (.l2i, 1) := by decide +kernel
theorem dX5_add_55 : decode cX5_add 55 = .ok (.i2b, 1) := by decide +kernel
theorem dX5_add_56 : decode cX5_add 56 = .ok (.istore 5, 2) := by decide +kernel
theorem dX5_add_58 : decode cX5_add 58 = .ok (.iload 5, 2) := by decide +kernel
theorem dX5_add_60 : decode cX5_add 60 = .ok (.ifCond .eq 34, 3) := by decide +kernel
theorem dX5_add_63 : decode cX5_add 63 = .ok (.aload_n 0, 1) := by decide +kernel
theorem dX5_add_64 : decode cX5_add 64 = .ok (.getfield 25, 3) := by decide +kernel
theorem dX5_add_67 : decode cX5_add 67 = .ok (.sipush 600, 3) := by decide +kernel
theorem dX5_add_70 : decode cX5_add 70 = .ok (.if_icmp .ge 24, 3) := by decide +kernel
theorem dX5_add_73 : decode cX5_add 73 = .ok (.aload_n 0, 1) := by decide +kernel
theorem dX5_add_74 : decode cX5_add 74 = .ok (.getfield 9, 3) := by decide +kernel
theorem dX5_add_77 : decode cX5_add 77 = .ok (.aload_n 0, 1) := by decide +kernel
theorem dX5_add_78 : decode cX5_add 78 = .ok (.getfield 25, 3) := by decide +kernel
theorem dX5_add_81 : decode cX5_add 81 = .ok (.iload 5, 2) := by decide +kernel
theorem dX5_add_83 : decode cX5_add 83 = .ok (.bastore, 1) := by decide +kernel
theorem dX5_add_84 : decode cX5_add 84 = .ok (.aload_n 0, 1) := by decide +kernel
theorem dX5_add_85 : decode cX5_add 85 = .ok (.dup, 1) := by decide +kernel
theorem dX5_add_86 : decode cX5_add 86 = .ok (.getfield 25, 3) := by decide +kernel
theorem dX5_add_89 : decode cX5_add 89 = .ok (.iconst 1, 1) := by decide +kernel
theorem dX5_add_90 : decode cX5_add 90 = .ok (.iadd, 1) := by decide +kernel
theorem dX5_add_91 : decode cX5_add 91 = .ok (.putfield 25, 3) := by decide +kernel
theorem dX5_add_94 : decode cX5_add 94 = .ok (.iinc 4 (-8), 3) := by decide +kernel
theorem dX5_add_97 : decode cX5_add 97 = .ok (.goto (-52), 3) := by decide +kernel
theorem dX5_add_100 : decode cX5_add 100 = .ok (.iconst 1, 1) := by decide +kernel
theorem dX5_add_101 : decode cX5_add 101 = .ok (.ireturn, 1) := by decide +kernel
theorem dX5_start_0 : decode cX5_start 0 = .ok (.aload_n 0, 1) := by decide +kernel
theorem dX5_start_1 : decode cX5_start 1 = .ok (.iconst 0, 1) := by decide +kernel
theorem dX5_start_2 : decode cX5_start 2 = .ok (.putfield 29, 3) := by decide +kernel
theorem dX5_start_5 : decode cX5_start 5 = .ok (.aload_n 0, 1) := by decide +kernel
theorem dX5_start_6 : decode cX5_start 6 = .ok (.iconst 0, 1) := by decide +kernel
theorem dX5_start_7 : decode cX5_start 7 = .ok (.putfield 32, 3) := by decide +kernel
theorem dX5_start_10 : decode cX5_start 10 = .ok (.aload_n 0, 1) := by decide +kernel
theorem dX5_start_11 : decode cX5_start 11 = .ok (.iconst 0, 1) := by decide +kernel
theorem dX5_start_12 : decode cX5_start 12 = .ok (.putfield 35, 3) := by decide +kernel
theorem dX5_start_15 : decode cX5_start 15 = .ok (.aload_n 0, 1) := by decide +kernel
theorem dX5_start_16 : decode cX5_start 16 = .ok (.iconst 0, 1) := by decide +kernel
theorem dX5_start_17 : decode cX5_start 17 = .ok (.putfield 38, 3) := by decide +kernel
theorem dX5_start_20 : decode cX5_start 20 = .ok (.return_, 1) := by decide +kernel
theorem dX5_isFine_0 : decode cX5_isFine 0 = .ok (.aload_n 0, 1) := by decide +kernel
theorem dX5_isFine_1 : decode cX5_isFine 1 = .ok (.getfield 32, 3) := by decide +kernel
theorem dX5_isFine_4 : decode cX5_isFine 4 = .ok (.ifCond .ne 7, 3) := by decide +kernel
theorem dX5_isFine_7 : decode cX5_isFine 7 = .ok (.iconst 1, 1) := by decide +kernel
theorem dX5_isFine_8 : decode cX5_isFine 8 = .ok (.goto 4, 3) := by decide +kernel
theorem dX5_isFine_11 : decode cX5_isFine 11 = .ok (.iconst 0, 1) := by decide +kernel
theorem dX5_isFine_12 : decode cX5_isFine 12 = .ok (.ireturn, 1) := by decide +kernel
theorem dX5_error_0 : decode cX5_error 0 = .ok (.aload_n 0, 1) := by decide +kernel
theorem dX5_error_1 : decode cX5_error 1 = .ok (.getfield 32, 3) := by decide +kernel
theorem dX5_error_4 : decode cX5_error 4 = .ok (.ifCond .ne 13, 3) := by decide +kernel
theorem dX5_error_7 : decode cX5_error 7 = .ok (.aload_n 0, 1) := by decide +kernel
theorem dX5_error_8 : decode cX5_error 8 = .ok (.iload_n 1, 1) := by decide +kernel
theorem dX5_error_9 : decode cX5_error 9 = .ok (.putfield 32, 3) := by decide +kernel
theorem dX5_error_12 : decode cX5_error 12 = .ok (.aload_n 0, 1) := by decide +kernel
theorem dX5_error_13 : decode cX5_error 13 = .ok (.iload_n 2, 1) := by decide +kernel
theorem dX5_error_14 : decode cX5_error 14 = .ok (.putfield 35, 3) := by decide +kernel
theorem dX5_error_17 : decode cX5_error 17 = .ok (.return_, 1) := by decide +kernel
set_option maxRecDepth 20000 in
theorem ggX5_readDescription_X5_start : GoodIn wsX5_readDescription wsX5_start := goodIn_r _ [7, 8, 9, 10, 1, 280, 281, 282, 283, 284, 285, 286, 287, 288, 289, 290] (by decide +kernel) (by decide +kernel)
set_option maxRecDepth 20000 in
theorem gX5_readDescription_X5_start : GoodIn wsX5_readDescription (wsV RX5 41 RX5 yX5_start wsX5_start) := goodIn_app (goodIn_of _ (by decide +kernel)) ggX5_readDescription_X5_start
set_option maxRecDepth 20000 in
theorem ggX5_readDescription_X5_readStatement : GoodIn wsX5_readDescription wsX5_readStatement := goodIn_r _ [14, 1, 15, 16, 17, 6, 18, 8, 2, 19, 20, 21, 22, 23, 24, 25, 26, 27, 28, 29, 30, 31, 32, 33, 34, 35, 36, 37, 38, 39, 40, 41, 42, 43, 44, 45, 46, 47, 48, 49, 50, 51, 52, 53, 54, 55, 56, 57, 58, 59, 60, 61, 62, 63, 64, 65, 66, 67, 68, 69, 70, 71, 72, 73, 74, 75, 76, 77, 78, 79, 80, 81, 82, 83, 9, 10, 84, 85, 86, 87, 88, 89, 90, 91, 92, 93, 94, 95, 96, 97, 98, 99, 100, 101, 102, 103, 104, 105, 106, 107, 108, 109, 110, 111, 112, 113, 114, 115, 116, 117, 118, 119, 120, 121, 122, 123, 124, 125, 126, 127, 128, 129, 130, 131, 132, 133, 134, 135, 136, 137, 138, 139, 140, 141, 142, 143, 144, 145, 146, 147, 148, 149, 150, 151, 152, 153, 154, 155, 156, 157, 158, 159, 160, 161, 162, 163, 164, 165, 166, 167, 168, 169, 170, 171, 172, 173, 174, 175, 176, 177, 178, 179, 180, 181, 182, 183, 184, 185, 186, 187, 188, 189, 190, 191, 192, 193, 194, 195, 196, 197, 198, 199, 200, 201, 202, 203, 204, 205, 206, 207, 208, 209, 210, 211, 212, 213, 214, 215, 216, 217, 218, 219, 220, 221, 222, 223, 224, 225, 226, 227, 228, 229, 230, 231, 232, 233, 234, 235, 236, 237, 238, 239, 240, 241, 242, 243, 244, 245, 246, 247, 248, 249, 250, 251, 252, 253, 254, 255, 256, 257, 258, 259, 260, 261, 262, 263, 264, 265, 266, 267, 268, 269, 270, 271, 272, 273, 274, 275, 280, 281, 282, 283, 284, 285, 286, 287, 288, 289, 290, 291, 292, 293, 294, 295, 296, 297, 298, 299, 300, 301, 302, 303, 304, 305, 306, 307, 308, 309, 310, 311, 312, 313, 314, 315, 316, 317, 318, 319, 320, 321, 322, 323, 324, 325, 326, 327, 328, 329, 330, 331, 332, 333, 334, 335, 336, 337, 338, 339, 340, 341, 342, 343, 344, 345, 346, 347, 348, 349, 350, 351] (by decide +kernel) (by decide +kernel)
set_option maxRecDepth 20000 in
theorem gX5_readDescription_X5_readStatement : GoodIn wsX5_readDescription (wsV RX5 44 RX5 yX5_readStatement wsX5_readStatement) := goodIn_app (goodIn_of _ (by decide +kernel)) ggX5_readDescription_X5_readStatement
set_option maxRecDepth 20000 in
theorem ggX5_readDescription_X5_readSemicolon : GoodIn wsX5_readDescription wsX5_readSemicolon := goodIn_r _ [279, 8, 2, 19, 15, 16, 17, 6, 18, 100, 101, 102, 103, 9, 80, 81, 82, 83, 10, 280, 281, 282, 283, 284, 285, 286, 287, 288, 289, 290] (by decide +kernel) (by decide +kernel)
set_option maxRecDepth 20000 in
theorem gX5_readDescription_X5_readSemicolon : GoodIn wsX5_readDescription (wsV RX5 48 RX5 yX5_readSemicolon wsX5_readSemicolon) := goodIn_app (goodIn_of _ (by decide +kernel)) ggX5_readDescription_X5_readSemicolon
theorem dX5_readDescription_0 : decode cX5_readDescription 0 = .ok (.aload_n 0, 1) := by decide +kernel
theorem dX5_readDescription_1 : decode cX5_readDescription 1 = .ok (.invokevirtual 41, 3) := by decide +kernel
theorem dX5_readDescription_4 : decode cX5_readDescription 4 = .ok (.iconst 1, 1) := by decide +kernel
theorem dX5_readDescription_5 : decode cX5_readDescription 5 = .ok (.istore_n 2, 1) := by decide +kernel
theorem dX5_readDescription_6 : decode cX5_readDescription 6 = .ok (.iload_n 2, 1) := by decide +kernel
theorem dX5_readDescription_7 : decode cX5_readDescription 7 = .ok (.ifCond .eq 40, 3) := by decide +kernel
theorem dX5_readDescription_10 : decode cX5_readDescription 10 = .ok (.aload_n 0, 1) := by decide +kernel
theorem dX5_readDescription_11 : decode cX5_readDescription 11 = .ok (.getfield 38, 3) := by decide +kernel
theorem dX5_readDescription_14 : decode cX5_readDescription 14 = .ok (.sipush 600, 3) := by decide +kernel
theorem dX5_readDescription_17 : decode cX5_readDescription 17 = .ok (.if_icmp .gt 30, 3) := by decide +kernel
theorem dX5_readDescription_20 : decode cX5_readDescription 20 = .ok (.aload_n 0, 1) := by decide +kernel
theorem dX5_readDescription_21 : decode cX5_readDescription 21 = .ok (.aload_n 1, 1) := by decide +kernel
theorem dX5_readDescription_22 : decode cX5_readDescription 22 = .ok (.invokevirtual 44, 3) := by decide +kernel
theorem dX5_readDescription_25 : decode cX5_readDescription 25 = .ok (.aload_n 0, 1) := by decide +kernel
theorem dX5_readDescription_26 : decode cX5_readDescription 26 = .ok (.invokevirtual 48, 3) := by decide +kernel
theorem dX5_readDescription_29 : decode cX5_readDescription 29 = .ok (.istore_n 2, 1) := by decide +kernel
theorem dX5_readDescription_30 : decode cX5_readDescription 30 = .ok (.iload_n 2, 1) := by decide +kernel
theorem dX5_readDescription_31 : decode cX5_readDescription 31 = .ok (.ifCond .eq (-25), 3) := by decide +kernel
theorem dX5_readDescription_34 : decode cX5_readDescription 34 = .ok (.aload_n 0, 1) := by decide +kernel
theorem dX5_readDescription_35 : decode cX5_readDescription 35 = .ok (.dup, 1) := by decide +kernel
theorem dX5_readDescription_36 : decode cX5_readDescription 36 = .ok (.getfield 38, 3) := by decide +kernel
theorem dX5_readDescription_39 : decode cX5_readDescription 39 = .ok (.iconst 1, 1) := by decide +kernel
theorem dX5_readDescription_40 : decode cX5_readDescription 40 = .ok (.iadd, 1) := by decide +kernel
theorem dX5_readDescription_41 : decode cX5_readDescription 41 = .ok (.putfield 38, 3) := by decide +kernel
theorem dX5_readDescription_44 : decode cX5_readDescription 44 = .ok (.goto (-38), 3) := by decide +kernel
theorem dX5_readDescription_47 : decode cX5_readDescription 47 = .ok (.aload_n 0, 1) := by decide +kernel
theorem dX5_readDescription_48 : decode cX5_readDescription 48 = .ok (.iconst 0, 1) := by decide +kernel
theorem dX5_readDescription_49 : decode cX5_readDescription 49 = .ok (.putfield 25, 3) := by decide +kernel
theorem dX5_readDescription_52 : decode cX5_readDescription 52 = .ok (.return_, 1) := by decide +kernel
set_option maxRecDepth 20000 in
theorem ggX5_readSemicolon_X5_skipSpaces : GoodIn wsX5_readSemicolon wsX5_skipSpaces := goodIn_r _ [8, 1, 2, 3, 19, 20, 21, 22, 23, 24, 25, 26, 27, 28, 29] (by decide +kernel) (by decide +kernel)
set_option maxRecDepth 20000 in
theorem gX5_readSemicolon_X5_skipSpaces : GoodIn wsX5_readSemicolon (wsV RX5 52 RX5 yX5_skipSpaces wsX5_skipSpaces) := goodIn_app (goodIn_of _ (by decide +kernel)) ggX5_readSemicolon_X5_skipSpaces
set_option maxRecDepth 20000 in
theorem ggX5_readSemicolon_X5_isFine : GoodIn wsX5_readSemicolon wsX5_isFine := goodIn_r _ [12, 13, 19, 20, 21, 22, 23, 24, 25, 26, 27, 28, 29] (by decide +kernel) (by decide +kernel)
set_option maxRecDepth 20000 in
theorem gX5_readSemicolon_X5_isFine : GoodIn wsX5_readSemicolon (wsV RX5 56 RX5 yX5_isFine wsX5_isFine) := goodIn_app (goodIn_of _ (by decide +kernel)) ggX5_readSemicolon_X5_isFine
set_option maxRecDepth 20000 in
theorem ggX5_readSemicolon_X5_error : GoodIn wsX5_readSemicolon wsX5_error := goodIn_r _ [17, 13, 18, 19, 20, 21, 22, 23, 24, 25, 26, 27, 28, 29] (by decide +kernel) (by decide +kernel)
set_option maxRecDepth 20000 in
theorem gX5_readSemicolon_X5_error : GoodIn wsX5_readSemicolon (wsV RX5 59 RX5 yX5_error wsX5_error) := goodIn_app (goodIn_of _ (by decide +kernel)) ggX5_readSemicolon_X5_error
theorem dX5_readSemicolon_0 : decode cX5_readSemicolon 0 = .ok (.aload_n 0, 1) := by decide +kernel
theorem dX5_readSemicolon_1 : decode cX5_readSemicolon 1 = .ok (.invokevirtual 52, 3) := by decide +kernel
theorem dX5_readSemicolon_4 : decode cX5_readSemicolon 4 = .ok (.pop, 1) := by decide +kernel
theorem dX5_readSemicolon_5 : decode cX5_readSemicolon 5 = .ok (.aload_n 0, 1) := by decide +kernel
theorem dX5_readSemicolon_6 : decode cX5_readSemicolon 6 = .ok (.invokevirtual 56, 3) := by decide +kernel
theorem dX5_readSemicolon_9 : decode cX5_readSemicolon 9 = .ok (.ifCond .eq 14, 3) := by decide +kernel
theorem dX5_readSemicolon_12 : decode cX5_readSemicolon 12 = .ok (.aload_n 0, 1) := by decide +kernel
theorem dX5_readSemicolon_13 : decode cX5_readSemicolon 13 = .ok (.getfield 29, 3) := by decide +kernel
theorem dX5_readSemicolon_16 : decode cX5_readSemicolon 16 = .ok (.aload_n 0, 1) := by decide +kernel
theorem dX5_readSemicolon_17 : decode cX5_readSemicolon 17 = .ok (.getfield 25, 3) := by decide +kernel
theorem dX5_readSemicolon_20 : decode cX5_readSemicolon 20 = .ok (.if_icmp .lt 5, 3) := by decide +kernel
theorem dX5_readSemicolon_23 : decode cX5_readSemicolon 23 = .ok (.iconst 0, 1) := by decide +kernel
theorem dX5_readSemicolon_24 : decode cX5_readSemicolon 24 = .ok (.ireturn, 1) := by decide +kernel
theorem dX5_readSemicolon_25 : decode cX5_readSemicolon 25 = .ok (.aload_n 0, 1) := by decide +kernel
theorem dX5_readSemicolon_26 : decode cX5_readSemicolon 26 = .ok (.getfield 9, 3) := by decide +kernel
theorem dX5_readSemicolon_29 : decode cX5_readSemicolon 29 = .ok (.aload_n 0, 1) := by decide +kernel
theorem dX5_readSemicolon_30 : decode cX5_readSemicolon 30 = .ok (.getfield 29, 3) := by decide +kernel
theorem dX5_readSemicolon_33 : decode cX5_readSemicolon 33 = .ok (.baload, 1) := by decide +kernel
theorem dX5_readSemicolon_34 : decode cX5_readSemicolon 34 = .ok (.bipush 59, 2) := by decide +kernel
theorem dX5_readSemicolon_36 : decode cX5_readSemicolon 36 = .ok (.if_icmp .eq 14, 3) := by decide +kernel
theorem dX5_readSemicolon_39 : decode cX5_readSemicolon 39 = .ok (.aload_n 0, 1) := by decide +kernel
theorem dX5_readSemicolon_40 : decode cX5_readSemicolon 40 = .ok (.iconst 1, 1) := by decide +kernel
theorem dX5_readSemicolon_41 : decode cX5_readSemicolon 41 = .ok (.aload_n 0, 1) := by decide +kernel
theorem dX5_readSemicolon_42 : decode cX5_readSemicolon 42 = .ok (.getfield 29, 3) := by decide +kernel
theorem dX5_readSemicolon_45 : decode cX5_readSemicolon 45 = .ok (.invokevirtual 59, 3) := by decide +kernel
theorem dX5_readSemicolon_48 : decode cX5_readSemicolon 48 = .ok (.iconst 0, 1) := by decide +kernel
theorem dX5_readSemicolon_49 : decode cX5_readSemicolon 49 = .ok (.ireturn, 1) := by decide +kernel
theorem dX5_readSemicolon_50 : decode cX5_readSemicolon 50 = .ok (.aload_n 0, 1) := by decide +kernel
theorem dX5_readSemicolon_51 : decode cX5_readSemicolon 51 = .ok (.dup, 1) := by decide +kernel
theorem dX5_readSemicolon_52 : decode cX5_readSemicolon 52 = .ok (.getfield 29, 3) := by decide +kernel
