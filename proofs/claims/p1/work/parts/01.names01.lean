theorem dX1_init_0 : decode cX1_init 0 = .ok (.aload_n 0, 1) := by decide +kernel
theorem dX1_init_1 : decode cX1_init 1 = .ok (.invokespecial 3, 3) := by decide +kernel
theorem dX1_init_4 : decode cX1_init 4 = .ok (.aload_n 0, 1) := by decide +kernel
theorem dX1_init_5 : decode cX1_init 5 = .ok (.getstatic 9, 3) := by decide +kernel
theorem dX1_init_8 : decode cX1_init 8 = .ok (.putfield 13, 3) := by decide +kernel
theorem dX1_init_11 : decode cX1_init 11 = .ok (.return_, 1) := by decide +kernel
theorem dX3_init_0 : decode cX3_init 0 = .ok (.aload_n 0, 1) := by decide +kernel
theorem dX3_init_1 : decode cX3_init 1 = .ok (.invokespecial 3, 3) := by decide +kernel
theorem dX3_init_4 : decode cX3_init 4 = .ok (.aload_n 0, 1) := by decide +kernel
theorem dX3_init_5 : decode cX3_init 5 = .ok (.iconst 1, 1) := by decide +kernel
theorem dX3_init_6 : decode cX3_init 6 = .ok (.putfield 9, 3) := by decide +kernel
theorem dX3_init_9 : decode cX3_init 9 = .ok (.aload_n 0, 1) := by decide +kernel
theorem dX3_init_10 : decode cX3_init 10 = .ok (.bipush 6, 2) := by decide +kernel
theorem dX3_init_12 : decode cX3_init 12 = .ok (.anewarray 15, 3) := by decide +kernel
theorem dX3_init_15 : decode cX3_init 15 = .ok (.putfield 17, 3) := by decide +kernel
theorem dX3_init_18 : decode cX3_init 18 = .ok (.aload_n 0, 1) := by decide +kernel
theorem dX3_init_19 : decode cX3_init 19 = .ok (.bipush 6, 2) := by decide +kernel
theorem dX3_init_21 : decode cX3_init 21 = .ok (.anewarray 21, 3) := by decide +kernel
theorem dX3_init_24 : decode cX3_init 24 = .ok (.putfield 23, 3) := by decide +kernel
theorem dX3_init_27 : decode cX3_init 27 = .ok (.aload_n 0, 1) := by decide +kernel
theorem dX3_init_28 : decode cX3_init 28 = .ok (.bipush 30, 2) := by decide +kernel
theorem dX3_init_30 : decode cX3_init 30 = .ok (.anewarray 27, 3) := by decide +kernel
theorem dX3_init_33 : decode cX3_init 33 = .ok (.putfield 29, 3) := by decide +kernel
theorem dX3_init_36 : decode cX3_init 36 = .ok (.aload_n 0, 1) := by decide +kernel
theorem dX3_init_37 : decode cX3_init 37 = .ok (.iconst 5, 1) := by decide +kernel
theorem dX3_init_38 : decode cX3_init 38 = .ok (.newarray .int, 2) := by decide +kernel
theorem dX3_init_40 : decode cX3_init 40 = .ok (.putfield 33, 3) := by decide +kernel
theorem dX3_init_43 : decode cX3_init 43 = .ok (.aload_n 0, 1) := by decide +kernel
theorem dX3_init_44 : decode cX3_init 44 = .ok (.bipush 30, 2) := by decide +kernel
theorem dX3_init_46 : decode cX3_init 46 = .ok (.newarray .int, 2) := by decide +kernel
theorem dX3_init_48 : decode cX3_init 48 = .ok (.putfield 37, 3) := by decide +kernel
theorem dX3_init_51 : decode cX3_init 51 = .ok (.aload_n 0, 1) := by decide +kernel
theorem dX3_init_52 : decode cX3_init 52 = .ok (.iconst 5, 1) := by decide +kernel
theorem dX3_init_53 : decode cX3_init 53 = .ok (.newarray .int, 2) := by decide +kernel
theorem dX3_init_55 : decode cX3_init 55 = .ok (.putfield 40, 3) := by decide +kernel
theorem dX3_init_58 : decode cX3_init 58 = .ok (.iconst 0, 1) := by decide +kernel
theorem dX3_init_59 : decode cX3_init 59 = .ok (.istore_n 1, 1) := by decide +kernel
theorem dX3_init_60 : decode cX3_init 60 = .ok (.iload_n 1, 1) := by decide +kernel
theorem dX3_init_61 : decode cX3_init 61 = .ok (.bipush 6, 2) := by decide +kernel
theorem dX3_init_63 : decode cX3_init 63 = .ok (.if_icmp .ge 22, 3) := by decide +kernel
theorem dX3_init_66 : decode cX3_init 66 = .ok (.aload_n 0, 1) := by decide +kernel
theorem dX3_init_67 : decode cX3_init 67 = .ok (.getfield 17, 3) := by decide +kernel
theorem dX3_init_70 : decode cX3_init 70 = .ok (.iload_n 1, 1) := by decide +kernel
theorem dX3_init_71 : decode cX3_init 71 = .ok (.new 15, 3) := by decide +kernel
theorem dX3_init_74 : decode cX3_init 74 = .ok (.dup, 1) := by decide +kernel
theorem dX3_init_75 : decode cX3_init 75 = .ok (.invokespecial 43, 3) := by decide +kernel
theorem dX3_init_78 : decode cX3_init 78 = .ok (.aastore, 1) := by decide +kernel
theorem dX3_init_79 : decode cX3_init 79 = .ok (.iinc 1 1, 3) := by decide +kernel
theorem dX3_init_82 : decode cX3_init 82 = .ok (.goto (-22), 3) := by decide +kernel
theorem dX3_init_85 : decode cX3_init 85 = .ok (.iconst 0, 1) := by decide +kernel
theorem dX3_init_86 : decode cX3_init 86 = .ok (.istore_n 1, 1) := by decide +kernel
theorem dX3_init_87 : decode cX3_init 87 = .ok (.iload_n 1, 1) := by decide +kernel
theorem dX3_init_88 : decode cX3_init 88 = .ok (.bipush 6, 2) := by decide +kernel
theorem dX3_init_90 : decode cX3_init 90 = .ok (.if_icmp .ge 22, 3) := by decide +kernel
theorem dX3_init_93 : decode cX3_init 93 = .ok (.aload_n 0, 1) := by decide +kernel
theorem dX3_init_94 : decode cX3_init 94 = .ok (.getfield 23, 3) := by decide +kernel
theorem dX3_init_97 : decode cX3_init 97 = .ok (.iload_n 1, 1) := by decide +kernel
theorem dX3_init_98 : decode cX3_init 98 = .ok (.new 21, 3) := by decide +kernel
theorem dX3_init_101 : decode cX3_init 101 = .ok (.dup, 1) := by decide +kernel
theorem dX3_init_102 : decode cX3_init 102 = .ok (.invokespecial 44, 3) := by decide +kernel
theorem dX3_init_105 : decode cX3_init 105 = .ok (.aastore, 1) := by decide +kernel
theorem dX3_init_106 : decode cX3_init 106 = .ok (.iinc 1 1, 3) := by decide +kernel
theorem dX3_init_109 : decode cX3_init 109 = .ok (.goto (-22), 3) := by decide +kernel
theorem dX3_init_112 : decode cX3_init 112 = .ok (.iconst 0, 1) := by decide +kernel
theorem dX3_init_113 : decode cX3_init 113 = .ok (.istore_n 1, 1) := by decide +kernel
theorem dX3_init_114 : decode cX3_init 114 = .ok (.iload_n 1, 1) := by decide +kernel
theorem dX3_init_115 : decode cX3_init 115 = .ok (.bipush 30, 2) := by decide +kernel
theorem dX3_init_117 : decode cX3_init 117 = .ok (.if_icmp .ge 22, 3) := by decide +kernel
theorem dX3_init_120 : decode cX3_init 120 = .ok (.aload_n 0, 1) := by decide +kernel
theorem dX3_init_121 : decode cX3_init 121 = .ok (.getfield 29, 3) := by decide +kernel
theorem dX3_init_124 : decode cX3_init 124 = .ok (.iload_n 1, 1) := by decide +kernel
theorem dX3_init_125 : decode cX3_init 125 = .ok (.new 27, 3) := by decide +kernel
theorem dX3_init_128 : decode cX3_init 128 = .ok (.dup, 1) := by decide +kernel
theorem dX3_init_129 : decode cX3_init 129 = .ok (.invokespecial 45, 3) := by decide +kernel
theorem dX3_init_132 : decode cX3_init 132 = .ok (.aastore, 1) := by decide +kernel
theorem dX3_init_133 : decode cX3_init 133 = .ok (.iinc 1 1, 3) := by decide +kernel
theorem dX3_init_136 : decode cX3_init 136 = .ok (.goto (-22), 3) := by decide +kernel
theorem dX3_init_139 : decode cX3_init 139 = .ok (.return_, 1) := by decide +kernel
theorem dX3_begin_0 : decode cX3_begin 0 = .ok (.aload_n 0, 1) := by decide +kernel
theorem dX3_begin_1 : decode cX3_begin 1 = .ok (.iload_n 1, 1) := by decide +kernel
theorem dX3_begin_2 : decode cX3_begin 2 = .ok (.putfield 9, 3) := by decide +kernel
theorem dX3_begin_5 : decode cX3_begin 5 = .ok (.aload_n 0, 1) := by decide +kernel
theorem dX3_begin_6 : decode cX3_begin 6 = .ok (.iload_n 2, 1) := by decide +kernel
theorem dX3_begin_7 : decode cX3_begin 7 = .ok (.putfield 46, 3) := by decide +kernel
theorem dX3_begin_10 : decode cX3_begin 10 = .ok (.aload_n 0, 1) := by decide +kernel
theorem dX3_begin_11 : decode cX3_begin 11 = .ok (.iconst 0, 1) := by decide +kernel
theorem dX3_begin_12 : decode cX3_begin 12 = .ok (.putfield 49, 3) := by decide +kernel
theorem dX3_begin_15 : decode cX3_begin 15 = .ok (.aload_n 0, 1) := by decide +kernel
theorem dX3_begin_16 : decode cX3_begin 16 = .ok (.iload_n 2, 1) := by decide +kernel
theorem dX3_begin_17 : decode cX3_begin 17 = .ok (.putfield 52, 3) := by decide +kernel
theorem dX3_begin_20 : decode cX3_begin 20 = .ok (.aload_n 0, 1) := by decide +kernel
theorem dX3_begin_21 : decode cX3_begin 21 = .ok (.iload_n 3, 1) := by decide +kernel
theorem dX3_begin_22 : decode cX3_begin 22 = .ok (.putfield 55, 3) := by decide +kernel
theorem dX3_begin_25 : decode cX3_begin 25 = .ok (.aload_n 0, 1) := by decide +kernel
theorem dX3_begin_26 : decode cX3_begin 26 = .ok (.iload 4, 2) := by decide +kernel
theorem dX3_begin_28 : decode cX3_begin 28 = .ok (.putfield 58, 3) := by decide +kernel
theorem dX3_begin_31 : decode cX3_begin 31 = .ok (.aload_n 0, 1) := by decide +kernel
theorem dX3_begin_32 : decode cX3_begin 32 = .ok (.iconst 0, 1) := by decide +kernel
theorem dX3_begin_33 : decode cX3_begin 33 = .ok (.putfield 61, 3) := by decide +kernel
theorem dX3_begin_36 : decode cX3_begin 36 = .ok (.aload_n 0, 1) := by decide +kernel
theorem dX3_begin_37 : decode cX3_begin 37 = .ok (.iconst 0, 1) := by decide +kernel
theorem dX3_begin_38 : decode cX3_begin 38 = .ok (.putfield 64, 3) := by decide +kernel
theorem dX3_begin_41 : decode cX3_begin 41 = .ok (.aload_n 0, 1) := by decide +kernel
theorem dX3_begin_42 : decode cX3_begin 42 = .ok (.iconst 0, 1) := by decide +kernel
theorem dX3_begin_43 : decode cX3_begin 43 = .ok (.putfield 67, 3) := by decide +kernel
theorem dX3_begin_46 : decode cX3_begin 46 = .ok (.aload_n 0, 1) := by decide +kernel
theorem dX3_begin_47 : decode cX3_begin 47 = .ok (.iconst 0, 1) := by decide +kernel
theorem dX3_begin_48 : decode cX3_begin 48 = .ok (.putfield 70, 3) := by decide +kernel
theorem dX3_begin_51 : decode cX3_begin 51 = .ok (.aload_n 0, 1) := by decide +kernel
theorem dX3_begin_52 : decode cX3_begin 52 = .ok (.getfield 33, 3) := by decide +kernel
theorem dX3_begin_55 : decode cX3_begin 55 = .ok (.iconst 0, 1) := by decide +kernel
theorem dX3_begin_56 : decode cX3_begin 56 = .ok (.invokestatic 73, 3) := by decide +kernel
theorem dX3_begin_59 : decode cX3_begin 59 = .ok (.aload_n 0, 1) := by decide +kernel
theorem dX3_begin_60 : decode cX3_begin 60 = .ok (.getfield 40, 3) := by decide +kernel
theorem dX3_begin_63 : decode cX3_begin 63 = .ok (.iconst 0, 1) := by decide +kernel
theorem dX3_begin_64 : decode cX3_begin 64 = .ok (.invokestatic 73, 3) := by decide +kernel
theorem dX3_begin_67 : decode cX3_begin 67 = .ok (.return_, 1) := by decide +kernel
theorem dX3_copyFrom_0 : decode cX3_copyFrom 0 = .ok (.aload_n 0, 1) := by decide +kernel
theorem dX3_copyFrom_1 : decode cX3_copyFrom 1 = .ok (.aload_n 1, 1) := by decide +kernel
theorem dX3_copyFrom_2 : decode cX3_copyFrom 2 = .ok (.getfield 9, 3) := by decide +kernel
theorem dX3_copyFrom_5 : decode cX3_copyFrom 5 = .ok (.putfield 9, 3) := by decide +kernel
theorem dX3_copyFrom_8 : decode cX3_copyFrom 8 = .ok (.aload_n 0, 1) := by decide +kernel
theorem dX3_copyFrom_9 : decode cX3_copyFrom 9 = .ok (.aload_n 1, 1) := by decide +kernel
theorem dX3_copyFrom_10 : decode cX3_copyFrom 10 = .ok (.getfield 55, 3) := by decide +kernel
theorem dX3_copyFrom_13 : decode cX3_copyFrom 13 = .ok (.putfield 55, 3) := by decide +kernel
theorem dX3_copyFrom_16 : decode cX3_copyFrom 16 = .ok (.aload_n 0, 1) := by decide +kernel
theorem dX3_copyFrom_17 : decode cX3_copyFrom 17 = .ok (.aload_n 1, 1) := by decide +kernel
theorem dX3_copyFrom_18 : decode cX3_copyFrom 18 = .ok (.getfield 58, 3) := by decide +kernel
theorem dX3_copyFrom_21 : decode cX3_copyFrom 21 = .ok (.putfield 58, 3) := by decide +kernel
theorem dX3_copyFrom_24 : decode cX3_copyFrom 24 = .ok (.aload_n 0, 1) := by decide +kernel
theorem dX3_copyFrom_25 : decode cX3_copyFrom 25 = .ok (.aload_n 1, 1) := by decide +kernel
theorem dX3_copyFrom_26 : decode cX3_copyFrom 26 = .ok (.getfield 46, 3) := by decide +kernel
theorem dX3_copyFrom_29 : decode cX3_copyFrom 29 = .ok (.putfield 46, 3) := by decide +kernel
theorem dX3_copyFrom_32 : decode cX3_copyFrom 32 = .ok (.aload_n 0, 1) := by decide +kernel
theorem dX3_copyFrom_33 : decode cX3_copyFrom 33 = .ok (.aload_n 1, 1) := by decide +kernel
theorem dX3_copyFrom_34 : decode cX3_copyFrom 34 = .ok (.getfield 49, 3) := by decide +kernel
theorem dX3_copyFrom_37 : decode cX3_copyFrom 37 = .ok (.putfield 49, 3) := by decide +kernel
theorem dX3_copyFrom_40 : decode cX3_copyFrom 40 = .ok (.aload_n 0, 1) := by decide +kernel
theorem dX3_copyFrom_41 : decode cX3_copyFrom 41 = .ok (.aload_n 1, 1) := by decide +kernel
theorem dX3_copyFrom_42 : decode cX3_copyFrom 42 = .ok (.getfield 52, 3) := by decide +kernel
theorem dX3_copyFrom_45 : decode cX3_copyFrom 45 = .ok (.putfield 52, 3) := by decide +kernel
theorem dX3_copyFrom_48 : decode cX3_copyFrom 48 = .ok (.aload_n 0, 1) := by decide +kernel
theorem dX3_copyFrom_49 : decode cX3_copyFrom 49 = .ok (.aload_n 1, 1) := by decide +kernel
theorem dX3_copyFrom_50 : decode cX3_copyFrom 50 = .ok (.getfield 61, 3) := by decide +kernel
theorem dX3_copyFrom_53 : decode cX3_copyFrom 53 = .ok (.putfield 61, 3) := by decide +kernel
theorem dX3_copyFrom_56 : decode cX3_copyFrom 56 = .ok (.aload_n 0, 1) := by decide +kernel
theorem dX3_copyFrom_57 : decode cX3_copyFrom 57 = .ok (.aload_n 1, 1) := by decide +kernel
theorem dX3_copyFrom_58 : decode cX3_copyFrom 58 = .ok (.getfield 64, 3) := by decide +kernel
theorem dX3_copyFrom_61 : decode cX3_copyFrom 61 = .ok (.putfield 64, 3) := by decide +kernel
theorem dX3_copyFrom_64 : decode cX3_copyFrom 64 = .ok (.aload_n 0, 1) := by decide +kernel
theorem dX3_copyFrom_65 : decode cX3_copyFrom 65 = .ok (.aload_n 1, 1) := by decide +kernel
theorem dX3_copyFrom_66 : decode cX3_copyFrom 66 = .ok (.getfield 67, 3) := by decide +kernel
theorem dX3_copyFrom_69 : decode cX3_copyFrom 69 = .ok (.putfield 67, 3) := by decide +kernel
theorem dX3_copyFrom_72 : decode cX3_copyFrom 72 = .ok (.aload_n 0, 1) := by decide +kernel
theorem dX3_copyFrom_73 : decode cX3_copyFrom 73 = .ok (.aload_n 1, 1) := by decide +kernel
theorem dX3_copyFrom_74 : decode cX3_copyFrom 74 = .ok (.getfield 70, 3) := by decide +kernel
theorem dX3_copyFrom_77 : decode cX3_copyFrom 77 = .ok (.putfield 70, 3) := by decide +kernel
theorem dX3_copyFrom_80 : decode cX3_copyFrom 80 = .ok (.iconst 0, 1) := by decide +kernel
theorem dX3_copyFrom_81 : decode cX3_copyFrom 81 = .ok (.istore_n 2, 1) := by decide +kernel
theorem dX3_copyFrom_82 : decode cX3_copyFrom 82 = .ok (.iload_n 2, 1) := by decide +kernel
theorem dX3_copyFrom_83 : decode cX3_copyFrom 83 = .ok (.aload_n 0, 1) := by decide +kernel
theorem dX3_copyFrom_84 : decode cX3_copyFrom 84 = .ok (.getfield 64, 3) := by decide +kernel
theorem dX3_copyFrom_87 : decode cX3_copyFrom 87 = .ok (.if_icmp .ge 24, 3) := by decide +kernel
theorem dX3_copyFrom_111 : decode cX3_copyFrom 111 = .ok (.iconst 0, 1) := by decide +kernel
theorem dX3_copyFrom_112 : decode cX3_copyFrom 112 = .ok (.istore_n 2, 1) := by decide +kernel
theorem dX3_copyFrom_113 : decode cX3_copyFrom 113 = .ok (.iload_n 2, 1) := by decide +kernel
theorem dX3_copyFrom_114 : decode cX3_copyFrom 114 = .ok (.aload_n 0, 1) := by decide +kernel
theorem dX3_copyFrom_115 : decode cX3_copyFrom 115 = .ok (.getfield 67, 3) := by decide +kernel
theorem dX3_copyFrom_118 : decode cX3_copyFrom 118 = .ok (.if_icmp .ge 24, 3) := by decide +kernel
theorem dX3_copyFrom_142 : decode cX3_copyFrom 142 = .ok (.iconst 0, 1) := by decide +kernel
theorem dX3_copyFrom_143 : decode cX3_copyFrom 143 = .ok (.istore_n 2, 1) := by decide +kernel
theorem dX3_copyFrom_144 : decode cX3_copyFrom 144 = .ok (.iload_n 2, 1) := by decide +kernel
theorem dX3_copyFrom_145 : decode cX3_copyFrom 145 = .ok (.aload_n 0, 1) := by decide +kernel
theorem dX3_copyFrom_146 : decode cX3_copyFrom 146 = .ok (.getfield 70, 3) := by decide +kernel
theorem dX3_copyFrom_149 : decode cX3_copyFrom 149 = .ok (.if_icmp .ge 24, 3) := by decide +kernel
theorem dX3_copyFrom_173 : decode cX3_copyFrom 173 = .ok (.aload_n 1, 1) := by decide +kernel
theorem dX3_copyFrom_174 : decode cX3_copyFrom 174 = .ok (.getfield 33, 3) := by decide +kernel
theorem dX3_copyFrom_177 : decode cX3_copyFrom 177 = .ok (.iconst 0, 1) := by decide +kernel
theorem dX3_copyFrom_178 : decode cX3_copyFrom 178 = .ok (.aload_n 0, 1) := by decide +kernel
theorem dX3_copyFrom_179 : decode cX3_copyFrom 179 = .ok (.getfield 33, 3) := by decide +kernel
theorem dX3_copyFrom_182 : decode cX3_copyFrom 182 = .ok (.iconst 0, 1) := by decide +kernel
theorem dX3_copyFrom_183 : decode cX3_copyFrom 183 = .ok (.iconst 5, 1) := by decide +kernel
theorem dX3_copyFrom_184 : decode cX3_copyFrom 184 = .ok (.invokestatic 89, 3) := by decide +kernel
theorem dX3_copyFrom_187 : decode cX3_copyFrom 187 = .ok (.aload_n 1, 1) := by decide +kernel
theorem dX3_copyFrom_188 : decode cX3_copyFrom 188 = .ok (.getfield 37, 3) := by decide +kernel
theorem dX3_copyFrom_191 : decode cX3_copyFrom 191 = .ok (.iconst 0, 1) := by decide +kernel
theorem dX3_copyFrom_192 : decode cX3_copyFrom 192 = .ok (.aload_n 0, 1) := by decide +kernel
theorem dX3_copyFrom_193 : decode cX3_copyFrom 193 = .ok (.getfield 37, 3) := by decide +kernel
theorem dX3_copyFrom_196 : decode cX3_copyFrom 196 = .ok (.iconst 0, 1) := by decide +kernel
theorem dX3_copyFrom_197 : decode cX3_copyFrom 197 = .ok (.bipush 30, 2) := by decide +kernel
theorem dX3_copyFrom_199 : decode cX3_copyFrom 199 = .ok (.invokestatic 89, 3) := by decide +kernel
theorem dX3_copyFrom_202 : decode cX3_copyFrom 202 = .ok (.aload_n 1, 1) := by decide +kernel
theorem dX3_copyFrom_203 : decode cX3_copyFrom 203 = .ok (.getfield 40, 3) := by decide +kernel
theorem dX3_copyFrom_206 : decode cX3_copyFrom 206 = .ok (.iconst 0, 1) := by decide +kernel
theorem dX3_copyFrom_207 : decode cX3_copyFrom 207 = .ok (.aload_n 0, 1) := by decide +kernel
theorem dX3_copyFrom_208 : decode cX3_copyFrom 208 = .ok (.getfield 40, 3) := by decide +kernel
theorem dX3_copyFrom_211 : decode cX3_copyFrom 211 = .ok (.iconst 0, 1) := by decide +kernel
theorem dX3_copyFrom_212 : decode cX3_copyFrom 212 = .ok (.iconst 5, 1) := by decide +kernel
theorem dX3_copyFrom_213 : decode cX3_copyFrom 213 = .ok (.invokestatic 89, 3) := by decide +kernel
theorem dX3_copyFrom_216 : decode cX3_copyFrom 216 = .ok (.return_, 1) := by decide +kernel
theorem dX3_tick_0 : decode cX3_tick 0 = .ok (.aload_n 0, 1) := by decide +kernel
theorem dX3_tick_1 : decode cX3_tick 1 = .ok (.iconst 0, 1) := by decide +kernel
theorem dX3_tick_2 : decode cX3_tick 2 = .ok (.putfield 115, 3) := by decide +kernel
theorem dX3_tick_5 : decode cX3_tick 5 = .ok (.aload_n 0, 1) := by decide +kernel
theorem dX3_tick_6 : decode cX3_tick 6 = .ok (.getfield 64, 3) := by decide +kernel
theorem dX3_tick_9 : decode cX3_tick 9 = .ok (.iconst 1, 1) := by decide +kernel
theorem dX3_tick_10 : decode cX3_tick 10 = .ok (.isub, 1) := by decide +kernel
theorem dX3_tick_11 : decode cX3_tick 11 = .ok (.istore_n 1, 1) := by decide +kernel
theorem dX3_tick_12 : decode cX3_tick 12 = .ok (.iload_n 1, 1) := by decide +kernel
theorem dX3_tick_13 : decode cX3_tick 13 = .ok (.ifCond .lt 87, 3) := by decide +kernel
theorem dX3_tick_100 : decode cX3_tick 100 = .ok (.aload_n 0, 1) := by decide +kernel
theorem dX3_tick_101 : decode cX3_tick 101 = .ok (.invokevirtual 140, 3) := by decide +kernel
theorem dX3_tick_104 : decode cX3_tick 104 = .ok (.aload_n 0, 1) := by decide +kernel
theorem dX3_tick_105 : decode cX3_tick 105 = .ok (.invokevirtual 143, 3) := by decide +kernel
theorem dX3_tick_108 : decode cX3_tick 108 = .ok (.aload_n 0, 1) := by decide +kernel
theorem dX3_tick_109 : decode cX3_tick 109 = .ok (.invokevirtual 146, 3) := by decide +kernel
theorem dX3_tick_112 : decode cX3_tick 112 = .ok (.aload_n 0, 1) := by decide +kernel
theorem dX3_tick_113 : decode cX3_tick 113 = .ok (.invokevirtual 149, 3) := by decide +kernel
theorem dX3_tick_116 : decode cX3_tick 116 = .ok (.aload_n 0, 1) := by decide +kernel
theorem dX3_tick_117 : decode cX3_tick 117 = .ok (.getfield 115, 3) := by decide +kernel
theorem dX3_tick_120 : decode cX3_tick 120 = .ok (.ireturn, 1) := by decide +kernel
theorem dX3_feed_0 : decode cX3_feed 0 = .ok (.aload_n 0, 1) := by decide +kernel
theorem dX3_feed_1 : decode cX3_feed 1 = .ok (.getfield 64, 3) := by decide +kernel
theorem dX3_feed_4 : decode cX3_feed 4 = .ok (.ifCond .eq 35, 3) := by decide +kernel
theorem dX3_feed_39 : decode cX3_feed 39 = .ok (.return_, 1) := by decide +kernel
theorem dX3_nextWaiting_0 : decode cX3_nextWaiting 0 = .ok (.iconst (-1), 1) := by decide +kernel
theorem dX3_nextWaiting_1 : decode cX3_nextWaiting 1 = .ok (.istore_n 1, 1) := by decide +kernel
theorem dX3_nextWaiting_2 : decode cX3_nextWaiting 2 = .ok (.iconst (-1), 1) := by decide +kernel
theorem dX3_nextWaiting_3 : decode cX3_nextWaiting 3 = .ok (.istore_n 2, 1) := by decide +kernel
theorem dX3_nextWaiting_4 : decode cX3_nextWaiting 4 = .ok (.iconst (-1), 1) := by decide +kernel
theorem dX3_nextWaiting_5 : decode cX3_nextWaiting 5 = .ok (.istore_n 3, 1) := by decide +kernel
theorem dX3_nextWaiting_6 : decode cX3_nextWaiting 6 = .ok (.iconst 0, 1) := by decide +kernel
theorem dX3_nextWaiting_7 : decode cX3_nextWaiting 7 = .ok (.istore 4, 2) := by decide +kernel
theorem dX3_nextWaiting_9 : decode cX3_nextWaiting 9 = .ok (.iload 4, 2) := by decide +kernel
theorem dX3_nextWaiting_11 : decode cX3_nextWaiting 11 = .ok (.aload_n 0, 1) := by decide +kernel
theorem dX3_nextWaiting_12 : decode cX3_nextWaiting 12 = .ok (.getfield 70, 3) := by decide +kernel
theorem dX3_nextWaiting_15 : decode cX3_nextWaiting 15 = .ok (.if_icmp .ge 93, 3) := by decide +kernel
theorem dX3_nextWaiting_108 : decode cX3_nextWaiting 108 = .ok (.iload_n 1, 1) := by decide +kernel
theorem dX3_nextWaiting_109 : decode cX3_nextWaiting 109 = .ok (.iconst (-1), 1) := by decide +kernel
theorem dX3_nextWaiting_110 : decode cX3_nextWaiting 110 = .ok (.if_icmp .eq 7, 3) := by decide +kernel
theorem dX3_nextWaiting_117 : decode cX3_nextWaiting 117 = .ok (.iload_n 2, 1) := by decide +kernel
theorem dX3_nextWaiting_118 : decode cX3_nextWaiting 118 = .ok (.ireturn, 1) := by decide +kernel
theorem dX3_emptyTray_0 : decode cX3_emptyTray 0 = .ok (.iconst 0, 1) := by decide +kernel
theorem dX3_emptyTray_1 : decode cX3_emptyTray 1 = .ok (.istore_n 1, 1) := by decide +kernel
theorem dX3_emptyTray_2 : decode cX3_emptyTray 2 = .ok (.iload_n 1, 1) := by decide +kernel
theorem dX3_emptyTray_3 : decode cX3_emptyTray 3 = .ok (.aload_n 0, 1) := by decide +kernel
theorem dX3_emptyTray_4 : decode cX3_emptyTray 4 = .ok (.getfield 67, 3) := by decide +kernel
theorem dX3_emptyTray_7 : decode cX3_emptyTray 7 = .ok (.if_icmp .ge 80, 3) := by decide +kernel
theorem dX3_emptyTray_87 : decode cX3_emptyTray 87 = .ok (.return_, 1) := by decide +kernel
theorem dX3_countReadyCards_0 : decode cX3_countReadyCards 0 = .ok (.iconst 0, 1) := by decide +kernel
theorem dX3_countReadyCards_1 : decode cX3_countReadyCards 1 = .ok (.istore_n 1, 1) := by decide +kernel
theorem dX3_countReadyCards_2 : decode cX3_countReadyCards 2 = .ok (.iload_n 1, 1) := by decide +kernel
theorem dX3_countReadyCards_3 : decode cX3_countReadyCards 3 = .ok (.aload_n 0, 1) := by decide +kernel
theorem dX3_countReadyCards_4 : decode cX3_countReadyCards 4 = .ok (.getfield 64, 3) := by decide +kernel
theorem dX3_countReadyCards_7 : decode cX3_countReadyCards 7 = .ok (.if_icmp .ge 31, 3) := by decide +kernel
theorem dX3_countReadyCards_38 : decode cX3_countReadyCards 38 = .ok (.return_, 1) := by decide +kernel
theorem dX3_passTime_0 : decode cX3_passTime 0 = .ok (.aload_n 0, 1) := by decide +kernel
theorem dX3_passTime_1 : decode cX3_passTime 1 = .ok (.dup, 1) := by decide +kernel
theorem dX3_passTime_2 : decode cX3_passTime 2 = .ok (.getfield 61, 3) := by decide +kernel
theorem dX3_passTime_5 : decode cX3_passTime 5 = .ok (.iconst 1, 1) := by decide +kernel
theorem dX3_passTime_6 : decode cX3_passTime 6 = .ok (.iadd, 1) := by decide +kernel
theorem dX3_passTime_7 : decode cX3_passTime 7 = .ok (.putfield 61, 3) := by decide +kernel
theorem dX3_passTime_10 : decode cX3_passTime 10 = .ok (.aload_n 0, 1) := by decide +kernel
theorem dX3_passTime_11 : decode cX3_passTime 11 = .ok (.getfield 9, 3) := by decide +kernel
theorem dX3_passTime_14 : decode cX3_passTime 14 = .ok (.ifCond .le 55, 3) := by decide +kernel
theorem dX3_passTime_17 : decode cX3_passTime 17 = .ok (.aload_n 0, 1) := by decide +kernel
theorem dX3_passTime_18 : decode cX3_passTime 18 = .ok (.getfield 61, 3) := by decide +kernel
theorem dX3_passTime_21 : decode cX3_passTime 21 = .ok (.aload_n 0, 1) := by decide +kernel
theorem dX3_passTime_22 : decode cX3_passTime 22 = .ok (.getfield 9, 3) := by decide +kernel
theorem dX3_passTime_25 : decode cX3_passTime 25 = .ok (.irem, 1) := by decide +kernel
theorem dX3_passTime_26 : decode cX3_passTime 26 = .ok (.ifCond .ne 43, 3) := by decide +kernel
theorem dX3_passTime_29 : decode cX3_passTime 29 = .ok (.aload_n 0, 1) := by decide +kernel
theorem dX3_passTime_30 : decode cX3_passTime 30 = .ok (.invokevirtual 214, 3) := by decide +kernel
theorem dX3_passTime_33 : decode cX3_passTime 33 = .ok (.iconst 1, 1) := by decide +kernel
theorem dX3_passTime_34 : decode cX3_passTime 34 = .ok (.isub, 1) := by decide +kernel
theorem dX3_passTime_35 : decode cX3_passTime 35 = .ok (.bipush 10, 2) := by decide +kernel
theorem dX3_passTime_37 : decode cX3_passTime 37 = .ok (.irem, 1) := by decide +kernel
theorem dX3_passTime_38 : decode cX3_passTime 38 = .ok (.istore_n 1, 1) := by decide +kernel
theorem dX3_passTime_39 : decode cX3_passTime 39 = .ok (.iconst 0, 1) := by decide +kernel
theorem dX3_passTime_40 : decode cX3_passTime 40 = .ok (.istore_n 2, 1) := by decide +kernel
theorem dX3_passTime_41 : decode cX3_passTime 41 = .ok (.iload_n 2, 1) := by decide +kernel
theorem dX3_passTime_42 : decode cX3_passTime 42 = .ok (.aload_n 0, 1) := by decide +kernel
theorem dX3_passTime_43 : decode cX3_passTime 43 = .ok (.getfield 67, 3) := by decide +kernel
theorem dX3_passTime_46 : decode cX3_passTime 46 = .ok (.if_icmp .ge 23, 3) := by decide +kernel
theorem dX3_passTime_69 : decode cX3_passTime 69 = .ok (.return_, 1) := by decide +kernel
theorem dX3_daysOver_0 : decode cX3_daysOver 0 = .ok (.aload_n 0, 1) := by decide +kernel
theorem dX3_daysOver_1 : decode cX3_daysOver 1 = .ok (.getfield 9, 3) := by decide +kernel
theorem dX3_daysOver_4 : decode cX3_daysOver 4 = .ok (.ifCond .le 15, 3) := by decide +kernel
theorem dX3_daysOver_7 : decode cX3_daysOver 7 = .ok (.aload_n 0, 1) := by decide +kernel
theorem dX3_daysOver_8 : decode cX3_daysOver 8 = .ok (.getfield 61, 3) := by decide +kernel
theorem dX3_daysOver_11 : decode cX3_daysOver 11 = .ok (.aload_n 0, 1) := by decide +kernel
theorem dX3_daysOver_12 : decode cX3_daysOver 12 = .ok (.getfield 9, 3) := by decide +kernel
theorem dX3_daysOver_15 : decode cX3_daysOver 15 = .ok (.idiv, 1) := by decide +kernel
theorem dX3_daysOver_16 : decode cX3_daysOver 16 = .ok (.goto 4, 3) := by decide +kernel
theorem dX3_daysOver_20 : decode cX3_daysOver 20 = .ok (.ireturn, 1) := by decide +kernel
theorem dX3_hasHappened_0 : decode cX3_hasHappened 0 = .ok (.getstatic 259, 3) := by decide +kernel
theorem dX3_hasHappened_3 : decode cX3_hasHappened 3 = .ok (.aload_n 1, 1) := by decide +kernel
theorem dX3_hasHappened_4 : decode cX3_hasHappened 4 = .ok (.invokevirtual 264, 3) := by decide +kernel
theorem dX3_hasHappened_7 : decode cX3_hasHappened 7 = .ok (.iaload, 1) := by decide +kernel
theorem dX3_hasHappened_8 : decode cX3_hasHappened 8 = .ok (.tableswitch 105 1 4 #[32, 51, 61, 87], 32) := by decide +kernel
theorem dX3_hasHappened_69 : decode cX3_hasHappened 69 = .ok (.aload_n 0, 1) := by decide +kernel
theorem dX3_hasHappened_70 : decode cX3_hasHappened 70 = .ok (.getfield 33, 3) := by decide +kernel
theorem dX3_hasHappened_73 : decode cX3_hasHappened 73 = .ok (.iconst 3, 1) := by decide +kernel
theorem dX3_hasHappened_74 : decode cX3_hasHappened 74 = .ok (.iaload, 1) := by decide +kernel
theorem dX3_hasHappened_75 : decode cX3_hasHappened 75 = .ok (.aload_n 0, 1) := by decide +kernel
theorem dX3_hasHappened_76 : decode cX3_hasHappened 76 = .ok (.getfield 33, 3) := by decide +kernel
theorem dX3_hasHappened_79 : decode cX3_hasHappened 79 = .ok (.iconst 4, 1) := by decide +kernel
theorem dX3_hasHappened_80 : decode cX3_hasHappened 80 = .ok (.iaload, 1) := by decide +kernel
theorem dX3_hasHappened_81 : decode cX3_hasHappened 81 = .ok (.iadd, 1) := by decide +kernel
theorem dX3_hasHappened_82 : decode cX3_hasHappened 82 = .ok (.aload_n 0, 1) := by decide +kernel
theorem dX3_hasHappened_83 : decode cX3_hasHappened 83 = .ok (.getfield 70, 3) := by decide +kernel
theorem dX3_hasHappened_86 : decode cX3_hasHappened 86 = .ok (.if_icmp .ne 7, 3) := by decide +kernel
theorem dX3_hasHappened_89 : decode cX3_hasHappened 89 = .ok (.iconst 1, 1) := by decide +kernel
theorem dX3_hasHappened_90 : decode cX3_hasHappened 90 = .ok (.goto 4, 3) := by decide +kernel
theorem dX3_hasHappened_94 : decode cX3_hasHappened 94 = .ok (.ireturn, 1) := by decide +kernel
theorem dX4_init_0 : decode cX4_init 0 = .ok (.aload_n 0, 1) := by decide +kernel
theorem dX4_init_1 : decode cX4_init 1 = .ok (.invokespecial 3, 3) := by decide +kernel
theorem dX4_init_4 : decode cX4_init 4 = .ok (.aload_n 0, 1) := by decide +kernel
theorem dX4_init_5 : decode cX4_init 5 = .ok (.bipush 30, 2) := by decide +kernel
theorem dX4_init_7 : decode cX4_init 7 = .ok (.newarray .int, 2) := by decide +kernel
theorem dX4_init_9 : decode cX4_init 9 = .ok (.putfield 9, 3) := by decide +kernel
theorem dX4_init_12 : decode cX4_init 12 = .ok (.aload_n 0, 1) := by decide +kernel
theorem dX4_init_13 : decode cX4_init 13 = .ok (.bipush 10, 2) := by decide +kernel
theorem dX4_init_15 : decode cX4_init 15 = .ok (.newarray .int, 2) := by decide +kernel
theorem dX4_init_17 : decode cX4_init 17 = .ok (.putfield 15, 3) := by decide +kernel
theorem dX4_init_20 : decode cX4_init 20 = .ok (.aload_n 0, 1) := by decide +kernel
theorem dX4_init_21 : decode cX4_init 21 = .ok (.bipush 10, 2) := by decide +kernel
theorem dX4_init_23 : decode cX4_init 23 = .ok (.newarray .int, 2) := by decide +kernel
theorem dX4_init_25 : decode cX4_init 25 = .ok (.putfield 18, 3) := by decide +kernel
theorem dX4_init_28 : decode cX4_init 28 = .ok (.return_, 1) := by decide +kernel
theorem dX5_init_0 : decode cX5_init 0 = .ok (.aload_n 0, 1) := by decide +kernel
theorem dX5_init_1 : decode cX5_init 1 = .ok (.invokespecial 3, 3) := by decide +kernel
theorem dX5_init_4 : decode cX5_init 4 = .ok (.aload_n 0, 1) := by decide +kernel
theorem dX5_init_5 : decode cX5_init 5 = .ok (.sipush 600, 3) := by decide +kernel
theorem dX5_init_8 : decode cX5_init 8 = .ok (.newarray .byte, 2) := by decide +kernel
theorem dX5_init_10 : decode cX5_init 10 = .ok (.putfield 9, 3) := by decide +kernel
theorem dX5_init_13 : decode cX5_init 13 = .ok (.aload_n 0, 1) := by decide +kernel
theorem dX5_init_14 : decode cX5_init 14 = .ok (.bipush 64, 2) := by decide +kernel
theorem dX5_init_16 : decode cX5_init 16 = .ok (.newarray .byte, 2) := by decide +kernel
theorem dX5_init_18 : decode cX5_init 18 = .ok (.putfield 15, 3) := by decide +kernel
theorem dX5_init_21 : decode cX5_init 21 = .ok (.aload_n 0, 1) := by decide +kernel
theorem dX5_init_22 : decode cX5_init 22 = .ok (.iconst 4, 1) := by decide +kernel
theorem dX5_init_23 : decode cX5_init 23 = .ok (.newarray .int, 2) := by decide +kernel
theorem dX5_init_25 : decode cX5_init 25 = .ok (.putfield 18, 3) := by decide +kernel
theorem dX5_init_28 : decode cX5_init 28 = .ok (.aload_n 0, 1) := by decide +kernel
theorem dX5_init_29 : decode cX5_init 29 = .ok (.iconst 4, 1) := by decide +kernel
theorem dX5_init_30 : decode cX5_init 30 = .ok (.newarray .int, 2) := by decide +kernel
theorem dX5_init_32 : decode cX5_init 32 = .ok (.putfield 22, 3) := by decide +kernel
theorem dX5_init_35 : decode cX5_init 35 = .ok (.return_, 1) := by decide +kernel
theorem dX5_add_0 : decode cX5_add 0 = .ok (.aload_n 0, 1) := by decide +kernel
theorem dX5_add_1 : decode cX5_add 1 = .ok (.getfield 25, 3) := by decide +kernel
theorem dX5_add_4 : decode cX5_add 4 = .ok (.istore_n 3, 1) := by decide +kernel
theorem dX5_add_5 : decode cX5_add 5 = .ok (.bipush 56, 2) := by decide +kernel
theorem dX5_add_7 : decode cX5_add 7 = .ok (.istore 4, 2) := by decide +kernel
theorem dX5_add_9 : decode cX5_add 9 = .ok (.iload 4, 2) := by decide +kernel
theorem dX5_add_11 : decode cX5_add 11 = .ok (.ifCond .lt 21, 3) := by decide +kernel
theorem dX5_add_14 : decode cX5_add 14 = .ok (.lload_n 1, 1) := by decide +kernel
theorem dX5_add_15 : decode cX5_add 15 = .ok (.iload 4, 2) := by decide +kernel
theorem dX5_add_17 : decode cX5_add 17 = .ok (.lushr, 1) := by decide +kernel
theorem dX5_add_18 : decode cX5_add 18 = .ok (.l2i, 1) := by decide +kernel
theorem dX5_add_19 : decode cX5_add 19 = .ok (.i2b, 1) := by decide +kernel
theorem dX5_add_20 : decode cX5_add 20 = .ok (.ifCond .eq 6, 3) := by decide +kernel
theorem dX5_add_23 : decode cX5_add 23 = .ok (.iinc 3 1, 3) := by decide +kernel
theorem dX5_add_26 : decode cX5_add 26 = .ok (.iinc 4 (-8), 3) := by decide +kernel
theorem dX5_add_29 : decode cX5_add 29 = .ok (.goto (-20), 3) := by decide +kernel
theorem dX5_add_32 : decode cX5_add 32 = .ok (.iload_n 3, 1) := by decide +kernel
theorem dX5_add_33 : decode cX5_add 33 = .ok (.sipush 600, 3) := by decide +kernel
theorem dX5_add_36 : decode cX5_add 36 = .ok (.if_icmp .le 5, 3) := by decide +kernel
theorem dX5_add_41 : decode cX5_add 41 = .ok (.bipush 56, 2) := by decide +kernel
theorem dX5_add_43 : decode cX5_add 43 = .ok (.istore 4, 2) := by decide +kernel
theorem dX5_add_45 : decode cX5_add 45 = .ok (.iload 4, 2) := by decide +kernel
theorem dX5_add_47 : decode cX5_add 47 = .ok (.ifCond .lt 53, 3) := by decide +kernel
theorem dX5_add_50 : decode cX5_add 50 = .ok (.lload_n 1, 1) := by decide +kernel
theorem dX5_add_51 : decode cX5_add 51 = .ok (.iload 4, 2) := by decide +kernel
theorem dX5_add_53 : decode cX5_add 53 = .ok (.lushr, 1) := by decide +kernel
theorem dX5_add_54 : decode cX5_add 54 = .ok (.l2i, 1) := by decide +kernel
theorem dX5_add_55 : decode cX5_add 55 = .ok (.i2b, 1) := by decide +kernel
theorem dX5_add_56 : decode cX5_add 56 = .ok (.istore 5, 2) := by decide +kernel
theorem dX5_add_58 : decode cX5_add 58 = .ok (.iload 5, 2) := by decide +kernel
theorem dX5_add_60 : decode cX5_add 60 = .ok (.ifCond .eq 34, 3) := by decide +kernel
theorem dX5_add_63 : decode cX5_add 63 = .ok (.aload_n 0, 1) := by decide +kernel
theorem dX5_add_64 : decode cX5_add 64 = .ok (.getfield 25, 3) := by decide +kernel
theorem dX5_add_67 : decode cX5_add 67 = .ok (.sipush 600, 3) := by decide +kernel
theorem dX5_add_70 : decode cX5_add 70 = .ok (.if_icmp .ge 24, 3) := by decide +kernel
theorem dX5_add_73 : decode cX5_add 73 = .ok (.aload_n 0, 1) := by decide +kernel
theorem dX5_add_74 : decode cX5_add 74 = .ok (.getfield 9, 3) := by decide +kernel
theorem dX5_add_77 : decode cX5_add 77 = .ok (.aload_n 0, 1) := by decide +kernel
theorem dX5_add_78 : decode cX5_add 78 = .ok (.getfield 25, 3) := by decide +kernel
theorem dX5_add_81 : decode cX5_add 81 = .ok (.iload 5, 2) := by decide +kernel
theorem dX5_add_83 : decode cX5_add 83 = .ok (.bastore, 1) := by decide +kernel
theorem dX5_add_84 : decode cX5_add 84 = .ok (.aload_n 0, 1) := by decide +kernel
theorem dX5_add_85 : decode cX5_add 85 = .ok (.dup, 1) := by decide +kernel
theorem dX5_add_86 : decode cX5_add 86 = .ok (.getfield 25, 3) := by decide +kernel
theorem dX5_add_89 : decode cX5_add 89 = .ok (.iconst 1, 1) := by decide +kernel
theorem dX5_add_90 : decode cX5_add 90 = .ok (.iadd, 1) := by decide +kernel
theorem dX5_add_91 : decode cX5_add 91 = .ok (.putfield 25, 3) := by decide +kernel
theorem dX5_add_94 : decode cX5_add 94 = .ok (.iinc 4 (-8), 3) := by decide +kernel
theorem dX5_add_97 : decode cX5_add 97 = .ok (.goto (-52), 3) := by decide +kernel
theorem dX5_add_100 : decode cX5_add 100 = .ok (.iconst 1, 1) := by decide +kernel
theorem dX5_add_101 : decode cX5_add 101 = .ok (.ireturn, 1) := by decide +kernel
theorem dX5_start_0 : decode cX5_start 0 = .ok (.aload_n 0, 1) := by decide +kernel
theorem dX5_start_1 : decode cX5_start 1 = .ok (.iconst 0, 1) := by decide +kernel
theorem dX5_start_2 : decode cX5_start 2 = .ok (.putfield 29, 3) := by decide +kernel
theorem dX5_start_5 : decode cX5_start 5 = .ok (.aload_n 0, 1) := by decide +kernel
theorem dX5_start_6 : decode cX5_start 6 = .ok (.iconst 0, 1) := by decide +kernel
theorem dX5_start_7 : decode cX5_start 7 = .ok (.putfield 32, 3) := by decide +kernel
theorem dX5_start_10 : decode cX5_start 10 = .ok (.aload_n 0, 1) := by decide +kernel
theorem dX5_start_11 : decode cX5_start 11 = .ok (.iconst 0, 1) := by decide +kernel
theorem dX5_start_12 : decode cX5_start 12 = .ok (.putfield 35, 3) := by decide +kernel
theorem dX5_start_15 : decode cX5_start 15 = .ok (.aload_n 0, 1) := by decide +kernel
theorem dX5_start_16 : decode cX5_start 16 = .ok (.iconst 0, 1) := by decide +kernel
theorem dX5_start_17 : decode cX5_start 17 = .ok (.putfield 38, 3) := by decide +kernel
theorem dX5_start_20 : decode cX5_start 20 = .ok (.return_, 1) := by decide +kernel
theorem dX5_isFine_0 : decode cX5_isFine 0 = .ok (.aload_n 0, 1) := by decide +kernel
theorem dX5_isFine_1 : decode cX5_isFine 1 = .ok (.getfield 32, 3) := by decide +kernel
theorem dX5_isFine_4 : decode cX5_isFine 4 = .ok (.ifCond .ne 7, 3) := by decide +kernel
theorem dX5_isFine_11 : decode cX5_isFine 11 = .ok (.iconst 0, 1) := by decide +kernel
theorem dX5_isFine_12 : decode cX5_isFine 12 = .ok (.ireturn, 1) := by decide +kernel
theorem dX5_error_0 : decode cX5_error 0 = .ok (.aload_n 0, 1) := by decide +kernel
theorem dX5_error_1 : decode cX5_error 1 = .ok (.getfield 32, 3) := by decide +kernel
theorem dX5_error_4 : decode cX5_error 4 = .ok (.ifCond .ne 13, 3) := by decide +kernel
theorem dX5_error_7 : decode cX5_error 7 = .ok (.aload_n 0, 1) := by decide +kernel
theorem dX5_error_8 : decode cX5_error 8 = .ok (.iload_n 1, 1) := by decide +kernel
theorem dX5_error_9 : decode cX5_error 9 = .ok (.putfield 32, 3) := by decide +kernel
theorem dX5_error_12 : decode cX5_error 12 = .ok (.aload_n 0, 1) := by decide +kernel
theorem dX5_error_13 : decode cX5_error 13 = .ok (.iload_n 2, 1) := by decide +kernel
theorem dX5_error_14 : decode cX5_error 14 = .ok (.putfield 35, 3) := by decide +kernel
theorem dX5_error_17 : decode cX5_error 17 = .ok (.return_, 1) := by decide +kernel
theorem dX5_readDescription_0 : decode cX5_readDescription 0 = .ok (.aload_n 0, 1) := by decide +kernel
theorem dX5_readDescription_1 : decode cX5_readDescription 1 = .ok (.invokevirtual 41, 3) := by decide +kernel
theorem dX5_readDescription_4 : decode cX5_readDescription 4 = .ok (.iconst 1, 1) := by decide +kernel
theorem dX5_readDescription_5 : decode cX5_readDescription 5 = .ok (.istore_n 2, 1) := by decide +kernel
theorem dX5_readDescription_6 : decode cX5_readDescription 6 = .ok (.iload_n 2, 1) := by decide +kernel
theorem dX5_readDescription_7 : decode cX5_readDescription 7 = .ok (.ifCond .eq 40, 3) := by decide +kernel
theorem dX5_readDescription_10 : decode cX5_readDescription 10 = .ok (.aload_n 0, 1) := by decide +kernel
theorem dX5_readDescription_11 : decode cX5_readDescription 11 = .ok (.getfield 38, 3) := by decide +kernel
theorem dX5_readDescription_14 : decode cX5_readDescription 14 = .ok (.sipush 600, 3) := by decide +kernel
theorem dX5_readDescription_17 : decode cX5_readDescription 17 = .ok (.if_icmp .gt 30, 3) := by decide +kernel
theorem dX5_readDescription_20 : decode cX5_readDescription 20 = .ok (.aload_n 0, 1) := by decide +kernel
theorem dX5_readDescription_21 : decode cX5_readDescription 21 = .ok (.aload_n 1, 1) := by decide +kernel
theorem dX5_readDescription_22 : decode cX5_readDescription 22 = .ok (.invokevirtual 44, 3) := by decide +kernel
theorem dX5_readDescription_25 : decode cX5_readDescription 25 = .ok (.aload_n 0, 1) := by decide +kernel
theorem dX5_readDescription_26 : decode cX5_readDescription 26 = .ok (.invokevirtual 48, 3) := by decide +kernel
theorem dX5_readDescription_29 : decode cX5_readDescription 29 = .ok (.istore_n 2, 1) := by decide +kernel
theorem dX5_readDescription_30 : decode cX5_readDescription 30 = .ok (.iload_n 2, 1) := by decide +kernel
theorem dX5_readDescription_31 : decode cX5_readDescription 31 = .ok (.ifCond .eq (-25), 3) := by decide +kernel
theorem dX5_readDescription_47 : decode cX5_readDescription 47 = .ok (.aload_n 0, 1) := by decide +kernel
theorem dX5_readDescription_48 : decode cX5_readDescription 48 = .ok (.iconst 0, 1) := by decide +kernel
theorem dX5_readDescription_49 : decode cX5_readDescription 49 = .ok (.putfield 25, 3) := by decide +kernel
theorem dX5_readDescription_52 : decode cX5_readDescription 52 = .ok (.return_, 1) := by decide +kernel
theorem dX5_readSemicolon_0 : decode cX5_readSemicolon 0 = .ok (.aload_n 0, 1) := by decide +kernel
theorem dX5_readSemicolon_1 : decode cX5_readSemicolon 1 = .ok (.invokevirtual 52, 3) := by decide +kernel
theorem dX5_readSemicolon_4 : decode cX5_readSemicolon 4 = .ok (.pop, 1) := by decide +kernel
theorem dX5_readSemicolon_5 : decode cX5_readSemicolon 5 = .ok (.aload_n 0, 1) := by decide +kernel
theorem dX5_readSemicolon_6 : decode cX5_readSemicolon 6 = .ok (.invokevirtual 56, 3) := by decide +kernel
theorem dX5_readSemicolon_9 : decode cX5_readSemicolon 9 = .ok (.ifCond .eq 14, 3) := by decide +kernel
theorem dX5_readSemicolon_23 : decode cX5_readSemicolon 23 = .ok (.iconst 0, 1) := by decide +kernel
theorem dX5_readSemicolon_24 : decode cX5_readSemicolon 24 = .ok (.ireturn, 1) := by decide +kernel
theorem dX5_readStatement_0 : decode cX5_readStatement 0 = .ok (.aload_n 0, 1) := by decide +kernel
theorem dX5_readStatement_1 : decode cX5_readStatement 1 = .ok (.invokevirtual 52, 3) := by decide +kernel
theorem dX5_readStatement_4 : decode cX5_readStatement 4 = .ok (.istore_n 2, 1) := by decide +kernel
theorem dX5_readStatement_5 : decode cX5_readStatement 5 = .ok (.aload_n 0, 1) := by decide +kernel
theorem dX5_readStatement_6 : decode cX5_readStatement 6 = .ok (.invokevirtual 63, 3) := by decide +kernel
theorem dX5_readStatement_9 : decode cX5_readStatement 9 = .ok (.istore_n 3, 1) := by decide +kernel
theorem dX5_readStatement_10 : decode cX5_readStatement 10 = .ok (.iload_n 3, 1) := by decide +kernel
theorem dX5_readStatement_11 : decode cX5_readStatement 11 = .ok (.iconst (-1), 1) := by decide +kernel
theorem dX5_readStatement_12 : decode cX5_readStatement 12 = .ok (.if_icmp .eq 28, 3) := by decide +kernel
theorem dX5_readStatement_40 : decode cX5_readStatement 40 = .ok (.aload_n 0, 1) := by decide +kernel
theorem dX5_readStatement_41 : decode cX5_readStatement 41 = .ok (.iconst 1, 1) := by decide +kernel
theorem dX5_readStatement_42 : decode cX5_readStatement 42 = .ok (.iload_n 2, 1) := by decide +kernel
theorem dX5_readStatement_43 : decode cX5_readStatement 43 = .ok (.invokevirtual 59, 3) := by decide +kernel
theorem dX5_readStatement_46 : decode cX5_readStatement 46 = .ok (.return_, 1) := by decide +kernel
theorem dX5_skipSpaces_0 : decode cX5_skipSpaces 0 = .ok (.aload_n 0, 1) := by decide +kernel
theorem dX5_skipSpaces_1 : decode cX5_skipSpaces 1 = .ok (.getfield 29, 3) := by decide +kernel
theorem dX5_skipSpaces_4 : decode cX5_skipSpaces 4 = .ok (.aload_n 0, 1) := by decide +kernel
theorem dX5_skipSpaces_5 : decode cX5_skipSpaces 5 = .ok (.getfield 25, 3) := by decide +kernel
theorem dX5_skipSpaces_8 : decode cX5_skipSpaces 8 = .ok (.if_icmp .ge 30, 3) := by decide +kernel
theorem dX5_skipSpaces_38 : decode cX5_skipSpaces 38 = .ok (.aload_n 0, 1) := by decide +kernel
theorem dX5_skipSpaces_39 : decode cX5_skipSpaces 39 = .ok (.getfield 29, 3) := by decide +kernel
theorem dX5_skipSpaces_42 : decode cX5_skipSpaces 42 = .ok (.ireturn, 1) := by decide +kernel
theorem dX5_readWord_0 : decode cX5_readWord 0 = .ok (.aload_n 0, 1) := by decide +kernel
theorem dX5_readWord_1 : decode cX5_readWord 1 = .ok (.getfield 29, 3) := by decide +kernel
theorem dX5_readWord_4 : decode cX5_readWord 4 = .ok (.istore_n 1, 1) := by decide +kernel
theorem dX5_readWord_5 : decode cX5_readWord 5 = .ok (.aload_n 0, 1) := by decide +kernel
theorem dX5_readWord_6 : decode cX5_readWord 6 = .ok (.getfield 29, 3) := by decide +kernel
theorem dX5_readWord_9 : decode cX5_readWord 9 = .ok (.aload_n 0, 1) := by decide +kernel
theorem dX5_readWord_10 : decode cX5_readWord 10 = .ok (.getfield 25, 3) := by decide +kernel
theorem dX5_readWord_13 : decode cX5_readWord 13 = .ok (.if_icmp .ge 31, 3) := by decide +kernel
theorem dX5_readWord_44 : decode cX5_readWord 44 = .ok (.aload_n 0, 1) := by decide +kernel
theorem dX5_readWord_45 : decode cX5_readWord 45 = .ok (.ldc 144, 2) := by decide +kernel
theorem dX5_readWord_47 : decode cX5_readWord 47 = .ok (.iload_n 1, 1) := by decide +kernel
theorem dX5_readWord_48 : decode cX5_readWord 48 = .ok (.invokevirtual 146, 3) := by decide +kernel
theorem dX5_readWord_51 : decode cX5_readWord 51 = .ok (.ifCond .eq 5, 3) := by decide +kernel
theorem dX5_readWord_56 : decode cX5_readWord 56 = .ok (.aload_n 0, 1) := by decide +kernel
theorem dX5_readWord_57 : decode cX5_readWord 57 = .ok (.ldc 150, 2) := by decide +kernel
theorem dX5_readWord_59 : decode cX5_readWord 59 = .ok (.iload_n 1, 1) := by decide +kernel
theorem dX5_readWord_60 : decode cX5_readWord 60 = .ok (.invokevirtual 146, 3) := by decide +kernel
theorem dX5_readWord_63 : decode cX5_readWord 63 = .ok (.ifCond .eq 5, 3) := by decide +kernel
theorem dX5_readWord_68 : decode cX5_readWord 68 = .ok (.aload_n 0, 1) := by decide +kernel
theorem dX5_readWord_69 : decode cX5_readWord 69 = .ok (.ldc 152, 2) := by decide +kernel
theorem dX5_readWord_71 : decode cX5_readWord 71 = .ok (.iload_n 1, 1) := by decide +kernel
theorem dX5_readWord_72 : decode cX5_readWord 72 = .ok (.invokevirtual 146, 3) := by decide +kernel
theorem dX5_readWord_75 : decode cX5_readWord 75 = .ok (.ifCond .eq 5, 3) := by decide +kernel
theorem dX5_readWord_80 : decode cX5_readWord 80 = .ok (.aload_n 0, 1) := by decide +kernel
theorem dX5_readWord_81 : decode cX5_readWord 81 = .ok (.ldc 154, 2) := by decide +kernel
theorem dX5_readWord_83 : decode cX5_readWord 83 = .ok (.iload_n 1, 1) := by decide +kernel
theorem dX5_readWord_84 : decode cX5_readWord 84 = .ok (.invokevirtual 146, 3) := by decide +kernel
theorem dX5_readWord_87 : decode cX5_readWord 87 = .ok (.ifCond .eq 5, 3) := by decide +kernel
theorem dX5_readWord_92 : decode cX5_readWord 92 = .ok (.aload_n 0, 1) := by decide +kernel
theorem dX5_readWord_93 : decode cX5_readWord 93 = .ok (.ldc 156, 2) := by decide +kernel
theorem dX5_readWord_95 : decode cX5_readWord 95 = .ok (.iload_n 1, 1) := by decide +kernel
theorem dX5_readWord_96 : decode cX5_readWord 96 = .ok (.invokevirtual 146, 3) := by decide +kernel
theorem dX5_readWord_99 : decode cX5_readWord 99 = .ok (.ifCond .eq 5, 3) := by decide +kernel
theorem dX5_readWord_104 : decode cX5_readWord 104 = .ok (.aload_n 0, 1) := by decide +kernel
theorem dX5_readWord_105 : decode cX5_readWord 105 = .ok (.ldc 158, 2) := by decide +kernel
theorem dX5_readWord_107 : decode cX5_readWord 107 = .ok (.iload_n 1, 1) := by decide +kernel
theorem dX5_readWord_108 : decode cX5_readWord 108 = .ok (.invokevirtual 146, 3) := by decide +kernel
theorem dX5_readWord_111 : decode cX5_readWord 111 = .ok (.ifCond .eq 6, 3) := by decide +kernel
theorem dX5_readWord_117 : decode cX5_readWord 117 = .ok (.aload_n 0, 1) := by decide +kernel
theorem dX5_readWord_118 : decode cX5_readWord 118 = .ok (.ldc 160, 2) := by decide +kernel
theorem dX5_readWord_120 : decode cX5_readWord 120 = .ok (.iload_n 1, 1) := by decide +kernel
theorem dX5_readWord_121 : decode cX5_readWord 121 = .ok (.invokevirtual 146, 3) := by decide +kernel
theorem dX5_readWord_124 : decode cX5_readWord 124 = .ok (.ifCond .eq 6, 3) := by decide +kernel
theorem dX5_readWord_130 : decode cX5_readWord 130 = .ok (.aload_n 0, 1) := by decide +kernel
theorem dX5_readWord_131 : decode cX5_readWord 131 = .ok (.ldc 162, 2) := by decide +kernel
theorem dX5_readWord_133 : decode cX5_readWord 133 = .ok (.iload_n 1, 1) := by decide +kernel
theorem dX5_readWord_134 : decode cX5_readWord 134 = .ok (.invokevirtual 146, 3) := by decide +kernel
theorem dX5_readWord_137 : decode cX5_readWord 137 = .ok (.ifCond .eq 7, 3) := by decide +kernel
theorem dX5_readWord_144 : decode cX5_readWord 144 = .ok (.iconst (-1), 1) := by decide +kernel
theorem dX5_readWord_145 : decode cX5_readWord 145 = .ok (.ireturn, 1) := by decide +kernel
theorem dX5_stands_0 : decode cX5_stands 0 = .ok (.aload_n 0, 1) := by decide +kernel
theorem dX5_stands_1 : decode cX5_stands 1 = .ok (.getfield 29, 3) := by decide +kernel
theorem dX5_stands_4 : decode cX5_stands 4 = .ok (.iload_n 2, 1) := by decide +kernel
theorem dX5_stands_5 : decode cX5_stands 5 = .ok (.isub, 1) := by decide +kernel
theorem dX5_stands_6 : decode cX5_stands 6 = .ok (.aload_n 1, 1) := by decide +kernel
theorem dX5_stands_7 : decode cX5_stands 7 = .ok (.invokevirtual 164, 3) := by decide +kernel
theorem dX5_stands_10 : decode cX5_stands 10 = .ok (.if_icmp .eq 5, 3) := by decide +kernel
theorem dX5_stands_13 : decode cX5_stands 13 = .ok (.iconst 0, 1) := by decide +kernel
theorem dX5_stands_14 : decode cX5_stands 14 = .ok (.ireturn, 1) := by decide +kernel
theorem dX6_init_0 : decode cX6_init 0 = .ok (.aload_n 0, 1) := by decide +kernel
theorem dX6_init_1 : decode cX6_init 1 = .ok (.invokespecial 3, 3) := by decide +kernel
theorem dX6_init_4 : decode cX6_init 4 = .ok (.aload_n 0, 1) := by decide +kernel
theorem dX6_init_5 : decode cX6_init 5 = .ok (.getstatic 9, 3) := by decide +kernel
theorem dX6_init_8 : decode cX6_init 8 = .ok (.putfield 13, 3) := by decide +kernel
theorem dX6_init_11 : decode cX6_init 11 = .ok (.return_, 1) := by decide +kernel
theorem dX7_init_0 : decode cX7_init 0 = .ok (.aload_n 0, 1) := by decide +kernel
theorem dX7_init_1 : decode cX7_init 1 = .ok (.invokespecial 1, 3) := by decide +kernel
theorem dX7_init_4 : decode cX7_init 4 = .ok (.aload_n 0, 1) := by decide +kernel
theorem dX7_init_5 : decode cX7_init 5 = .ok (.new 7, 3) := by decide +kernel
theorem dX7_init_8 : decode cX7_init 8 = .ok (.dup, 1) := by decide +kernel
theorem dX7_init_9 : decode cX7_init 9 = .ok (.invokespecial 9, 3) := by decide +kernel
theorem dX7_init_12 : decode cX7_init 12 = .ok (.putfield 10, 3) := by decide +kernel
theorem dX7_init_15 : decode cX7_init 15 = .ok (.aload_n 0, 1) := by decide +kernel
theorem dX7_init_16 : decode cX7_init 16 = .ok (.new 7, 3) := by decide +kernel
theorem dX7_init_19 : decode cX7_init 19 = .ok (.dup, 1) := by decide +kernel
theorem dX7_init_20 : decode cX7_init 20 = .ok (.invokespecial 9, 3) := by decide +kernel
theorem dX7_init_23 : decode cX7_init 23 = .ok (.putfield 16, 3) := by decide +kernel
theorem dX7_init_26 : decode cX7_init 26 = .ok (.aload_n 0, 1) := by decide +kernel
theorem dX7_init_27 : decode cX7_init 27 = .ok (.new 19, 3) := by decide +kernel
theorem dX7_init_30 : decode cX7_init 30 = .ok (.dup, 1) := by decide +kernel
theorem dX7_init_31 : decode cX7_init 31 = .ok (.invokespecial 21, 3) := by decide +kernel
theorem dX7_init_34 : decode cX7_init 34 = .ok (.putfield 22, 3) := by decide +kernel
theorem dX7_init_37 : decode cX7_init 37 = .ok (.aload_n 0, 1) := by decide +kernel
theorem dX7_init_38 : decode cX7_init 38 = .ok (.bipush 16, 2) := by decide +kernel
theorem dX7_init_40 : decode cX7_init 40 = .ok (.newarray .byte, 2) := by decide +kernel
theorem dX7_init_42 : decode cX7_init 42 = .ok (.putfield 26, 3) := by decide +kernel
theorem dX7_init_45 : decode cX7_init 45 = .ok (.aload_n 0, 1) := by decide +kernel
theorem dX7_init_46 : decode cX7_init 46 = .ok (.bipush 8, 2) := by decide +kernel
theorem dX7_init_48 : decode cX7_init 48 = .ok (.anewarray 7, 3) := by decide +kernel
theorem dX7_init_51 : decode cX7_init 51 = .ok (.putfield 30, 3) := by decide +kernel
theorem dX7_init_54 : decode cX7_init 54 = .ok (.aload_n 0, 1) := by decide +kernel
theorem dX7_init_55 : decode cX7_init 55 = .ok (.iconst 2, 1) := by decide +kernel
theorem dX7_init_56 : decode cX7_init 56 = .ok (.anewarray 7, 3) := by decide +kernel
theorem dX7_init_59 : decode cX7_init 59 = .ok (.putfield 34, 3) := by decide +kernel
theorem dX7_init_62 : decode cX7_init 62 = .ok (.aload_n 0, 1) := by decide +kernel
theorem dX7_init_63 : decode cX7_init 63 = .ok (.bipush 6, 2) := by decide +kernel
theorem dX7_init_65 : decode cX7_init 65 = .ok (.newarray .int, 2) := by decide +kernel
theorem dX7_init_67 : decode cX7_init 67 = .ok (.putfield 37, 3) := by decide +kernel
theorem dX7_init_70 : decode cX7_init 70 = .ok (.aload_n 0, 1) := by decide +kernel
theorem dX7_init_71 : decode cX7_init 71 = .ok (.iconst 0, 1) := by decide +kernel
theorem dX7_init_72 : decode cX7_init 72 = .ok (.putfield 41, 3) := by decide +kernel
theorem dX7_init_75 : decode cX7_init 75 = .ok (.aload_n 0, 1) := by decide +kernel
theorem dX7_init_76 : decode cX7_init 76 = .ok (.iconst 0, 1) := by decide +kernel
theorem dX7_init_77 : decode cX7_init 77 = .ok (.putfield 45, 3) := by decide +kernel
theorem dX7_init_80 : decode cX7_init 80 = .ok (.aload_n 0, 1) := by decide +kernel
theorem dX7_init_81 : decode cX7_init 81 = .ok (.iconst (-1), 1) := by decide +kernel
theorem dX7_init_82 : decode cX7_init 82 = .ok (.putfield 48, 3) := by decide +kernel
theorem dX7_init_85 : decode cX7_init 85 = .ok (.aload_n 0, 1) := by decide +kernel
theorem dX7_init_86 : decode cX7_init 86 = .ok (.iconst 0, 1) := by decide +kernel
theorem dX7_init_87 : decode cX7_init 87 = .ok (.putfield 51, 3) := by decide +kernel
theorem dX7_init_90 : decode cX7_init 90 = .ok (.aload_n 0, 1) := by decide +kernel
theorem dX7_init_91 : decode cX7_init 91 = .ok (.iconst 0, 1) := by decide +kernel
theorem dX7_init_92 : decode cX7_init 92 = .ok (.putfield 54, 3) := by decide +kernel
theorem dX7_init_95 : decode cX7_init 95 = .ok (.aload_n 0, 1) := by decide +kernel
theorem dX7_init_96 : decode cX7_init 96 = .ok (.getfield 10, 3) := by decide +kernel
theorem dX7_init_99 : decode cX7_init 99 = .ok (.sipush 480, 3) := by decide +kernel
theorem dX7_init_102 : decode cX7_init 102 = .ok (.iconst 0, 1) := by decide +kernel
theorem dX7_init_103 : decode cX7_init 103 = .ok (.iconst 1, 1) := by decide +kernel
theorem dX7_init_104 : decode cX7_init 104 = .ok (.iconst 1, 1) := by decide +kernel
theorem dX7_init_105 : decode cX7_init 105 = .ok (.invokevirtual 57, 3) := by decide +kernel
theorem dX7_init_108 : decode cX7_init 108 = .ok (.return_, 1) := by decide +kernel
theorem dX7_append_0 : decode cX7_append 0 = .ok (.aload_n 0, 1) := by decide +kernel
theorem dX7_append_1 : decode cX7_append 1 = .ok (.getfield 22, 3) := by decide +kernel
theorem dX7_append_4 : decode cX7_append 4 = .ok (.lload_n 1, 1) := by decide +kernel
theorem dX7_append_5 : decode cX7_append 5 = .ok (.invokevirtual 61, 3) := by decide +kernel
theorem dX7_append_8 : decode cX7_append 8 = .ok (.ifCond .eq 13, 3) := by decide +kernel
theorem dX7_append_11 : decode cX7_append 11 = .ok (.aload_n 0, 1) := by decide +kernel
theorem dX7_append_12 : decode cX7_append 12 = .ok (.getfield 22, 3) := by decide +kernel
theorem dX7_append_15 : decode cX7_append 15 = .ok (.getfield 65, 3) := by decide +kernel
theorem dX7_append_18 : decode cX7_append 18 = .ok (.goto 5, 3) := by decide +kernel
theorem dX7_append_23 : decode cX7_append 23 = .ok (.ireturn, 1) := by decide +kernel
theorem dX7_load_0 : decode cX7_load 0 = .ok (.aload_n 0, 1) := by decide +kernel
theorem dX7_load_1 : decode cX7_load 1 = .ok (.getfield 22, 3) := by decide +kernel
theorem dX7_load_4 : decode cX7_load 4 = .ok (.aload_n 0, 1) := by decide +kernel
theorem dX7_load_5 : decode cX7_load 5 = .ok (.getfield 16, 3) := by decide +kernel
theorem dX7_load_8 : decode cX7_load 8 = .ok (.invokevirtual 68, 3) := by decide +kernel
theorem dX7_load_11 : decode cX7_load 11 = .ok (.aload_n 0, 1) := by decide +kernel
theorem dX7_load_12 : decode cX7_load 12 = .ok (.invokevirtual 72, 3) := by decide +kernel
theorem dX7_load_15 : decode cX7_load 15 = .ok (.aload_n 0, 1) := by decide +kernel
theorem dX7_load_16 : decode cX7_load 16 = .ok (.getfield 45, 3) := by decide +kernel
theorem dX7_load_19 : decode cX7_load 19 = .ok (.ifCond .eq 14, 3) := by decide +kernel
theorem dX7_load_22 : decode cX7_load 22 = .ok (.bipush (-100), 2) := by decide +kernel
theorem dX7_load_24 : decode cX7_load 24 = .ok (.aload_n 0, 1) := by decide +kernel
theorem dX7_load_25 : decode cX7_load 25 = .ok (.getfield 22, 3) := by decide +kernel
theorem dX7_load_28 : decode cX7_load 28 = .ok (.getfield 75, 3) := by decide +kernel
theorem dX7_load_31 : decode cX7_load 31 = .ok (.isub, 1) := by decide +kernel
theorem dX7_load_32 : decode cX7_load 32 = .ok (.ireturn, 1) := by decide +kernel
theorem dX7_keepResult_0 : decode cX7_keepResult 0 = .ok (.aload_n 0, 1) := by decide +kernel
theorem dX7_keepResult_1 : decode cX7_keepResult 1 = .ok (.aload_n 0, 1) := by decide +kernel
theorem dX7_keepResult_2 : decode cX7_keepResult 2 = .ok (.getfield 22, 3) := by decide +kernel
theorem dX7_keepResult_5 : decode cX7_keepResult 5 = .ok (.getfield 84, 3) := by decide +kernel
theorem dX7_keepResult_8 : decode cX7_keepResult 8 = .ok (.putfield 45, 3) := by decide +kernel
theorem dX7_keepResult_11 : decode cX7_keepResult 11 = .ok (.aload_n 0, 1) := by decide +kernel
theorem dX7_keepResult_12 : decode cX7_keepResult 12 = .ok (.aload_n 0, 1) := by decide +kernel
theorem dX7_keepResult_13 : decode cX7_keepResult 13 = .ok (.getfield 45, 3) := by decide +kernel
theorem dX7_keepResult_16 : decode cX7_keepResult 16 = .ok (.ifCond .ne 7, 3) := by decide +kernel
theorem dX7_keepResult_23 : decode cX7_keepResult 23 = .ok (.aload_n 0, 1) := by decide +kernel
theorem dX7_keepResult_24 : decode cX7_keepResult 24 = .ok (.getfield 22, 3) := by decide +kernel
theorem dX7_keepResult_27 : decode cX7_keepResult 27 = .ok (.getfield 85, 3) := by decide +kernel
theorem dX7_keepResult_30 : decode cX7_keepResult 30 = .ok (.putfield 48, 3) := by decide +kernel
theorem dX7_keepResult_33 : decode cX7_keepResult 33 = .ok (.return_, 1) := by decide +kernel
theorem dX7_loadError_0 : decode cX7_loadError 0 = .ok (.aload_n 0, 1) := by decide +kernel
theorem dX7_loadError_1 : decode cX7_loadError 1 = .ok (.getfield 45, 3) := by decide +kernel
theorem dX7_loadError_4 : decode cX7_loadError 4 = .ok (.ireturn, 1) := by decide +kernel
theorem dX7_loadStatement_0 : decode cX7_loadStatement 0 = .ok (.aload_n 0, 1) := by decide +kernel
theorem dX7_loadStatement_1 : decode cX7_loadStatement 1 = .ok (.getfield 48, 3) := by decide +kernel
theorem dX7_loadStatement_4 : decode cX7_loadStatement 4 = .ok (.ireturn, 1) := by decide +kernel
theorem dX7_needStation_0 : decode cX7_needStation 0 = .ok (.iload_n 1, 1) := by decide +kernel
theorem dX7_needStation_1 : decode cX7_needStation 1 = .ok (.ifCond .lt 14, 3) := by decide +kernel
theorem dX7_needStation_4 : decode cX7_needStation 4 = .ok (.iload_n 1, 1) := by decide +kernel
theorem dX7_needStation_5 : decode cX7_needStation 5 = .ok (.aload_n 0, 1) := by decide +kernel
theorem dX7_needStation_6 : decode cX7_needStation 6 = .ok (.getfield 10, 3) := by decide +kernel
theorem dX7_needStation_9 : decode cX7_needStation 9 = .ok (.getfield 81, 3) := by decide +kernel
theorem dX7_needStation_12 : decode cX7_needStation 12 = .ok (.if_icmp .lt 13, 3) := by decide +kernel
theorem dX7_needStation_15 : decode cX7_needStation 15 = .ok (.new 88, 3) := by decide +kernel
theorem dX7_needStation_18 : decode cX7_needStation 18 = .ok (.dup, 1) := by decide +kernel
theorem dX7_needStation_19 : decode cX7_needStation 19 = .ok (.ldc 90, 2) := by decide +kernel
theorem dX7_needStation_21 : decode cX7_needStation 21 = .ok (.invokespecial 92, 3) := by decide +kernel
theorem dX7_needStation_24 : decode cX7_needStation 24 = .ok (.athrow, 1) := by decide +kernel
theorem dX7_needCard_0 : decode cX7_needCard 0 = .ok (.iload_n 1, 1) := by decide +kernel
theorem dX7_needCard_1 : decode cX7_needCard 1 = .ok (.ifCond .lt 14, 3) := by decide +kernel
theorem dX7_needCard_4 : decode cX7_needCard 4 = .ok (.iload_n 1, 1) := by decide +kernel
theorem dX7_needCard_5 : decode cX7_needCard 5 = .ok (.aload_n 0, 1) := by decide +kernel
theorem dX7_needCard_6 : decode cX7_needCard 6 = .ok (.getfield 10, 3) := by decide +kernel
theorem dX7_needCard_9 : decode cX7_needCard 9 = .ok (.getfield 95, 3) := by decide +kernel
theorem dX7_needCard_12 : decode cX7_needCard 12 = .ok (.if_icmp .lt 13, 3) := by decide +kernel
theorem dX7_needCard_15 : decode cX7_needCard 15 = .ok (.new 88, 3) := by decide +kernel
theorem dX7_needCard_18 : decode cX7_needCard 18 = .ok (.dup, 1) := by decide +kernel
theorem dX7_needCard_19 : decode cX7_needCard 19 = .ok (.ldc 98, 2) := by decide +kernel
theorem dX7_needCard_21 : decode cX7_needCard 21 = .ok (.invokespecial 92, 3) := by decide +kernel
theorem dX7_needCard_24 : decode cX7_needCard 24 = .ok (.athrow, 1) := by decide +kernel
theorem dX7_needLot_0 : decode cX7_needLot 0 = .ok (.iload_n 1, 1) := by decide +kernel
theorem dX7_needLot_1 : decode cX7_needLot 1 = .ok (.ifCond .lt 14, 3) := by decide +kernel
theorem dX7_needLot_4 : decode cX7_needLot 4 = .ok (.iload_n 1, 1) := by decide +kernel
theorem dX7_needLot_5 : decode cX7_needLot 5 = .ok (.aload_n 0, 1) := by decide +kernel
theorem dX7_needLot_6 : decode cX7_needLot 6 = .ok (.getfield 10, 3) := by decide +kernel
theorem dX7_needLot_9 : decode cX7_needLot 9 = .ok (.getfield 100, 3) := by decide +kernel
theorem dX7_needLot_12 : decode cX7_needLot 12 = .ok (.if_icmp .lt 13, 3) := by decide +kernel
theorem dX7_needLot_15 : decode cX7_needLot 15 = .ok (.new 88, 3) := by decide +kernel
theorem dX7_needLot_18 : decode cX7_needLot 18 = .ok (.dup, 1) := by decide +kernel
theorem dX7_needLot_19 : decode cX7_needLot 19 = .ok (.ldc 103, 2) := by decide +kernel
theorem dX7_needLot_21 : decode cX7_needLot 21 = .ok (.invokespecial 92, 3) := by decide +kernel
theorem dX7_needLot_24 : decode cX7_needLot 24 = .ok (.athrow, 1) := by decide +kernel
theorem dX7_needRange_0 : decode cX7_needRange 0 = .ok (.iload_n 0, 1) := by decide +kernel
theorem dX7_needRange_1 : decode cX7_needRange 1 = .ok (.iload_n 1, 1) := by decide +kernel
theorem dX7_needRange_2 : decode cX7_needRange 2 = .ok (.if_icmp .lt 8, 3) := by decide +kernel
theorem dX7_needRange_5 : decode cX7_needRange 5 = .ok (.iload_n 0, 1) := by decide +kernel
theorem dX7_needRange_6 : decode cX7_needRange 6 = .ok (.iload_n 2, 1) := by decide +kernel
theorem dX7_needRange_7 : decode cX7_needRange 7 = .ok (.if_icmp .le 13, 3) := by decide +kernel
theorem dX7_needRange_10 : decode cX7_needRange 10 = .ok (.new 105, 3) := by decide +kernel
theorem dX7_needRange_13 : decode cX7_needRange 13 = .ok (.dup, 1) := by decide +kernel
theorem dX7_needRange_14 : decode cX7_needRange 14 = .ok (.ldc 107, 2) := by decide +kernel
theorem dX7_needRange_16 : decode cX7_needRange 16 = .ok (.invokespecial 109, 3) := by decide +kernel
theorem dX7_needRange_19 : decode cX7_needRange 19 = .ok (.athrow, 1) := by decide +kernel
theorem dX7_needRange_20 : decode cX7_needRange 20 = .ok (.return_, 1) := by decide +kernel
theorem dX7_count_0 : decode cX7_count 0 = .ok (.iload_n 1, 1) := by decide +kernel
theorem dX7_count_1 : decode cX7_count 1 = .ok (.tableswitch 142 0 9 #[55, 63, 71, 79, 87, 97, 107, 117, 127, 137], 55) := by decide +kernel
theorem dX7_count_56 : decode cX7_count 56 = .ok (.aload_n 0, 1) := by decide +kernel
theorem dX7_count_57 : decode cX7_count 57 = .ok (.getfield 10, 3) := by decide +kernel
theorem dX7_count_60 : decode cX7_count 60 = .ok (.getfield 81, 3) := by decide +kernel
theorem dX7_count_63 : decode cX7_count 63 = .ok (.ireturn, 1) := by decide +kernel
theorem dX7_count_64 : decode cX7_count 64 = .ok (.aload_n 0, 1) := by decide +kernel
theorem dX7_count_65 : decode cX7_count 65 = .ok (.getfield 10, 3) := by decide +kernel
theorem dX7_count_68 : decode cX7_count 68 = .ok (.getfield 100, 3) := by decide +kernel
theorem dX7_count_71 : decode cX7_count 71 = .ok (.ireturn, 1) := by decide +kernel
theorem dX7_count_72 : decode cX7_count 72 = .ok (.aload_n 0, 1) := by decide +kernel
theorem dX7_count_73 : decode cX7_count 73 = .ok (.getfield 10, 3) := by decide +kernel
theorem dX7_count_76 : decode cX7_count 76 = .ok (.getfield 95, 3) := by decide +kernel
theorem dX7_count_79 : decode cX7_count 79 = .ok (.ireturn, 1) := by decide +kernel
theorem dX7_count_80 : decode cX7_count 80 = .ok (.aload_n 0, 1) := by decide +kernel
theorem dX7_count_81 : decode cX7_count 81 = .ok (.getfield 10, 3) := by decide +kernel
theorem dX7_count_84 : decode cX7_count 84 = .ok (.getfield 110, 3) := by decide +kernel
theorem dX7_count_87 : decode cX7_count 87 = .ok (.ireturn, 1) := by decide +kernel
theorem dX7_count_88 : decode cX7_count 88 = .ok (.aload_n 0, 1) := by decide +kernel
theorem dX7_count_89 : decode cX7_count 89 = .ok (.getfield 10, 3) := by decide +kernel
theorem dX7_count_92 : decode cX7_count 92 = .ok (.getfield 113, 3) := by decide +kernel
theorem dX7_count_95 : decode cX7_count 95 = .ok (.iconst 0, 1) := by decide +kernel
theorem dX7_count_96 : decode cX7_count 96 = .ok (.iaload, 1) := by decide +kernel
theorem dX7_count_97 : decode cX7_count 97 = .ok (.ireturn, 1) := by decide +kernel
theorem dX7_count_98 : decode cX7_count 98 = .ok (.aload_n 0, 1) := by decide +kernel
theorem dX7_count_99 : decode cX7_count 99 = .ok (.getfield 10, 3) := by decide +kernel
theorem dX7_count_102 : decode cX7_count 102 = .ok (.getfield 113, 3) := by decide +kernel
theorem dX7_count_105 : decode cX7_count 105 = .ok (.iconst 1, 1) := by decide +kernel
theorem dX7_count_106 : decode cX7_count 106 = .ok (.iaload, 1) := by decide +kernel
theorem dX7_count_107 : decode cX7_count 107 = .ok (.ireturn, 1) := by decide +kernel
theorem dX7_count_108 : decode cX7_count 108 = .ok (.aload_n 0, 1) := by decide +kernel
theorem dX7_count_109 : decode cX7_count 109 = .ok (.getfield 10, 3) := by decide +kernel
theorem dX7_count_112 : decode cX7_count 112 = .ok (.getfield 113, 3) := by decide +kernel
theorem dX7_count_115 : decode cX7_count 115 = .ok (.iconst 2, 1) := by decide +kernel
theorem dX7_count_116 : decode cX7_count 116 = .ok (.iaload, 1) := by decide +kernel
theorem dX7_count_117 : decode cX7_count 117 = .ok (.ireturn, 1) := by decide +kernel
theorem dX7_count_118 : decode cX7_count 118 = .ok (.aload_n 0, 1) := by decide +kernel
theorem dX7_count_119 : decode cX7_count 119 = .ok (.getfield 10, 3) := by decide +kernel
theorem dX7_count_122 : decode cX7_count 122 = .ok (.getfield 113, 3) := by decide +kernel
theorem dX7_count_125 : decode cX7_count 125 = .ok (.iconst 3, 1) := by decide +kernel
theorem dX7_count_126 : decode cX7_count 126 = .ok (.iaload, 1) := by decide +kernel
theorem dX7_count_127 : decode cX7_count 127 = .ok (.ireturn, 1) := by decide +kernel
theorem dX7_count_128 : decode cX7_count 128 = .ok (.aload_n 0, 1) := by decide +kernel
theorem dX7_count_129 : decode cX7_count 129 = .ok (.getfield 10, 3) := by decide +kernel
theorem dX7_count_132 : decode cX7_count 132 = .ok (.getfield 113, 3) := by decide +kernel
theorem dX7_count_135 : decode cX7_count 135 = .ok (.iconst 4, 1) := by decide +kernel
theorem dX7_count_136 : decode cX7_count 136 = .ok (.iaload, 1) := by decide +kernel
theorem dX7_count_137 : decode cX7_count 137 = .ok (.ireturn, 1) := by decide +kernel
theorem dX7_count_138 : decode cX7_count 138 = .ok (.aload_n 0, 1) := by decide +kernel
theorem dX7_count_139 : decode cX7_count 139 = .ok (.getfield 54, 3) := by decide +kernel
theorem dX7_count_142 : decode cX7_count 142 = .ok (.ireturn, 1) := by decide +kernel
theorem dX7_count_143 : decode cX7_count 143 = .ok (.new 105, 3) := by decide +kernel
theorem dX7_count_146 : decode cX7_count 146 = .ok (.dup, 1) := by decide +kernel
theorem dX7_count_147 : decode cX7_count 147 = .ok (.ldc 116, 2) := by decide +kernel
theorem dX7_count_149 : decode cX7_count 149 = .ok (.invokespecial 109, 3) := by decide +kernel
theorem dX7_count_152 : decode cX7_count 152 = .ok (.athrow, 1) := by decide +kernel
theorem dX7_setting_0 : decode cX7_setting 0 = .ok (.iload_n 1, 1) := by decide +kernel
theorem dX7_setting_1 : decode cX7_setting 1 = .ok (.tableswitch 75 0 4 #[35, 43, 51, 59, 67], 35) := by decide +kernel
theorem dX7_setting_36 : decode cX7_setting 36 = .ok (.aload_n 0, 1) := by decide +kernel
theorem dX7_setting_37 : decode cX7_setting 37 = .ok (.getfield 10, 3) := by decide +kernel
theorem dX7_setting_40 : decode cX7_setting 40 = .ok (.getfield 118, 3) := by decide +kernel
theorem dX7_setting_43 : decode cX7_setting 43 = .ok (.ireturn, 1) := by decide +kernel
theorem dX7_setting_44 : decode cX7_setting 44 = .ok (.aload_n 0, 1) := by decide +kernel
theorem dX7_setting_45 : decode cX7_setting 45 = .ok (.getfield 10, 3) := by decide +kernel
theorem dX7_setting_48 : decode cX7_setting 48 = .ok (.getfield 121, 3) := by decide +kernel
theorem dX7_setting_51 : decode cX7_setting 51 = .ok (.ireturn, 1) := by decide +kernel
theorem dX7_setting_52 : decode cX7_setting 52 = .ok (.aload_n 0, 1) := by decide +kernel
theorem dX7_setting_53 : decode cX7_setting 53 = .ok (.getfield 10, 3) := by decide +kernel
theorem dX7_setting_56 : decode cX7_setting 56 = .ok (.getfield 124, 3) := by decide +kernel
theorem dX7_setting_59 : decode cX7_setting 59 = .ok (.ireturn, 1) := by decide +kernel
theorem dX7_setting_60 : decode cX7_setting 60 = .ok (.aload_n 0, 1) := by decide +kernel
theorem dX7_setting_61 : decode cX7_setting 61 = .ok (.getfield 10, 3) := by decide +kernel
theorem dX7_setting_64 : decode cX7_setting 64 = .ok (.getfield 127, 3) := by decide +kernel
theorem dX7_setting_67 : decode cX7_setting 67 = .ok (.ireturn, 1) := by decide +kernel
theorem dX7_setting_68 : decode cX7_setting 68 = .ok (.aload_n 0, 1) := by decide +kernel
theorem dX7_setting_69 : decode cX7_setting 69 = .ok (.getfield 10, 3) := by decide +kernel
theorem dX7_setting_72 : decode cX7_setting 72 = .ok (.getfield 130, 3) := by decide +kernel
theorem dX7_setting_75 : decode cX7_setting 75 = .ok (.ireturn, 1) := by decide +kernel
theorem dX7_setting_76 : decode cX7_setting 76 = .ok (.new 105, 3) := by decide +kernel
theorem dX7_setting_79 : decode cX7_setting 79 = .ok (.dup, 1) := by decide +kernel
theorem dX7_setting_80 : decode cX7_setting 80 = .ok (.ldc 116, 2) := by decide +kernel
theorem dX7_setting_82 : decode cX7_setting 82 = .ok (.invokespecial 109, 3) := by decide +kernel
theorem dX7_setting_85 : decode cX7_setting 85 = .ok (.athrow, 1) := by decide +kernel
theorem dX7_station_0 : decode cX7_station 0 = .ok (.aload_n 0, 1) := by decide +kernel
theorem dX7_station_1 : decode cX7_station 1 = .ok (.iload_n 1, 1) := by decide +kernel
theorem dX7_station_2 : decode cX7_station 2 = .ok (.invokevirtual 133, 3) := by decide +kernel
theorem dX7_card_0 : decode cX7_card 0 = .ok (.aload_n 0, 1) := by decide +kernel
theorem dX7_card_1 : decode cX7_card 1 = .ok (.iload_n 1, 1) := by decide +kernel
theorem dX7_card_2 : decode cX7_card 2 = .ok (.invokevirtual 183, 3) := by decide +kernel
theorem dX7_letter_0 : decode cX7_letter 0 = .ok (.aload_n 0, 1) := by decide +kernel
theorem dX7_letter_1 : decode cX7_letter 1 = .ok (.iload_n 1, 1) := by decide +kernel
theorem dX7_letter_2 : decode cX7_letter 2 = .ok (.invokevirtual 183, 3) := by decide +kernel
theorem dX7_lot_0 : decode cX7_lot 0 = .ok (.aload_n 0, 1) := by decide +kernel
theorem dX7_lot_1 : decode cX7_lot 1 = .ok (.iload_n 1, 1) := by decide +kernel
theorem dX7_lot_2 : decode cX7_lot 2 = .ok (.invokevirtual 214, 3) := by decide +kernel
theorem dX7_cardOf_0 : decode cX7_cardOf 0 = .ok (.aload_n 0, 1) := by decide +kernel
theorem dX7_cardOf_1 : decode cX7_cardOf 1 = .ok (.iload_n 1, 1) := by decide +kernel
theorem dX7_cardOf_2 : decode cX7_cardOf 2 = .ok (.invokevirtual 214, 3) := by decide +kernel
theorem dX7_trayAt_0 : decode cX7_trayAt 0 = .ok (.iconst 0, 1) := by decide +kernel
theorem dX7_trayAt_1 : decode cX7_trayAt 1 = .ok (.istore_n 2, 1) := by decide +kernel
theorem dX7_trayAt_2 : decode cX7_trayAt 2 = .ok (.iconst 0, 1) := by decide +kernel
theorem dX7_trayAt_3 : decode cX7_trayAt 3 = .ok (.istore_n 3, 1) := by decide +kernel
theorem dX7_trayAt_4 : decode cX7_trayAt 4 = .ok (.iload_n 3, 1) := by decide +kernel
theorem dX7_trayAt_5 : decode cX7_trayAt 5 = .ok (.aload_n 0, 1) := by decide +kernel
theorem dX7_trayAt_6 : decode cX7_trayAt 6 = .ok (.getfield 10, 3) := by decide +kernel
theorem dX7_trayAt_9 : decode cX7_trayAt 9 = .ok (.getfield 95, 3) := by decide +kernel
theorem dX7_trayAt_12 : decode cX7_trayAt 12 = .ok (.if_icmp .ge 35, 3) := by decide +kernel
theorem dX7_trayAt_47 : decode cX7_trayAt 47 = .ok (.iconst (-1), 1) := by decide +kernel
theorem dX7_trayAt_48 : decode cX7_trayAt 48 = .ok (.ireturn, 1) := by decide +kernel
theorem dX7_leftAt_0 : decode cX7_leftAt 0 = .ok (.iload_n 1, 1) := by decide +kernel
theorem dX7_leftAt_1 : decode cX7_leftAt 1 = .ok (.ifCond .lt 28, 3) := by decide +kernel
theorem dX7_leftAt_4 : decode cX7_leftAt 4 = .ok (.iload_n 1, 1) := by decide +kernel
theorem dX7_leftAt_5 : decode cX7_leftAt 5 = .ok (.aload_n 0, 1) := by decide +kernel
theorem dX7_leftAt_6 : decode cX7_leftAt 6 = .ok (.getfield 10, 3) := by decide +kernel
theorem dX7_leftAt_9 : decode cX7_leftAt 9 = .ok (.getfield 113, 3) := by decide +kernel
theorem dX7_leftAt_12 : decode cX7_leftAt 12 = .ok (.iconst 3, 1) := by decide +kernel
theorem dX7_leftAt_13 : decode cX7_leftAt 13 = .ok (.iaload, 1) := by decide +kernel
theorem dX7_leftAt_14 : decode cX7_leftAt 14 = .ok (.if_icmp .ge 15, 3) := by decide +kernel
theorem dX7_leftAt_29 : decode cX7_leftAt 29 = .ok (.iconst (-1), 1) := by decide +kernel
theorem dX7_leftAt_30 : decode cX7_leftAt 30 = .ok (.ireturn, 1) := by decide +kernel
theorem dX7_nextFed_0 : decode cX7_nextFed 0 = .ok (.aload_n 0, 1) := by decide +kernel
theorem dX7_nextFed_1 : decode cX7_nextFed 1 = .ok (.getfield 10, 3) := by decide +kernel
theorem dX7_nextFed_4 : decode cX7_nextFed 4 = .ok (.invokevirtual 248, 3) := by decide +kernel
theorem dX7_nextFed_7 : decode cX7_nextFed 7 = .ok (.ireturn, 1) := by decide +kernel
theorem dX7_steps_0 : decode cX7_steps 0 = .ok (.aload_n 0, 1) := by decide +kernel
theorem dX7_steps_1 : decode cX7_steps 1 = .ok (.iload_n 1, 1) := by decide +kernel
theorem dX7_steps_2 : decode cX7_steps 2 = .ok (.invokevirtual 183, 3) := by decide +kernel
theorem dX7_ticksFor_0 : decode cX7_ticksFor 0 = .ok (.aload_n 0, 1) := by decide +kernel
theorem dX7_ticksFor_1 : decode cX7_ticksFor 1 = .ok (.iload_n 1, 1) := by decide +kernel
theorem dX7_ticksFor_2 : decode cX7_ticksFor 2 = .ok (.invokevirtual 133, 3) := by decide +kernel
theorem dX7_now_0 : decode cX7_now 0 = .ok (.aload_n 0, 1) := by decide +kernel
theorem dX7_now_1 : decode cX7_now 1 = .ok (.getfield 10, 3) := by decide +kernel
theorem dX7_now_4 : decode cX7_now 4 = .ok (.getfield 263, 3) := by decide +kernel
theorem dX7_now_7 : decode cX7_now 7 = .ok (.ireturn, 1) := by decide +kernel
theorem dX7_day_0 : decode cX7_day 0 = .ok (.aload_n 0, 1) := by decide +kernel
theorem dX7_day_1 : decode cX7_day 1 = .ok (.iload_n 2, 1) := by decide +kernel
theorem dX7_day_2 : decode cX7_day 2 = .ok (.invokevirtual 214, 3) := by decide +kernel
theorem dX7_today_0 : decode cX7_today 0 = .ok (.aload_n 0, 1) := by decide +kernel
theorem dX7_today_1 : decode cX7_today 1 = .ok (.iload_n 1, 1) := by decide +kernel
theorem dX7_today_2 : decode cX7_today 2 = .ok (.invokevirtual 214, 3) := by decide +kernel
theorem dX7_total_0 : decode cX7_total 0 = .ok (.iload_n 1, 1) := by decide +kernel
theorem dX7_total_1 : decode cX7_total 1 = .ok (.iconst 0, 1) := by decide +kernel
theorem dX7_total_2 : decode cX7_total 2 = .ok (.iconst 4, 1) := by decide +kernel
theorem dX7_total_3 : decode cX7_total 3 = .ok (.invokestatic 251, 3) := by decide +kernel
theorem dX7_total_6 : decode cX7_total 6 = .ok (.aload_n 0, 1) := by decide +kernel
theorem dX7_total_7 : decode cX7_total 7 = .ok (.getfield 10, 3) := by decide +kernel
theorem dX7_total_10 : decode cX7_total 10 = .ok (.getfield 283, 3) := by decide +kernel
theorem dX7_total_13 : decode cX7_total 13 = .ok (.iload_n 1, 1) := by decide +kernel
theorem dX7_total_14 : decode cX7_total 14 = .ok (.iaload, 1) := by decide +kernel
theorem dX7_total_15 : decode cX7_total 15 = .ok (.ireturn, 1) := by decide +kernel
theorem dX7_yieldPart_0 : decode cX7_yieldPart 0 = .ok (.aload_n 0, 1) := by decide +kernel
theorem dX7_yieldPart_1 : decode cX7_yieldPart 1 = .ok (.getfield 10, 3) := by decide +kernel
theorem dX7_yieldPart_4 : decode cX7_yieldPart 4 = .ok (.getfield 283, 3) := by decide +kernel
theorem dX7_yieldPart_7 : decode cX7_yieldPart 7 = .ok (.iconst 0, 1) := by decide +kernel
theorem dX7_yieldPart_8 : decode cX7_yieldPart 8 = .ok (.iaload, 1) := by decide +kernel
theorem dX7_yieldPart_9 : decode cX7_yieldPart 9 = .ok (.istore_n 1, 1) := by decide +kernel
theorem dX7_yieldPart_10 : decode cX7_yieldPart 10 = .ok (.iload_n 1, 1) := by decide +kernel
theorem dX7_yieldPart_11 : decode cX7_yieldPart 11 = .ok (.ifCond .ne 7, 3) := by decide +kernel
theorem dX7_yieldPart_14 : decode cX7_yieldPart 14 = .ok (.dconst 0, 1) := by decide +kernel
theorem dX7_yieldPart_15 : decode cX7_yieldPart 15 = .ok (.goto 16, 3) := by decide +kernel
theorem dX7_yieldPart_31 : decode cX7_yieldPart 31 = .ok (.dreturn, 1) := by decide +kernel
theorem dX7_meanFails_0 : decode cX7_meanFails 0 = .ok (.aload_n 0, 1) := by decide +kernel
theorem dX7_meanFails_1 : decode cX7_meanFails 1 = .ok (.getfield 10, 3) := by decide +kernel
theorem dX7_meanFails_4 : decode cX7_meanFails 4 = .ok (.getfield 95, 3) := by decide +kernel
theorem dX7_meanFails_7 : decode cX7_meanFails 7 = .ok (.istore_n 1, 1) := by decide +kernel
theorem dX7_meanFails_8 : decode cX7_meanFails 8 = .ok (.iload_n 1, 1) := by decide +kernel
theorem dX7_meanFails_9 : decode cX7_meanFails 9 = .ok (.ifCond .ne 7, 3) := by decide +kernel
theorem dX7_meanFails_12 : decode cX7_meanFails 12 = .ok (.fconst 0, 1) := by decide +kernel
theorem dX7_meanFails_13 : decode cX7_meanFails 13 = .ok (.goto 16, 3) := by decide +kernel
theorem dX7_meanFails_29 : decode cX7_meanFails 29 = .ok (.freturn, 1) := by decide +kernel
theorem dX7_busyPart_0 : decode cX7_busyPart 0 = .ok (.aload_n 0, 1) := by decide +kernel
theorem dX7_busyPart_1 : decode cX7_busyPart 1 = .ok (.iload_n 1, 1) := by decide +kernel
theorem dX7_busyPart_2 : decode cX7_busyPart 2 = .ok (.invokevirtual 133, 3) := by decide +kernel
theorem dX7_bottleneck_0 : decode cX7_bottleneck 0 = .ok (.iconst (-1), 1) := by decide +kernel
theorem dX7_bottleneck_1 : decode cX7_bottleneck 1 = .ok (.istore_n 1, 1) := by decide +kernel
theorem dX7_bottleneck_2 : decode cX7_bottleneck 2 = .ok (.iconst (-1), 1) := by decide +kernel
theorem dX7_bottleneck_3 : decode cX7_bottleneck 3 = .ok (.istore_n 2, 1) := by decide +kernel
theorem dX7_bottleneck_4 : decode cX7_bottleneck 4 = .ok (.iconst 0, 1) := by decide +kernel
theorem dX7_bottleneck_5 : decode cX7_bottleneck 5 = .ok (.istore_n 3, 1) := by decide +kernel
theorem dX7_bottleneck_6 : decode cX7_bottleneck 6 = .ok (.iload_n 3, 1) := by decide +kernel
theorem dX7_bottleneck_7 : decode cX7_bottleneck 7 = .ok (.aload_n 0, 1) := by decide +kernel
theorem dX7_bottleneck_8 : decode cX7_bottleneck 8 = .ok (.getfield 10, 3) := by decide +kernel
theorem dX7_bottleneck_11 : decode cX7_bottleneck 11 = .ok (.getfield 81, 3) := by decide +kernel
theorem dX7_bottleneck_14 : decode cX7_bottleneck 14 = .ok (.if_icmp .ge 30, 3) := by decide +kernel
theorem dX7_bottleneck_44 : decode cX7_bottleneck 44 = .ok (.iload_n 1, 1) := by decide +kernel
theorem dX7_bottleneck_45 : decode cX7_bottleneck 45 = .ok (.ireturn, 1) := by decide +kernel
theorem dX7_remember_0 : decode cX7_remember 0 = .ok (.aload_n 0, 1) := by decide +kernel
theorem dX7_remember_1 : decode cX7_remember 1 = .ok (.getfield 54, 3) := by decide +kernel
theorem dX7_remember_4 : decode cX7_remember 4 = .ok (.bipush 8, 2) := by decide +kernel
theorem dX7_remember_6 : decode cX7_remember 6 = .ok (.if_icmp .ne 26, 3) := by decide +kernel
theorem dX7_remember_32 : decode cX7_remember 32 = .ok (.aload_n 0, 1) := by decide +kernel
theorem dX7_remember_33 : decode cX7_remember 33 = .ok (.getfield 51, 3) := by decide +kernel
theorem dX7_remember_36 : decode cX7_remember 36 = .ok (.aload_n 0, 1) := by decide +kernel
theorem dX7_remember_37 : decode cX7_remember 37 = .ok (.getfield 54, 3) := by decide +kernel
theorem dX7_remember_40 : decode cX7_remember 40 = .ok (.iadd, 1) := by decide +kernel
theorem dX7_remember_41 : decode cX7_remember 41 = .ok (.bipush 8, 2) := by decide +kernel
theorem dX7_remember_43 : decode cX7_remember 43 = .ok (.irem, 1) := by decide +kernel
theorem dX7_remember_44 : decode cX7_remember 44 = .ok (.istore_n 1, 1) := by decide +kernel
theorem dX7_remember_45 : decode cX7_remember 45 = .ok (.aload_n 0, 1) := by decide +kernel
theorem dX7_remember_46 : decode cX7_remember 46 = .ok (.getfield 30, 3) := by decide +kernel
theorem dX7_remember_49 : decode cX7_remember 49 = .ok (.iload_n 1, 1) := by decide +kernel
theorem dX7_remember_50 : decode cX7_remember 50 = .ok (.aaload, 1) := by decide +kernel
theorem dX7_remember_51 : decode cX7_remember 51 = .ok (.ifnonnull 16, 3) := by decide +kernel
theorem dX7_remember_54 : decode cX7_remember 54 = .ok (.aload_n 0, 1) := by decide +kernel
theorem dX7_remember_55 : decode cX7_remember 55 = .ok (.getfield 30, 3) := by decide +kernel
theorem dX7_remember_58 : decode cX7_remember 58 = .ok (.iload_n 1, 1) := by decide +kernel
theorem dX7_remember_59 : decode cX7_remember 59 = .ok (.new 7, 3) := by decide +kernel
theorem dX7_remember_62 : decode cX7_remember 62 = .ok (.dup, 1) := by decide +kernel
theorem dX7_remember_63 : decode cX7_remember 63 = .ok (.invokespecial 9, 3) := by decide +kernel
theorem dX7_remember_66 : decode cX7_remember 66 = .ok (.aastore, 1) := by decide +kernel
theorem dX7_remember_67 : decode cX7_remember 67 = .ok (.aload_n 0, 1) := by decide +kernel
theorem dX7_remember_68 : decode cX7_remember 68 = .ok (.getfield 30, 3) := by decide +kernel
theorem dX7_remember_71 : decode cX7_remember 71 = .ok (.iload_n 1, 1) := by decide +kernel
theorem dX7_remember_72 : decode cX7_remember 72 = .ok (.aaload, 1) := by decide +kernel
theorem dX7_remember_73 : decode cX7_remember 73 = .ok (.aload_n 0, 1) := by decide +kernel
theorem dX7_remember_74 : decode cX7_remember 74 = .ok (.getfield 10, 3) := by decide +kernel
theorem dX7_remember_77 : decode cX7_remember 77 = .ok (.invokevirtual 78, 3) := by decide +kernel
theorem dX7_remember_80 : decode cX7_remember 80 = .ok (.aload_n 0, 1) := by decide +kernel
theorem dX7_remember_81 : decode cX7_remember 81 = .ok (.dup, 1) := by decide +kernel
theorem dX7_remember_82 : decode cX7_remember 82 = .ok (.getfield 54, 3) := by decide +kernel
theorem dX7_remember_85 : decode cX7_remember 85 = .ok (.iconst 1, 1) := by decide +kernel
theorem dX7_remember_86 : decode cX7_remember 86 = .ok (.iadd, 1) := by decide +kernel
theorem dX7_remember_87 : decode cX7_remember 87 = .ok (.putfield 54, 3) := by decide +kernel
theorem dX7_remember_90 : decode cX7_remember 90 = .ok (.return_, 1) := by decide +kernel
theorem dX7_order_0 : decode cX7_order 0 = .ok (.aload_n 0, 1) := by decide +kernel
theorem dX7_order_1 : decode cX7_order 1 = .ok (.iload_n 1, 1) := by decide +kernel
theorem dX7_order_2 : decode cX7_order 2 = .ok (.invokevirtual 214, 3) := by decide +kernel
theorem dX7_giveUp_0 : decode cX7_giveUp 0 = .ok (.aload_n 0, 1) := by decide +kernel
theorem dX7_giveUp_1 : decode cX7_giveUp 1 = .ok (.iload_n 1, 1) := by decide +kernel
theorem dX7_giveUp_2 : decode cX7_giveUp 2 = .ok (.invokevirtual 183, 3) := by decide +kernel
theorem dX7_setRank_0 : decode cX7_setRank 0 = .ok (.aload_n 0, 1) := by decide +kernel
theorem dX7_setRank_1 : decode cX7_setRank 1 = .ok (.iload_n 1, 1) := by decide +kernel
theorem dX7_setRank_2 : decode cX7_setRank 2 = .ok (.invokevirtual 214, 3) := by decide +kernel
theorem dX7_refill_0 : decode cX7_refill 0 = .ok (.iload_n 1, 1) := by decide +kernel
theorem dX7_refill_1 : decode cX7_refill 1 = .ok (.iconst 1, 1) := by decide +kernel
theorem dX7_refill_2 : decode cX7_refill 2 = .ok (.sipush 999, 3) := by decide +kernel
theorem dX7_refill_5 : decode cX7_refill 5 = .ok (.invokestatic 251, 3) := by decide +kernel
theorem dX7_refill_8 : decode cX7_refill 8 = .ok (.aload_n 0, 1) := by decide +kernel
theorem dX7_refill_9 : decode cX7_refill 9 = .ok (.getfield 10, 3) := by decide +kernel
theorem dX7_refill_12 : decode cX7_refill 12 = .ok (.getfield 110, 3) := by decide +kernel
theorem dX7_refill_15 : decode cX7_refill 15 = .ok (.iload_n 1, 1) := by decide +kernel
theorem dX7_refill_16 : decode cX7_refill 16 = .ok (.iadd, 1) := by decide +kernel
theorem dX7_refill_17 : decode cX7_refill 17 = .ok (.sipush 9999, 3) := by decide +kernel
theorem dX7_refill_20 : decode cX7_refill 20 = .ok (.if_icmp .le 6, 3) := by decide +kernel
theorem dX7_refill_26 : decode cX7_refill 26 = .ok (.aload_n 0, 1) := by decide +kernel
theorem dX7_refill_27 : decode cX7_refill 27 = .ok (.invokevirtual 292, 3) := by decide +kernel
theorem dX7_refill_30 : decode cX7_refill 30 = .ok (.aload_n 0, 1) := by decide +kernel
theorem dX7_refill_31 : decode cX7_refill 31 = .ok (.getfield 10, 3) := by decide +kernel
theorem dX7_refill_34 : decode cX7_refill 34 = .ok (.dup, 1) := by decide +kernel
theorem dX7_refill_35 : decode cX7_refill 35 = .ok (.getfield 110, 3) := by decide +kernel
theorem dX7_refill_38 : decode cX7_refill 38 = .ok (.iload_n 1, 1) := by decide +kernel
theorem dX7_refill_39 : decode cX7_refill 39 = .ok (.iadd, 1) := by decide +kernel
theorem dX7_refill_40 : decode cX7_refill 40 = .ok (.putfield 110, 3) := by decide +kernel
theorem dX7_refill_43 : decode cX7_refill 43 = .ok (.aload_n 0, 1) := by decide +kernel
theorem dX7_refill_44 : decode cX7_refill 44 = .ok (.getfield 10, 3) := by decide +kernel
theorem dX7_refill_47 : decode cX7_refill 47 = .ok (.dup, 1) := by decide +kernel
theorem dX7_refill_48 : decode cX7_refill 48 = .ok (.getfield 130, 3) := by decide +kernel
theorem dX7_refill_51 : decode cX7_refill 51 = .ok (.iload_n 1, 1) := by decide +kernel
theorem dX7_refill_52 : decode cX7_refill 52 = .ok (.iadd, 1) := by decide +kernel
theorem dX7_refill_53 : decode cX7_refill 53 = .ok (.putfield 130, 3) := by decide +kernel
theorem dX7_refill_56 : decode cX7_refill 56 = .ok (.aload_n 0, 1) := by decide +kernel
theorem dX7_refill_57 : decode cX7_refill 57 = .ok (.getfield 10, 3) := by decide +kernel
theorem dX7_refill_60 : decode cX7_refill 60 = .ok (.getfield 110, 3) := by decide +kernel
theorem dX7_refill_63 : decode cX7_refill 63 = .ok (.ireturn, 1) := by decide +kernel
theorem dX7_setPace_0 : decode cX7_setPace 0 = .ok (.aload_n 0, 1) := by decide +kernel
theorem dX7_setPace_1 : decode cX7_setPace 1 = .ok (.iload_n 1, 1) := by decide +kernel
theorem dX7_setPace_2 : decode cX7_setPace 2 = .ok (.invokevirtual 133, 3) := by decide +kernel
theorem dX7_stop_0 : decode cX7_stop 0 = .ok (.aload_n 0, 1) := by decide +kernel
theorem dX7_stop_1 : decode cX7_stop 1 = .ok (.iload_n 1, 1) := by decide +kernel
theorem dX7_stop_2 : decode cX7_stop 2 = .ok (.invokevirtual 133, 3) := by decide +kernel
theorem dX7_setRest_0 : decode cX7_setRest 0 = .ok (.aload_n 0, 1) := by decide +kernel
theorem dX7_setRest_1 : decode cX7_setRest 1 = .ok (.iload_n 1, 1) := by decide +kernel
theorem dX7_setRest_2 : decode cX7_setRest 2 = .ok (.invokevirtual 133, 3) := by decide +kernel
theorem dX7_rush_0 : decode cX7_rush 0 = .ok (.aload_n 0, 1) := by decide +kernel
theorem dX7_rush_1 : decode cX7_rush 1 = .ok (.iload_n 1, 1) := by decide +kernel
theorem dX7_rush_2 : decode cX7_rush 2 = .ok (.invokevirtual 183, 3) := by decide +kernel
theorem dX7_swap_0 : decode cX7_swap 0 = .ok (.aload_n 0, 1) := by decide +kernel
theorem dX7_swap_1 : decode cX7_swap 1 = .ok (.iload_n 1, 1) := by decide +kernel
theorem dX7_swap_2 : decode cX7_swap 2 = .ok (.invokevirtual 183, 3) := by decide +kernel
theorem dX7_setTries_0 : decode cX7_setTries 0 = .ok (.iload_n 1, 1) := by decide +kernel
theorem dX7_setTries_1 : decode cX7_setTries 1 = .ok (.iconst 1, 1) := by decide +kernel
theorem dX7_setTries_2 : decode cX7_setTries 2 = .ok (.bipush 9, 2) := by decide +kernel
theorem dX7_setTries_4 : decode cX7_setTries 4 = .ok (.invokestatic 251, 3) := by decide +kernel
theorem dX7_setTries_7 : decode cX7_setTries 7 = .ok (.aload_n 0, 1) := by decide +kernel
theorem dX7_setTries_8 : decode cX7_setTries 8 = .ok (.invokevirtual 292, 3) := by decide +kernel
theorem dX7_setTries_11 : decode cX7_setTries 11 = .ok (.aload_n 0, 1) := by decide +kernel
theorem dX7_setTries_12 : decode cX7_setTries 12 = .ok (.getfield 10, 3) := by decide +kernel
theorem dX7_setTries_15 : decode cX7_setTries 15 = .ok (.getfield 124, 3) := by decide +kernel
theorem dX7_setTries_18 : decode cX7_setTries 18 = .ok (.istore_n 2, 1) := by decide +kernel
theorem dX7_setTries_19 : decode cX7_setTries 19 = .ok (.aload_n 0, 1) := by decide +kernel
theorem dX7_setTries_20 : decode cX7_setTries 20 = .ok (.getfield 10, 3) := by decide +kernel
theorem dX7_setTries_23 : decode cX7_setTries 23 = .ok (.iload_n 1, 1) := by decide +kernel
theorem dX7_setTries_24 : decode cX7_setTries 24 = .ok (.putfield 124, 3) := by decide +kernel
theorem dX7_setTries_27 : decode cX7_setTries 27 = .ok (.iload_n 2, 1) := by decide +kernel
theorem dX7_setTries_28 : decode cX7_setTries 28 = .ok (.ireturn, 1) := by decide +kernel
theorem dX7_setTray_0 : decode cX7_setTray 0 = .ok (.iload_n 1, 1) := by decide +kernel
theorem dX7_setTray_1 : decode cX7_setTray 1 = .ok (.iconst 1, 1) := by decide +kernel
theorem dX7_setTray_2 : decode cX7_setTray 2 = .ok (.bipush 20, 2) := by decide +kernel
theorem dX7_setTray_4 : decode cX7_setTray 4 = .ok (.invokestatic 251, 3) := by decide +kernel
theorem dX7_setTray_7 : decode cX7_setTray 7 = .ok (.aload_n 0, 1) := by decide +kernel
theorem dX7_setTray_8 : decode cX7_setTray 8 = .ok (.invokevirtual 292, 3) := by decide +kernel
theorem dX7_setTray_11 : decode cX7_setTray 11 = .ok (.aload_n 0, 1) := by decide +kernel
theorem dX7_setTray_12 : decode cX7_setTray 12 = .ok (.getfield 10, 3) := by decide +kernel
theorem dX7_setTray_15 : decode cX7_setTray 15 = .ok (.getfield 121, 3) := by decide +kernel
theorem dX7_setTray_18 : decode cX7_setTray 18 = .ok (.istore_n 2, 1) := by decide +kernel
theorem dX7_setTray_19 : decode cX7_setTray 19 = .ok (.aload_n 0, 1) := by decide +kernel
theorem dX7_setTray_20 : decode cX7_setTray 20 = .ok (.getfield 10, 3) := by decide +kernel
theorem dX7_setTray_23 : decode cX7_setTray 23 = .ok (.iload_n 1, 1) := by decide +kernel
theorem dX7_setTray_24 : decode cX7_setTray 24 = .ok (.putfield 121, 3) := by decide +kernel
theorem dX7_setTray_27 : decode cX7_setTray 27 = .ok (.iload_n 2, 1) := by decide +kernel
theorem dX7_setTray_28 : decode cX7_setTray 28 = .ok (.ireturn, 1) := by decide +kernel
theorem dX7_run_0 : decode cX7_run 0 = .ok (.iload_n 1, 1) := by decide +kernel
theorem dX7_run_1 : decode cX7_run 1 = .ok (.iconst 1, 1) := by decide +kernel
theorem dX7_run_2 : decode cX7_run 2 = .ok (.sipush 2000, 3) := by decide +kernel
theorem dX7_run_5 : decode cX7_run 5 = .ok (.invokestatic 251, 3) := by decide +kernel
theorem dX7_run_8 : decode cX7_run 8 = .ok (.aload_n 0, 1) := by decide +kernel
theorem dX7_run_9 : decode cX7_run 9 = .ok (.invokevirtual 292, 3) := by decide +kernel
theorem dX7_run_12 : decode cX7_run 12 = .ok (.iconst 0, 1) := by decide +kernel
theorem dX7_run_13 : decode cX7_run 13 = .ok (.istore_n 2, 1) := by decide +kernel
theorem dX7_run_14 : decode cX7_run 14 = .ok (.iload_n 2, 1) := by decide +kernel
theorem dX7_run_15 : decode cX7_run 15 = .ok (.iload_n 1, 1) := by decide +kernel
theorem dX7_run_16 : decode cX7_run 16 = .ok (.if_icmp .ge 17, 3) := by decide +kernel
theorem dX7_run_19 : decode cX7_run 19 = .ok (.aload_n 0, 1) := by decide +kernel
theorem dX7_run_20 : decode cX7_run 20 = .ok (.getfield 10, 3) := by decide +kernel
theorem dX7_run_23 : decode cX7_run 23 = .ok (.invokevirtual 322, 3) := by decide +kernel
theorem dX7_run_26 : decode cX7_run 26 = .ok (.pop, 1) := by decide +kernel
theorem dX7_run_27 : decode cX7_run 27 = .ok (.iinc 2 1, 3) := by decide +kernel
theorem dX7_run_30 : decode cX7_run 30 = .ok (.goto (-16), 3) := by decide +kernel
theorem dX7_run_33 : decode cX7_run 33 = .ok (.aload_n 0, 1) := by decide +kernel
theorem dX7_run_34 : decode cX7_run 34 = .ok (.getfield 10, 3) := by decide +kernel
theorem dX7_run_37 : decode cX7_run 37 = .ok (.getfield 113, 3) := by decide +kernel
theorem dX7_run_40 : decode cX7_run 40 = .ok (.iconst 3, 1) := by decide +kernel
theorem dX7_run_41 : decode cX7_run 41 = .ok (.iaload, 1) := by decide +kernel
theorem dX7_run_42 : decode cX7_run 42 = .ok (.ireturn, 1) := by decide +kernel
theorem dX7_runToLeave_0 : decode cX7_runToLeave 0 = .ok (.iload_n 1, 1) := by decide +kernel
theorem dX7_runToLeave_1 : decode cX7_runToLeave 1 = .ok (.iconst 1, 1) := by decide +kernel
theorem dX7_runToLeave_2 : decode cX7_runToLeave 2 = .ok (.sipush 2000, 3) := by decide +kernel
theorem dX7_runToLeave_5 : decode cX7_runToLeave 5 = .ok (.invokestatic 251, 3) := by decide +kernel
theorem dX7_runToLeave_8 : decode cX7_runToLeave 8 = .ok (.aload_n 0, 1) := by decide +kernel
theorem dX7_runToLeave_9 : decode cX7_runToLeave 9 = .ok (.invokevirtual 292, 3) := by decide +kernel
theorem dX7_runToLeave_12 : decode cX7_runToLeave 12 = .ok (.aload_n 0, 1) := by decide +kernel
theorem dX7_runToLeave_13 : decode cX7_runToLeave 13 = .ok (.getfield 10, 3) := by decide +kernel
theorem dX7_runToLeave_16 : decode cX7_runToLeave 16 = .ok (.getfield 113, 3) := by decide +kernel
theorem dX7_runToLeave_19 : decode cX7_runToLeave 19 = .ok (.iconst 3, 1) := by decide +kernel
theorem dX7_runToLeave_20 : decode cX7_runToLeave 20 = .ok (.iaload, 1) := by decide +kernel
theorem dX7_runToLeave_21 : decode cX7_runToLeave 21 = .ok (.istore_n 2, 1) := by decide +kernel
theorem dX7_runToLeave_22 : decode cX7_runToLeave 22 = .ok (.iconst 1, 1) := by decide +kernel
theorem dX7_runToLeave_23 : decode cX7_runToLeave 23 = .ok (.istore_n 3, 1) := by decide +kernel
theorem dX7_runToLeave_24 : decode cX7_runToLeave 24 = .ok (.iload_n 3, 1) := by decide +kernel
theorem dX7_runToLeave_25 : decode cX7_runToLeave 25 = .ok (.iload_n 1, 1) := by decide +kernel
theorem dX7_runToLeave_26 : decode cX7_runToLeave 26 = .ok (.if_icmp .gt 32, 3) := by decide +kernel
theorem dX7_runToLeave_29 : decode cX7_runToLeave 29 = .ok (.aload_n 0, 1) := by decide +kernel
theorem dX7_runToLeave_30 : decode cX7_runToLeave 30 = .ok (.getfield 10, 3) := by decide +kernel
theorem dX7_runToLeave_33 : decode cX7_runToLeave 33 = .ok (.invokevirtual 322, 3) := by decide +kernel
theorem dX7_runToLeave_36 : decode cX7_runToLeave 36 = .ok (.pop, 1) := by decide +kernel
theorem dX7_runToLeave_37 : decode cX7_runToLeave 37 = .ok (.aload_n 0, 1) := by decide +kernel
theorem dX7_runToLeave_38 : decode cX7_runToLeave 38 = .ok (.getfield 10, 3) := by decide +kernel
theorem dX7_runToLeave_41 : decode cX7_runToLeave 41 = .ok (.getfield 113, 3) := by decide +kernel
theorem dX7_runToLeave_44 : decode cX7_runToLeave 44 = .ok (.iconst 3, 1) := by decide +kernel
theorem dX7_runToLeave_45 : decode cX7_runToLeave 45 = .ok (.iaload, 1) := by decide +kernel
theorem dX7_runToLeave_46 : decode cX7_runToLeave 46 = .ok (.iload_n 2, 1) := by decide +kernel
theorem dX7_runToLeave_47 : decode cX7_runToLeave 47 = .ok (.if_icmp .le 5, 3) := by decide +kernel
theorem dX7_runToLeave_52 : decode cX7_runToLeave 52 = .ok (.iinc 3 1, 3) := by decide +kernel
theorem dX7_runToLeave_55 : decode cX7_runToLeave 55 = .ok (.goto (-31), 3) := by decide +kernel
theorem dX7_runToLeave_58 : decode cX7_runToLeave 58 = .ok (.iconst (-1), 1) := by decide +kernel
theorem dX7_runToLeave_59 : decode cX7_runToLeave 59 = .ok (.ireturn, 1) := by decide +kernel
theorem dX7_copyOfLine_0 : decode cX7_copyOfLine 0 = .ok (.aload_n 0, 1) := by decide +kernel
theorem dX7_copyOfLine_1 : decode cX7_copyOfLine 1 = .ok (.getfield 16, 3) := by decide +kernel
theorem dX7_copyOfLine_4 : decode cX7_copyOfLine 4 = .ok (.aload_n 0, 1) := by decide +kernel
theorem dX7_copyOfLine_5 : decode cX7_copyOfLine 5 = .ok (.getfield 10, 3) := by decide +kernel
theorem dX7_copyOfLine_8 : decode cX7_copyOfLine 8 = .ok (.invokevirtual 78, 3) := by decide +kernel
theorem dX7_copyOfLine_11 : decode cX7_copyOfLine 11 = .ok (.aload_n 0, 1) := by decide +kernel
theorem dX7_copyOfLine_12 : decode cX7_copyOfLine 12 = .ok (.getfield 16, 3) := by decide +kernel
theorem dX7_copyOfLine_15 : decode cX7_copyOfLine 15 = .ok (.areturn, 1) := by decide +kernel
theorem dX7_ticksUntil_0 : decode cX7_ticksUntil 0 = .ok (.iconst 0, 1) := by decide +kernel
theorem dX7_ticksUntil_1 : decode cX7_ticksUntil 1 = .ok (.istore 4, 2) := by decide +kernel
theorem dX7_ticksUntil_3 : decode cX7_ticksUntil 3 = .ok (.iload 4, 2) := by decide +kernel
theorem dX7_ticksUntil_5 : decode cX7_ticksUntil 5 = .ok (.iload_n 3, 1) := by decide +kernel
theorem dX7_ticksUntil_6 : decode cX7_ticksUntil 6 = .ok (.if_icmp .gt 36, 3) := by decide +kernel
theorem dX7_ticksUntil_9 : decode cX7_ticksUntil 9 = .ok (.aload_n 0, 1) := by decide +kernel
theorem dX7_ticksUntil_10 : decode cX7_ticksUntil 10 = .ok (.aload_n 1, 1) := by decide +kernel
theorem dX7_ticksUntil_11 : decode cX7_ticksUntil 11 = .ok (.iload_n 2, 1) := by decide +kernel
theorem dX7_ticksUntil_12 : decode cX7_ticksUntil 12 = .ok (.invokevirtual 326, 3) := by decide +kernel
theorem dX7_ticksUntil_15 : decode cX7_ticksUntil 15 = .ok (.ifCond .eq 6, 3) := by decide +kernel
theorem dX7_ticksUntil_18 : decode cX7_ticksUntil 18 = .ok (.iload 4, 2) := by decide +kernel
theorem dX7_ticksUntil_20 : decode cX7_ticksUntil 20 = .ok (.ireturn, 1) := by decide +kernel
theorem dX7_copyBehind_0 : decode cX7_copyBehind 0 = .ok (.aload_n 0, 1) := by decide +kernel
theorem dX7_copyBehind_1 : decode cX7_copyBehind 1 = .ok (.invokevirtual 330, 3) := by decide +kernel
theorem dX7_copyBehind_4 : decode cX7_copyBehind 4 = .ok (.astore_n 2, 1) := by decide +kernel
theorem dX7_copyBehind_5 : decode cX7_copyBehind 5 = .ok (.iconst 1, 1) := by decide +kernel
theorem dX7_copyBehind_6 : decode cX7_copyBehind 6 = .ok (.istore_n 3, 1) := by decide +kernel
theorem dX7_copyBehind_7 : decode cX7_copyBehind 7 = .ok (.iconst 0, 1) := by decide +kernel
theorem dX7_copyBehind_8 : decode cX7_copyBehind 8 = .ok (.istore 4, 2) := by decide +kernel
theorem dX7_copyBehind_10 : decode cX7_copyBehind 10 = .ok (.iload 4, 2) := by decide +kernel
theorem dX7_copyBehind_12 : decode cX7_copyBehind 12 = .ok (.iload_n 1, 1) := by decide +kernel
theorem dX7_copyBehind_13 : decode cX7_copyBehind 13 = .ok (.if_icmp .ge 18, 3) := by decide +kernel
theorem dX7_copyBehind_16 : decode cX7_copyBehind 16 = .ok (.iload_n 3, 1) := by decide +kernel
theorem dX7_copyBehind_17 : decode cX7_copyBehind 17 = .ok (.ifCond .eq 14, 3) := by decide +kernel
theorem dX7_copyBehind_20 : decode cX7_copyBehind 20 = .ok (.aload_n 2, 1) := by decide +kernel
theorem dX7_copyBehind_21 : decode cX7_copyBehind 21 = .ok (.invokevirtual 322, 3) := by decide +kernel
theorem dX7_copyBehind_24 : decode cX7_copyBehind 24 = .ok (.istore_n 3, 1) := by decide +kernel
theorem dX7_copyBehind_25 : decode cX7_copyBehind 25 = .ok (.iinc 4 1, 3) := by decide +kernel
theorem dX7_copyBehind_28 : decode cX7_copyBehind 28 = .ok (.goto (-18), 3) := by decide +kernel
theorem dX7_copyBehind_31 : decode cX7_copyBehind 31 = .ok (.aload_n 2, 1) := by decide +kernel
theorem dX7_copyBehind_32 : decode cX7_copyBehind 32 = .ok (.areturn, 1) := by decide +kernel
theorem dX7_leavesIn_0 : decode cX7_leavesIn 0 = .ok (.aload_n 0, 1) := by decide +kernel
theorem dX7_leavesIn_1 : decode cX7_leavesIn 1 = .ok (.iload_n 1, 1) := by decide +kernel
theorem dX7_leavesIn_2 : decode cX7_leavesIn 2 = .ok (.invokevirtual 183, 3) := by decide +kernel
theorem dX7_lotIn_0 : decode cX7_lotIn 0 = .ok (.aload_n 0, 1) := by decide +kernel
theorem dX7_lotIn_1 : decode cX7_lotIn 1 = .ok (.iload_n 1, 1) := by decide +kernel
theorem dX7_lotIn_2 : decode cX7_lotIn 2 = .ok (.invokevirtual 214, 3) := by decide +kernel
theorem dX7_allIn_0 : decode cX7_allIn 0 = .ok (.aload_n 0, 1) := by decide +kernel
theorem dX7_allIn_1 : decode cX7_allIn 1 = .ok (.invokevirtual 330, 3) := by decide +kernel
theorem dX7_allIn_4 : decode cX7_allIn 4 = .ok (.getstatic 347, 3) := by decide +kernel
theorem dX7_allIn_7 : decode cX7_allIn 7 = .ok (.iconst (-1), 1) := by decide +kernel
theorem dX7_allIn_8 : decode cX7_allIn 8 = .ok (.sipush 2000, 3) := by decide +kernel
theorem dX7_allIn_11 : decode cX7_allIn 11 = .ok (.invokestatic 340, 3) := by decide +kernel
theorem dX7_allIn_14 : decode cX7_allIn 14 = .ok (.ireturn, 1) := by decide +kernel
theorem dX7_leftIn_0 : decode cX7_leftIn 0 = .ok (.iload_n 1, 1) := by decide +kernel
theorem dX7_leftIn_1 : decode cX7_leftIn 1 = .ok (.iconst 1, 1) := by decide +kernel
theorem dX7_leftIn_2 : decode cX7_leftIn 2 = .ok (.sipush 2000, 3) := by decide +kernel
theorem dX7_leftIn_5 : decode cX7_leftIn 5 = .ok (.invokestatic 251, 3) := by decide +kernel
theorem dX7_leftIn_8 : decode cX7_leftIn 8 = .ok (.aload_n 0, 1) := by decide +kernel
theorem dX7_leftIn_9 : decode cX7_leftIn 9 = .ok (.iload_n 1, 1) := by decide +kernel
theorem dX7_leftIn_10 : decode cX7_leftIn 10 = .ok (.invokevirtual 350, 3) := by decide +kernel
theorem dX7_leftIn_13 : decode cX7_leftIn 13 = .ok (.getfield 113, 3) := by decide +kernel
theorem dX7_leftIn_16 : decode cX7_leftIn 16 = .ok (.iconst 3, 1) := by decide +kernel
theorem dX7_leftIn_17 : decode cX7_leftIn 17 = .ok (.iaload, 1) := by decide +kernel
theorem dX7_leftIn_18 : decode cX7_leftIn 18 = .ok (.ireturn, 1) := by decide +kernel
theorem dX7_failIn_0 : decode cX7_failIn 0 = .ok (.aload_n 0, 1) := by decide +kernel
theorem dX7_failIn_1 : decode cX7_failIn 1 = .ok (.iload_n 1, 1) := by decide +kernel
theorem dX7_failIn_2 : decode cX7_failIn 2 = .ok (.invokevirtual 133, 3) := by decide +kernel
theorem dX7_blanksIn_0 : decode cX7_blanksIn 0 = .ok (.iload_n 1, 1) := by decide +kernel
theorem dX7_blanksIn_1 : decode cX7_blanksIn 1 = .ok (.iconst 1, 1) := by decide +kernel
theorem dX7_blanksIn_2 : decode cX7_blanksIn 2 = .ok (.sipush 2000, 3) := by decide +kernel
theorem dX7_blanksIn_5 : decode cX7_blanksIn 5 = .ok (.invokestatic 251, 3) := by decide +kernel
theorem dX7_blanksIn_8 : decode cX7_blanksIn 8 = .ok (.aload_n 0, 1) := by decide +kernel
theorem dX7_blanksIn_9 : decode cX7_blanksIn 9 = .ok (.iload_n 1, 1) := by decide +kernel
theorem dX7_blanksIn_10 : decode cX7_blanksIn 10 = .ok (.invokevirtual 350, 3) := by decide +kernel
theorem dX7_blanksIn_13 : decode cX7_blanksIn 13 = .ok (.getfield 110, 3) := by decide +kernel
theorem dX7_blanksIn_16 : decode cX7_blanksIn 16 = .ok (.ireturn, 1) := by decide +kernel
theorem dX7_restIn_0 : decode cX7_restIn 0 = .ok (.aload_n 0, 1) := by decide +kernel
theorem dX7_restIn_1 : decode cX7_restIn 1 = .ok (.iload_n 1, 1) := by decide +kernel
theorem dX7_restIn_2 : decode cX7_restIn 2 = .ok (.invokevirtual 133, 3) := by decide +kernel
theorem dX7_lotBy_0 : decode cX7_lotBy 0 = .ok (.iload_n 1, 1) := by decide +kernel
theorem dX7_lotBy_1 : decode cX7_lotBy 1 = .ok (.ifCond .lt 14, 3) := by decide +kernel
theorem dX7_lotBy_4 : decode cX7_lotBy 4 = .ok (.iload_n 1, 1) := by decide +kernel
theorem dX7_lotBy_5 : decode cX7_lotBy 5 = .ok (.aload_n 0, 1) := by decide +kernel
theorem dX7_lotBy_6 : decode cX7_lotBy 6 = .ok (.getfield 10, 3) := by decide +kernel
theorem dX7_lotBy_9 : decode cX7_lotBy 9 = .ok (.getfield 100, 3) := by decide +kernel
theorem dX7_lotBy_12 : decode cX7_lotBy 12 = .ok (.if_icmp .lt 5, 3) := by decide +kernel
theorem dX7_lotBy_15 : decode cX7_lotBy 15 = .ok (.iconst (-1), 1) := by decide +kernel
theorem dX7_lotBy_16 : decode cX7_lotBy 16 = .ok (.ireturn, 1) := by decide +kernel
theorem dX7_bestRank_0 : decode cX7_bestRank 0 = .ok (.aload_n 0, 1) := by decide +kernel
theorem dX7_bestRank_1 : decode cX7_bestRank 1 = .ok (.iload_n 1, 1) := by decide +kernel
theorem dX7_bestRank_2 : decode cX7_bestRank 2 = .ok (.invokevirtual 214, 3) := by decide +kernel
theorem dX7_bestTray_0 : decode cX7_bestTray 0 = .ok (.iconst (-1), 1) := by decide +kernel
theorem dX7_bestTray_1 : decode cX7_bestTray 1 = .ok (.istore_n 1, 1) := by decide +kernel
theorem dX7_bestTray_2 : decode cX7_bestTray 2 = .ok (.sipush 2000, 3) := by decide +kernel
theorem dX7_bestTray_5 : decode cX7_bestTray 5 = .ok (.istore_n 2, 1) := by decide +kernel
theorem dX7_bestTray_6 : decode cX7_bestTray 6 = .ok (.iconst 1, 1) := by decide +kernel
theorem dX7_bestTray_7 : decode cX7_bestTray 7 = .ok (.istore_n 3, 1) := by decide +kernel
theorem dX7_bestTray_8 : decode cX7_bestTray 8 = .ok (.iload_n 3, 1) := by decide +kernel
theorem dX7_bestTray_9 : decode cX7_bestTray 9 = .ok (.bipush 20, 2) := by decide +kernel
theorem dX7_bestTray_11 : decode cX7_bestTray 11 = .ok (.if_icmp .gt 50, 3) := by decide +kernel
theorem dX7_bestTray_14 : decode cX7_bestTray 14 = .ok (.iload_n 2, 1) := by decide +kernel
theorem dX7_bestTray_15 : decode cX7_bestTray 15 = .ok (.ifCond .lt 46, 3) := by decide +kernel
theorem dX7_bestTray_18 : decode cX7_bestTray 18 = .ok (.aload_n 0, 1) := by decide +kernel
theorem dX7_bestTray_19 : decode cX7_bestTray 19 = .ok (.invokevirtual 330, 3) := by decide +kernel
theorem dX7_bestTray_22 : decode cX7_bestTray 22 = .ok (.astore 4, 2) := by decide +kernel
theorem dX7_bestTray_24 : decode cX7_bestTray 24 = .ok (.aload 4, 2) := by decide +kernel
theorem dX7_bestTray_26 : decode cX7_bestTray 26 = .ok (.iload_n 3, 1) := by decide +kernel
theorem dX7_bestTray_27 : decode cX7_bestTray 27 = .ok (.putfield 121, 3) := by decide +kernel
theorem dX7_bestTray_30 : decode cX7_bestTray 30 = .ok (.aload 4, 2) := by decide +kernel
theorem dX7_bestTray_32 : decode cX7_bestTray 32 = .ok (.getstatic 347, 3) := by decide +kernel
theorem dX7_bestTray_35 : decode cX7_bestTray 35 = .ok (.iconst (-1), 1) := by decide +kernel
theorem dX7_bestTray_36 : decode cX7_bestTray 36 = .ok (.iload_n 2, 1) := by decide +kernel
theorem dX7_bestTray_37 : decode cX7_bestTray 37 = .ok (.invokestatic 340, 3) := by decide +kernel
theorem dX7_bestTray_40 : decode cX7_bestTray 40 = .ok (.istore 5, 2) := by decide +kernel
theorem dX7_bestTray_42 : decode cX7_bestTray 42 = .ok (.iload 5, 2) := by decide +kernel
theorem dX7_bestTray_44 : decode cX7_bestTray 44 = .ok (.iconst (-1), 1) := by decide +kernel
theorem dX7_bestTray_45 : decode cX7_bestTray 45 = .ok (.if_icmp .eq 10, 3) := by decide +kernel
theorem dX7_bestTray_48 : decode cX7_bestTray 48 = .ok (.iload_n 3, 1) := by decide +kernel
theorem dX7_bestTray_49 : decode cX7_bestTray 49 = .ok (.istore_n 1, 1) := by decide +kernel
theorem dX7_bestTray_50 : decode cX7_bestTray 50 = .ok (.iload 5, 2) := by decide +kernel
theorem dX7_bestTray_52 : decode cX7_bestTray 52 = .ok (.iconst 1, 1) := by decide +kernel
theorem dX7_bestTray_53 : decode cX7_bestTray 53 = .ok (.isub, 1) := by decide +kernel
theorem dX7_bestTray_54 : decode cX7_bestTray 54 = .ok (.istore_n 2, 1) := by decide +kernel
theorem dX7_bestTray_55 : decode cX7_bestTray 55 = .ok (.iinc 3 1, 3) := by decide +kernel
theorem dX7_bestTray_58 : decode cX7_bestTray 58 = .ok (.goto (-50), 3) := by decide +kernel
theorem dX7_bestTray_61 : decode cX7_bestTray 61 = .ok (.iload_n 1, 1) := by decide +kernel
theorem dX7_bestTray_62 : decode cX7_bestTray 62 = .ok (.ireturn, 1) := by decide +kernel
theorem dX7_writeCard_0 : decode cX7_writeCard 0 = .ok (.aload_n 0, 1) := by decide +kernel
theorem dX7_writeCard_1 : decode cX7_writeCard 1 = .ok (.iload_n 1, 1) := by decide +kernel
theorem dX7_writeCard_2 : decode cX7_writeCard 2 = .ok (.invokevirtual 183, 3) := by decide +kernel
theorem dX7_outputByte_0 : decode cX7_outputByte 0 = .ok (.iload_n 1, 1) := by decide +kernel
theorem dX7_outputByte_1 : decode cX7_outputByte 1 = .ok (.ifCond .lt 20, 3) := by decide +kernel
theorem dX7_outputByte_4 : decode cX7_outputByte 4 = .ok (.iload_n 1, 1) := by decide +kernel
theorem dX7_outputByte_5 : decode cX7_outputByte 5 = .ok (.aload_n 0, 1) := by decide +kernel
theorem dX7_outputByte_6 : decode cX7_outputByte 6 = .ok (.getfield 41, 3) := by decide +kernel
theorem dX7_outputByte_9 : decode cX7_outputByte 9 = .ok (.if_icmp .ge 12, 3) := by decide +kernel
theorem dX7_outputByte_21 : decode cX7_outputByte 21 = .ok (.iconst (-1), 1) := by decide +kernel
theorem dX7_outputByte_22 : decode cX7_outputByte 22 = .ok (.ireturn, 1) := by decide +kernel
theorem dX7_undo_0 : decode cX7_undo 0 = .ok (.aload_n 0, 1) := by decide +kernel
theorem dX7_undo_1 : decode cX7_undo 1 = .ok (.getfield 54, 3) := by decide +kernel
theorem dX7_undo_4 : decode cX7_undo 4 = .ok (.ifCond .ne 5, 3) := by decide +kernel
theorem dX7_undo_7 : decode cX7_undo 7 = .ok (.iconst (-1), 1) := by decide +kernel
theorem dX7_undo_8 : decode cX7_undo 8 = .ok (.ireturn, 1) := by decide +kernel
theorem dX7_saveSnapshot_0 : decode cX7_saveSnapshot 0 = .ok (.iload_n 1, 1) := by decide +kernel
theorem dX7_saveSnapshot_1 : decode cX7_saveSnapshot 1 = .ok (.iconst 0, 1) := by decide +kernel
theorem dX7_saveSnapshot_2 : decode cX7_saveSnapshot 2 = .ok (.iconst 1, 1) := by decide +kernel
theorem dX7_saveSnapshot_3 : decode cX7_saveSnapshot 3 = .ok (.invokestatic 251, 3) := by decide +kernel
theorem dX7_saveSnapshot_6 : decode cX7_saveSnapshot 6 = .ok (.aload_n 0, 1) := by decide +kernel
theorem dX7_saveSnapshot_7 : decode cX7_saveSnapshot 7 = .ok (.getfield 34, 3) := by decide +kernel
theorem dX7_saveSnapshot_10 : decode cX7_saveSnapshot 10 = .ok (.iload_n 1, 1) := by decide +kernel
theorem dX7_saveSnapshot_11 : decode cX7_saveSnapshot 11 = .ok (.aaload, 1) := by decide +kernel
theorem dX7_saveSnapshot_12 : decode cX7_saveSnapshot 12 = .ok (.ifnonnull 16, 3) := by decide +kernel
theorem dX7_saveSnapshot_15 : decode cX7_saveSnapshot 15 = .ok (.aload_n 0, 1) := by decide +kernel
theorem dX7_saveSnapshot_16 : decode cX7_saveSnapshot 16 = .ok (.getfield 34, 3) := by decide +kernel
theorem dX7_saveSnapshot_19 : decode cX7_saveSnapshot 19 = .ok (.iload_n 1, 1) := by decide +kernel
theorem dX7_saveSnapshot_20 : decode cX7_saveSnapshot 20 = .ok (.new 7, 3) := by decide +kernel
theorem dX7_saveSnapshot_23 : decode cX7_saveSnapshot 23 = .ok (.dup, 1) := by decide +kernel
theorem dX7_saveSnapshot_24 : decode cX7_saveSnapshot 24 = .ok (.invokespecial 9, 3) := by decide +kernel
theorem dX7_saveSnapshot_27 : decode cX7_saveSnapshot 27 = .ok (.aastore, 1) := by decide +kernel
theorem dX7_saveSnapshot_28 : decode cX7_saveSnapshot 28 = .ok (.aload_n 0, 1) := by decide +kernel
theorem dX7_saveSnapshot_29 : decode cX7_saveSnapshot 29 = .ok (.getfield 34, 3) := by decide +kernel
theorem dX7_saveSnapshot_32 : decode cX7_saveSnapshot 32 = .ok (.iload_n 1, 1) := by decide +kernel
theorem dX7_saveSnapshot_33 : decode cX7_saveSnapshot 33 = .ok (.aaload, 1) := by decide +kernel
theorem dX7_saveSnapshot_34 : decode cX7_saveSnapshot 34 = .ok (.aload_n 0, 1) := by decide +kernel
theorem dX7_saveSnapshot_35 : decode cX7_saveSnapshot 35 = .ok (.getfield 10, 3) := by decide +kernel
theorem dX7_saveSnapshot_38 : decode cX7_saveSnapshot 38 = .ok (.invokevirtual 78, 3) := by decide +kernel
theorem dX7_saveSnapshot_41 : decode cX7_saveSnapshot 41 = .ok (.aload_n 0, 1) := by decide +kernel
theorem dX7_saveSnapshot_42 : decode cX7_saveSnapshot 42 = .ok (.getfield 10, 3) := by decide +kernel
theorem dX7_saveSnapshot_45 : decode cX7_saveSnapshot 45 = .ok (.getfield 263, 3) := by decide +kernel
theorem dX7_saveSnapshot_48 : decode cX7_saveSnapshot 48 = .ok (.ireturn, 1) := by decide +kernel
theorem dX7_restoreSnapshot_0 : decode cX7_restoreSnapshot 0 = .ok (.iload_n 1, 1) := by decide +kernel
theorem dX7_restoreSnapshot_1 : decode cX7_restoreSnapshot 1 = .ok (.iconst 0, 1) := by decide +kernel
theorem dX7_restoreSnapshot_2 : decode cX7_restoreSnapshot 2 = .ok (.iconst 1, 1) := by decide +kernel
theorem dX7_restoreSnapshot_3 : decode cX7_restoreSnapshot 3 = .ok (.invokestatic 251, 3) := by decide +kernel
theorem dX7_restoreSnapshot_6 : decode cX7_restoreSnapshot 6 = .ok (.aload_n 0, 1) := by decide +kernel
theorem dX7_restoreSnapshot_7 : decode cX7_restoreSnapshot 7 = .ok (.getfield 34, 3) := by decide +kernel
theorem dX7_restoreSnapshot_10 : decode cX7_restoreSnapshot 10 = .ok (.iload_n 1, 1) := by decide +kernel
theorem dX7_restoreSnapshot_11 : decode cX7_restoreSnapshot 11 = .ok (.aaload, 1) := by decide +kernel
theorem dX7_restoreSnapshot_12 : decode cX7_restoreSnapshot 12 = .ok (.ifnonnull 5, 3) := by decide +kernel
theorem dX7_restoreSnapshot_15 : decode cX7_restoreSnapshot 15 = .ok (.iconst (-1), 1) := by decide +kernel
theorem dX7_restoreSnapshot_16 : decode cX7_restoreSnapshot 16 = .ok (.ireturn, 1) := by decide +kernel
theorem dX8_init_0 : decode cX8_init 0 = .ok (.aload_n 0, 1) := by decide +kernel
theorem dX8_init_1 : decode cX8_init 1 = .ok (.invokespecial 3, 3) := by decide +kernel
theorem dX8_init_4 : decode cX8_init 4 = .ok (.aload_n 0, 1) := by decide +kernel
theorem dX8_init_5 : decode cX8_init 5 = .ok (.sipush 1037, 3) := by decide +kernel
theorem dX8_init_8 : decode cX8_init 8 = .ok (.newarray .int, 2) := by decide +kernel
theorem dX8_init_10 : decode cX8_init 10 = .ok (.putfield 9, 3) := by decide +kernel
theorem dX8_init_13 : decode cX8_init 13 = .ok (.aload_n 0, 1) := by decide +kernel
theorem dX8_init_14 : decode cX8_init 14 = .ok (.sipush 1037, 3) := by decide +kernel
theorem dX8_init_17 : decode cX8_init 17 = .ok (.newarray .int, 2) := by decide +kernel
theorem dX8_init_19 : decode cX8_init 19 = .ok (.putfield 13, 3) := by decide +kernel
theorem dX8_init_22 : decode cX8_init 22 = .ok (.aload_n 0, 1) := by decide +kernel
theorem dX8_init_23 : decode cX8_init 23 = .ok (.sipush 8296, 3) := by decide +kernel
theorem dX8_init_26 : decode cX8_init 26 = .ok (.newarray .int, 2) := by decide +kernel
theorem dX8_init_28 : decode cX8_init 28 = .ok (.putfield 16, 3) := by decide +kernel
theorem dX8_init_31 : decode cX8_init 31 = .ok (.aload_n 0, 1) := by decide +kernel
theorem dX8_init_32 : decode cX8_init 32 = .ok (.sipush 2074, 3) := by decide +kernel
theorem dX8_init_35 : decode cX8_init 35 = .ok (.newarray .int, 2) := by decide +kernel
theorem dX8_init_37 : decode cX8_init 37 = .ok (.putfield 19, 3) := by decide +kernel
theorem dX8_init_40 : decode cX8_init 40 = .ok (.aload_n 0, 1) := by decide +kernel
theorem dX8_init_41 : decode cX8_init 41 = .ok (.iconst 2, 1) := by decide +kernel
theorem dX8_init_42 : decode cX8_init 42 = .ok (.newarray .boolean, 2) := by decide +kernel
theorem dX8_init_44 : decode cX8_init 44 = .ok (.putfield 22, 3) := by decide +kernel
theorem dX8_init_47 : decode cX8_init 47 = .ok (.aload_n 0, 1) := by decide +kernel
theorem dX8_init_48 : decode cX8_init 48 = .ok (.sipush 600, 3) := by decide +kernel
theorem dX8_init_51 : decode cX8_init 51 = .ok (.newarray .byte, 2) := by decide +kernel
theorem dX8_init_53 : decode cX8_init 53 = .ok (.putfield 26, 3) := by decide +kernel
theorem dX8_init_56 : decode cX8_init 56 = .ok (.aload_n 0, 1) := by decide +kernel
theorem dX8_init_57 : decode cX8_init 57 = .ok (.iconst (-1), 1) := by decide +kernel
theorem dX8_init_58 : decode cX8_init 58 = .ok (.putfield 30, 3) := by decide +kernel
theorem dX8_init_61 : decode cX8_init 61 = .ok (.aload_n 0, 1) := by decide +kernel
theorem dX8_init_62 : decode cX8_init 62 = .ok (.sipush 192, 3) := by decide +kernel
theorem dX8_init_65 : decode cX8_init 65 = .ok (.newarray .int, 2) := by decide +kernel
theorem dX8_init_67 : decode cX8_init 67 = .ok (.putfield 34, 3) := by decide +kernel
theorem dX8_init_70 : decode cX8_init 70 = .ok (.aload_n 0, 1) := by decide +kernel
theorem dX8_init_71 : decode cX8_init 71 = .ok (.iconst 4, 1) := by decide +kernel
theorem dX8_init_72 : decode cX8_init 72 = .ok (.newarray .int, 2) := by decide +kernel
theorem dX8_init_74 : decode cX8_init 74 = .ok (.putfield 37, 3) := by decide +kernel
theorem dX8_init_77 : decode cX8_init 77 = .ok (.aload_n 0, 1) := by decide +kernel
theorem dX8_init_78 : decode cX8_init 78 = .ok (.bipush 6, 2) := by decide +kernel
theorem dX8_init_80 : decode cX8_init 80 = .ok (.newarray .int, 2) := by decide +kernel
theorem dX8_init_82 : decode cX8_init 82 = .ok (.putfield 40, 3) := by decide +kernel
theorem dX8_init_85 : decode cX8_init 85 = .ok (.aload_n 0, 1) := by decide +kernel
theorem dX8_init_86 : decode cX8_init 86 = .ok (.bipush 16, 2) := by decide +kernel
theorem dX8_init_88 : decode cX8_init 88 = .ok (.newarray .byte, 2) := by decide +kernel
theorem dX8_init_90 : decode cX8_init 90 = .ok (.putfield 43, 3) := by decide +kernel
theorem dX8_init_93 : decode cX8_init 93 = .ok (.aload_n 0, 1) := by decide +kernel
theorem dX8_init_94 : decode cX8_init 94 = .ok (.invokevirtual 46, 3) := by decide +kernel
theorem dX8_init_97 : decode cX8_init 97 = .ok (.return_, 1) := by decide +kernel
theorem dX8_thrown_0 : decode cX8_thrown 0 = .ok (.aload_n 0, 1) := by decide +kernel
theorem dX8_thrown_1 : decode cX8_thrown 1 = .ok (.getfield 49, 3) := by decide +kernel
theorem dX8_thrown_4 : decode cX8_thrown 4 = .ok (.ireturn, 1) := by decide +kernel
theorem dX8_in_0 : decode cX8_in 0 = .ok (.lload_n 0, 1) := by decide +kernel
theorem dX8_in_1 : decode cX8_in 1 = .ok (.lload_n 2, 1) := by decide +kernel
theorem dX8_in_2 : decode cX8_in 2 = .ok (.lcmp, 1) := by decide +kernel
theorem dX8_in_3 : decode cX8_in 3 = .ok (.ifCond .lt 14, 3) := by decide +kernel
theorem dX8_in_6 : decode cX8_in 6 = .ok (.lload_n 0, 1) := by decide +kernel
theorem dX8_in_7 : decode cX8_in 7 = .ok (.lload 4, 2) := by decide +kernel
theorem dX8_in_9 : decode cX8_in 9 = .ok (.lcmp, 1) := by decide +kernel
theorem dX8_in_10 : decode cX8_in 10 = .ok (.ifCond .gt 7, 3) := by decide +kernel
theorem dX8_in_13 : decode cX8_in 13 = .ok (.iconst 1, 1) := by decide +kernel
theorem dX8_in_14 : decode cX8_in 14 = .ok (.goto 4, 3) := by decide +kernel
theorem dX8_in_17 : decode cX8_in 17 = .ok (.iconst 0, 1) := by decide +kernel
theorem dX8_in_18 : decode cX8_in 18 = .ok (.ireturn, 1) := by decide +kernel
theorem dX8_copies_0 : decode cX8_copies 0 = .ok (.iconst 0, 1) := by decide +kernel
theorem dX8_copies_1 : decode cX8_copies 1 = .ok (.istore 4, 2) := by decide +kernel
theorem dX8_copies_3 : decode cX8_copies 3 = .ok (.iload 4, 2) := by decide +kernel
theorem dX8_copies_5 : decode cX8_copies 5 = .ok (.sipush 1037, 3) := by decide +kernel
theorem dX8_copies_8 : decode cX8_copies 8 = .ok (.if_icmp .ge 29, 3) := by decide +kernel
theorem dX8_copies_11 : decode cX8_copies 11 = .ok (.aload_n 2, 1) := by decide +kernel
theorem dX8_copies_12 : decode cX8_copies 12 = .ok (.sipush 1037, 3) := by decide +kernel
theorem dX8_copies_15 : decode cX8_copies 15 = .ok (.iload_n 3, 1) := by decide +kernel
theorem dX8_copies_16 : decode cX8_copies 16 = .ok (.imul, 1) := by decide +kernel
theorem dX8_copies_17 : decode cX8_copies 17 = .ok (.iload 4, 2) := by decide +kernel
theorem dX8_copies_19 : decode cX8_copies 19 = .ok (.iadd, 1) := by decide +kernel
theorem dX8_copies_20 : decode cX8_copies 20 = .ok (.aload_n 0, 1) := by decide +kernel
theorem dX8_copies_21 : decode cX8_copies 21 = .ok (.sipush 1037, 3) := by decide +kernel
theorem dX8_copies_24 : decode cX8_copies 24 = .ok (.iload_n 1, 1) := by decide +kernel
theorem dX8_copies_25 : decode cX8_copies 25 = .ok (.imul, 1) := by decide +kernel
theorem dX8_copies_26 : decode cX8_copies 26 = .ok (.iload 4, 2) := by decide +kernel
theorem dX8_copies_28 : decode cX8_copies 28 = .ok (.iadd, 1) := by decide +kernel
theorem dX8_copies_29 : decode cX8_copies 29 = .ok (.iaload, 1) := by decide +kernel
theorem dX8_copies_30 : decode cX8_copies 30 = .ok (.iastore, 1) := by decide +kernel
theorem dX8_copies_31 : decode cX8_copies 31 = .ok (.iinc 4 1, 3) := by decide +kernel
theorem dX8_copies_34 : decode cX8_copies 34 = .ok (.goto (-31), 3) := by decide +kernel
theorem dX8_copies_37 : decode cX8_copies 37 = .ok (.return_, 1) := by decide +kernel
theorem dX8_begins_0 : decode cX8_begins 0 = .ok (.iconst 0, 1) := by decide +kernel
theorem dX8_begins_1 : decode cX8_begins 1 = .ok (.istore_n 1, 1) := by decide +kernel
theorem dX8_begins_2 : decode cX8_begins 2 = .ok (.iload_n 1, 1) := by decide +kernel
theorem dX8_begins_3 : decode cX8_begins 3 = .ok (.sipush 1037, 3) := by decide +kernel
theorem dX8_begins_6 : decode cX8_begins 6 = .ok (.if_icmp .ge 16, 3) := by decide +kernel
theorem dX8_begins_9 : decode cX8_begins 9 = .ok (.aload_n 0, 1) := by decide +kernel
theorem dX8_begins_10 : decode cX8_begins 10 = .ok (.getfield 9, 3) := by decide +kernel
theorem dX8_begins_13 : decode cX8_begins 13 = .ok (.iload_n 1, 1) := by decide +kernel
theorem dX8_begins_14 : decode cX8_begins 14 = .ok (.iconst 0, 1) := by decide +kernel
theorem dX8_begins_15 : decode cX8_begins 15 = .ok (.iastore, 1) := by decide +kernel
theorem dX8_begins_16 : decode cX8_begins 16 = .ok (.iinc 1 1, 3) := by decide +kernel
theorem dX8_begins_19 : decode cX8_begins 19 = .ok (.goto (-17), 3) := by decide +kernel
theorem dX8_begins_22 : decode cX8_begins 22 = .ok (.aload_n 0, 1) := by decide +kernel
theorem dX8_begins_23 : decode cX8_begins 23 = .ok (.getfield 9, 3) := by decide +kernel
theorem dX8_begins_26 : decode cX8_begins 26 = .ok (.iconst 0, 1) := by decide +kernel
theorem dX8_begins_27 : decode cX8_begins 27 = .ok (.sipush 480, 3) := by decide +kernel
theorem dX8_begins_30 : decode cX8_begins 30 = .ok (.iastore, 1) := by decide +kernel
theorem dX8_begins_31 : decode cX8_begins 31 = .ok (.aload_n 0, 1) := by decide +kernel
theorem dX8_begins_32 : decode cX8_begins 32 = .ok (.getfield 9, 3) := by decide +kernel
theorem dX8_begins_35 : decode cX8_begins 35 = .ok (.iconst 1, 1) := by decide +kernel
theorem dX8_begins_36 : decode cX8_begins 36 = .ok (.iconst 1, 1) := by decide +kernel
theorem dX8_begins_37 : decode cX8_begins 37 = .ok (.iastore, 1) := by decide +kernel
theorem dX8_begins_38 : decode cX8_begins 38 = .ok (.aload_n 0, 1) := by decide +kernel
theorem dX8_begins_39 : decode cX8_begins 39 = .ok (.getfield 9, 3) := by decide +kernel
theorem dX8_begins_42 : decode cX8_begins 42 = .ok (.iconst 2, 1) := by decide +kernel
theorem dX8_begins_43 : decode cX8_begins 43 = .ok (.iconst 1, 1) := by decide +kernel
theorem dX8_begins_44 : decode cX8_begins 44 = .ok (.iastore, 1) := by decide +kernel
theorem dX8_begins_45 : decode cX8_begins 45 = .ok (.return_, 1) := by decide +kernel
theorem dX8_isThrown_0 : decode cX8_isThrown 0 = .ok (.aload_n 0, 1) := by decide +kernel
theorem dX8_isThrown_1 : decode cX8_isThrown 1 = .ok (.iload_n 1, 1) := by decide +kernel
theorem dX8_isThrown_2 : decode cX8_isThrown 2 = .ok (.ifCond .eq 7, 3) := by decide +kernel
theorem dX8_isThrown_5 : decode cX8_isThrown 5 = .ok (.iconst 0, 1) := by decide +kernel
theorem dX8_isThrown_6 : decode cX8_isThrown 6 = .ok (.goto 4, 3) := by decide +kernel
theorem dX8_isThrown_9 : decode cX8_isThrown 9 = .ok (.iload_n 2, 1) := by decide +kernel
theorem dX8_isThrown_10 : decode cX8_isThrown 10 = .ok (.putfield 49, 3) := by decide +kernel
theorem dX8_isThrown_13 : decode cX8_isThrown 13 = .ok (.iload_n 1, 1) := by decide +kernel
theorem dX8_isThrown_14 : decode cX8_isThrown 14 = .ok (.ifCond .ne 7, 3) := by decide +kernel
theorem dX8_isThrown_17 : decode cX8_isThrown 17 = .ok (.iconst 1, 1) := by decide +kernel
theorem dX8_isThrown_18 : decode cX8_isThrown 18 = .ok (.goto 4, 3) := by decide +kernel
theorem dX8_isThrown_21 : decode cX8_isThrown 21 = .ok (.iconst 0, 1) := by decide +kernel
theorem dX8_isThrown_22 : decode cX8_isThrown 22 = .ok (.ireturn, 1) := by decide +kernel
theorem dX8_ofLot_0 : decode cX8_ofLot 0 = .ok (.aload_n 0, 1) := by decide +kernel
theorem dX8_ofLot_1 : decode cX8_ofLot 1 = .ok (.getfield 9, 3) := by decide +kernel
theorem dX8_ofLot_4 : decode cX8_ofLot 4 = .ok (.bipush 113, 2) := by decide +kernel
theorem dX8_ofLot_6 : decode cX8_ofLot 6 = .ok (.iconst 4, 1) := by decide +kernel
theorem dX8_ofLot_7 : decode cX8_ofLot 7 = .ok (.iload_n 1, 1) := by decide +kernel
theorem dX8_ofLot_8 : decode cX8_ofLot 8 = .ok (.imul, 1) := by decide +kernel
theorem dX8_ofLot_9 : decode cX8_ofLot 9 = .ok (.iadd, 1) := by decide +kernel
theorem dX8_ofLot_10 : decode cX8_ofLot 10 = .ok (.iload_n 2, 1) := by decide +kernel
theorem dX8_ofLot_11 : decode cX8_ofLot 11 = .ok (.iadd, 1) := by decide +kernel
theorem dX8_ofLot_12 : decode cX8_ofLot 12 = .ok (.iaload, 1) := by decide +kernel
theorem dX8_ofLot_13 : decode cX8_ofLot 13 = .ok (.ireturn, 1) := by decide +kernel
theorem dX8_isStation_0 : decode cX8_isStation 0 = .ok (.iload_n 1, 1) := by decide +kernel
theorem dX8_isStation_1 : decode cX8_isStation 1 = .ok (.i2l, 1) := by decide +kernel
theorem dX8_isStation_2 : decode cX8_isStation 2 = .ok (.lconst 0, 1) := by decide +kernel
theorem dX8_isStation_3 : decode cX8_isStation 3 = .ok (.aload_n 0, 1) := by decide +kernel
theorem dX8_isStation_4 : decode cX8_isStation 4 = .ok (.getfield 9, 3) := by decide +kernel
theorem dX8_isStation_7 : decode cX8_isStation 7 = .ok (.bipush 7, 2) := by decide +kernel
theorem dX8_isStation_9 : decode cX8_isStation 9 = .ok (.iaload, 1) := by decide +kernel
theorem dX8_isStation_10 : decode cX8_isStation 10 = .ok (.iconst 1, 1) := by decide +kernel
theorem dX8_isStation_11 : decode cX8_isStation 11 = .ok (.isub, 1) := by decide +kernel
theorem dX8_isStation_12 : decode cX8_isStation 12 = .ok (.i2l, 1) := by decide +kernel
theorem dX8_isStation_13 : decode cX8_isStation 13 = .ok (.invokestatic 52, 3) := by decide +kernel
theorem dX8_isStation_16 : decode cX8_isStation 16 = .ok (.ireturn, 1) := by decide +kernel
theorem dX8_isLot_0 : decode cX8_isLot 0 = .ok (.iload_n 1, 1) := by decide +kernel
theorem dX8_isLot_1 : decode cX8_isLot 1 = .ok (.i2l, 1) := by decide +kernel
theorem dX8_isLot_2 : decode cX8_isLot 2 = .ok (.lconst 0, 1) := by decide +kernel
theorem dX8_isLot_3 : decode cX8_isLot 3 = .ok (.aload_n 0, 1) := by decide +kernel
theorem dX8_isLot_4 : decode cX8_isLot 4 = .ok (.getfield 9, 3) := by decide +kernel
theorem dX8_isLot_7 : decode cX8_isLot 7 = .ok (.bipush 8, 2) := by decide +kernel
theorem dX8_isLot_9 : decode cX8_isLot 9 = .ok (.iaload, 1) := by decide +kernel
theorem dX8_isLot_10 : decode cX8_isLot 10 = .ok (.iconst 1, 1) := by decide +kernel
theorem dX8_isLot_11 : decode cX8_isLot 11 = .ok (.isub, 1) := by decide +kernel
theorem dX8_isLot_12 : decode cX8_isLot 12 = .ok (.i2l, 1) := by decide +kernel
theorem dX8_isLot_13 : decode cX8_isLot 13 = .ok (.invokestatic 52, 3) := by decide +kernel
theorem dX8_isLot_16 : decode cX8_isLot 16 = .ok (.ireturn, 1) := by decide +kernel
theorem dX8_isCard_0 : decode cX8_isCard 0 = .ok (.iload_n 1, 1) := by decide +kernel
theorem dX8_isCard_1 : decode cX8_isCard 1 = .ok (.i2l, 1) := by decide +kernel
theorem dX8_isCard_2 : decode cX8_isCard 2 = .ok (.lconst 0, 1) := by decide +kernel
theorem dX8_isCard_3 : decode cX8_isCard 3 = .ok (.aload_n 0, 1) := by decide +kernel
theorem dX8_isCard_4 : decode cX8_isCard 4 = .ok (.getfield 9, 3) := by decide +kernel
theorem dX8_isCard_7 : decode cX8_isCard 7 = .ok (.bipush 9, 2) := by decide +kernel
theorem dX8_isCard_9 : decode cX8_isCard 9 = .ok (.iaload, 1) := by decide +kernel
theorem dX8_isCard_10 : decode cX8_isCard 10 = .ok (.iconst 1, 1) := by decide +kernel
theorem dX8_isCard_11 : decode cX8_isCard 11 = .ok (.isub, 1) := by decide +kernel
theorem dX8_isCard_12 : decode cX8_isCard 12 = .ok (.i2l, 1) := by decide +kernel
theorem dX8_isCard_13 : decode cX8_isCard 13 = .ok (.invokestatic 52, 3) := by decide +kernel
theorem dX8_isCard_16 : decode cX8_isCard 16 = .ok (.ireturn, 1) := by decide +kernel
theorem dX8_byteOf_0 : decode cX8_byteOf 0 = .ok (.lload_n 0, 1) := by decide +kernel
theorem dX8_byteOf_1 : decode cX8_byteOf 1 = .ok (.bipush 8, 2) := by decide +kernel
theorem dX8_byteOf_3 : decode cX8_byteOf 3 = .ok (.bipush 7, 2) := by decide +kernel
theorem dX8_byteOf_5 : decode cX8_byteOf 5 = .ok (.iload_n 2, 1) := by decide +kernel
theorem dX8_byteOf_6 : decode cX8_byteOf 6 = .ok (.isub, 1) := by decide +kernel
theorem dX8_byteOf_7 : decode cX8_byteOf 7 = .ok (.imul, 1) := by decide +kernel
theorem dX8_byteOf_8 : decode cX8_byteOf 8 = .ok (.lshr, 1) := by decide +kernel
theorem dX8_byteOf_9 : decode cX8_byteOf 9 = .ok (.ldc2_w 56, 3) := by decide +kernel
theorem dX8_byteOf_12 : decode cX8_byteOf 12 = .ok (.land, 1) := by decide +kernel
theorem dX8_byteOf_13 : decode cX8_byteOf 13 = .ok (.l2i, 1) := by decide +kernel
theorem dX8_byteOf_14 : decode cX8_byteOf 14 = .ok (.ireturn, 1) := by decide +kernel
theorem dX8_append_0 : decode cX8_append 0 = .ok (.aload_n 0, 1) := by decide +kernel
theorem dX8_append_1 : decode cX8_append 1 = .ok (.iconst 0, 1) := by decide +kernel
theorem dX8_append_2 : decode cX8_append 2 = .ok (.putfield 49, 3) := by decide +kernel
theorem dX8_append_5 : decode cX8_append 5 = .ok (.iconst 0, 1) := by decide +kernel
theorem dX8_append_6 : decode cX8_append 6 = .ok (.istore_n 3, 1) := by decide +kernel
theorem dX8_append_7 : decode cX8_append 7 = .ok (.iconst 0, 1) := by decide +kernel
theorem dX8_append_8 : decode cX8_append 8 = .ok (.istore 4, 2) := by decide +kernel
theorem dX8_append_10 : decode cX8_append 10 = .ok (.iload 4, 2) := by decide +kernel
theorem dX8_append_12 : decode cX8_append 12 = .ok (.bipush 8, 2) := by decide +kernel
theorem dX8_append_14 : decode cX8_append 14 = .ok (.if_icmp .ge 26, 3) := by decide +kernel
theorem dX8_append_17 : decode cX8_append 17 = .ok (.iload_n 3, 1) := by decide +kernel
theorem dX8_append_18 : decode cX8_append 18 = .ok (.lload_n 1, 1) := by decide +kernel
theorem dX8_append_19 : decode cX8_append 19 = .ok (.iload 4, 2) := by decide +kernel
theorem dX8_append_21 : decode cX8_append 21 = .ok (.invokestatic 58, 3) := by decide +kernel
theorem dX8_append_24 : decode cX8_append 24 = .ok (.ifCond .ne 7, 3) := by decide +kernel
theorem dX8_append_27 : decode cX8_append 27 = .ok (.iconst 0, 1) := by decide +kernel
theorem dX8_append_28 : decode cX8_append 28 = .ok (.goto 4, 3) := by decide +kernel
theorem dX8_append_31 : decode cX8_append 31 = .ok (.iconst 1, 1) := by decide +kernel
theorem dX8_append_32 : decode cX8_append 32 = .ok (.iadd, 1) := by decide +kernel
theorem dX8_append_33 : decode cX8_append 33 = .ok (.istore_n 3, 1) := by decide +kernel
theorem dX8_append_34 : decode cX8_append 34 = .ok (.iinc 4 1, 3) := by decide +kernel
theorem dX8_append_37 : decode cX8_append 37 = .ok (.goto (-27), 3) := by decide +kernel
theorem dX8_append_40 : decode cX8_append 40 = .ok (.aload_n 0, 1) := by decide +kernel
theorem dX8_append_41 : decode cX8_append 41 = .ok (.getfield 62, 3) := by decide +kernel
theorem dX8_append_44 : decode cX8_append 44 = .ok (.iload_n 3, 1) := by decide +kernel
theorem dX8_append_45 : decode cX8_append 45 = .ok (.iadd, 1) := by decide +kernel
theorem dX8_append_46 : decode cX8_append 46 = .ok (.sipush 600, 3) := by decide +kernel
theorem dX8_append_49 : decode cX8_append 49 = .ok (.if_icmp .le 6, 3) := by decide +kernel
theorem dX8_append_55 : decode cX8_append 55 = .ok (.iconst 0, 1) := by decide +kernel
theorem dX8_append_56 : decode cX8_append 56 = .ok (.istore 4, 2) := by decide +kernel
theorem dX8_append_58 : decode cX8_append 58 = .ok (.iload 4, 2) := by decide +kernel
theorem dX8_append_60 : decode cX8_append 60 = .ok (.bipush 8, 2) := by decide +kernel
theorem dX8_append_62 : decode cX8_append 62 = .ok (.if_icmp .ge 44, 3) := by decide +kernel
theorem dX8_append_65 : decode cX8_append 65 = .ok (.lload_n 1, 1) := by decide +kernel
theorem dX8_append_66 : decode cX8_append 66 = .ok (.iload 4, 2) := by decide +kernel
theorem dX8_append_68 : decode cX8_append 68 = .ok (.invokestatic 58, 3) := by decide +kernel
theorem dX8_append_71 : decode cX8_append 71 = .ok (.ifCond .eq 29, 3) := by decide +kernel
theorem dX8_append_74 : decode cX8_append 74 = .ok (.aload_n 0, 1) := by decide +kernel
theorem dX8_append_75 : decode cX8_append 75 = .ok (.getfield 26, 3) := by decide +kernel
theorem dX8_append_78 : decode cX8_append 78 = .ok (.aload_n 0, 1) := by decide +kernel
theorem dX8_append_79 : decode cX8_append 79 = .ok (.getfield 62, 3) := by decide +kernel
theorem dX8_append_82 : decode cX8_append 82 = .ok (.lload_n 1, 1) := by decide +kernel
theorem dX8_append_83 : decode cX8_append 83 = .ok (.iload 4, 2) := by decide +kernel
theorem dX8_append_85 : decode cX8_append 85 = .ok (.invokestatic 58, 3) := by decide +kernel
theorem dX8_append_88 : decode cX8_append 88 = .ok (.i2b, 1) := by decide +kernel
theorem dX8_append_89 : decode cX8_append 89 = .ok (.bastore, 1) := by decide +kernel
theorem dX8_append_90 : decode cX8_append 90 = .ok (.aload_n 0, 1) := by decide +kernel
theorem dX8_append_91 : decode cX8_append 91 = .ok (.dup, 1) := by decide +kernel
theorem dX8_append_92 : decode cX8_append 92 = .ok (.getfield 62, 3) := by decide +kernel
theorem dX8_append_95 : decode cX8_append 95 = .ok (.iconst 1, 1) := by decide +kernel
theorem dX8_append_96 : decode cX8_append 96 = .ok (.iadd, 1) := by decide +kernel
theorem dX8_append_97 : decode cX8_append 97 = .ok (.putfield 62, 3) := by decide +kernel
theorem dX8_append_100 : decode cX8_append 100 = .ok (.iinc 4 1, 3) := by decide +kernel
theorem dX8_append_103 : decode cX8_append 103 = .ok (.goto (-45), 3) := by decide +kernel
theorem dX8_append_106 : decode cX8_append 106 = .ok (.aload_n 0, 1) := by decide +kernel
theorem dX8_append_107 : decode cX8_append 107 = .ok (.getfield 62, 3) := by decide +kernel
theorem dX8_append_110 : decode cX8_append 110 = .ok (.ireturn, 1) := by decide +kernel
theorem dX8_here_0 : decode cX8_here 0 = .ok (.aload_n 0, 1) := by decide +kernel
theorem dX8_here_1 : decode cX8_here 1 = .ok (.getfield 65, 3) := by decide +kernel
theorem dX8_here_4 : decode cX8_here 4 = .ok (.aload_n 0, 1) := by decide +kernel
theorem dX8_here_5 : decode cX8_here 5 = .ok (.getfield 62, 3) := by decide +kernel
theorem dX8_here_8 : decode cX8_here 8 = .ok (.if_icmp .ge 19, 3) := by decide +kernel
theorem dX8_here_27 : decode cX8_here 27 = .ok (.iconst (-1), 1) := by decide +kernel
theorem dX8_here_28 : decode cX8_here 28 = .ok (.ireturn, 1) := by decide +kernel
theorem dX8_next_0 : decode cX8_next 0 = .ok (.aload_n 0, 1) := by decide +kernel
theorem dX8_next_1 : decode cX8_next 1 = .ok (.invokevirtual 68, 3) := by decide +kernel
theorem dX8_next_4 : decode cX8_next 4 = .ok (.bipush 32, 2) := by decide +kernel
theorem dX8_next_6 : decode cX8_next 6 = .ok (.if_icmp .ne 16, 3) := by decide +kernel
theorem dX8_next_22 : decode cX8_next 22 = .ok (.aload_n 0, 1) := by decide +kernel
theorem dX8_next_23 : decode cX8_next 23 = .ok (.aload_n 0, 1) := by decide +kernel
theorem dX8_next_24 : decode cX8_next 24 = .ok (.getfield 65, 3) := by decide +kernel
theorem dX8_next_27 : decode cX8_next 27 = .ok (.putfield 72, 3) := by decide +kernel
theorem dX8_next_30 : decode cX8_next 30 = .ok (.aload_n 0, 1) := by decide +kernel
theorem dX8_next_31 : decode cX8_next 31 = .ok (.invokevirtual 68, 3) := by decide +kernel
theorem dX8_next_34 : decode cX8_next 34 = .ok (.ireturn, 1) := by decide +kernel
theorem dX8_fails_0 : decode cX8_fails 0 = .ok (.aload_n 0, 1) := by decide +kernel
theorem dX8_fails_1 : decode cX8_fails 1 = .ok (.getfield 75, 3) := by decide +kernel
theorem dX8_fails_4 : decode cX8_fails 4 = .ok (.ifCond .ne 16, 3) := by decide +kernel
theorem dX8_fails_7 : decode cX8_fails 7 = .ok (.aload_n 0, 1) := by decide +kernel
theorem dX8_fails_8 : decode cX8_fails 8 = .ok (.iload_n 1, 1) := by decide +kernel
theorem dX8_fails_9 : decode cX8_fails 9 = .ok (.putfield 75, 3) := by decide +kernel
theorem dX8_fails_12 : decode cX8_fails 12 = .ok (.aload_n 0, 1) := by decide +kernel
theorem dX8_fails_13 : decode cX8_fails 13 = .ok (.aload_n 0, 1) := by decide +kernel
theorem dX8_fails_14 : decode cX8_fails 14 = .ok (.getfield 72, 3) := by decide +kernel
theorem dX8_fails_17 : decode cX8_fails 17 = .ok (.putfield 78, 3) := by decide +kernel
theorem dX8_fails_20 : decode cX8_fails 20 = .ok (.return_, 1) := by decide +kernel
theorem dX8_reads_0 : decode cX8_reads 0 = .ok (.aload_n 0, 1) := by decide +kernel
theorem dX8_reads_1 : decode cX8_reads 1 = .ok (.invokevirtual 81, 3) := by decide +kernel
theorem dX8_reads_4 : decode cX8_reads 4 = .ok (.pop, 1) := by decide +kernel
theorem dX8_reads_5 : decode cX8_reads 5 = .ok (.aload_n 0, 1) := by decide +kernel
theorem dX8_reads_6 : decode cX8_reads 6 = .ok (.invokevirtual 68, 3) := by decide +kernel
theorem dX8_reads_9 : decode cX8_reads 9 = .ok (.i2l, 1) := by decide +kernel
theorem dX8_reads_10 : decode cX8_reads 10 = .ok (.ldc2_w 84, 3) := by decide +kernel
theorem dX8_reads_13 : decode cX8_reads 13 = .ok (.ldc2_w 86, 3) := by decide +kernel
theorem dX8_reads_16 : decode cX8_reads 16 = .ok (.invokestatic 52, 3) := by decide +kernel
theorem dX8_reads_19 : decode cX8_reads 19 = .ok (.ifCond .eq 16, 3) := by decide +kernel
theorem dX8_reads_35 : decode cX8_reads 35 = .ok (.return_, 1) := by decide +kernel
theorem dX8_isWord_0 : decode cX8_isWord 0 = .ok (.aload_n 0, 1) := by decide +kernel
theorem dX8_isWord_1 : decode cX8_isWord 1 = .ok (.getfield 65, 3) := by decide +kernel
theorem dX8_isWord_4 : decode cX8_isWord 4 = .ok (.aload_n 0, 1) := by decide +kernel
theorem dX8_isWord_5 : decode cX8_isWord 5 = .ok (.getfield 72, 3) := by decide +kernel
theorem dX8_isWord_8 : decode cX8_isWord 8 = .ok (.isub, 1) := by decide +kernel
theorem dX8_isWord_9 : decode cX8_isWord 9 = .ok (.aload_n 1, 1) := by decide +kernel
theorem dX8_isWord_10 : decode cX8_isWord 10 = .ok (.invokevirtual 88, 3) := by decide +kernel
theorem dX8_isWord_13 : decode cX8_isWord 13 = .ok (.if_icmp .ne 7, 3) := by decide +kernel
theorem dX8_isWord_20 : decode cX8_isWord 20 = .ok (.iconst 0, 1) := by decide +kernel
theorem dX8_isWord_21 : decode cX8_isWord 21 = .ok (.istore_n 2, 1) := by decide +kernel
theorem dX8_isWord_22 : decode cX8_isWord 22 = .ok (.iconst 0, 1) := by decide +kernel
theorem dX8_isWord_23 : decode cX8_isWord 23 = .ok (.istore_n 3, 1) := by decide +kernel
theorem dX8_isWord_24 : decode cX8_isWord 24 = .ok (.iload_n 2, 1) := by decide +kernel
theorem dX8_isWord_25 : decode cX8_isWord 25 = .ok (.ifCond .eq 42, 3) := by decide +kernel
theorem dX8_isWord_67 : decode cX8_isWord 67 = .ok (.iload_n 2, 1) := by decide +kernel
theorem dX8_isWord_68 : decode cX8_isWord 68 = .ok (.ireturn, 1) := by decide +kernel
theorem dX8_number_0 : decode cX8_number 0 = .ok (.aload_n 0, 1) := by decide +kernel
theorem dX8_number_1 : decode cX8_number 1 = .ok (.getfield 75, 3) := by decide +kernel
theorem dX8_number_4 : decode cX8_number 4 = .ok (.ifCond .eq 5, 3) := by decide +kernel
theorem dX8_number_7 : decode cX8_number 7 = .ok (.iload_n 1, 1) := by decide +kernel
theorem dX8_number_8 : decode cX8_number 8 = .ok (.ireturn, 1) := by decide +kernel
theorem dX8_linePart_0 : decode cX8_linePart 0 = .ok (.aload_n 0, 1) := by decide +kernel
theorem dX8_linePart_1 : decode cX8_linePart 1 = .ok (.invokevirtual 140, 3) := by decide +kernel
theorem dX8_linePart_4 : decode cX8_linePart 4 = .ok (.aload_n 0, 1) := by decide +kernel
theorem dX8_linePart_5 : decode cX8_linePart 5 = .ok (.ldc 143, 2) := by decide +kernel
theorem dX8_linePart_7 : decode cX8_linePart 7 = .ok (.invokevirtual 145, 3) := by decide +kernel
theorem dX8_linePart_10 : decode cX8_linePart 10 = .ok (.ifCond .ne 8, 3) := by decide +kernel
theorem dX8_linePart_13 : decode cX8_linePart 13 = .ok (.aload_n 0, 1) := by decide +kernel
theorem dX8_linePart_14 : decode cX8_linePart 14 = .ok (.iconst 1, 1) := by decide +kernel
theorem dX8_linePart_15 : decode cX8_linePart 15 = .ok (.invokevirtual 100, 3) := by decide +kernel
theorem dX8_linePart_18 : decode cX8_linePart 18 = .ok (.aload_n 0, 1) := by decide +kernel
theorem dX8_linePart_19 : decode cX8_linePart 19 = .ok (.getfield 9, 3) := by decide +kernel
theorem dX8_linePart_22 : decode cX8_linePart 22 = .ok (.iconst 0, 1) := by decide +kernel
theorem dX8_linePart_23 : decode cX8_linePart 23 = .ok (.aload_n 0, 1) := by decide +kernel
theorem dX8_linePart_24 : decode cX8_linePart 24 = .ok (.iconst 1, 1) := by decide +kernel
theorem dX8_linePart_25 : decode cX8_linePart 25 = .ok (.sipush 2000, 3) := by decide +kernel
theorem dX8_linePart_28 : decode cX8_linePart 28 = .ok (.invokevirtual 121, 3) := by decide +kernel
theorem dX8_linePart_31 : decode cX8_linePart 31 = .ok (.iastore, 1) := by decide +kernel
theorem dX8_linePart_32 : decode cX8_linePart 32 = .ok (.aload_n 0, 1) := by decide +kernel
theorem dX8_linePart_33 : decode cX8_linePart 33 = .ok (.getfield 9, 3) := by decide +kernel
theorem dX8_linePart_36 : decode cX8_linePart 36 = .ok (.iconst 3, 1) := by decide +kernel
theorem dX8_linePart_37 : decode cX8_linePart 37 = .ok (.aload_n 0, 1) := by decide +kernel
theorem dX8_linePart_38 : decode cX8_linePart 38 = .ok (.iconst 0, 1) := by decide +kernel
theorem dX8_linePart_39 : decode cX8_linePart 39 = .ok (.sipush 999, 3) := by decide +kernel
theorem dX8_linePart_42 : decode cX8_linePart 42 = .ok (.invokevirtual 121, 3) := by decide +kernel
theorem dX8_linePart_45 : decode cX8_linePart 45 = .ok (.iastore, 1) := by decide +kernel
theorem dX8_linePart_46 : decode cX8_linePart 46 = .ok (.aload_n 0, 1) := by decide +kernel
theorem dX8_linePart_47 : decode cX8_linePart 47 = .ok (.getfield 9, 3) := by decide +kernel
theorem dX8_linePart_50 : decode cX8_linePart 50 = .ok (.iconst 5, 1) := by decide +kernel
theorem dX8_linePart_51 : decode cX8_linePart 51 = .ok (.aload_n 0, 1) := by decide +kernel
theorem dX8_linePart_52 : decode cX8_linePart 52 = .ok (.getfield 9, 3) := by decide +kernel
theorem dX8_linePart_55 : decode cX8_linePart 55 = .ok (.iconst 3, 1) := by decide +kernel
theorem dX8_linePart_56 : decode cX8_linePart 56 = .ok (.iaload, 1) := by decide +kernel
theorem dX8_linePart_57 : decode cX8_linePart 57 = .ok (.iastore, 1) := by decide +kernel
theorem dX8_linePart_58 : decode cX8_linePart 58 = .ok (.aload_n 0, 1) := by decide +kernel
theorem dX8_linePart_59 : decode cX8_linePart 59 = .ok (.getfield 9, 3) := by decide +kernel
theorem dX8_linePart_62 : decode cX8_linePart 62 = .ok (.iconst 1, 1) := by decide +kernel
theorem dX8_linePart_63 : decode cX8_linePart 63 = .ok (.aload_n 0, 1) := by decide +kernel
theorem dX8_linePart_64 : decode cX8_linePart 64 = .ok (.iconst 1, 1) := by decide +kernel
theorem dX8_linePart_65 : decode cX8_linePart 65 = .ok (.bipush 20, 2) := by decide +kernel
theorem dX8_linePart_67 : decode cX8_linePart 67 = .ok (.invokevirtual 121, 3) := by decide +kernel
theorem dX8_linePart_70 : decode cX8_linePart 70 = .ok (.iastore, 1) := by decide +kernel
theorem dX8_linePart_71 : decode cX8_linePart 71 = .ok (.aload_n 0, 1) := by decide +kernel
theorem dX8_linePart_72 : decode cX8_linePart 72 = .ok (.getfield 9, 3) := by decide +kernel
theorem dX8_linePart_75 : decode cX8_linePart 75 = .ok (.iconst 2, 1) := by decide +kernel
theorem dX8_linePart_76 : decode cX8_linePart 76 = .ok (.aload_n 0, 1) := by decide +kernel
theorem dX8_linePart_77 : decode cX8_linePart 77 = .ok (.iconst 1, 1) := by decide +kernel
theorem dX8_linePart_78 : decode cX8_linePart 78 = .ok (.bipush 9, 2) := by decide +kernel
theorem dX8_linePart_80 : decode cX8_linePart 80 = .ok (.invokevirtual 121, 3) := by decide +kernel
theorem dX8_linePart_83 : decode cX8_linePart 83 = .ok (.iastore, 1) := by decide +kernel
theorem dX8_linePart_84 : decode cX8_linePart 84 = .ok (.return_, 1) := by decide +kernel
theorem dX8_isMore_0 : decode cX8_isMore 0 = .ok (.aload_n 0, 1) := by decide +kernel
theorem dX8_isMore_1 : decode cX8_isMore 1 = .ok (.getfield 75, 3) := by decide +kernel
theorem dX8_isMore_4 : decode cX8_isMore 4 = .ok (.ifCond .ne 10, 3) := by decide +kernel
theorem dX8_isMore_14 : decode cX8_isMore 14 = .ok (.iconst 0, 1) := by decide +kernel
theorem dX8_isMore_15 : decode cX8_isMore 15 = .ok (.ireturn, 1) := by decide +kernel
theorem dX8_starts_0 : decode cX8_starts 0 = .ok (.aload_n 0, 1) := by decide +kernel
theorem dX8_starts_1 : decode cX8_starts 1 = .ok (.iconst 0, 1) := by decide +kernel
theorem dX8_starts_2 : decode cX8_starts 2 = .ok (.putfield 49, 3) := by decide +kernel
theorem dX8_starts_5 : decode cX8_starts 5 = .ok (.aload_n 0, 1) := by decide +kernel
theorem dX8_starts_6 : decode cX8_starts 6 = .ok (.iconst 0, 1) := by decide +kernel
theorem dX8_starts_7 : decode cX8_starts 7 = .ok (.putfield 65, 3) := by decide +kernel
theorem dX8_starts_10 : decode cX8_starts 10 = .ok (.aload_n 0, 1) := by decide +kernel
theorem dX8_starts_11 : decode cX8_starts 11 = .ok (.iconst 0, 1) := by decide +kernel
theorem dX8_starts_12 : decode cX8_starts 12 = .ok (.putfield 75, 3) := by decide +kernel
theorem dX8_starts_15 : decode cX8_starts 15 = .ok (.aload_n 0, 1) := by decide +kernel
theorem dX8_starts_16 : decode cX8_starts 16 = .ok (.iconst 0, 1) := by decide +kernel
theorem dX8_starts_17 : decode cX8_starts 17 = .ok (.putfield 195, 3) := by decide +kernel
theorem dX8_starts_20 : decode cX8_starts 20 = .ok (.return_, 1) := by decide +kernel
theorem dX8_settles_0 : decode cX8_settles 0 = .ok (.aload_n 0, 1) := by decide +kernel
theorem dX8_settles_1 : decode cX8_settles 1 = .ok (.iconst 0, 1) := by decide +kernel
theorem dX8_settles_2 : decode cX8_settles 2 = .ok (.putfield 62, 3) := by decide +kernel
theorem dX8_settles_5 : decode cX8_settles 5 = .ok (.aload_n 0, 1) := by decide +kernel
theorem dX8_settles_6 : decode cX8_settles 6 = .ok (.aload_n 0, 1) := by decide +kernel
theorem dX8_settles_7 : decode cX8_settles 7 = .ok (.getfield 75, 3) := by decide +kernel
theorem dX8_settles_10 : decode cX8_settles 10 = .ok (.putfield 198, 3) := by decide +kernel
theorem dX8_settles_13 : decode cX8_settles 13 = .ok (.aload_n 0, 1) := by decide +kernel
theorem dX8_settles_14 : decode cX8_settles 14 = .ok (.aload_n 0, 1) := by decide +kernel
theorem dX8_settles_15 : decode cX8_settles 15 = .ok (.getfield 75, 3) := by decide +kernel
theorem dX8_settles_18 : decode cX8_settles 18 = .ok (.ifCond .ne 7, 3) := by decide +kernel
theorem dX8_settles_25 : decode cX8_settles 25 = .ok (.aload_n 0, 1) := by decide +kernel
theorem dX8_settles_26 : decode cX8_settles 26 = .ok (.getfield 195, 3) := by decide +kernel
theorem dX8_settles_29 : decode cX8_settles 29 = .ok (.putfield 30, 3) := by decide +kernel
theorem dX8_settles_32 : decode cX8_settles 32 = .ok (.return_, 1) := by decide +kernel
theorem dX8_load_0 : decode cX8_load 0 = .ok (.aload_n 0, 1) := by decide +kernel
theorem dX8_load_1 : decode cX8_load 1 = .ok (.invokevirtual 201, 3) := by decide +kernel
theorem dX8_load_4 : decode cX8_load 4 = .ok (.aload_n 0, 1) := by decide +kernel
theorem dX8_load_5 : decode cX8_load 5 = .ok (.getfield 9, 3) := by decide +kernel
theorem dX8_load_8 : decode cX8_load 8 = .ok (.iconst 0, 1) := by decide +kernel
theorem dX8_load_9 : decode cX8_load 9 = .ok (.aload_n 0, 1) := by decide +kernel
theorem dX8_load_10 : decode cX8_load 10 = .ok (.getfield 13, 3) := by decide +kernel
theorem dX8_load_13 : decode cX8_load 13 = .ok (.iconst 0, 1) := by decide +kernel
theorem dX8_load_14 : decode cX8_load 14 = .ok (.invokestatic 204, 3) := by decide +kernel
theorem dX8_load_17 : decode cX8_load 17 = .ok (.aload_n 0, 1) := by decide +kernel
theorem dX8_load_18 : decode cX8_load 18 = .ok (.invokevirtual 46, 3) := by decide +kernel
theorem dX8_load_21 : decode cX8_load 21 = .ok (.aload_n 0, 1) := by decide +kernel
theorem dX8_load_22 : decode cX8_load 22 = .ok (.invokevirtual 207, 3) := by decide +kernel
theorem dX8_load_25 : decode cX8_load 25 = .ok (.aload_n 0, 1) := by decide +kernel
theorem dX8_load_26 : decode cX8_load 26 = .ok (.invokevirtual 210, 3) := by decide +kernel
theorem dX8_load_29 : decode cX8_load 29 = .ok (.ifCond .eq 10, 3) := by decide +kernel
theorem dX8_load_39 : decode cX8_load 39 = .ok (.aload_n 0, 1) := by decide +kernel
theorem dX8_load_40 : decode cX8_load 40 = .ok (.invokevirtual 216, 3) := by decide +kernel
theorem dX8_load_43 : decode cX8_load 43 = .ok (.aload_n 0, 1) := by decide +kernel
theorem dX8_load_44 : decode cX8_load 44 = .ok (.getfield 75, 3) := by decide +kernel
theorem dX8_load_47 : decode cX8_load 47 = .ok (.ifCond .eq 24, 3) := by decide +kernel
theorem dX8_load_50 : decode cX8_load 50 = .ok (.aload_n 0, 1) := by decide +kernel
theorem dX8_load_51 : decode cX8_load 51 = .ok (.getfield 13, 3) := by decide +kernel
theorem dX8_load_54 : decode cX8_load 54 = .ok (.iconst 0, 1) := by decide +kernel
theorem dX8_load_55 : decode cX8_load 55 = .ok (.aload_n 0, 1) := by decide +kernel
theorem dX8_load_56 : decode cX8_load 56 = .ok (.getfield 9, 3) := by decide +kernel
theorem dX8_load_59 : decode cX8_load 59 = .ok (.iconst 0, 1) := by decide +kernel
theorem dX8_load_60 : decode cX8_load 60 = .ok (.invokestatic 204, 3) := by decide +kernel
theorem dX8_load_63 : decode cX8_load 63 = .ok (.bipush (-100), 2) := by decide +kernel
theorem dX8_load_65 : decode cX8_load 65 = .ok (.aload_n 0, 1) := by decide +kernel
theorem dX8_load_66 : decode cX8_load 66 = .ok (.getfield 78, 3) := by decide +kernel
theorem dX8_load_69 : decode cX8_load 69 = .ok (.isub, 1) := by decide +kernel
theorem dX8_load_70 : decode cX8_load 70 = .ok (.ireturn, 1) := by decide +kernel
theorem dX8_order_0 : decode cX8_order 0 = .ok (.aload_n 0, 1) := by decide +kernel
theorem dX8_order_1 : decode cX8_order 1 = .ok (.aload_n 0, 1) := by decide +kernel
theorem dX8_order_2 : decode cX8_order 2 = .ok (.iload_n 1, 1) := by decide +kernel
theorem dX8_order_3 : decode cX8_order 3 = .ok (.invokevirtual 222, 3) := by decide +kernel
theorem dX8_order_6 : decode cX8_order 6 = .ok (.iconst 1, 1) := by decide +kernel
theorem dX8_order_7 : decode cX8_order 7 = .ok (.invokevirtual 226, 3) := by decide +kernel
theorem dX8_order_10 : decode cX8_order 10 = .ok (.ifCond .eq 5, 3) := by decide +kernel
theorem dX8_order_13 : decode cX8_order 13 = .ok (.iconst 0, 1) := by decide +kernel
theorem dX8_order_14 : decode cX8_order 14 = .ok (.ireturn, 1) := by decide +kernel
theorem dX8_loadError_0 : decode cX8_loadError 0 = .ok (.aload_n 0, 1) := by decide +kernel
theorem dX8_loadError_1 : decode cX8_loadError 1 = .ok (.iconst 0, 1) := by decide +kernel
theorem dX8_loadError_2 : decode cX8_loadError 2 = .ok (.putfield 49, 3) := by decide +kernel
theorem dX8_loadError_5 : decode cX8_loadError 5 = .ok (.aload_n 0, 1) := by decide +kernel
theorem dX8_loadError_6 : decode cX8_loadError 6 = .ok (.getfield 198, 3) := by decide +kernel
theorem dX8_loadError_9 : decode cX8_loadError 9 = .ok (.ireturn, 1) := by decide +kernel
theorem dX8_loadStatement_0 : decode cX8_loadStatement 0 = .ok (.aload_n 0, 1) := by decide +kernel
theorem dX8_loadStatement_1 : decode cX8_loadStatement 1 = .ok (.iconst 0, 1) := by decide +kernel
theorem dX8_loadStatement_2 : decode cX8_loadStatement 2 = .ok (.putfield 49, 3) := by decide +kernel
theorem dX8_loadStatement_5 : decode cX8_loadStatement 5 = .ok (.aload_n 0, 1) := by decide +kernel
theorem dX8_loadStatement_6 : decode cX8_loadStatement 6 = .ok (.getfield 30, 3) := by decide +kernel
theorem dX8_loadStatement_9 : decode cX8_loadStatement 9 = .ok (.ireturn, 1) := by decide +kernel
theorem dX8_inState_0 : decode cX8_inState 0 = .ok (.iconst 0, 1) := by decide +kernel
theorem dX8_inState_1 : decode cX8_inState 1 = .ok (.istore_n 2, 1) := by decide +kernel
theorem dX8_inState_2 : decode cX8_inState 2 = .ok (.iconst 0, 1) := by decide +kernel
theorem dX8_inState_3 : decode cX8_inState 3 = .ok (.istore_n 3, 1) := by decide +kernel
theorem dX8_inState_4 : decode cX8_inState 4 = .ok (.iload_n 3, 1) := by decide +kernel
theorem dX8_inState_5 : decode cX8_inState 5 = .ok (.aload_n 0, 1) := by decide +kernel
theorem dX8_inState_6 : decode cX8_inState 6 = .ok (.getfield 9, 3) := by decide +kernel
theorem dX8_inState_9 : decode cX8_inState 9 = .ok (.bipush 9, 2) := by decide +kernel
theorem dX8_inState_11 : decode cX8_inState 11 = .ok (.iaload, 1) := by decide +kernel
theorem dX8_inState_12 : decode cX8_inState 12 = .ok (.if_icmp .ge 27, 3) := by decide +kernel
theorem dX8_inState_39 : decode cX8_inState 39 = .ok (.iload_n 2, 1) := by decide +kernel
theorem dX8_inState_40 : decode cX8_inState 40 = .ok (.ireturn, 1) := by decide +kernel
theorem dX8_count_0 : decode cX8_count 0 = .ok (.aload_n 0, 1) := by decide +kernel
theorem dX8_count_1 : decode cX8_count 1 = .ok (.iload_n 1, 1) := by decide +kernel
theorem dX8_count_2 : decode cX8_count 2 = .ok (.i2l, 1) := by decide +kernel
theorem dX8_count_3 : decode cX8_count 3 = .ok (.lconst 0, 1) := by decide +kernel
theorem dX8_count_4 : decode cX8_count 4 = .ok (.ldc2_w 236, 3) := by decide +kernel
theorem dX8_count_7 : decode cX8_count 7 = .ok (.invokestatic 52, 3) := by decide +kernel
theorem dX8_count_10 : decode cX8_count 10 = .ok (.iconst 1, 1) := by decide +kernel
theorem dX8_count_11 : decode cX8_count 11 = .ok (.invokevirtual 226, 3) := by decide +kernel
theorem dX8_count_14 : decode cX8_count 14 = .ok (.ifCond .eq 5, 3) := by decide +kernel
theorem dX8_count_17 : decode cX8_count 17 = .ok (.iconst 0, 1) := by decide +kernel
theorem dX8_count_18 : decode cX8_count 18 = .ok (.ireturn, 1) := by decide +kernel
theorem dX8_count_19 : decode cX8_count 19 = .ok (.iload_n 1, 1) := by decide +kernel
theorem dX8_count_20 : decode cX8_count 20 = .ok (.tableswitch 92 0 9 #[56, 64, 72, 80, 92, 92, 92, 92, 92, 87], 56) := by decide +kernel
theorem dX8_count_76 : decode cX8_count 76 = .ok (.aload_n 0, 1) := by decide +kernel
theorem dX8_count_77 : decode cX8_count 77 = .ok (.getfield 9, 3) := by decide +kernel
theorem dX8_count_80 : decode cX8_count 80 = .ok (.bipush 7, 2) := by decide +kernel
theorem dX8_count_82 : decode cX8_count 82 = .ok (.iaload, 1) := by decide +kernel
theorem dX8_count_83 : decode cX8_count 83 = .ok (.ireturn, 1) := by decide +kernel
theorem dX8_count_84 : decode cX8_count 84 = .ok (.aload_n 0, 1) := by decide +kernel
theorem dX8_count_85 : decode cX8_count 85 = .ok (.getfield 9, 3) := by decide +kernel
theorem dX8_count_88 : decode cX8_count 88 = .ok (.bipush 8, 2) := by decide +kernel
theorem dX8_count_90 : decode cX8_count 90 = .ok (.iaload, 1) := by decide +kernel
theorem dX8_count_91 : decode cX8_count 91 = .ok (.ireturn, 1) := by decide +kernel
theorem dX8_count_92 : decode cX8_count 92 = .ok (.aload_n 0, 1) := by decide +kernel
theorem dX8_count_93 : decode cX8_count 93 = .ok (.getfield 9, 3) := by decide +kernel
theorem dX8_count_96 : decode cX8_count 96 = .ok (.bipush 9, 2) := by decide +kernel
theorem dX8_count_98 : decode cX8_count 98 = .ok (.iaload, 1) := by decide +kernel
theorem dX8_count_99 : decode cX8_count 99 = .ok (.ireturn, 1) := by decide +kernel
theorem dX8_count_100 : decode cX8_count 100 = .ok (.aload_n 0, 1) := by decide +kernel
theorem dX8_count_101 : decode cX8_count 101 = .ok (.getfield 9, 3) := by decide +kernel
theorem dX8_count_104 : decode cX8_count 104 = .ok (.iconst 5, 1) := by decide +kernel
theorem dX8_count_105 : decode cX8_count 105 = .ok (.iaload, 1) := by decide +kernel
theorem dX8_count_106 : decode cX8_count 106 = .ok (.ireturn, 1) := by decide +kernel
theorem dX8_count_107 : decode cX8_count 107 = .ok (.aload_n 0, 1) := by decide +kernel
theorem dX8_count_108 : decode cX8_count 108 = .ok (.getfield 219, 3) := by decide +kernel
theorem dX8_count_111 : decode cX8_count 111 = .ok (.ireturn, 1) := by decide +kernel
theorem dX8_count_112 : decode cX8_count 112 = .ok (.aload_n 0, 1) := by decide +kernel
theorem dX8_count_113 : decode cX8_count 113 = .ok (.iload_n 1, 1) := by decide +kernel
theorem dX8_count_114 : decode cX8_count 114 = .ok (.iconst 4, 1) := by decide +kernel
theorem dX8_count_115 : decode cX8_count 115 = .ok (.isub, 1) := by decide +kernel
theorem dX8_count_116 : decode cX8_count 116 = .ok (.invokevirtual 238, 3) := by decide +kernel
theorem dX8_count_119 : decode cX8_count 119 = .ok (.ireturn, 1) := by decide +kernel
theorem dX8_setting_0 : decode cX8_setting 0 = .ok (.aload_n 0, 1) := by decide +kernel
theorem dX8_setting_1 : decode cX8_setting 1 = .ok (.iload_n 1, 1) := by decide +kernel
theorem dX8_setting_2 : decode cX8_setting 2 = .ok (.i2l, 1) := by decide +kernel
theorem dX8_setting_3 : decode cX8_setting 3 = .ok (.lconst 0, 1) := by decide +kernel
theorem dX8_setting_4 : decode cX8_setting 4 = .ok (.ldc2_w 241, 3) := by decide +kernel
theorem dX8_setting_7 : decode cX8_setting 7 = .ok (.invokestatic 52, 3) := by decide +kernel
theorem dX8_setting_10 : decode cX8_setting 10 = .ok (.iconst 1, 1) := by decide +kernel
theorem dX8_setting_11 : decode cX8_setting 11 = .ok (.invokevirtual 226, 3) := by decide +kernel
theorem dX8_setting_14 : decode cX8_setting 14 = .ok (.ifCond .eq 7, 3) := by decide +kernel
theorem dX8_setting_17 : decode cX8_setting 17 = .ok (.iconst 0, 1) := by decide +kernel
theorem dX8_setting_18 : decode cX8_setting 18 = .ok (.goto 9, 3) := by decide +kernel
theorem dX8_setting_21 : decode cX8_setting 21 = .ok (.aload_n 0, 1) := by decide +kernel
theorem dX8_setting_22 : decode cX8_setting 22 = .ok (.getfield 9, 3) := by decide +kernel
theorem dX8_setting_25 : decode cX8_setting 25 = .ok (.iload_n 1, 1) := by decide +kernel
theorem dX8_setting_26 : decode cX8_setting 26 = .ok (.iaload, 1) := by decide +kernel
theorem dX8_setting_27 : decode cX8_setting 27 = .ok (.ireturn, 1) := by decide +kernel
theorem dX8_station_0 : decode cX8_station 0 = .ok (.aload_n 0, 1) := by decide +kernel
theorem dX8_station_1 : decode cX8_station 1 = .ok (.aload_n 0, 1) := by decide +kernel
theorem dX8_station_2 : decode cX8_station 2 = .ok (.iload_n 1, 1) := by decide +kernel
theorem dX8_station_3 : decode cX8_station 3 = .ok (.invokevirtual 243, 3) := by decide +kernel
theorem dX8_station_6 : decode cX8_station 6 = .ok (.iconst 1, 1) := by decide +kernel
theorem dX8_station_7 : decode cX8_station 7 = .ok (.invokevirtual 226, 3) := by decide +kernel
theorem dX8_station_10 : decode cX8_station 10 = .ok (.ifCond .ne 20, 3) := by decide +kernel
theorem dX8_station_30 : decode cX8_station 30 = .ok (.iconst 0, 1) := by decide +kernel
theorem dX8_station_31 : decode cX8_station 31 = .ok (.ireturn, 1) := by decide +kernel
theorem dX8_card_0 : decode cX8_card 0 = .ok (.aload_n 0, 1) := by decide +kernel
theorem dX8_card_1 : decode cX8_card 1 = .ok (.aload_n 0, 1) := by decide +kernel
theorem dX8_card_2 : decode cX8_card 2 = .ok (.iload_n 1, 1) := by decide +kernel
theorem dX8_card_3 : decode cX8_card 3 = .ok (.invokevirtual 251, 3) := by decide +kernel
theorem dX8_card_6 : decode cX8_card 6 = .ok (.iconst 1, 1) := by decide +kernel
theorem dX8_card_7 : decode cX8_card 7 = .ok (.invokevirtual 226, 3) := by decide +kernel
theorem dX8_card_10 : decode cX8_card 10 = .ok (.ifCond .ne 20, 3) := by decide +kernel
theorem dX8_card_30 : decode cX8_card 30 = .ok (.iconst 0, 1) := by decide +kernel
theorem dX8_card_31 : decode cX8_card 31 = .ok (.ireturn, 1) := by decide +kernel
theorem dX8_letter_0 : decode cX8_letter 0 = .ok (.aload_n 0, 1) := by decide +kernel
theorem dX8_letter_1 : decode cX8_letter 1 = .ok (.aload_n 0, 1) := by decide +kernel
theorem dX8_letter_2 : decode cX8_letter 2 = .ok (.iload_n 1, 1) := by decide +kernel
theorem dX8_letter_3 : decode cX8_letter 3 = .ok (.invokevirtual 251, 3) := by decide +kernel
theorem dX8_letter_6 : decode cX8_letter 6 = .ok (.iconst 1, 1) := by decide +kernel
theorem dX8_letter_7 : decode cX8_letter 7 = .ok (.invokevirtual 226, 3) := by decide +kernel
theorem dX8_letter_10 : decode cX8_letter 10 = .ok (.ifCond .eq 5, 3) := by decide +kernel
theorem dX8_letter_13 : decode cX8_letter 13 = .ok (.iconst 0, 1) := by decide +kernel
theorem dX8_letter_14 : decode cX8_letter 14 = .ok (.ireturn, 1) := by decide +kernel
theorem dX8_lot_0 : decode cX8_lot 0 = .ok (.aload_n 0, 1) := by decide +kernel
theorem dX8_lot_1 : decode cX8_lot 1 = .ok (.aload_n 0, 1) := by decide +kernel
theorem dX8_lot_2 : decode cX8_lot 2 = .ok (.iload_n 1, 1) := by decide +kernel
theorem dX8_lot_3 : decode cX8_lot 3 = .ok (.invokevirtual 222, 3) := by decide +kernel
theorem dX8_lot_6 : decode cX8_lot 6 = .ok (.iconst 1, 1) := by decide +kernel
theorem dX8_lot_7 : decode cX8_lot 7 = .ok (.invokevirtual 226, 3) := by decide +kernel
theorem dX8_lot_10 : decode cX8_lot 10 = .ok (.ifCond .ne 20, 3) := by decide +kernel
theorem dX8_lot_30 : decode cX8_lot 30 = .ok (.iconst 0, 1) := by decide +kernel
theorem dX8_lot_31 : decode cX8_lot 31 = .ok (.ireturn, 1) := by decide +kernel
theorem dX8_cardOf_0 : decode cX8_cardOf 0 = .ok (.aload_n 0, 1) := by decide +kernel
theorem dX8_cardOf_1 : decode cX8_cardOf 1 = .ok (.aload_n 0, 1) := by decide +kernel
theorem dX8_cardOf_2 : decode cX8_cardOf 2 = .ok (.iload_n 1, 1) := by decide +kernel
theorem dX8_cardOf_3 : decode cX8_cardOf 3 = .ok (.invokevirtual 222, 3) := by decide +kernel
theorem dX8_cardOf_6 : decode cX8_cardOf 6 = .ok (.iconst 1, 1) := by decide +kernel
theorem dX8_cardOf_7 : decode cX8_cardOf 7 = .ok (.invokevirtual 226, 3) := by decide +kernel
theorem dX8_cardOf_10 : decode cX8_cardOf 10 = .ok (.ifCond .eq 7, 3) := by decide +kernel
theorem dX8_cardOf_13 : decode cX8_cardOf 13 = .ok (.iconst 0, 1) := by decide +kernel
theorem dX8_cardOf_14 : decode cX8_cardOf 14 = .ok (.goto 9, 3) := by decide +kernel
theorem dX8_cardOf_23 : decode cX8_cardOf 23 = .ok (.ireturn, 1) := by decide +kernel
theorem dX8_trayAt_0 : decode cX8_trayAt 0 = .ok (.aload_n 0, 1) := by decide +kernel
theorem dX8_trayAt_1 : decode cX8_trayAt 1 = .ok (.iconst 0, 1) := by decide +kernel
theorem dX8_trayAt_2 : decode cX8_trayAt 2 = .ok (.putfield 49, 3) := by decide +kernel
theorem dX8_trayAt_5 : decode cX8_trayAt 5 = .ok (.iload_n 1, 1) := by decide +kernel
theorem dX8_trayAt_6 : decode cX8_trayAt 6 = .ok (.istore_n 2, 1) := by decide +kernel
theorem dX8_trayAt_7 : decode cX8_trayAt 7 = .ok (.iconst 0, 1) := by decide +kernel
theorem dX8_trayAt_8 : decode cX8_trayAt 8 = .ok (.istore_n 3, 1) := by decide +kernel
theorem dX8_trayAt_9 : decode cX8_trayAt 9 = .ok (.iload_n 3, 1) := by decide +kernel
theorem dX8_trayAt_10 : decode cX8_trayAt 10 = .ok (.aload_n 0, 1) := by decide +kernel
theorem dX8_trayAt_11 : decode cX8_trayAt 11 = .ok (.getfield 9, 3) := by decide +kernel
theorem dX8_trayAt_14 : decode cX8_trayAt 14 = .ok (.bipush 9, 2) := by decide +kernel
theorem dX8_trayAt_16 : decode cX8_trayAt 16 = .ok (.iaload, 1) := by decide +kernel
theorem dX8_trayAt_17 : decode cX8_trayAt 17 = .ok (.if_icmp .ge 32, 3) := by decide +kernel
theorem dX8_trayAt_49 : decode cX8_trayAt 49 = .ok (.iconst (-1), 1) := by decide +kernel
theorem dX8_trayAt_50 : decode cX8_trayAt 50 = .ok (.ireturn, 1) := by decide +kernel
theorem dX8_leftAt_0 : decode cX8_leftAt 0 = .ok (.aload_n 0, 1) := by decide +kernel
theorem dX8_leftAt_1 : decode cX8_leftAt 1 = .ok (.iconst 0, 1) := by decide +kernel
theorem dX8_leftAt_2 : decode cX8_leftAt 2 = .ok (.putfield 49, 3) := by decide +kernel
theorem dX8_leftAt_5 : decode cX8_leftAt 5 = .ok (.iload_n 1, 1) := by decide +kernel
theorem dX8_leftAt_6 : decode cX8_leftAt 6 = .ok (.i2l, 1) := by decide +kernel
theorem dX8_leftAt_7 : decode cX8_leftAt 7 = .ok (.lconst 0, 1) := by decide +kernel
theorem dX8_leftAt_8 : decode cX8_leftAt 8 = .ok (.aload_n 0, 1) := by decide +kernel
theorem dX8_leftAt_9 : decode cX8_leftAt 9 = .ok (.getfield 9, 3) := by decide +kernel
theorem dX8_leftAt_12 : decode cX8_leftAt 12 = .ok (.bipush 10, 2) := by decide +kernel
theorem dX8_leftAt_14 : decode cX8_leftAt 14 = .ok (.iaload, 1) := by decide +kernel
theorem dX8_leftAt_15 : decode cX8_leftAt 15 = .ok (.iconst 1, 1) := by decide +kernel
theorem dX8_leftAt_16 : decode cX8_leftAt 16 = .ok (.isub, 1) := by decide +kernel
theorem dX8_leftAt_17 : decode cX8_leftAt 17 = .ok (.i2l, 1) := by decide +kernel
theorem dX8_leftAt_18 : decode cX8_leftAt 18 = .ok (.invokestatic 52, 3) := by decide +kernel
theorem dX8_leftAt_21 : decode cX8_leftAt 21 = .ok (.ifCond .eq 16, 3) := by decide +kernel
theorem dX8_leftAt_37 : decode cX8_leftAt 37 = .ok (.iconst (-1), 1) := by decide +kernel
theorem dX8_leftAt_38 : decode cX8_leftAt 38 = .ok (.ireturn, 1) := by decide +kernel
theorem dX8_toFeed_0 : decode cX8_toFeed 0 = .ok (.iconst (-1), 1) := by decide +kernel
theorem dX8_toFeed_1 : decode cX8_toFeed 1 = .ok (.istore_n 1, 1) := by decide +kernel
theorem dX8_toFeed_2 : decode cX8_toFeed 2 = .ok (.iconst 0, 1) := by decide +kernel
theorem dX8_toFeed_3 : decode cX8_toFeed 3 = .ok (.istore_n 2, 1) := by decide +kernel
theorem dX8_toFeed_4 : decode cX8_toFeed 4 = .ok (.iload_n 2, 1) := by decide +kernel
theorem dX8_toFeed_5 : decode cX8_toFeed 5 = .ok (.aload_n 0, 1) := by decide +kernel
theorem dX8_toFeed_6 : decode cX8_toFeed 6 = .ok (.getfield 9, 3) := by decide +kernel
theorem dX8_toFeed_9 : decode cX8_toFeed 9 = .ok (.bipush 9, 2) := by decide +kernel
theorem dX8_toFeed_11 : decode cX8_toFeed 11 = .ok (.iaload, 1) := by decide +kernel
theorem dX8_toFeed_12 : decode cX8_toFeed 12 = .ok (.if_icmp .ge 34, 3) := by decide +kernel
theorem dX8_toFeed_46 : decode cX8_toFeed 46 = .ok (.iload_n 1, 1) := by decide +kernel
theorem dX8_toFeed_47 : decode cX8_toFeed 47 = .ok (.ireturn, 1) := by decide +kernel
theorem dX8_nextFed_0 : decode cX8_nextFed 0 = .ok (.aload_n 0, 1) := by decide +kernel
theorem dX8_nextFed_1 : decode cX8_nextFed 1 = .ok (.iconst 0, 1) := by decide +kernel
theorem dX8_nextFed_2 : decode cX8_nextFed 2 = .ok (.putfield 49, 3) := by decide +kernel
theorem dX8_nextFed_5 : decode cX8_nextFed 5 = .ok (.aload_n 0, 1) := by decide +kernel
theorem dX8_nextFed_6 : decode cX8_nextFed 6 = .ok (.invokevirtual 282, 3) := by decide +kernel
theorem dX8_nextFed_9 : decode cX8_nextFed 9 = .ok (.ireturn, 1) := by decide +kernel
theorem dX8_steps_0 : decode cX8_steps 0 = .ok (.aload_n 0, 1) := by decide +kernel
theorem dX8_steps_1 : decode cX8_steps 1 = .ok (.aload_n 0, 1) := by decide +kernel
theorem dX8_steps_2 : decode cX8_steps 2 = .ok (.iload_n 1, 1) := by decide +kernel
theorem dX8_steps_3 : decode cX8_steps 3 = .ok (.invokevirtual 251, 3) := by decide +kernel
theorem dX8_steps_6 : decode cX8_steps 6 = .ok (.iconst 1, 1) := by decide +kernel
theorem dX8_steps_7 : decode cX8_steps 7 = .ok (.invokevirtual 226, 3) := by decide +kernel
theorem dX8_steps_10 : decode cX8_steps 10 = .ok (.ifCond .ne 20, 3) := by decide +kernel
theorem dX8_steps_30 : decode cX8_steps 30 = .ok (.iconst 0, 1) := by decide +kernel
theorem dX8_steps_31 : decode cX8_steps 31 = .ok (.ireturn, 1) := by decide +kernel
theorem dX8_ticksFor_0 : decode cX8_ticksFor 0 = .ok (.aload_n 0, 1) := by decide +kernel
theorem dX8_ticksFor_1 : decode cX8_ticksFor 1 = .ok (.aload_n 0, 1) := by decide +kernel
theorem dX8_ticksFor_2 : decode cX8_ticksFor 2 = .ok (.iload_n 1, 1) := by decide +kernel
theorem dX8_ticksFor_3 : decode cX8_ticksFor 3 = .ok (.invokevirtual 243, 3) := by decide +kernel
theorem dX8_ticksFor_6 : decode cX8_ticksFor 6 = .ok (.ifCond .eq 15, 3) := by decide +kernel
theorem dX8_ticksFor_21 : decode cX8_ticksFor 21 = .ok (.iconst 0, 1) := by decide +kernel
theorem dX8_ticksFor_22 : decode cX8_ticksFor 22 = .ok (.iconst 1, 1) := by decide +kernel
theorem dX8_ticksFor_23 : decode cX8_ticksFor 23 = .ok (.invokevirtual 226, 3) := by decide +kernel
theorem dX8_ticksFor_26 : decode cX8_ticksFor 26 = .ok (.ifCond .eq 7, 3) := by decide +kernel
theorem dX8_ticksFor_29 : decode cX8_ticksFor 29 = .ok (.iconst 0, 1) := by decide +kernel
theorem dX8_ticksFor_30 : decode cX8_ticksFor 30 = .ok (.goto 9, 3) := by decide +kernel
theorem dX8_ticksFor_39 : decode cX8_ticksFor 39 = .ok (.ireturn, 1) := by decide +kernel
theorem dX8_now_0 : decode cX8_now 0 = .ok (.aload_n 0, 1) := by decide +kernel
theorem dX8_now_1 : decode cX8_now 1 = .ok (.iconst 0, 1) := by decide +kernel
theorem dX8_now_2 : decode cX8_now 2 = .ok (.putfield 49, 3) := by decide +kernel
theorem dX8_now_5 : decode cX8_now 5 = .ok (.aload_n 0, 1) := by decide +kernel
theorem dX8_now_6 : decode cX8_now 6 = .ok (.getfield 9, 3) := by decide +kernel
theorem dX8_now_9 : decode cX8_now 9 = .ok (.bipush 6, 2) := by decide +kernel
theorem dX8_now_11 : decode cX8_now 11 = .ok (.iaload, 1) := by decide +kernel
theorem dX8_now_12 : decode cX8_now 12 = .ok (.ireturn, 1) := by decide +kernel
theorem dX8_day_0 : decode cX8_day 0 = .ok (.aload_n 0, 1) := by decide +kernel
theorem dX8_day_1 : decode cX8_day 1 = .ok (.aload_n 0, 1) := by decide +kernel
theorem dX8_day_2 : decode cX8_day 2 = .ok (.iload_n 2, 1) := by decide +kernel
theorem dX8_day_3 : decode cX8_day 3 = .ok (.invokevirtual 222, 3) := by decide +kernel
theorem dX8_day_6 : decode cX8_day 6 = .ok (.iconst 1, 1) := by decide +kernel
theorem dX8_day_7 : decode cX8_day 7 = .ok (.invokevirtual 226, 3) := by decide +kernel
theorem dX8_day_10 : decode cX8_day 10 = .ok (.ifCond .ne 30, 3) := by decide +kernel
theorem dX8_day_40 : decode cX8_day 40 = .ok (.iconst 0, 1) := by decide +kernel
theorem dX8_day_41 : decode cX8_day 41 = .ok (.ireturn, 1) := by decide +kernel
theorem dX8_today_0 : decode cX8_today 0 = .ok (.aload_n 0, 1) := by decide +kernel
theorem dX8_today_1 : decode cX8_today 1 = .ok (.aload_n 0, 1) := by decide +kernel
theorem dX8_today_2 : decode cX8_today 2 = .ok (.iload_n 1, 1) := by decide +kernel
theorem dX8_today_3 : decode cX8_today 3 = .ok (.invokevirtual 222, 3) := by decide +kernel
theorem dX8_today_6 : decode cX8_today 6 = .ok (.iconst 1, 1) := by decide +kernel
theorem dX8_today_7 : decode cX8_today 7 = .ok (.invokevirtual 226, 3) := by decide +kernel
theorem dX8_today_10 : decode cX8_today 10 = .ok (.ifCond .ne 18, 3) := by decide +kernel
theorem dX8_today_28 : decode cX8_today 28 = .ok (.iconst 0, 1) := by decide +kernel
theorem dX8_today_29 : decode cX8_today 29 = .ok (.ireturn, 1) := by decide +kernel
theorem dX8_total_0 : decode cX8_total 0 = .ok (.aload_n 0, 1) := by decide +kernel
theorem dX8_total_1 : decode cX8_total 1 = .ok (.iload_n 1, 1) := by decide +kernel
theorem dX8_total_2 : decode cX8_total 2 = .ok (.i2l, 1) := by decide +kernel
theorem dX8_total_3 : decode cX8_total 3 = .ok (.lconst 0, 1) := by decide +kernel
theorem dX8_total_4 : decode cX8_total 4 = .ok (.ldc2_w 241, 3) := by decide +kernel
theorem dX8_total_7 : decode cX8_total 7 = .ok (.invokestatic 52, 3) := by decide +kernel
theorem dX8_total_10 : decode cX8_total 10 = .ok (.iconst 1, 1) := by decide +kernel
theorem dX8_total_11 : decode cX8_total 11 = .ok (.invokevirtual 226, 3) := by decide +kernel
theorem dX8_total_14 : decode cX8_total 14 = .ok (.ifCond .eq 7, 3) := by decide +kernel
theorem dX8_total_17 : decode cX8_total 17 = .ok (.iconst 0, 1) := by decide +kernel
theorem dX8_total_18 : decode cX8_total 18 = .ok (.goto 12, 3) := by decide +kernel
theorem dX8_total_21 : decode cX8_total 21 = .ok (.aload_n 0, 1) := by decide +kernel
theorem dX8_total_22 : decode cX8_total 22 = .ok (.getfield 9, 3) := by decide +kernel
theorem dX8_total_25 : decode cX8_total 25 = .ok (.bipush 12, 2) := by decide +kernel
theorem dX8_total_27 : decode cX8_total 27 = .ok (.iload_n 1, 1) := by decide +kernel
theorem dX8_total_28 : decode cX8_total 28 = .ok (.iadd, 1) := by decide +kernel
theorem dX8_total_29 : decode cX8_total 29 = .ok (.iaload, 1) := by decide +kernel
theorem dX8_total_30 : decode cX8_total 30 = .ok (.ireturn, 1) := by decide +kernel
theorem dX8_yieldPart_0 : decode cX8_yieldPart 0 = .ok (.aload_n 0, 1) := by decide +kernel
theorem dX8_yieldPart_1 : decode cX8_yieldPart 1 = .ok (.iconst 0, 1) := by decide +kernel
theorem dX8_yieldPart_2 : decode cX8_yieldPart 2 = .ok (.putfield 49, 3) := by decide +kernel
theorem dX8_yieldPart_5 : decode cX8_yieldPart 5 = .ok (.aload_n 0, 1) := by decide +kernel
theorem dX8_yieldPart_6 : decode cX8_yieldPart 6 = .ok (.getfield 9, 3) := by decide +kernel
theorem dX8_yieldPart_9 : decode cX8_yieldPart 9 = .ok (.bipush 12, 2) := by decide +kernel
theorem dX8_yieldPart_11 : decode cX8_yieldPart 11 = .ok (.iaload, 1) := by decide +kernel
theorem dX8_yieldPart_12 : decode cX8_yieldPart 12 = .ok (.istore_n 1, 1) := by decide +kernel
theorem dX8_yieldPart_13 : decode cX8_yieldPart 13 = .ok (.iload_n 1, 1) := by decide +kernel
theorem dX8_yieldPart_14 : decode cX8_yieldPart 14 = .ok (.ifCond .ne 7, 3) := by decide +kernel
theorem dX8_yieldPart_17 : decode cX8_yieldPart 17 = .ok (.dconst 0, 1) := by decide +kernel
theorem dX8_yieldPart_18 : decode cX8_yieldPart 18 = .ok (.goto 14, 3) := by decide +kernel
theorem dX8_yieldPart_32 : decode cX8_yieldPart 32 = .ok (.dreturn, 1) := by decide +kernel
theorem dX8_meanFails_0 : decode cX8_meanFails 0 = .ok (.aload_n 0, 1) := by decide +kernel
theorem dX8_meanFails_1 : decode cX8_meanFails 1 = .ok (.iconst 0, 1) := by decide +kernel
theorem dX8_meanFails_2 : decode cX8_meanFails 2 = .ok (.putfield 49, 3) := by decide +kernel
theorem dX8_meanFails_5 : decode cX8_meanFails 5 = .ok (.aload_n 0, 1) := by decide +kernel
theorem dX8_meanFails_6 : decode cX8_meanFails 6 = .ok (.getfield 9, 3) := by decide +kernel
theorem dX8_meanFails_9 : decode cX8_meanFails 9 = .ok (.bipush 9, 2) := by decide +kernel
theorem dX8_meanFails_11 : decode cX8_meanFails 11 = .ok (.iaload, 1) := by decide +kernel
theorem dX8_meanFails_12 : decode cX8_meanFails 12 = .ok (.ifCond .ne 7, 3) := by decide +kernel
theorem dX8_meanFails_15 : decode cX8_meanFails 15 = .ok (.fconst 0, 1) := by decide +kernel
theorem dX8_meanFails_16 : decode cX8_meanFails 16 = .ok (.goto 20, 3) := by decide +kernel
theorem dX8_meanFails_36 : decode cX8_meanFails 36 = .ok (.freturn, 1) := by decide +kernel
theorem dX8_busyPart_0 : decode cX8_busyPart 0 = .ok (.aload_n 0, 1) := by decide +kernel
theorem dX8_busyPart_1 : decode cX8_busyPart 1 = .ok (.aload_n 0, 1) := by decide +kernel
theorem dX8_busyPart_2 : decode cX8_busyPart 2 = .ok (.iload_n 1, 1) := by decide +kernel
theorem dX8_busyPart_3 : decode cX8_busyPart 3 = .ok (.invokevirtual 243, 3) := by decide +kernel
theorem dX8_busyPart_6 : decode cX8_busyPart 6 = .ok (.iconst 1, 1) := by decide +kernel
theorem dX8_busyPart_7 : decode cX8_busyPart 7 = .ok (.invokevirtual 226, 3) := by decide +kernel
theorem dX8_busyPart_10 : decode cX8_busyPart 10 = .ok (.ifCond .eq 5, 3) := by decide +kernel
theorem dX8_busyPart_13 : decode cX8_busyPart 13 = .ok (.fconst 0, 1) := by decide +kernel
theorem dX8_busyPart_14 : decode cX8_busyPart 14 = .ok (.freturn, 1) := by decide +kernel
theorem dX8_bottleneck_0 : decode cX8_bottleneck 0 = .ok (.aload_n 0, 1) := by decide +kernel
theorem dX8_bottleneck_1 : decode cX8_bottleneck 1 = .ok (.iconst 0, 1) := by decide +kernel
theorem dX8_bottleneck_2 : decode cX8_bottleneck 2 = .ok (.putfield 49, 3) := by decide +kernel
theorem dX8_bottleneck_5 : decode cX8_bottleneck 5 = .ok (.iconst (-1), 1) := by decide +kernel
theorem dX8_bottleneck_6 : decode cX8_bottleneck 6 = .ok (.istore_n 1, 1) := by decide +kernel
theorem dX8_bottleneck_7 : decode cX8_bottleneck 7 = .ok (.iconst (-1), 1) := by decide +kernel
theorem dX8_bottleneck_8 : decode cX8_bottleneck 8 = .ok (.istore_n 2, 1) := by decide +kernel
theorem dX8_bottleneck_9 : decode cX8_bottleneck 9 = .ok (.iconst 0, 1) := by decide +kernel
theorem dX8_bottleneck_10 : decode cX8_bottleneck 10 = .ok (.istore_n 3, 1) := by decide +kernel
theorem dX8_bottleneck_11 : decode cX8_bottleneck 11 = .ok (.iload_n 3, 1) := by decide +kernel
theorem dX8_bottleneck_12 : decode cX8_bottleneck 12 = .ok (.aload_n 0, 1) := by decide +kernel
theorem dX8_bottleneck_13 : decode cX8_bottleneck 13 = .ok (.getfield 9, 3) := by decide +kernel
theorem dX8_bottleneck_16 : decode cX8_bottleneck 16 = .ok (.bipush 7, 2) := by decide +kernel
theorem dX8_bottleneck_18 : decode cX8_bottleneck 18 = .ok (.iaload, 1) := by decide +kernel
theorem dX8_bottleneck_19 : decode cX8_bottleneck 19 = .ok (.if_icmp .ge 77, 3) := by decide +kernel
theorem dX8_bottleneck_96 : decode cX8_bottleneck 96 = .ok (.iload_n 1, 1) := by decide +kernel
theorem dX8_bottleneck_97 : decode cX8_bottleneck 97 = .ok (.ireturn, 1) := by decide +kernel
theorem dX8_feeds_0 : decode cX8_feeds 0 = .ok (.aload_n 0, 1) := by decide +kernel
theorem dX8_feeds_1 : decode cX8_feeds 1 = .ok (.getfield 9, 3) := by decide +kernel
theorem dX8_feeds_4 : decode cX8_feeds 4 = .ok (.bipush 7, 2) := by decide +kernel
theorem dX8_feeds_6 : decode cX8_feeds 6 = .ok (.iaload, 1) := by decide +kernel
theorem dX8_feeds_7 : decode cX8_feeds 7 = .ok (.ifCond .le 36, 3) := by decide +kernel
theorem dX8_feeds_43 : decode cX8_feeds 43 = .ok (.iconst 0, 1) := by decide +kernel
theorem dX8_feeds_44 : decode cX8_feeds 44 = .ok (.istore_n 1, 1) := by decide +kernel
theorem dX8_feeds_45 : decode cX8_feeds 45 = .ok (.iload_n 1, 1) := by decide +kernel
theorem dX8_feeds_46 : decode cX8_feeds 46 = .ok (.ifCond .eq 10, 3) := by decide +kernel
theorem dX8_feeds_56 : decode cX8_feeds 56 = .ok (.iconst (-1), 1) := by decide +kernel
theorem dX8_feeds_57 : decode cX8_feeds 57 = .ok (.istore_n 2, 1) := by decide +kernel
theorem dX8_feeds_58 : decode cX8_feeds 58 = .ok (.iload_n 2, 1) := by decide +kernel
theorem dX8_feeds_59 : decode cX8_feeds 59 = .ok (.iconst (-1), 1) := by decide +kernel
theorem dX8_feeds_60 : decode cX8_feeds 60 = .ok (.if_icmp .ne 4, 3) := by decide +kernel
theorem dX8_feeds_63 : decode cX8_feeds 63 = .ok (.return_, 1) := by decide +kernel
theorem dX8_clearsTray_0 : decode cX8_clearsTray 0 = .ok (.iconst 0, 1) := by decide +kernel
theorem dX8_clearsTray_1 : decode cX8_clearsTray 1 = .ok (.istore_n 1, 1) := by decide +kernel
theorem dX8_clearsTray_2 : decode cX8_clearsTray 2 = .ok (.iload_n 1, 1) := by decide +kernel
theorem dX8_clearsTray_3 : decode cX8_clearsTray 3 = .ok (.aload_n 0, 1) := by decide +kernel
theorem dX8_clearsTray_4 : decode cX8_clearsTray 4 = .ok (.getfield 9, 3) := by decide +kernel
theorem dX8_clearsTray_7 : decode cX8_clearsTray 7 = .ok (.bipush 8, 2) := by decide +kernel
theorem dX8_clearsTray_9 : decode cX8_clearsTray 9 = .ok (.iaload, 1) := by decide +kernel
theorem dX8_clearsTray_10 : decode cX8_clearsTray 10 = .ok (.if_icmp .ge 44, 3) := by decide +kernel
theorem dX8_clearsTray_54 : decode cX8_clearsTray 54 = .ok (.return_, 1) := by decide +kernel
theorem dX8_dayEnds_0 : decode cX8_dayEnds 0 = .ok (.bipush 119, 2) := by decide +kernel
theorem dX8_dayEnds_2 : decode cX8_dayEnds 2 = .ok (.istore_n 1, 1) := by decide +kernel
theorem dX8_dayEnds_3 : decode cX8_dayEnds 3 = .ok (.iload_n 1, 1) := by decide +kernel
theorem dX8_dayEnds_4 : decode cX8_dayEnds 4 = .ok (.bipush 12, 2) := by decide +kernel
theorem dX8_dayEnds_6 : decode cX8_dayEnds 6 = .ok (.if_icmp .lt 32, 3) := by decide +kernel
theorem dX8_dayEnds_9 : decode cX8_dayEnds 9 = .ok (.aload_n 0, 1) := by decide +kernel
theorem dX8_dayEnds_10 : decode cX8_dayEnds 10 = .ok (.getfield 9, 3) := by decide +kernel
theorem dX8_dayEnds_13 : decode cX8_dayEnds 13 = .ok (.sipush 917, 3) := by decide +kernel
theorem dX8_dayEnds_16 : decode cX8_dayEnds 16 = .ok (.iload_n 1, 1) := by decide +kernel
theorem dX8_dayEnds_17 : decode cX8_dayEnds 17 = .ok (.iadd, 1) := by decide +kernel
theorem dX8_dayEnds_18 : decode cX8_dayEnds 18 = .ok (.aload_n 0, 1) := by decide +kernel
theorem dX8_dayEnds_19 : decode cX8_dayEnds 19 = .ok (.getfield 9, 3) := by decide +kernel
theorem dX8_dayEnds_22 : decode cX8_dayEnds 22 = .ok (.sipush 917, 3) := by decide +kernel
theorem dX8_dayEnds_25 : decode cX8_dayEnds 25 = .ok (.iload_n 1, 1) := by decide +kernel
theorem dX8_dayEnds_26 : decode cX8_dayEnds 26 = .ok (.iadd, 1) := by decide +kernel
theorem dX8_dayEnds_27 : decode cX8_dayEnds 27 = .ok (.bipush 12, 2) := by decide +kernel
theorem dX8_dayEnds_29 : decode cX8_dayEnds 29 = .ok (.isub, 1) := by decide +kernel
theorem dX8_dayEnds_30 : decode cX8_dayEnds 30 = .ok (.iaload, 1) := by decide +kernel
theorem dX8_dayEnds_31 : decode cX8_dayEnds 31 = .ok (.iastore, 1) := by decide +kernel
theorem dX8_dayEnds_32 : decode cX8_dayEnds 32 = .ok (.iinc 1 (-1), 3) := by decide +kernel
theorem dX8_dayEnds_35 : decode cX8_dayEnds 35 = .ok (.goto (-32), 3) := by decide +kernel
theorem dX8_dayEnds_38 : decode cX8_dayEnds 38 = .ok (.iconst 0, 1) := by decide +kernel
theorem dX8_dayEnds_39 : decode cX8_dayEnds 39 = .ok (.istore_n 1, 1) := by decide +kernel
theorem dX8_dayEnds_40 : decode cX8_dayEnds 40 = .ok (.iload_n 1, 1) := by decide +kernel
theorem dX8_dayEnds_41 : decode cX8_dayEnds 41 = .ok (.bipush 6, 2) := by decide +kernel
theorem dX8_dayEnds_43 : decode cX8_dayEnds 43 = .ok (.if_icmp .ge 60, 3) := by decide +kernel
theorem dX8_dayEnds_46 : decode cX8_dayEnds 46 = .ok (.iconst 0, 1) := by decide +kernel
theorem dX8_dayEnds_47 : decode cX8_dayEnds 47 = .ok (.istore_n 2, 1) := by decide +kernel
theorem dX8_dayEnds_48 : decode cX8_dayEnds 48 = .ok (.iload_n 2, 1) := by decide +kernel
theorem dX8_dayEnds_49 : decode cX8_dayEnds 49 = .ok (.iconst 2, 1) := by decide +kernel
theorem dX8_dayEnds_50 : decode cX8_dayEnds 50 = .ok (.if_icmp .ge 47, 3) := by decide +kernel
theorem dX8_dayEnds_53 : decode cX8_dayEnds 53 = .ok (.aload_n 0, 1) := by decide +kernel
theorem dX8_dayEnds_54 : decode cX8_dayEnds 54 = .ok (.getfield 9, 3) := by decide +kernel
theorem dX8_dayEnds_57 : decode cX8_dayEnds 57 = .ok (.sipush 917, 3) := by decide +kernel
theorem dX8_dayEnds_60 : decode cX8_dayEnds 60 = .ok (.iconst 2, 1) := by decide +kernel
theorem dX8_dayEnds_61 : decode cX8_dayEnds 61 = .ok (.iload_n 1, 1) := by decide +kernel
theorem dX8_dayEnds_62 : decode cX8_dayEnds 62 = .ok (.imul, 1) := by decide +kernel
theorem dX8_dayEnds_63 : decode cX8_dayEnds 63 = .ok (.iadd, 1) := by decide +kernel
theorem dX8_dayEnds_64 : decode cX8_dayEnds 64 = .ok (.iload_n 2, 1) := by decide +kernel
theorem dX8_dayEnds_65 : decode cX8_dayEnds 65 = .ok (.iadd, 1) := by decide +kernel
theorem dX8_dayEnds_66 : decode cX8_dayEnds 66 = .ok (.aload_n 0, 1) := by decide +kernel
theorem dX8_dayEnds_67 : decode cX8_dayEnds 67 = .ok (.iload_n 1, 1) := by decide +kernel
theorem dX8_dayEnds_68 : decode cX8_dayEnds 68 = .ok (.iconst 2, 1) := by decide +kernel
theorem dX8_dayEnds_69 : decode cX8_dayEnds 69 = .ok (.iload_n 2, 1) := by decide +kernel
theorem dX8_dayEnds_70 : decode cX8_dayEnds 70 = .ok (.iadd, 1) := by decide +kernel
theorem dX8_dayEnds_71 : decode cX8_dayEnds 71 = .ok (.invokevirtual 134, 3) := by decide +kernel
theorem dX8_dayEnds_74 : decode cX8_dayEnds 74 = .ok (.iastore, 1) := by decide +kernel
theorem dX8_dayEnds_75 : decode cX8_dayEnds 75 = .ok (.aload_n 0, 1) := by decide +kernel
theorem dX8_dayEnds_76 : decode cX8_dayEnds 76 = .ok (.getfield 9, 3) := by decide +kernel
theorem dX8_dayEnds_79 : decode cX8_dayEnds 79 = .ok (.bipush 113, 2) := by decide +kernel
theorem dX8_dayEnds_81 : decode cX8_dayEnds 81 = .ok (.iconst 4, 1) := by decide +kernel
theorem dX8_dayEnds_82 : decode cX8_dayEnds 82 = .ok (.iload_n 1, 1) := by decide +kernel
theorem dX8_dayEnds_83 : decode cX8_dayEnds 83 = .ok (.imul, 1) := by decide +kernel
theorem dX8_dayEnds_84 : decode cX8_dayEnds 84 = .ok (.iadd, 1) := by decide +kernel
theorem dX8_dayEnds_85 : decode cX8_dayEnds 85 = .ok (.iconst 2, 1) := by decide +kernel
theorem dX8_dayEnds_86 : decode cX8_dayEnds 86 = .ok (.iadd, 1) := by decide +kernel
theorem dX8_dayEnds_87 : decode cX8_dayEnds 87 = .ok (.iload_n 2, 1) := by decide +kernel
theorem dX8_dayEnds_88 : decode cX8_dayEnds 88 = .ok (.iadd, 1) := by decide +kernel
theorem dX8_dayEnds_89 : decode cX8_dayEnds 89 = .ok (.iconst 0, 1) := by decide +kernel
theorem dX8_dayEnds_90 : decode cX8_dayEnds 90 = .ok (.iastore, 1) := by decide +kernel
theorem dX8_dayEnds_91 : decode cX8_dayEnds 91 = .ok (.iinc 2 1, 3) := by decide +kernel
theorem dX8_dayEnds_94 : decode cX8_dayEnds 94 = .ok (.goto (-46), 3) := by decide +kernel
theorem dX8_dayEnds_97 : decode cX8_dayEnds 97 = .ok (.iinc 1 1, 3) := by decide +kernel
theorem dX8_dayEnds_100 : decode cX8_dayEnds 100 = .ok (.goto (-60), 3) := by decide +kernel
theorem dX8_dayEnds_103 : decode cX8_dayEnds 103 = .ok (.aload_n 0, 1) := by decide +kernel
theorem dX8_dayEnds_104 : decode cX8_dayEnds 104 = .ok (.getfield 9, 3) := by decide +kernel
theorem dX8_dayEnds_107 : decode cX8_dayEnds 107 = .ok (.bipush 11, 2) := by decide +kernel
theorem dX8_dayEnds_109 : decode cX8_dayEnds 109 = .ok (.bipush 10, 2) := by decide +kernel
theorem dX8_dayEnds_111 : decode cX8_dayEnds 111 = .ok (.aload_n 0, 1) := by decide +kernel
theorem dX8_dayEnds_112 : decode cX8_dayEnds 112 = .ok (.getfield 9, 3) := by decide +kernel
theorem dX8_dayEnds_115 : decode cX8_dayEnds 115 = .ok (.bipush 11, 2) := by decide +kernel
theorem dX8_dayEnds_117 : decode cX8_dayEnds 117 = .ok (.iaload, 1) := by decide +kernel
theorem dX8_dayEnds_118 : decode cX8_dayEnds 118 = .ok (.iconst 1, 1) := by decide +kernel
theorem dX8_dayEnds_119 : decode cX8_dayEnds 119 = .ok (.iadd, 1) := by decide +kernel
theorem dX8_dayEnds_120 : decode cX8_dayEnds 120 = .ok (.invokestatic 105, 3) := by decide +kernel
theorem dX8_dayEnds_123 : decode cX8_dayEnds 123 = .ok (.iastore, 1) := by decide +kernel
theorem dX8_dayEnds_124 : decode cX8_dayEnds 124 = .ok (.return_, 1) := by decide +kernel
theorem dX8_passes_0 : decode cX8_passes 0 = .ok (.aload_n 0, 1) := by decide +kernel
theorem dX8_passes_1 : decode cX8_passes 1 = .ok (.getfield 9, 3) := by decide +kernel
theorem dX8_passes_4 : decode cX8_passes 4 = .ok (.bipush 7, 2) := by decide +kernel
theorem dX8_passes_6 : decode cX8_passes 6 = .ok (.iaload, 1) := by decide +kernel
theorem dX8_passes_7 : decode cX8_passes 7 = .ok (.iconst 1, 1) := by decide +kernel
theorem dX8_passes_8 : decode cX8_passes 8 = .ok (.isub, 1) := by decide +kernel
theorem dX8_passes_9 : decode cX8_passes 9 = .ok (.istore_n 1, 1) := by decide +kernel
theorem dX8_passes_10 : decode cX8_passes 10 = .ok (.iload_n 1, 1) := by decide +kernel
theorem dX8_passes_11 : decode cX8_passes 11 = .ok (.ifCond .lt 14, 3) := by decide +kernel
theorem dX8_passes_25 : decode cX8_passes 25 = .ok (.aload_n 0, 1) := by decide +kernel
theorem dX8_passes_26 : decode cX8_passes 26 = .ok (.invokevirtual 329, 3) := by decide +kernel
theorem dX8_passes_29 : decode cX8_passes 29 = .ok (.aload_n 0, 1) := by decide +kernel
theorem dX8_passes_30 : decode cX8_passes 30 = .ok (.invokevirtual 332, 3) := by decide +kernel
theorem dX8_passes_33 : decode cX8_passes 33 = .ok (.aload_n 0, 1) := by decide +kernel
theorem dX8_passes_34 : decode cX8_passes 34 = .ok (.getfield 9, 3) := by decide +kernel
theorem dX8_passes_37 : decode cX8_passes 37 = .ok (.bipush 6, 2) := by decide +kernel
theorem dX8_passes_39 : decode cX8_passes 39 = .ok (.dup2, 1) := by decide +kernel
theorem dX8_passes_40 : decode cX8_passes 40 = .ok (.iaload, 1) := by decide +kernel
theorem dX8_passes_41 : decode cX8_passes 41 = .ok (.iconst 1, 1) := by decide +kernel
theorem dX8_passes_42 : decode cX8_passes 42 = .ok (.iadd, 1) := by decide +kernel
theorem dX8_passes_43 : decode cX8_passes 43 = .ok (.iastore, 1) := by decide +kernel
theorem dX8_passes_44 : decode cX8_passes 44 = .ok (.aload_n 0, 1) := by decide +kernel
theorem dX8_passes_45 : decode cX8_passes 45 = .ok (.getfield 9, 3) := by decide +kernel
theorem dX8_passes_48 : decode cX8_passes 48 = .ok (.bipush 6, 2) := by decide +kernel
theorem dX8_passes_50 : decode cX8_passes 50 = .ok (.iaload, 1) := by decide +kernel
theorem dX8_passes_51 : decode cX8_passes 51 = .ok (.aload_n 0, 1) := by decide +kernel
theorem dX8_passes_52 : decode cX8_passes 52 = .ok (.getfield 9, 3) := by decide +kernel
theorem dX8_passes_55 : decode cX8_passes 55 = .ok (.iconst 0, 1) := by decide +kernel
theorem dX8_passes_56 : decode cX8_passes 56 = .ok (.iaload, 1) := by decide +kernel
theorem dX8_passes_57 : decode cX8_passes 57 = .ok (.irem, 1) := by decide +kernel
theorem dX8_passes_58 : decode cX8_passes 58 = .ok (.ifCond .ne 7, 3) := by decide +kernel
theorem dX8_passes_61 : decode cX8_passes 61 = .ok (.aload_n 0, 1) := by decide +kernel
theorem dX8_passes_62 : decode cX8_passes 62 = .ok (.invokevirtual 335, 3) := by decide +kernel
theorem dX8_passes_65 : decode cX8_passes 65 = .ok (.iconst 0, 1) := by decide +kernel
theorem dX8_passes_66 : decode cX8_passes 66 = .ok (.istore_n 1, 1) := by decide +kernel
theorem dX8_passes_67 : decode cX8_passes 67 = .ok (.iload_n 1, 1) := by decide +kernel
theorem dX8_passes_68 : decode cX8_passes 68 = .ok (.aload_n 0, 1) := by decide +kernel
theorem dX8_passes_69 : decode cX8_passes 69 = .ok (.getfield 9, 3) := by decide +kernel
theorem dX8_passes_72 : decode cX8_passes 72 = .ok (.bipush 7, 2) := by decide +kernel
theorem dX8_passes_74 : decode cX8_passes 74 = .ok (.iaload, 1) := by decide +kernel
theorem dX8_passes_75 : decode cX8_passes 75 = .ok (.if_icmp .ge 32, 3) := by decide +kernel
theorem dX8_passes_107 : decode cX8_passes 107 = .ok (.return_, 1) := by decide +kernel
theorem dX8_keeps_0 : decode cX8_keeps 0 = .ok (.aload_n 0, 1) := by decide +kernel
theorem dX8_keeps_1 : decode cX8_keeps 1 = .ok (.getfield 219, 3) := by decide +kernel
theorem dX8_keeps_4 : decode cX8_keeps 4 = .ok (.bipush 8, 2) := by decide +kernel
theorem dX8_keeps_6 : decode cX8_keeps 6 = .ok (.if_icmp .ne 44, 3) := by decide +kernel
theorem dX8_keeps_50 : decode cX8_keeps 50 = .ok (.aload_n 0, 1) := by decide +kernel
theorem dX8_keeps_51 : decode cX8_keeps 51 = .ok (.getfield 9, 3) := by decide +kernel
theorem dX8_keeps_54 : decode cX8_keeps 54 = .ok (.iconst 0, 1) := by decide +kernel
theorem dX8_keeps_55 : decode cX8_keeps 55 = .ok (.aload_n 0, 1) := by decide +kernel
theorem dX8_keeps_56 : decode cX8_keeps 56 = .ok (.getfield 16, 3) := by decide +kernel
theorem dX8_keeps_59 : decode cX8_keeps 59 = .ok (.aload_n 0, 1) := by decide +kernel
theorem dX8_keeps_60 : decode cX8_keeps 60 = .ok (.getfield 219, 3) := by decide +kernel
theorem dX8_keeps_63 : decode cX8_keeps 63 = .ok (.invokestatic 204, 3) := by decide +kernel
theorem dX8_keeps_66 : decode cX8_keeps 66 = .ok (.aload_n 0, 1) := by decide +kernel
theorem dX8_keeps_67 : decode cX8_keeps 67 = .ok (.dup, 1) := by decide +kernel
theorem dX8_keeps_68 : decode cX8_keeps 68 = .ok (.getfield 219, 3) := by decide +kernel
theorem dX8_keeps_71 : decode cX8_keeps 71 = .ok (.iconst 1, 1) := by decide +kernel
theorem dX8_keeps_72 : decode cX8_keeps 72 = .ok (.iadd, 1) := by decide +kernel
theorem dX8_keeps_73 : decode cX8_keeps 73 = .ok (.putfield 219, 3) := by decide +kernel
theorem dX8_keeps_76 : decode cX8_keeps 76 = .ok (.return_, 1) := by decide +kernel
theorem dX8_undo_0 : decode cX8_undo 0 = .ok (.aload_n 0, 1) := by decide +kernel
theorem dX8_undo_1 : decode cX8_undo 1 = .ok (.iconst 0, 1) := by decide +kernel
theorem dX8_undo_2 : decode cX8_undo 2 = .ok (.putfield 49, 3) := by decide +kernel
theorem dX8_undo_5 : decode cX8_undo 5 = .ok (.aload_n 0, 1) := by decide +kernel
theorem dX8_undo_6 : decode cX8_undo 6 = .ok (.getfield 219, 3) := by decide +kernel
theorem dX8_undo_9 : decode cX8_undo 9 = .ok (.ifCond .ne 5, 3) := by decide +kernel
theorem dX8_undo_12 : decode cX8_undo 12 = .ok (.iconst (-1), 1) := by decide +kernel
theorem dX8_undo_13 : decode cX8_undo 13 = .ok (.ireturn, 1) := by decide +kernel
theorem dX8_giveUp_0 : decode cX8_giveUp 0 = .ok (.aload_n 0, 1) := by decide +kernel
theorem dX8_giveUp_1 : decode cX8_giveUp 1 = .ok (.aload_n 0, 1) := by decide +kernel
theorem dX8_giveUp_2 : decode cX8_giveUp 2 = .ok (.iload_n 1, 1) := by decide +kernel
theorem dX8_giveUp_3 : decode cX8_giveUp 3 = .ok (.invokevirtual 251, 3) := by decide +kernel
theorem dX8_giveUp_6 : decode cX8_giveUp 6 = .ok (.iconst 1, 1) := by decide +kernel
theorem dX8_giveUp_7 : decode cX8_giveUp 7 = .ok (.invokevirtual 226, 3) := by decide +kernel
theorem dX8_giveUp_10 : decode cX8_giveUp 10 = .ok (.ifCond .eq 5, 3) := by decide +kernel
theorem dX8_giveUp_13 : decode cX8_giveUp 13 = .ok (.iconst 0, 1) := by decide +kernel
theorem dX8_giveUp_14 : decode cX8_giveUp 14 = .ok (.ireturn, 1) := by decide +kernel
theorem dX8_puts_0 : decode cX8_puts 0 = .ok (.aload_n 0, 1) := by decide +kernel
theorem dX8_puts_1 : decode cX8_puts 1 = .ok (.invokevirtual 230, 3) := by decide +kernel
theorem dX8_puts_4 : decode cX8_puts 4 = .ok (.aload_n 0, 1) := by decide +kernel
theorem dX8_puts_5 : decode cX8_puts 5 = .ok (.getfield 9, 3) := by decide +kernel
theorem dX8_puts_8 : decode cX8_puts 8 = .ok (.iload_n 1, 1) := by decide +kernel
theorem dX8_puts_9 : decode cX8_puts 9 = .ok (.iaload, 1) := by decide +kernel
theorem dX8_puts_10 : decode cX8_puts 10 = .ok (.istore_n 3, 1) := by decide +kernel
theorem dX8_puts_11 : decode cX8_puts 11 = .ok (.aload_n 0, 1) := by decide +kernel
theorem dX8_puts_12 : decode cX8_puts 12 = .ok (.getfield 9, 3) := by decide +kernel
theorem dX8_puts_15 : decode cX8_puts 15 = .ok (.iload_n 1, 1) := by decide +kernel
theorem dX8_puts_16 : decode cX8_puts 16 = .ok (.iload_n 2, 1) := by decide +kernel
theorem dX8_puts_17 : decode cX8_puts 17 = .ok (.iastore, 1) := by decide +kernel
theorem dX8_puts_18 : decode cX8_puts 18 = .ok (.iload_n 3, 1) := by decide +kernel
theorem dX8_puts_19 : decode cX8_puts 19 = .ok (.ireturn, 1) := by decide +kernel
theorem dX8_setRank_0 : decode cX8_setRank 0 = .ok (.aload_n 0, 1) := by decide +kernel
theorem dX8_setRank_1 : decode cX8_setRank 1 = .ok (.aload_n 0, 1) := by decide +kernel
theorem dX8_setRank_2 : decode cX8_setRank 2 = .ok (.iload_n 1, 1) := by decide +kernel
theorem dX8_setRank_3 : decode cX8_setRank 3 = .ok (.invokevirtual 222, 3) := by decide +kernel
theorem dX8_setRank_6 : decode cX8_setRank 6 = .ok (.iconst 1, 1) := by decide +kernel
theorem dX8_setRank_7 : decode cX8_setRank 7 = .ok (.invokevirtual 226, 3) := by decide +kernel
theorem dX8_setRank_10 : decode cX8_setRank 10 = .ok (.ifCond .ne 20, 3) := by decide +kernel
theorem dX8_setRank_30 : decode cX8_setRank 30 = .ok (.iconst 0, 1) := by decide +kernel
theorem dX8_setRank_31 : decode cX8_setRank 31 = .ok (.ireturn, 1) := by decide +kernel
theorem dX8_refill_0 : decode cX8_refill 0 = .ok (.aload_n 0, 1) := by decide +kernel
theorem dX8_refill_1 : decode cX8_refill 1 = .ok (.iload_n 1, 1) := by decide +kernel
theorem dX8_refill_2 : decode cX8_refill 2 = .ok (.i2l, 1) := by decide +kernel
theorem dX8_refill_3 : decode cX8_refill 3 = .ok (.lconst 1, 1) := by decide +kernel
theorem dX8_refill_4 : decode cX8_refill 4 = .ok (.ldc2_w 341, 3) := by decide +kernel
theorem dX8_refill_7 : decode cX8_refill 7 = .ok (.invokestatic 52, 3) := by decide +kernel
theorem dX8_refill_10 : decode cX8_refill 10 = .ok (.iconst 1, 1) := by decide +kernel
theorem dX8_refill_11 : decode cX8_refill 11 = .ok (.invokevirtual 226, 3) := by decide +kernel
theorem dX8_refill_14 : decode cX8_refill 14 = .ok (.ifCond .eq 5, 3) := by decide +kernel
theorem dX8_refill_17 : decode cX8_refill 17 = .ok (.iconst 0, 1) := by decide +kernel
theorem dX8_refill_18 : decode cX8_refill 18 = .ok (.ireturn, 1) := by decide +kernel
theorem dX8_refill_19 : decode cX8_refill 19 = .ok (.aload_n 0, 1) := by decide +kernel
theorem dX8_refill_20 : decode cX8_refill 20 = .ok (.getfield 9, 3) := by decide +kernel
theorem dX8_refill_23 : decode cX8_refill 23 = .ok (.iconst 5, 1) := by decide +kernel
theorem dX8_refill_24 : decode cX8_refill 24 = .ok (.iaload, 1) := by decide +kernel
theorem dX8_refill_25 : decode cX8_refill 25 = .ok (.iload_n 1, 1) := by decide +kernel
theorem dX8_refill_26 : decode cX8_refill 26 = .ok (.iadd, 1) := by decide +kernel
theorem dX8_refill_27 : decode cX8_refill 27 = .ok (.sipush 9999, 3) := by decide +kernel
theorem dX8_refill_30 : decode cX8_refill 30 = .ok (.if_icmp .le 6, 3) := by decide +kernel
theorem dX8_refill_36 : decode cX8_refill 36 = .ok (.aload_n 0, 1) := by decide +kernel
theorem dX8_refill_37 : decode cX8_refill 37 = .ok (.invokevirtual 230, 3) := by decide +kernel
theorem dX8_refill_40 : decode cX8_refill 40 = .ok (.aload_n 0, 1) := by decide +kernel
theorem dX8_refill_41 : decode cX8_refill 41 = .ok (.getfield 9, 3) := by decide +kernel
theorem dX8_refill_44 : decode cX8_refill 44 = .ok (.iconst 5, 1) := by decide +kernel
theorem dX8_refill_45 : decode cX8_refill 45 = .ok (.dup2, 1) := by decide +kernel
theorem dX8_refill_46 : decode cX8_refill 46 = .ok (.iaload, 1) := by decide +kernel
theorem dX8_refill_47 : decode cX8_refill 47 = .ok (.iload_n 1, 1) := by decide +kernel
theorem dX8_refill_48 : decode cX8_refill 48 = .ok (.iadd, 1) := by decide +kernel
theorem dX8_refill_49 : decode cX8_refill 49 = .ok (.iastore, 1) := by decide +kernel
theorem dX8_refill_50 : decode cX8_refill 50 = .ok (.aload_n 0, 1) := by decide +kernel
theorem dX8_refill_51 : decode cX8_refill 51 = .ok (.getfield 9, 3) := by decide +kernel
theorem dX8_refill_54 : decode cX8_refill 54 = .ok (.iconst 4, 1) := by decide +kernel
theorem dX8_refill_55 : decode cX8_refill 55 = .ok (.dup2, 1) := by decide +kernel
theorem dX8_refill_56 : decode cX8_refill 56 = .ok (.iaload, 1) := by decide +kernel
theorem dX8_refill_57 : decode cX8_refill 57 = .ok (.iload_n 1, 1) := by decide +kernel
theorem dX8_refill_58 : decode cX8_refill 58 = .ok (.iadd, 1) := by decide +kernel
theorem dX8_refill_59 : decode cX8_refill 59 = .ok (.iastore, 1) := by decide +kernel
theorem dX8_refill_60 : decode cX8_refill 60 = .ok (.aload_n 0, 1) := by decide +kernel
theorem dX8_refill_61 : decode cX8_refill 61 = .ok (.getfield 9, 3) := by decide +kernel
theorem dX8_refill_64 : decode cX8_refill 64 = .ok (.iconst 5, 1) := by decide +kernel
theorem dX8_refill_65 : decode cX8_refill 65 = .ok (.iaload, 1) := by decide +kernel
theorem dX8_refill_66 : decode cX8_refill 66 = .ok (.ireturn, 1) := by decide +kernel
theorem dX8_setPace_0 : decode cX8_setPace 0 = .ok (.aload_n 0, 1) := by decide +kernel
theorem dX8_setPace_1 : decode cX8_setPace 1 = .ok (.aload_n 0, 1) := by decide +kernel
theorem dX8_setPace_2 : decode cX8_setPace 2 = .ok (.iload_n 1, 1) := by decide +kernel
theorem dX8_setPace_3 : decode cX8_setPace 3 = .ok (.invokevirtual 243, 3) := by decide +kernel
theorem dX8_setPace_6 : decode cX8_setPace 6 = .ok (.iconst 1, 1) := by decide +kernel
theorem dX8_setPace_7 : decode cX8_setPace 7 = .ok (.invokevirtual 226, 3) := by decide +kernel
theorem dX8_setPace_10 : decode cX8_setPace 10 = .ok (.ifCond .ne 27, 3) := by decide +kernel
theorem dX8_setPace_37 : decode cX8_setPace 37 = .ok (.iconst 0, 1) := by decide +kernel
theorem dX8_setPace_38 : decode cX8_setPace 38 = .ok (.ireturn, 1) := by decide +kernel
theorem dX8_stop_0 : decode cX8_stop 0 = .ok (.aload_n 0, 1) := by decide +kernel
theorem dX8_stop_1 : decode cX8_stop 1 = .ok (.aload_n 0, 1) := by decide +kernel
theorem dX8_stop_2 : decode cX8_stop 2 = .ok (.iload_n 1, 1) := by decide +kernel
theorem dX8_stop_3 : decode cX8_stop 3 = .ok (.invokevirtual 243, 3) := by decide +kernel
theorem dX8_stop_6 : decode cX8_stop 6 = .ok (.iconst 1, 1) := by decide +kernel
theorem dX8_stop_7 : decode cX8_stop 7 = .ok (.invokevirtual 226, 3) := by decide +kernel
theorem dX8_stop_10 : decode cX8_stop 10 = .ok (.ifCond .eq 5, 3) := by decide +kernel
theorem dX8_stop_13 : decode cX8_stop 13 = .ok (.iconst 0, 1) := by decide +kernel
theorem dX8_stop_14 : decode cX8_stop 14 = .ok (.ireturn, 1) := by decide +kernel
theorem dX8_setRest_0 : decode cX8_setRest 0 = .ok (.iload_n 2, 1) := by decide +kernel
theorem dX8_setRest_1 : decode cX8_setRest 1 = .ok (.ifCond .eq 27, 3) := by decide +kernel
theorem dX8_setRest_4 : decode cX8_setRest 4 = .ok (.iload_n 2, 1) := by decide +kernel
theorem dX8_setRest_5 : decode cX8_setRest 5 = .ok (.i2l, 1) := by decide +kernel
theorem dX8_setRest_6 : decode cX8_setRest 6 = .ok (.lconst 1, 1) := by decide +kernel
theorem dX8_setRest_7 : decode cX8_setRest 7 = .ok (.ldc2_w 343, 3) := by decide +kernel
theorem dX8_setRest_10 : decode cX8_setRest 10 = .ok (.invokestatic 52, 3) := by decide +kernel
theorem dX8_setRest_13 : decode cX8_setRest 13 = .ok (.ifCond .eq 19, 3) := by decide +kernel
theorem dX8_setRest_16 : decode cX8_setRest 16 = .ok (.iload_n 3, 1) := by decide +kernel
theorem dX8_setRest_17 : decode cX8_setRest 17 = .ok (.i2l, 1) := by decide +kernel
theorem dX8_setRest_18 : decode cX8_setRest 18 = .ok (.lconst 1, 1) := by decide +kernel
theorem dX8_setRest_19 : decode cX8_setRest 19 = .ok (.ldc2_w 343, 3) := by decide +kernel
theorem dX8_setRest_22 : decode cX8_setRest 22 = .ok (.invokestatic 52, 3) := by decide +kernel
theorem dX8_setRest_25 : decode cX8_setRest 25 = .ok (.ifCond .eq 7, 3) := by decide +kernel
theorem dX8_setRest_28 : decode cX8_setRest 28 = .ok (.iconst 1, 1) := by decide +kernel
theorem dX8_setRest_29 : decode cX8_setRest 29 = .ok (.goto 4, 3) := by decide +kernel
theorem dX8_setRest_32 : decode cX8_setRest 32 = .ok (.iconst 0, 1) := by decide +kernel
theorem dX8_setRest_33 : decode cX8_setRest 33 = .ok (.istore 4, 2) := by decide +kernel
theorem dX8_setRest_35 : decode cX8_setRest 35 = .ok (.aload_n 0, 1) := by decide +kernel
theorem dX8_setRest_36 : decode cX8_setRest 36 = .ok (.aload_n 0, 1) := by decide +kernel
theorem dX8_setRest_37 : decode cX8_setRest 37 = .ok (.iload_n 1, 1) := by decide +kernel
theorem dX8_setRest_38 : decode cX8_setRest 38 = .ok (.invokevirtual 243, 3) := by decide +kernel
theorem dX8_setRest_41 : decode cX8_setRest 41 = .ok (.iconst 1, 1) := by decide +kernel
theorem dX8_setRest_42 : decode cX8_setRest 42 = .ok (.invokevirtual 226, 3) := by decide +kernel
theorem dX8_setRest_45 : decode cX8_setRest 45 = .ok (.ifCond .ne 13, 3) := by decide +kernel
theorem dX8_setRest_58 : decode cX8_setRest 58 = .ok (.iconst 0, 1) := by decide +kernel
theorem dX8_setRest_59 : decode cX8_setRest 59 = .ok (.ireturn, 1) := by decide +kernel
theorem dX8_rush_0 : decode cX8_rush 0 = .ok (.aload_n 0, 1) := by decide +kernel
theorem dX8_rush_1 : decode cX8_rush 1 = .ok (.aload_n 0, 1) := by decide +kernel
theorem dX8_rush_2 : decode cX8_rush 2 = .ok (.iload_n 1, 1) := by decide +kernel
theorem dX8_rush_3 : decode cX8_rush 3 = .ok (.invokevirtual 251, 3) := by decide +kernel
theorem dX8_rush_6 : decode cX8_rush 6 = .ok (.iconst 1, 1) := by decide +kernel
theorem dX8_rush_7 : decode cX8_rush 7 = .ok (.invokevirtual 226, 3) := by decide +kernel
theorem dX8_rush_10 : decode cX8_rush 10 = .ok (.ifCond .eq 5, 3) := by decide +kernel
theorem dX8_rush_13 : decode cX8_rush 13 = .ok (.iconst 0, 1) := by decide +kernel
theorem dX8_rush_14 : decode cX8_rush 14 = .ok (.ireturn, 1) := by decide +kernel
theorem dX8_swap_0 : decode cX8_swap 0 = .ok (.aload_n 0, 1) := by decide +kernel
theorem dX8_swap_1 : decode cX8_swap 1 = .ok (.aload_n 0, 1) := by decide +kernel
theorem dX8_swap_2 : decode cX8_swap 2 = .ok (.iload_n 1, 1) := by decide +kernel
theorem dX8_swap_3 : decode cX8_swap 3 = .ok (.invokevirtual 251, 3) := by decide +kernel
theorem dX8_swap_6 : decode cX8_swap 6 = .ok (.ifCond .eq 15, 3) := by decide +kernel
theorem dX8_swap_21 : decode cX8_swap 21 = .ok (.iconst 0, 1) := by decide +kernel
theorem dX8_swap_22 : decode cX8_swap 22 = .ok (.iconst 1, 1) := by decide +kernel
theorem dX8_swap_23 : decode cX8_swap 23 = .ok (.invokevirtual 226, 3) := by decide +kernel
theorem dX8_swap_26 : decode cX8_swap 26 = .ok (.ifCond .ne 36, 3) := by decide +kernel
theorem dX8_swap_62 : decode cX8_swap 62 = .ok (.iconst 0, 1) := by decide +kernel
theorem dX8_swap_63 : decode cX8_swap 63 = .ok (.ireturn, 1) := by decide +kernel
theorem dX8_setTries_0 : decode cX8_setTries 0 = .ok (.aload_n 0, 1) := by decide +kernel
theorem dX8_setTries_1 : decode cX8_setTries 1 = .ok (.iload_n 1, 1) := by decide +kernel
theorem dX8_setTries_2 : decode cX8_setTries 2 = .ok (.i2l, 1) := by decide +kernel
theorem dX8_setTries_3 : decode cX8_setTries 3 = .ok (.lconst 1, 1) := by decide +kernel
theorem dX8_setTries_4 : decode cX8_setTries 4 = .ok (.ldc2_w 236, 3) := by decide +kernel
theorem dX8_setTries_7 : decode cX8_setTries 7 = .ok (.invokestatic 52, 3) := by decide +kernel
theorem dX8_setTries_10 : decode cX8_setTries 10 = .ok (.iconst 1, 1) := by decide +kernel
theorem dX8_setTries_11 : decode cX8_setTries 11 = .ok (.invokevirtual 226, 3) := by decide +kernel
theorem dX8_setTries_14 : decode cX8_setTries 14 = .ok (.ifCond .eq 7, 3) := by decide +kernel
theorem dX8_setTries_17 : decode cX8_setTries 17 = .ok (.iconst 0, 1) := by decide +kernel
theorem dX8_setTries_18 : decode cX8_setTries 18 = .ok (.goto 9, 3) := by decide +kernel
theorem dX8_setTries_21 : decode cX8_setTries 21 = .ok (.aload_n 0, 1) := by decide +kernel
theorem dX8_setTries_22 : decode cX8_setTries 22 = .ok (.iconst 2, 1) := by decide +kernel
theorem dX8_setTries_23 : decode cX8_setTries 23 = .ok (.iload_n 1, 1) := by decide +kernel
theorem dX8_setTries_24 : decode cX8_setTries 24 = .ok (.invokevirtual 338, 3) := by decide +kernel
theorem dX8_setTries_27 : decode cX8_setTries 27 = .ok (.ireturn, 1) := by decide +kernel
theorem dX8_setTray_0 : decode cX8_setTray 0 = .ok (.aload_n 0, 1) := by decide +kernel
theorem dX8_setTray_1 : decode cX8_setTray 1 = .ok (.iload_n 1, 1) := by decide +kernel
theorem dX8_setTray_2 : decode cX8_setTray 2 = .ok (.i2l, 1) := by decide +kernel
theorem dX8_setTray_3 : decode cX8_setTray 3 = .ok (.lconst 1, 1) := by decide +kernel
theorem dX8_setTray_4 : decode cX8_setTray 4 = .ok (.ldc2_w 345, 3) := by decide +kernel
theorem dX8_setTray_7 : decode cX8_setTray 7 = .ok (.invokestatic 52, 3) := by decide +kernel
theorem dX8_setTray_10 : decode cX8_setTray 10 = .ok (.iconst 1, 1) := by decide +kernel
theorem dX8_setTray_11 : decode cX8_setTray 11 = .ok (.invokevirtual 226, 3) := by decide +kernel
theorem dX8_setTray_14 : decode cX8_setTray 14 = .ok (.ifCond .eq 7, 3) := by decide +kernel
theorem dX8_setTray_17 : decode cX8_setTray 17 = .ok (.iconst 0, 1) := by decide +kernel
theorem dX8_setTray_18 : decode cX8_setTray 18 = .ok (.goto 9, 3) := by decide +kernel
theorem dX8_setTray_21 : decode cX8_setTray 21 = .ok (.aload_n 0, 1) := by decide +kernel
theorem dX8_setTray_22 : decode cX8_setTray 22 = .ok (.iconst 1, 1) := by decide +kernel
theorem dX8_setTray_23 : decode cX8_setTray 23 = .ok (.iload_n 1, 1) := by decide +kernel
theorem dX8_setTray_24 : decode cX8_setTray 24 = .ok (.invokevirtual 338, 3) := by decide +kernel
theorem dX8_setTray_27 : decode cX8_setTray 27 = .ok (.ireturn, 1) := by decide +kernel
theorem dX8_run_0 : decode cX8_run 0 = .ok (.aload_n 0, 1) := by decide +kernel
theorem dX8_run_1 : decode cX8_run 1 = .ok (.iload_n 1, 1) := by decide +kernel
theorem dX8_run_2 : decode cX8_run 2 = .ok (.i2l, 1) := by decide +kernel
theorem dX8_run_3 : decode cX8_run 3 = .ok (.lconst 1, 1) := by decide +kernel
theorem dX8_run_4 : decode cX8_run 4 = .ok (.ldc2_w 347, 3) := by decide +kernel
theorem dX8_run_7 : decode cX8_run 7 = .ok (.invokestatic 52, 3) := by decide +kernel
theorem dX8_run_10 : decode cX8_run 10 = .ok (.iconst 1, 1) := by decide +kernel
theorem dX8_run_11 : decode cX8_run 11 = .ok (.invokevirtual 226, 3) := by decide +kernel
theorem dX8_run_14 : decode cX8_run 14 = .ok (.ifCond .eq 5, 3) := by decide +kernel
theorem dX8_run_17 : decode cX8_run 17 = .ok (.iconst 0, 1) := by decide +kernel
theorem dX8_run_18 : decode cX8_run 18 = .ok (.ireturn, 1) := by decide +kernel
theorem dX8_run_19 : decode cX8_run 19 = .ok (.aload_n 0, 1) := by decide +kernel
theorem dX8_run_20 : decode cX8_run 20 = .ok (.invokevirtual 230, 3) := by decide +kernel
theorem dX8_run_23 : decode cX8_run 23 = .ok (.iconst 0, 1) := by decide +kernel
theorem dX8_run_24 : decode cX8_run 24 = .ok (.istore_n 2, 1) := by decide +kernel
theorem dX8_run_25 : decode cX8_run 25 = .ok (.iload_n 2, 1) := by decide +kernel
theorem dX8_run_26 : decode cX8_run 26 = .ok (.iload_n 1, 1) := by decide +kernel
theorem dX8_run_27 : decode cX8_run 27 = .ok (.if_icmp .ge 13, 3) := by decide +kernel
theorem dX8_run_30 : decode cX8_run 30 = .ok (.aload_n 0, 1) := by decide +kernel
theorem dX8_run_31 : decode cX8_run 31 = .ok (.invokevirtual 349, 3) := by decide +kernel
theorem dX8_run_34 : decode cX8_run 34 = .ok (.iinc 2 1, 3) := by decide +kernel
theorem dX8_run_37 : decode cX8_run 37 = .ok (.goto (-12), 3) := by decide +kernel
theorem dX8_run_40 : decode cX8_run 40 = .ok (.aload_n 0, 1) := by decide +kernel
theorem dX8_run_41 : decode cX8_run 41 = .ok (.getfield 9, 3) := by decide +kernel
theorem dX8_run_44 : decode cX8_run 44 = .ok (.bipush 10, 2) := by decide +kernel
theorem dX8_run_46 : decode cX8_run 46 = .ok (.iaload, 1) := by decide +kernel
theorem dX8_run_47 : decode cX8_run 47 = .ok (.ireturn, 1) := by decide +kernel
theorem dX8_runToLeave_0 : decode cX8_runToLeave 0 = .ok (.aload_n 0, 1) := by decide +kernel
theorem dX8_runToLeave_1 : decode cX8_runToLeave 1 = .ok (.iload_n 1, 1) := by decide +kernel
theorem dX8_runToLeave_2 : decode cX8_runToLeave 2 = .ok (.i2l, 1) := by decide +kernel
theorem dX8_runToLeave_3 : decode cX8_runToLeave 3 = .ok (.lconst 1, 1) := by decide +kernel
theorem dX8_runToLeave_4 : decode cX8_runToLeave 4 = .ok (.ldc2_w 347, 3) := by decide +kernel
theorem dX8_runToLeave_7 : decode cX8_runToLeave 7 = .ok (.invokestatic 52, 3) := by decide +kernel
theorem dX8_runToLeave_10 : decode cX8_runToLeave 10 = .ok (.iconst 1, 1) := by decide +kernel
theorem dX8_runToLeave_11 : decode cX8_runToLeave 11 = .ok (.invokevirtual 226, 3) := by decide +kernel
theorem dX8_runToLeave_14 : decode cX8_runToLeave 14 = .ok (.ifCond .eq 5, 3) := by decide +kernel
theorem dX8_runToLeave_17 : decode cX8_runToLeave 17 = .ok (.iconst 0, 1) := by decide +kernel
theorem dX8_runToLeave_18 : decode cX8_runToLeave 18 = .ok (.ireturn, 1) := by decide +kernel
theorem dX8_runToLeave_19 : decode cX8_runToLeave 19 = .ok (.aload_n 0, 1) := by decide +kernel
theorem dX8_runToLeave_20 : decode cX8_runToLeave 20 = .ok (.invokevirtual 230, 3) := by decide +kernel
theorem dX8_runToLeave_23 : decode cX8_runToLeave 23 = .ok (.aload_n 0, 1) := by decide +kernel
theorem dX8_runToLeave_24 : decode cX8_runToLeave 24 = .ok (.getfield 9, 3) := by decide +kernel
theorem dX8_runToLeave_27 : decode cX8_runToLeave 27 = .ok (.bipush 10, 2) := by decide +kernel
theorem dX8_runToLeave_29 : decode cX8_runToLeave 29 = .ok (.iaload, 1) := by decide +kernel
theorem dX8_runToLeave_30 : decode cX8_runToLeave 30 = .ok (.istore_n 2, 1) := by decide +kernel
theorem dX8_runToLeave_31 : decode cX8_runToLeave 31 = .ok (.iconst 1, 1) := by decide +kernel
theorem dX8_runToLeave_32 : decode cX8_runToLeave 32 = .ok (.istore_n 3, 1) := by decide +kernel
theorem dX8_runToLeave_33 : decode cX8_runToLeave 33 = .ok (.iload_n 3, 1) := by decide +kernel
theorem dX8_runToLeave_34 : decode cX8_runToLeave 34 = .ok (.iload_n 1, 1) := by decide +kernel
theorem dX8_runToLeave_35 : decode cX8_runToLeave 35 = .ok (.if_icmp .gt 26, 3) := by decide +kernel
theorem dX8_runToLeave_38 : decode cX8_runToLeave 38 = .ok (.aload_n 0, 1) := by decide +kernel
theorem dX8_runToLeave_39 : decode cX8_runToLeave 39 = .ok (.invokevirtual 349, 3) := by decide +kernel
theorem dX8_runToLeave_42 : decode cX8_runToLeave 42 = .ok (.aload_n 0, 1) := by decide +kernel
theorem dX8_runToLeave_43 : decode cX8_runToLeave 43 = .ok (.getfield 9, 3) := by decide +kernel
theorem dX8_runToLeave_46 : decode cX8_runToLeave 46 = .ok (.bipush 10, 2) := by decide +kernel
theorem dX8_runToLeave_48 : decode cX8_runToLeave 48 = .ok (.iaload, 1) := by decide +kernel
theorem dX8_runToLeave_49 : decode cX8_runToLeave 49 = .ok (.iload_n 2, 1) := by decide +kernel
theorem dX8_runToLeave_50 : decode cX8_runToLeave 50 = .ok (.if_icmp .le 5, 3) := by decide +kernel
theorem dX8_runToLeave_55 : decode cX8_runToLeave 55 = .ok (.iinc 3 1, 3) := by decide +kernel
theorem dX8_runToLeave_58 : decode cX8_runToLeave 58 = .ok (.goto (-25), 3) := by decide +kernel
theorem dX8_runToLeave_61 : decode cX8_runToLeave 61 = .ok (.iconst (-1), 1) := by decide +kernel
theorem dX8_runToLeave_62 : decode cX8_runToLeave 62 = .ok (.ireturn, 1) := by decide +kernel
theorem dX8_areFinished_0 : decode cX8_areFinished 0 = .ok (.iconst 0, 1) := by decide +kernel
theorem dX8_areFinished_1 : decode cX8_areFinished 1 = .ok (.istore_n 2, 1) := by decide +kernel
theorem dX8_areFinished_2 : decode cX8_areFinished 2 = .ok (.iload_n 2, 1) := by decide +kernel
theorem dX8_areFinished_3 : decode cX8_areFinished 3 = .ok (.aload_n 0, 1) := by decide +kernel
theorem dX8_areFinished_4 : decode cX8_areFinished 4 = .ok (.getfield 9, 3) := by decide +kernel
theorem dX8_areFinished_7 : decode cX8_areFinished 7 = .ok (.bipush 9, 2) := by decide +kernel
theorem dX8_areFinished_9 : decode cX8_areFinished 9 = .ok (.iaload, 1) := by decide +kernel
theorem dX8_areFinished_10 : decode cX8_areFinished 10 = .ok (.if_icmp .ge 34, 3) := by decide +kernel
theorem dX8_areFinished_44 : decode cX8_areFinished 44 = .ok (.iconst 1, 1) := by decide +kernel
theorem dX8_areFinished_45 : decode cX8_areFinished 45 = .ok (.ireturn, 1) := by decide +kernel
theorem dX8_isMet_0 : decode cX8_isMet 0 = .ok (.iload_n 1, 1) := by decide +kernel
theorem dX8_isMet_1 : decode cX8_isMet 1 = .ok (.tableswitch 75 0 3 #[31, 47, 53, 59], 31) := by decide +kernel
theorem dX8_isMet_54 : decode cX8_isMet 54 = .ok (.aload_n 0, 1) := by decide +kernel
theorem dX8_isMet_55 : decode cX8_isMet 55 = .ok (.iconst (-1), 1) := by decide +kernel
theorem dX8_isMet_56 : decode cX8_isMet 56 = .ok (.invokevirtual 352, 3) := by decide +kernel
theorem dX8_isMet_59 : decode cX8_isMet 59 = .ok (.ireturn, 1) := by decide +kernel
theorem dX8_goes_0 : decode cX8_goes 0 = .ok (.iload_n 1, 1) := by decide +kernel
theorem dX8_goes_1 : decode cX8_goes 1 = .ok (.iconst 3, 1) := by decide +kernel
theorem dX8_goes_2 : decode cX8_goes 2 = .ok (.if_icmp .ne 12, 3) := by decide +kernel
theorem dX8_goes_14 : decode cX8_goes 14 = .ok (.iconst 0, 1) := by decide +kernel
theorem dX8_goes_15 : decode cX8_goes 15 = .ok (.istore_n 3, 1) := by decide +kernel
theorem dX8_goes_16 : decode cX8_goes 16 = .ok (.iconst 0, 1) := by decide +kernel
theorem dX8_goes_17 : decode cX8_goes 17 = .ok (.istore 4, 2) := by decide +kernel
theorem dX8_goes_19 : decode cX8_goes 19 = .ok (.iload 4, 2) := by decide +kernel
theorem dX8_goes_21 : decode cX8_goes 21 = .ok (.sipush 2000, 3) := by decide +kernel
theorem dX8_goes_24 : decode cX8_goes 24 = .ok (.if_icmp .gt 34, 3) := by decide +kernel
theorem dX8_goes_27 : decode cX8_goes 27 = .ok (.aload_n 0, 1) := by decide +kernel
theorem dX8_goes_28 : decode cX8_goes 28 = .ok (.iload_n 1, 1) := by decide +kernel
theorem dX8_goes_29 : decode cX8_goes 29 = .ok (.iload_n 2, 1) := by decide +kernel
theorem dX8_goes_30 : decode cX8_goes 30 = .ok (.iload_n 3, 1) := by decide +kernel
theorem dX8_goes_31 : decode cX8_goes 31 = .ok (.invokevirtual 355, 3) := by decide +kernel
theorem dX8_goes_34 : decode cX8_goes 34 = .ok (.ifCond .eq 6, 3) := by decide +kernel
theorem dX8_goes_37 : decode cX8_goes 37 = .ok (.iload 4, 2) := by decide +kernel
theorem dX8_goes_39 : decode cX8_goes 39 = .ok (.ireturn, 1) := by decide +kernel
theorem dX8_behind_0 : decode cX8_behind 0 = .ok (.aload_n 0, 1) := by decide +kernel
theorem dX8_behind_1 : decode cX8_behind 1 = .ok (.getfield 9, 3) := by decide +kernel
theorem dX8_behind_4 : decode cX8_behind 4 = .ok (.iconst 0, 1) := by decide +kernel
theorem dX8_behind_5 : decode cX8_behind 5 = .ok (.aload_n 0, 1) := by decide +kernel
theorem dX8_behind_6 : decode cX8_behind 6 = .ok (.getfield 13, 3) := by decide +kernel
theorem dX8_behind_9 : decode cX8_behind 9 = .ok (.iconst 0, 1) := by decide +kernel
theorem dX8_behind_10 : decode cX8_behind 10 = .ok (.invokestatic 204, 3) := by decide +kernel
theorem dX8_behind_13 : decode cX8_behind 13 = .ok (.aload_n 0, 1) := by decide +kernel
theorem dX8_behind_14 : decode cX8_behind 14 = .ok (.iload_n 1, 1) := by decide +kernel
theorem dX8_behind_15 : decode cX8_behind 15 = .ok (.iload_n 2, 1) := by decide +kernel
theorem dX8_behind_16 : decode cX8_behind 16 = .ok (.invokevirtual 359, 3) := by decide +kernel
theorem dX8_behind_19 : decode cX8_behind 19 = .ok (.istore_n 3, 1) := by decide +kernel
theorem dX8_behind_20 : decode cX8_behind 20 = .ok (.aload_n 0, 1) := by decide +kernel
theorem dX8_behind_21 : decode cX8_behind 21 = .ok (.getfield 13, 3) := by decide +kernel
theorem dX8_behind_24 : decode cX8_behind 24 = .ok (.iconst 0, 1) := by decide +kernel
theorem dX8_behind_25 : decode cX8_behind 25 = .ok (.aload_n 0, 1) := by decide +kernel
theorem dX8_behind_26 : decode cX8_behind 26 = .ok (.getfield 9, 3) := by decide +kernel
theorem dX8_behind_29 : decode cX8_behind 29 = .ok (.iconst 0, 1) := by decide +kernel
theorem dX8_behind_30 : decode cX8_behind 30 = .ok (.invokestatic 204, 3) := by decide +kernel
theorem dX8_behind_33 : decode cX8_behind 33 = .ok (.iload_n 3, 1) := by decide +kernel
theorem dX8_behind_34 : decode cX8_behind 34 = .ok (.ireturn, 1) := by decide +kernel
theorem dX8_leavesIn_0 : decode cX8_leavesIn 0 = .ok (.aload_n 0, 1) := by decide +kernel
theorem dX8_leavesIn_1 : decode cX8_leavesIn 1 = .ok (.aload_n 0, 1) := by decide +kernel
theorem dX8_leavesIn_2 : decode cX8_leavesIn 2 = .ok (.iload_n 1, 1) := by decide +kernel
theorem dX8_leavesIn_3 : decode cX8_leavesIn 3 = .ok (.invokevirtual 251, 3) := by decide +kernel
theorem dX8_leavesIn_6 : decode cX8_leavesIn 6 = .ok (.iconst 1, 1) := by decide +kernel
theorem dX8_leavesIn_7 : decode cX8_leavesIn 7 = .ok (.invokevirtual 226, 3) := by decide +kernel
theorem dX8_leavesIn_10 : decode cX8_leavesIn 10 = .ok (.ifCond .eq 7, 3) := by decide +kernel
theorem dX8_leavesIn_13 : decode cX8_leavesIn 13 = .ok (.iconst 0, 1) := by decide +kernel
theorem dX8_leavesIn_14 : decode cX8_leavesIn 14 = .ok (.goto 9, 3) := by decide +kernel
theorem dX8_leavesIn_23 : decode cX8_leavesIn 23 = .ok (.ireturn, 1) := by decide +kernel
theorem dX8_lotIn_0 : decode cX8_lotIn 0 = .ok (.aload_n 0, 1) := by decide +kernel
theorem dX8_lotIn_1 : decode cX8_lotIn 1 = .ok (.aload_n 0, 1) := by decide +kernel
theorem dX8_lotIn_2 : decode cX8_lotIn 2 = .ok (.iload_n 1, 1) := by decide +kernel
theorem dX8_lotIn_3 : decode cX8_lotIn 3 = .ok (.invokevirtual 222, 3) := by decide +kernel
theorem dX8_lotIn_6 : decode cX8_lotIn 6 = .ok (.iconst 1, 1) := by decide +kernel
theorem dX8_lotIn_7 : decode cX8_lotIn 7 = .ok (.invokevirtual 226, 3) := by decide +kernel
theorem dX8_lotIn_10 : decode cX8_lotIn 10 = .ok (.ifCond .eq 7, 3) := by decide +kernel
theorem dX8_lotIn_13 : decode cX8_lotIn 13 = .ok (.iconst 0, 1) := by decide +kernel
theorem dX8_lotIn_14 : decode cX8_lotIn 14 = .ok (.goto 9, 3) := by decide +kernel
theorem dX8_lotIn_23 : decode cX8_lotIn 23 = .ok (.ireturn, 1) := by decide +kernel
theorem dX8_allIn_0 : decode cX8_allIn 0 = .ok (.aload_n 0, 1) := by decide +kernel
theorem dX8_allIn_1 : decode cX8_allIn 1 = .ok (.iconst 0, 1) := by decide +kernel
theorem dX8_allIn_2 : decode cX8_allIn 2 = .ok (.putfield 49, 3) := by decide +kernel
theorem dX8_allIn_5 : decode cX8_allIn 5 = .ok (.aload_n 0, 1) := by decide +kernel
theorem dX8_allIn_6 : decode cX8_allIn 6 = .ok (.iconst 2, 1) := by decide +kernel
theorem dX8_allIn_7 : decode cX8_allIn 7 = .ok (.iconst (-1), 1) := by decide +kernel
theorem dX8_allIn_8 : decode cX8_allIn 8 = .ok (.invokevirtual 362, 3) := by decide +kernel
theorem dX8_allIn_11 : decode cX8_allIn 11 = .ok (.ireturn, 1) := by decide +kernel
theorem dX8_then_0 : decode cX8_then 0 = .ok (.aload_n 0, 1) := by decide +kernel
theorem dX8_then_1 : decode cX8_then 1 = .ok (.getfield 9, 3) := by decide +kernel
theorem dX8_then_4 : decode cX8_then 4 = .ok (.iconst 0, 1) := by decide +kernel
theorem dX8_then_5 : decode cX8_then 5 = .ok (.aload_n 0, 1) := by decide +kernel
theorem dX8_then_6 : decode cX8_then 6 = .ok (.getfield 13, 3) := by decide +kernel
theorem dX8_then_9 : decode cX8_then 9 = .ok (.iconst 0, 1) := by decide +kernel
theorem dX8_then_10 : decode cX8_then 10 = .ok (.invokestatic 204, 3) := by decide +kernel
theorem dX8_then_13 : decode cX8_then 13 = .ok (.iconst 0, 1) := by decide +kernel
theorem dX8_then_14 : decode cX8_then 14 = .ok (.istore_n 3, 1) := by decide +kernel
theorem dX8_then_15 : decode cX8_then 15 = .ok (.iload_n 3, 1) := by decide +kernel
theorem dX8_then_16 : decode cX8_then 16 = .ok (.iload_n 2, 1) := by decide +kernel
theorem dX8_then_17 : decode cX8_then 17 = .ok (.if_icmp .ge 13, 3) := by decide +kernel
theorem dX8_then_20 : decode cX8_then 20 = .ok (.aload_n 0, 1) := by decide +kernel
theorem dX8_then_21 : decode cX8_then 21 = .ok (.invokevirtual 349, 3) := by decide +kernel
theorem dX8_then_24 : decode cX8_then 24 = .ok (.iinc 3 1, 3) := by decide +kernel
theorem dX8_then_27 : decode cX8_then 27 = .ok (.goto (-12), 3) := by decide +kernel
theorem dX8_then_30 : decode cX8_then 30 = .ok (.aload_n 0, 1) := by decide +kernel
theorem dX8_then_31 : decode cX8_then 31 = .ok (.getfield 9, 3) := by decide +kernel
theorem dX8_then_34 : decode cX8_then 34 = .ok (.iload_n 1, 1) := by decide +kernel
theorem dX8_then_35 : decode cX8_then 35 = .ok (.iaload, 1) := by decide +kernel
theorem dX8_then_36 : decode cX8_then 36 = .ok (.istore_n 3, 1) := by decide +kernel
theorem dX8_then_37 : decode cX8_then 37 = .ok (.aload_n 0, 1) := by decide +kernel
theorem dX8_then_38 : decode cX8_then 38 = .ok (.getfield 13, 3) := by decide +kernel
theorem dX8_then_41 : decode cX8_then 41 = .ok (.iconst 0, 1) := by decide +kernel
theorem dX8_then_42 : decode cX8_then 42 = .ok (.aload_n 0, 1) := by decide +kernel
theorem dX8_then_43 : decode cX8_then 43 = .ok (.getfield 9, 3) := by decide +kernel
theorem dX8_then_46 : decode cX8_then 46 = .ok (.iconst 0, 1) := by decide +kernel
theorem dX8_then_47 : decode cX8_then 47 = .ok (.invokestatic 204, 3) := by decide +kernel
theorem dX8_then_50 : decode cX8_then 50 = .ok (.iload_n 3, 1) := by decide +kernel
theorem dX8_then_51 : decode cX8_then 51 = .ok (.ireturn, 1) := by decide +kernel
theorem dX8_leftIn_0 : decode cX8_leftIn 0 = .ok (.aload_n 0, 1) := by decide +kernel
theorem dX8_leftIn_1 : decode cX8_leftIn 1 = .ok (.iload_n 1, 1) := by decide +kernel
theorem dX8_leftIn_2 : decode cX8_leftIn 2 = .ok (.i2l, 1) := by decide +kernel
theorem dX8_leftIn_3 : decode cX8_leftIn 3 = .ok (.lconst 1, 1) := by decide +kernel
theorem dX8_leftIn_4 : decode cX8_leftIn 4 = .ok (.ldc2_w 347, 3) := by decide +kernel
theorem dX8_leftIn_7 : decode cX8_leftIn 7 = .ok (.invokestatic 52, 3) := by decide +kernel
theorem dX8_leftIn_10 : decode cX8_leftIn 10 = .ok (.iconst 1, 1) := by decide +kernel
theorem dX8_leftIn_11 : decode cX8_leftIn 11 = .ok (.invokevirtual 226, 3) := by decide +kernel
theorem dX8_leftIn_14 : decode cX8_leftIn 14 = .ok (.ifCond .eq 7, 3) := by decide +kernel
theorem dX8_leftIn_17 : decode cX8_leftIn 17 = .ok (.iconst 0, 1) := by decide +kernel
theorem dX8_leftIn_18 : decode cX8_leftIn 18 = .ok (.goto 10, 3) := by decide +kernel
theorem dX8_leftIn_21 : decode cX8_leftIn 21 = .ok (.aload_n 0, 1) := by decide +kernel
theorem dX8_leftIn_22 : decode cX8_leftIn 22 = .ok (.bipush 10, 2) := by decide +kernel
theorem dX8_leftIn_24 : decode cX8_leftIn 24 = .ok (.iload_n 1, 1) := by decide +kernel
theorem dX8_leftIn_25 : decode cX8_leftIn 25 = .ok (.invokevirtual 365, 3) := by decide +kernel
theorem dX8_leftIn_28 : decode cX8_leftIn 28 = .ok (.ireturn, 1) := by decide +kernel
theorem dX8_failIn_0 : decode cX8_failIn 0 = .ok (.aload_n 0, 1) := by decide +kernel
theorem dX8_failIn_1 : decode cX8_failIn 1 = .ok (.aload_n 0, 1) := by decide +kernel
theorem dX8_failIn_2 : decode cX8_failIn 2 = .ok (.iload_n 1, 1) := by decide +kernel
theorem dX8_failIn_3 : decode cX8_failIn 3 = .ok (.invokevirtual 243, 3) := by decide +kernel
theorem dX8_failIn_6 : decode cX8_failIn 6 = .ok (.iconst 1, 1) := by decide +kernel
theorem dX8_failIn_7 : decode cX8_failIn 7 = .ok (.invokevirtual 226, 3) := by decide +kernel
theorem dX8_failIn_10 : decode cX8_failIn 10 = .ok (.ifCond .eq 7, 3) := by decide +kernel
theorem dX8_failIn_13 : decode cX8_failIn 13 = .ok (.iconst 0, 1) := by decide +kernel
theorem dX8_failIn_14 : decode cX8_failIn 14 = .ok (.goto 9, 3) := by decide +kernel
theorem dX8_failIn_23 : decode cX8_failIn 23 = .ok (.ireturn, 1) := by decide +kernel
theorem dX8_blanksIn_0 : decode cX8_blanksIn 0 = .ok (.aload_n 0, 1) := by decide +kernel
theorem dX8_blanksIn_1 : decode cX8_blanksIn 1 = .ok (.iload_n 1, 1) := by decide +kernel
theorem dX8_blanksIn_2 : decode cX8_blanksIn 2 = .ok (.i2l, 1) := by decide +kernel
theorem dX8_blanksIn_3 : decode cX8_blanksIn 3 = .ok (.lconst 1, 1) := by decide +kernel
theorem dX8_blanksIn_4 : decode cX8_blanksIn 4 = .ok (.ldc2_w 347, 3) := by decide +kernel
theorem dX8_blanksIn_7 : decode cX8_blanksIn 7 = .ok (.invokestatic 52, 3) := by decide +kernel
theorem dX8_blanksIn_10 : decode cX8_blanksIn 10 = .ok (.iconst 1, 1) := by decide +kernel
theorem dX8_blanksIn_11 : decode cX8_blanksIn 11 = .ok (.invokevirtual 226, 3) := by decide +kernel
theorem dX8_blanksIn_14 : decode cX8_blanksIn 14 = .ok (.ifCond .eq 7, 3) := by decide +kernel
theorem dX8_blanksIn_17 : decode cX8_blanksIn 17 = .ok (.iconst 0, 1) := by decide +kernel
theorem dX8_blanksIn_18 : decode cX8_blanksIn 18 = .ok (.goto 9, 3) := by decide +kernel
theorem dX8_blanksIn_21 : decode cX8_blanksIn 21 = .ok (.aload_n 0, 1) := by decide +kernel
theorem dX8_blanksIn_22 : decode cX8_blanksIn 22 = .ok (.iconst 5, 1) := by decide +kernel
theorem dX8_blanksIn_23 : decode cX8_blanksIn 23 = .ok (.iload_n 1, 1) := by decide +kernel
theorem dX8_blanksIn_24 : decode cX8_blanksIn 24 = .ok (.invokevirtual 365, 3) := by decide +kernel
theorem dX8_blanksIn_27 : decode cX8_blanksIn 27 = .ok (.ireturn, 1) := by decide +kernel
theorem dX8_restIn_0 : decode cX8_restIn 0 = .ok (.aload_n 0, 1) := by decide +kernel
theorem dX8_restIn_1 : decode cX8_restIn 1 = .ok (.aload_n 0, 1) := by decide +kernel
theorem dX8_restIn_2 : decode cX8_restIn 2 = .ok (.iload_n 1, 1) := by decide +kernel
theorem dX8_restIn_3 : decode cX8_restIn 3 = .ok (.invokevirtual 243, 3) := by decide +kernel
theorem dX8_restIn_6 : decode cX8_restIn 6 = .ok (.iconst 1, 1) := by decide +kernel
theorem dX8_restIn_7 : decode cX8_restIn 7 = .ok (.invokevirtual 226, 3) := by decide +kernel
theorem dX8_restIn_10 : decode cX8_restIn 10 = .ok (.ifCond .eq 7, 3) := by decide +kernel
theorem dX8_restIn_13 : decode cX8_restIn 13 = .ok (.iconst 0, 1) := by decide +kernel
theorem dX8_restIn_14 : decode cX8_restIn 14 = .ok (.goto 9, 3) := by decide +kernel
theorem dX8_restIn_23 : decode cX8_restIn 23 = .ok (.ireturn, 1) := by decide +kernel
theorem dX8_lotBy_0 : decode cX8_lotBy 0 = .ok (.aload_n 0, 1) := by decide +kernel
theorem dX8_lotBy_1 : decode cX8_lotBy 1 = .ok (.iconst 0, 1) := by decide +kernel
theorem dX8_lotBy_2 : decode cX8_lotBy 2 = .ok (.putfield 49, 3) := by decide +kernel
theorem dX8_lotBy_5 : decode cX8_lotBy 5 = .ok (.iload_n 1, 1) := by decide +kernel
theorem dX8_lotBy_6 : decode cX8_lotBy 6 = .ok (.i2l, 1) := by decide +kernel
theorem dX8_lotBy_7 : decode cX8_lotBy 7 = .ok (.lconst 0, 1) := by decide +kernel
theorem dX8_lotBy_8 : decode cX8_lotBy 8 = .ok (.aload_n 0, 1) := by decide +kernel
theorem dX8_lotBy_9 : decode cX8_lotBy 9 = .ok (.getfield 9, 3) := by decide +kernel
theorem dX8_lotBy_12 : decode cX8_lotBy 12 = .ok (.bipush 8, 2) := by decide +kernel
theorem dX8_lotBy_14 : decode cX8_lotBy 14 = .ok (.iaload, 1) := by decide +kernel
theorem dX8_lotBy_15 : decode cX8_lotBy 15 = .ok (.iconst 1, 1) := by decide +kernel
theorem dX8_lotBy_16 : decode cX8_lotBy 16 = .ok (.isub, 1) := by decide +kernel
theorem dX8_lotBy_17 : decode cX8_lotBy 17 = .ok (.i2l, 1) := by decide +kernel
theorem dX8_lotBy_18 : decode cX8_lotBy 18 = .ok (.invokestatic 52, 3) := by decide +kernel
theorem dX8_lotBy_21 : decode cX8_lotBy 21 = .ok (.ifCond .ne 5, 3) := by decide +kernel
theorem dX8_lotBy_24 : decode cX8_lotBy 24 = .ok (.iconst (-1), 1) := by decide +kernel
theorem dX8_lotBy_25 : decode cX8_lotBy 25 = .ok (.ireturn, 1) := by decide +kernel
theorem dX8_bestOf_0 : decode cX8_bestOf 0 = .ok (.aload_n 0, 1) := by decide +kernel
theorem dX8_bestOf_1 : decode cX8_bestOf 1 = .ok (.getfield 9, 3) := by decide +kernel
theorem dX8_bestOf_4 : decode cX8_bestOf 4 = .ok (.iconst 0, 1) := by decide +kernel
theorem dX8_bestOf_5 : decode cX8_bestOf 5 = .ok (.aload_n 0, 1) := by decide +kernel
theorem dX8_bestOf_6 : decode cX8_bestOf 6 = .ok (.getfield 13, 3) := by decide +kernel
theorem dX8_bestOf_9 : decode cX8_bestOf 9 = .ok (.iconst 0, 1) := by decide +kernel
theorem dX8_bestOf_10 : decode cX8_bestOf 10 = .ok (.invokestatic 204, 3) := by decide +kernel
theorem dX8_bestOf_13 : decode cX8_bestOf 13 = .ok (.iconst (-1), 1) := by decide +kernel
theorem dX8_bestOf_14 : decode cX8_bestOf 14 = .ok (.istore 6, 2) := by decide +kernel
theorem dX8_bestOf_16 : decode cX8_bestOf 16 = .ok (.sipush 2001, 3) := by decide +kernel
theorem dX8_bestOf_19 : decode cX8_bestOf 19 = .ok (.istore 7, 2) := by decide +kernel
theorem dX8_bestOf_21 : decode cX8_bestOf 21 = .ok (.iload_n 2, 1) := by decide +kernel
theorem dX8_bestOf_22 : decode cX8_bestOf 22 = .ok (.istore 8, 2) := by decide +kernel
theorem dX8_bestOf_24 : decode cX8_bestOf 24 = .ok (.iload 8, 2) := by decide +kernel
theorem dX8_bestOf_26 : decode cX8_bestOf 26 = .ok (.iload_n 3, 1) := by decide +kernel
theorem dX8_bestOf_27 : decode cX8_bestOf 27 = .ok (.if_icmp .gt 61, 3) := by decide +kernel
theorem dX8_bestOf_30 : decode cX8_bestOf 30 = .ok (.aload_n 0, 1) := by decide +kernel
theorem dX8_bestOf_31 : decode cX8_bestOf 31 = .ok (.getfield 9, 3) := by decide +kernel
theorem dX8_bestOf_34 : decode cX8_bestOf 34 = .ok (.iload_n 1, 1) := by decide +kernel
theorem dX8_bestOf_35 : decode cX8_bestOf 35 = .ok (.iload 8, 2) := by decide +kernel
theorem dX8_bestOf_37 : decode cX8_bestOf 37 = .ok (.iastore, 1) := by decide +kernel
theorem dX8_bestOf_38 : decode cX8_bestOf 38 = .ok (.aload_n 0, 1) := by decide +kernel
theorem dX8_bestOf_39 : decode cX8_bestOf 39 = .ok (.iload 4, 2) := by decide +kernel
theorem dX8_bestOf_41 : decode cX8_bestOf 41 = .ok (.iload 5, 2) := by decide +kernel
theorem dX8_bestOf_43 : decode cX8_bestOf 43 = .ok (.invokevirtual 359, 3) := by decide +kernel
theorem dX8_bestOf_46 : decode cX8_bestOf 46 = .ok (.istore 9, 2) := by decide +kernel
theorem dX8_bestOf_48 : decode cX8_bestOf 48 = .ok (.iload 9, 2) := by decide +kernel
theorem dX8_bestOf_50 : decode cX8_bestOf 50 = .ok (.iconst (-1), 1) := by decide +kernel
theorem dX8_bestOf_51 : decode cX8_bestOf 51 = .ok (.if_icmp .eq 18, 3) := by decide +kernel
theorem dX8_bestOf_54 : decode cX8_bestOf 54 = .ok (.iload 9, 2) := by decide +kernel
theorem dX8_bestOf_56 : decode cX8_bestOf 56 = .ok (.iload 7, 2) := by decide +kernel
theorem dX8_bestOf_58 : decode cX8_bestOf 58 = .ok (.if_icmp .ge 11, 3) := by decide +kernel
theorem dX8_bestOf_61 : decode cX8_bestOf 61 = .ok (.iload 8, 2) := by decide +kernel
theorem dX8_bestOf_63 : decode cX8_bestOf 63 = .ok (.istore 6, 2) := by decide +kernel
theorem dX8_bestOf_65 : decode cX8_bestOf 65 = .ok (.iload 9, 2) := by decide +kernel
theorem dX8_bestOf_67 : decode cX8_bestOf 67 = .ok (.istore 7, 2) := by decide +kernel
theorem dX8_bestOf_69 : decode cX8_bestOf 69 = .ok (.aload_n 0, 1) := by decide +kernel
theorem dX8_bestOf_70 : decode cX8_bestOf 70 = .ok (.getfield 13, 3) := by decide +kernel
theorem dX8_bestOf_73 : decode cX8_bestOf 73 = .ok (.iconst 0, 1) := by decide +kernel
theorem dX8_bestOf_74 : decode cX8_bestOf 74 = .ok (.aload_n 0, 1) := by decide +kernel
theorem dX8_bestOf_75 : decode cX8_bestOf 75 = .ok (.getfield 9, 3) := by decide +kernel
theorem dX8_bestOf_78 : decode cX8_bestOf 78 = .ok (.iconst 0, 1) := by decide +kernel
theorem dX8_bestOf_79 : decode cX8_bestOf 79 = .ok (.invokestatic 204, 3) := by decide +kernel
theorem dX8_bestOf_82 : decode cX8_bestOf 82 = .ok (.iinc 8 1, 3) := by decide +kernel
theorem dX8_bestOf_85 : decode cX8_bestOf 85 = .ok (.goto (-61), 3) := by decide +kernel
theorem dX8_bestOf_88 : decode cX8_bestOf 88 = .ok (.iload 6, 2) := by decide +kernel
theorem dX8_bestOf_90 : decode cX8_bestOf 90 = .ok (.ireturn, 1) := by decide +kernel
theorem dX8_bestRank_0 : decode cX8_bestRank 0 = .ok (.aload_n 0, 1) := by decide +kernel
theorem dX8_bestRank_1 : decode cX8_bestRank 1 = .ok (.aload_n 0, 1) := by decide +kernel
theorem dX8_bestRank_2 : decode cX8_bestRank 2 = .ok (.iload_n 1, 1) := by decide +kernel
theorem dX8_bestRank_3 : decode cX8_bestRank 3 = .ok (.invokevirtual 222, 3) := by decide +kernel
theorem dX8_bestRank_6 : decode cX8_bestRank 6 = .ok (.iconst 1, 1) := by decide +kernel
theorem dX8_bestRank_7 : decode cX8_bestRank 7 = .ok (.invokevirtual 226, 3) := by decide +kernel
theorem dX8_bestRank_10 : decode cX8_bestRank 10 = .ok (.ifCond .eq 7, 3) := by decide +kernel
theorem dX8_bestRank_13 : decode cX8_bestRank 13 = .ok (.iconst 0, 1) := by decide +kernel
theorem dX8_bestRank_14 : decode cX8_bestRank 14 = .ok (.goto 20, 3) := by decide +kernel
theorem dX8_bestRank_34 : decode cX8_bestRank 34 = .ok (.ireturn, 1) := by decide +kernel
theorem dX8_bestTray_0 : decode cX8_bestTray 0 = .ok (.aload_n 0, 1) := by decide +kernel
theorem dX8_bestTray_1 : decode cX8_bestTray 1 = .ok (.iconst 0, 1) := by decide +kernel
theorem dX8_bestTray_2 : decode cX8_bestTray 2 = .ok (.putfield 49, 3) := by decide +kernel
theorem dX8_bestTray_5 : decode cX8_bestTray 5 = .ok (.aload_n 0, 1) := by decide +kernel
theorem dX8_bestTray_6 : decode cX8_bestTray 6 = .ok (.iconst 1, 1) := by decide +kernel
theorem dX8_bestTray_7 : decode cX8_bestTray 7 = .ok (.iconst 1, 1) := by decide +kernel
theorem dX8_bestTray_8 : decode cX8_bestTray 8 = .ok (.bipush 20, 2) := by decide +kernel
theorem dX8_bestTray_10 : decode cX8_bestTray 10 = .ok (.iconst 2, 1) := by decide +kernel
theorem dX8_bestTray_11 : decode cX8_bestTray 11 = .ok (.iconst (-1), 1) := by decide +kernel
theorem dX8_bestTray_12 : decode cX8_bestTray 12 = .ok (.invokevirtual 368, 3) := by decide +kernel
theorem dX8_bestTray_15 : decode cX8_bestTray 15 = .ok (.ireturn, 1) := by decide +kernel
theorem dX8_writeCard_0 : decode cX8_writeCard 0 = .ok (.aload_n 0, 1) := by decide +kernel
theorem dX8_writeCard_1 : decode cX8_writeCard 1 = .ok (.aload_n 0, 1) := by decide +kernel
theorem dX8_writeCard_2 : decode cX8_writeCard 2 = .ok (.iload_n 1, 1) := by decide +kernel
theorem dX8_writeCard_3 : decode cX8_writeCard 3 = .ok (.invokevirtual 251, 3) := by decide +kernel
theorem dX8_writeCard_6 : decode cX8_writeCard 6 = .ok (.iconst 1, 1) := by decide +kernel
theorem dX8_writeCard_7 : decode cX8_writeCard 7 = .ok (.invokevirtual 226, 3) := by decide +kernel
theorem dX8_writeCard_10 : decode cX8_writeCard 10 = .ok (.ifCond .eq 5, 3) := by decide +kernel
theorem dX8_writeCard_13 : decode cX8_writeCard 13 = .ok (.iconst 0, 1) := by decide +kernel
theorem dX8_writeCard_14 : decode cX8_writeCard 14 = .ok (.ireturn, 1) := by decide +kernel
theorem dX8_outputByte_0 : decode cX8_outputByte 0 = .ok (.aload_n 0, 1) := by decide +kernel
theorem dX8_outputByte_1 : decode cX8_outputByte 1 = .ok (.iconst 0, 1) := by decide +kernel
theorem dX8_outputByte_2 : decode cX8_outputByte 2 = .ok (.putfield 49, 3) := by decide +kernel
theorem dX8_outputByte_5 : decode cX8_outputByte 5 = .ok (.iload_n 1, 1) := by decide +kernel
theorem dX8_outputByte_6 : decode cX8_outputByte 6 = .ok (.i2l, 1) := by decide +kernel
theorem dX8_outputByte_7 : decode cX8_outputByte 7 = .ok (.lconst 0, 1) := by decide +kernel
theorem dX8_outputByte_8 : decode cX8_outputByte 8 = .ok (.aload_n 0, 1) := by decide +kernel
theorem dX8_outputByte_9 : decode cX8_outputByte 9 = .ok (.getfield 372, 3) := by decide +kernel
theorem dX8_outputByte_12 : decode cX8_outputByte 12 = .ok (.iconst 1, 1) := by decide +kernel
theorem dX8_outputByte_13 : decode cX8_outputByte 13 = .ok (.isub, 1) := by decide +kernel
theorem dX8_outputByte_14 : decode cX8_outputByte 14 = .ok (.i2l, 1) := by decide +kernel
theorem dX8_outputByte_15 : decode cX8_outputByte 15 = .ok (.invokestatic 52, 3) := by decide +kernel
theorem dX8_outputByte_18 : decode cX8_outputByte 18 = .ok (.ifCond .eq 12, 3) := by decide +kernel
theorem dX8_outputByte_30 : decode cX8_outputByte 30 = .ok (.iconst (-1), 1) := by decide +kernel
theorem dX8_outputByte_31 : decode cX8_outputByte 31 = .ok (.ireturn, 1) := by decide +kernel
theorem dX8_saveSnapshot_0 : decode cX8_saveSnapshot 0 = .ok (.aload_n 0, 1) := by decide +kernel
theorem dX8_saveSnapshot_1 : decode cX8_saveSnapshot 1 = .ok (.iload_n 1, 1) := by decide +kernel
theorem dX8_saveSnapshot_2 : decode cX8_saveSnapshot 2 = .ok (.i2l, 1) := by decide +kernel
theorem dX8_saveSnapshot_3 : decode cX8_saveSnapshot 3 = .ok (.lconst 0, 1) := by decide +kernel
theorem dX8_saveSnapshot_4 : decode cX8_saveSnapshot 4 = .ok (.lconst 1, 1) := by decide +kernel
theorem dX8_saveSnapshot_5 : decode cX8_saveSnapshot 5 = .ok (.invokestatic 52, 3) := by decide +kernel
theorem dX8_saveSnapshot_8 : decode cX8_saveSnapshot 8 = .ok (.iconst 1, 1) := by decide +kernel
theorem dX8_saveSnapshot_9 : decode cX8_saveSnapshot 9 = .ok (.invokevirtual 226, 3) := by decide +kernel
theorem dX8_saveSnapshot_12 : decode cX8_saveSnapshot 12 = .ok (.ifCond .eq 5, 3) := by decide +kernel
theorem dX8_saveSnapshot_15 : decode cX8_saveSnapshot 15 = .ok (.iconst 0, 1) := by decide +kernel
theorem dX8_saveSnapshot_16 : decode cX8_saveSnapshot 16 = .ok (.ireturn, 1) := by decide +kernel
theorem dX8_saveSnapshot_17 : decode cX8_saveSnapshot 17 = .ok (.aload_n 0, 1) := by decide +kernel
theorem dX8_saveSnapshot_18 : decode cX8_saveSnapshot 18 = .ok (.getfield 9, 3) := by decide +kernel
theorem dX8_saveSnapshot_21 : decode cX8_saveSnapshot 21 = .ok (.iconst 0, 1) := by decide +kernel
theorem dX8_saveSnapshot_22 : decode cX8_saveSnapshot 22 = .ok (.aload_n 0, 1) := by decide +kernel
theorem dX8_saveSnapshot_23 : decode cX8_saveSnapshot 23 = .ok (.getfield 19, 3) := by decide +kernel
theorem dX8_saveSnapshot_26 : decode cX8_saveSnapshot 26 = .ok (.iload_n 1, 1) := by decide +kernel
theorem dX8_saveSnapshot_27 : decode cX8_saveSnapshot 27 = .ok (.invokestatic 204, 3) := by decide +kernel
theorem dX8_saveSnapshot_30 : decode cX8_saveSnapshot 30 = .ok (.aload_n 0, 1) := by decide +kernel
theorem dX8_saveSnapshot_31 : decode cX8_saveSnapshot 31 = .ok (.getfield 22, 3) := by decide +kernel
theorem dX8_saveSnapshot_34 : decode cX8_saveSnapshot 34 = .ok (.iload_n 1, 1) := by decide +kernel
theorem dX8_saveSnapshot_35 : decode cX8_saveSnapshot 35 = .ok (.iconst 1, 1) := by decide +kernel
theorem dX8_saveSnapshot_36 : decode cX8_saveSnapshot 36 = .ok (.bastore, 1) := by decide +kernel
theorem dX8_saveSnapshot_37 : decode cX8_saveSnapshot 37 = .ok (.aload_n 0, 1) := by decide +kernel
theorem dX8_saveSnapshot_38 : decode cX8_saveSnapshot 38 = .ok (.getfield 9, 3) := by decide +kernel
theorem dX8_saveSnapshot_41 : decode cX8_saveSnapshot 41 = .ok (.bipush 6, 2) := by decide +kernel
theorem dX8_saveSnapshot_43 : decode cX8_saveSnapshot 43 = .ok (.iaload, 1) := by decide +kernel
theorem dX8_saveSnapshot_44 : decode cX8_saveSnapshot 44 = .ok (.ireturn, 1) := by decide +kernel
theorem dX8_restoreSnapshot_0 : decode cX8_restoreSnapshot 0 = .ok (.aload_n 0, 1) := by decide +kernel
theorem dX8_restoreSnapshot_1 : decode cX8_restoreSnapshot 1 = .ok (.iload_n 1, 1) := by decide +kernel
theorem dX8_restoreSnapshot_2 : decode cX8_restoreSnapshot 2 = .ok (.i2l, 1) := by decide +kernel
theorem dX8_restoreSnapshot_3 : decode cX8_restoreSnapshot 3 = .ok (.lconst 0, 1) := by decide +kernel
theorem dX8_restoreSnapshot_4 : decode cX8_restoreSnapshot 4 = .ok (.lconst 1, 1) := by decide +kernel
theorem dX8_restoreSnapshot_5 : decode cX8_restoreSnapshot 5 = .ok (.invokestatic 52, 3) := by decide +kernel
theorem dX8_restoreSnapshot_8 : decode cX8_restoreSnapshot 8 = .ok (.iconst 1, 1) := by decide +kernel
theorem dX8_restoreSnapshot_9 : decode cX8_restoreSnapshot 9 = .ok (.invokevirtual 226, 3) := by decide +kernel
theorem dX8_restoreSnapshot_12 : decode cX8_restoreSnapshot 12 = .ok (.ifCond .eq 5, 3) := by decide +kernel
theorem dX8_restoreSnapshot_15 : decode cX8_restoreSnapshot 15 = .ok (.iconst 0, 1) := by decide +kernel
theorem dX8_restoreSnapshot_16 : decode cX8_restoreSnapshot 16 = .ok (.ireturn, 1) := by decide +kernel
theorem dX8_restoreSnapshot_17 : decode cX8_restoreSnapshot 17 = .ok (.aload_n 0, 1) := by decide +kernel
theorem dX8_restoreSnapshot_18 : decode cX8_restoreSnapshot 18 = .ok (.getfield 22, 3) := by decide +kernel
theorem dX8_restoreSnapshot_21 : decode cX8_restoreSnapshot 21 = .ok (.iload_n 1, 1) := by decide +kernel
theorem dX8_restoreSnapshot_22 : decode cX8_restoreSnapshot 22 = .ok (.baload, 1) := by decide +kernel
theorem dX8_restoreSnapshot_23 : decode cX8_restoreSnapshot 23 = .ok (.ifCond .ne 5, 3) := by decide +kernel
theorem dX8_restoreSnapshot_26 : decode cX8_restoreSnapshot 26 = .ok (.iconst (-1), 1) := by decide +kernel
theorem dX8_restoreSnapshot_27 : decode cX8_restoreSnapshot 27 = .ok (.ireturn, 1) := by decide +kernel
theorem dJx29ce0_ordinal_8abf5_0 : decode cJx29ce0_ordinal_8abf5 0 = .ok (.aload_n 0, 1) := by decide +kernel
theorem dJx29ce0_ordinal_8abf5_1 : decode cJx29ce0_ordinal_8abf5 1 = .ok (.getfield 7, 3) := by decide +kernel
theorem dJx29ce0_ordinal_8abf5_4 : decode cJx29ce0_ordinal_8abf5 4 = .ok (.ireturn, 1) := by decide +kernel
theorem dJ0_length_8abf5_0 : decode cJ0_length_8abf5 0 = .ok (.aload_n 0, 1) := by decide +kernel
theorem dJ0_length_8abf5_1 : decode cJ0_length_8abf5 1 = .ok (.getfield 9, 3) := by decide +kernel
theorem dJ0_length_8abf5_4 : decode cJ0_length_8abf5 4 = .ok (.arraylength, 1) := by decide +kernel
theorem dJ0_length_8abf5_5 : decode cJ0_length_8abf5 5 = .ok (.aload_n 0, 1) := by decide +kernel
theorem dJ0_length_8abf5_6 : decode cJ0_length_8abf5 6 = .ok (.invokevirtual 335, 3) := by decide +kernel
theorem dJ0_length_8abf5_9 : decode cJ0_length_8abf5 9 = .ok (.ishr, 1) := by decide +kernel
theorem dJ0_length_8abf5_10 : decode cJ0_length_8abf5 10 = .ok (.ireturn, 1) := by decide +kernel
theorem dJ0_coder_7d493_0 : decode cJ0_coder_7d493 0 = .ok (.getstatic 38, 3) := by decide +kernel
theorem dJ0_coder_7d493_3 : decode cJ0_coder_7d493 3 = .ok (.ifCond .eq 10, 3) := by decide +kernel
theorem dJ0_coder_7d493_6 : decode cJ0_coder_7d493 6 = .ok (.aload_n 0, 1) := by decide +kernel
theorem dJ0_coder_7d493_7 : decode cJ0_coder_7d493 7 = .ok (.getfield 15, 3) := by decide +kernel
theorem dJ0_coder_7d493_10 : decode cJ0_coder_7d493 10 = .ok (.goto 4, 3) := by decide +kernel
theorem dJ0_coder_7d493_14 : decode cJ0_coder_7d493 14 = .ok (.ireturn, 1) := by decide +kernel
theorem dJ7_fill_53178_0 : decode cJ7_fill_53178 0 = .ok (.iconst 0, 1) := by decide +kernel
theorem dJ7_fill_53178_1 : decode cJ7_fill_53178 1 = .ok (.istore_n 2, 1) := by decide +kernel
theorem dJ7_fill_53178_2 : decode cJ7_fill_53178 2 = .ok (.aload_n 0, 1) := by decide +kernel
theorem dJ7_fill_53178_3 : decode cJ7_fill_53178 3 = .ok (.arraylength, 1) := by decide +kernel
theorem dJ7_fill_53178_4 : decode cJ7_fill_53178 4 = .ok (.istore_n 3, 1) := by decide +kernel
theorem dJ7_fill_53178_5 : decode cJ7_fill_53178 5 = .ok (.iload_n 2, 1) := by decide +kernel
theorem dJ7_fill_53178_6 : decode cJ7_fill_53178 6 = .ok (.iload_n 3, 1) := by decide +kernel
theorem dJ7_fill_53178_7 : decode cJ7_fill_53178 7 = .ok (.if_icmp .ge 13, 3) := by decide +kernel
theorem dJ7_fill_53178_10 : decode cJ7_fill_53178 10 = .ok (.aload_n 0, 1) := by decide +kernel
theorem dJ7_fill_53178_11 : decode cJ7_fill_53178 11 = .ok (.iload_n 2, 1) := by decide +kernel
theorem dJ7_fill_53178_12 : decode cJ7_fill_53178 12 = .ok (.iload_n 1, 1) := by decide +kernel
theorem dJ7_fill_53178_13 : decode cJ7_fill_53178 13 = .ok (.iastore, 1) := by decide +kernel
theorem dJ7_fill_53178_14 : decode cJ7_fill_53178 14 = .ok (.iinc 2 1, 3) := by decide +kernel
theorem dJ7_fill_53178_17 : decode cJ7_fill_53178 17 = .ok (.goto (-12), 3) := by decide +kernel
theorem dJ7_fill_53178_20 : decode cJ7_fill_53178 20 = .ok (.return_, 1) := by decide +kernel
theorem dL_count_0 : decode cL_count 0 = .ok (.aload_n 2, 1) := by decide +kernel
theorem dL_count_1 : decode cL_count 1 = .ok (.iconst 0, 1) := by decide +kernel
theorem dL_count_2 : decode cL_count 2 = .ok (.aload_n 0, 1) := by decide +kernel
theorem dL_count_3 : decode cL_count 3 = .ok (.iload_n 1, 1) := by decide +kernel
theorem dL_count_4 : decode cL_count 4 = .ok (.invokevirtual 7, 3) := by decide +kernel
theorem dL_count_7 : decode cL_count 7 = .ok (.i2l, 1) := by decide +kernel
theorem dL_count_8 : decode cL_count 8 = .ok (.lastore, 1) := by decide +kernel
theorem dL_count_9 : decode cL_count 9 = .ok (.goto 6, 3) := by decide +kernel
theorem dL_count_12 : decode cL_count 12 = .ok (.astore_n 3, 1) := by decide +kernel
theorem dL_count_13 : decode cL_count 13 = .ok (.iconst 1, 1) := by decide +kernel
theorem dL_count_14 : decode cL_count 14 = .ok (.ireturn, 1) := by decide +kernel
theorem dL_count_15 : decode cL_count 15 = .ok (.iconst 0, 1) := by decide +kernel
theorem dL_count_16 : decode cL_count 16 = .ok (.ireturn, 1) := by decide +kernel
theorem dL_setting_0 : decode cL_setting 0 = .ok (.aload_n 2, 1) := by decide +kernel
theorem dL_setting_1 : decode cL_setting 1 = .ok (.iconst 0, 1) := by decide +kernel
theorem dL_setting_2 : decode cL_setting 2 = .ok (.aload_n 0, 1) := by decide +kernel
theorem dL_setting_3 : decode cL_setting 3 = .ok (.iload_n 1, 1) := by decide +kernel
theorem dL_setting_4 : decode cL_setting 4 = .ok (.invokevirtual 15, 3) := by decide +kernel
theorem dL_setting_7 : decode cL_setting 7 = .ok (.i2l, 1) := by decide +kernel
theorem dL_setting_8 : decode cL_setting 8 = .ok (.lastore, 1) := by decide +kernel
theorem dL_setting_9 : decode cL_setting 9 = .ok (.goto 6, 3) := by decide +kernel
theorem dL_setting_12 : decode cL_setting 12 = .ok (.astore_n 3, 1) := by decide +kernel
theorem dL_setting_13 : decode cL_setting 13 = .ok (.iconst 1, 1) := by decide +kernel
theorem dL_setting_14 : decode cL_setting 14 = .ok (.ireturn, 1) := by decide +kernel
theorem dL_setting_15 : decode cL_setting 15 = .ok (.iconst 0, 1) := by decide +kernel
theorem dL_setting_16 : decode cL_setting 16 = .ok (.ireturn, 1) := by decide +kernel
theorem dL_station_0 : decode cL_station 0 = .ok (.aload_n 3, 1) := by decide +kernel
theorem dL_station_1 : decode cL_station 1 = .ok (.iconst 0, 1) := by decide +kernel
theorem dL_station_2 : decode cL_station 2 = .ok (.aload_n 0, 1) := by decide +kernel
theorem dL_station_3 : decode cL_station 3 = .ok (.iload_n 1, 1) := by decide +kernel
theorem dL_station_4 : decode cL_station 4 = .ok (.iload_n 2, 1) := by decide +kernel
theorem dL_station_5 : decode cL_station 5 = .ok (.invokevirtual 18, 3) := by decide +kernel
theorem dL_station_13 : decode cL_station 13 = .ok (.astore 4, 2) := by decide +kernel
theorem dL_station_15 : decode cL_station 15 = .ok (.iconst 1, 1) := by decide +kernel
theorem dL_station_16 : decode cL_station 16 = .ok (.ireturn, 1) := by decide +kernel
theorem dL_card_0 : decode cL_card 0 = .ok (.aload_n 3, 1) := by decide +kernel
theorem dL_card_1 : decode cL_card 1 = .ok (.iconst 0, 1) := by decide +kernel
theorem dL_card_2 : decode cL_card 2 = .ok (.aload_n 0, 1) := by decide +kernel
theorem dL_card_3 : decode cL_card 3 = .ok (.iload_n 1, 1) := by decide +kernel
theorem dL_card_4 : decode cL_card 4 = .ok (.iload_n 2, 1) := by decide +kernel
theorem dL_card_5 : decode cL_card 5 = .ok (.invokevirtual 24, 3) := by decide +kernel
theorem dL_card_13 : decode cL_card 13 = .ok (.astore 4, 2) := by decide +kernel
theorem dL_card_15 : decode cL_card 15 = .ok (.iconst 1, 1) := by decide +kernel
theorem dL_card_16 : decode cL_card 16 = .ok (.ireturn, 1) := by decide +kernel
theorem dL_letter_0 : decode cL_letter 0 = .ok (.aload_n 3, 1) := by decide +kernel
theorem dL_letter_1 : decode cL_letter 1 = .ok (.iconst 0, 1) := by decide +kernel
theorem dL_letter_2 : decode cL_letter 2 = .ok (.aload_n 0, 1) := by decide +kernel
theorem dL_letter_3 : decode cL_letter 3 = .ok (.iload_n 1, 1) := by decide +kernel
theorem dL_letter_4 : decode cL_letter 4 = .ok (.iload_n 2, 1) := by decide +kernel
theorem dL_letter_5 : decode cL_letter 5 = .ok (.invokevirtual 27, 3) := by decide +kernel
theorem dL_letter_13 : decode cL_letter 13 = .ok (.astore 4, 2) := by decide +kernel
theorem dL_letter_15 : decode cL_letter 15 = .ok (.iconst 1, 1) := by decide +kernel
theorem dL_letter_16 : decode cL_letter 16 = .ok (.ireturn, 1) := by decide +kernel
theorem dL_lot_0 : decode cL_lot 0 = .ok (.aload_n 3, 1) := by decide +kernel
theorem dL_lot_1 : decode cL_lot 1 = .ok (.iconst 0, 1) := by decide +kernel
theorem dL_lot_2 : decode cL_lot 2 = .ok (.aload_n 0, 1) := by decide +kernel
theorem dL_lot_3 : decode cL_lot 3 = .ok (.iload_n 1, 1) := by decide +kernel
theorem dL_lot_4 : decode cL_lot 4 = .ok (.iload_n 2, 1) := by decide +kernel
theorem dL_lot_5 : decode cL_lot 5 = .ok (.invokevirtual 30, 3) := by decide +kernel
theorem dL_lot_13 : decode cL_lot 13 = .ok (.astore 4, 2) := by decide +kernel
theorem dL_lot_15 : decode cL_lot 15 = .ok (.iconst 1, 1) := by decide +kernel
theorem dL_lot_16 : decode cL_lot 16 = .ok (.ireturn, 1) := by decide +kernel
theorem dL_cardOf_0 : decode cL_cardOf 0 = .ok (.aload_n 3, 1) := by decide +kernel
theorem dL_cardOf_1 : decode cL_cardOf 1 = .ok (.iconst 0, 1) := by decide +kernel
theorem dL_cardOf_2 : decode cL_cardOf 2 = .ok (.aload_n 0, 1) := by decide +kernel
theorem dL_cardOf_3 : decode cL_cardOf 3 = .ok (.iload_n 1, 1) := by decide +kernel
theorem dL_cardOf_4 : decode cL_cardOf 4 = .ok (.iload_n 2, 1) := by decide +kernel
theorem dL_cardOf_5 : decode cL_cardOf 5 = .ok (.invokevirtual 33, 3) := by decide +kernel
theorem dL_cardOf_13 : decode cL_cardOf 13 = .ok (.astore 4, 2) := by decide +kernel
theorem dL_cardOf_15 : decode cL_cardOf 15 = .ok (.iconst 1, 1) := by decide +kernel
theorem dL_cardOf_16 : decode cL_cardOf 16 = .ok (.ireturn, 1) := by decide +kernel
theorem dL_steps_0 : decode cL_steps 0 = .ok (.aload_n 3, 1) := by decide +kernel
theorem dL_steps_1 : decode cL_steps 1 = .ok (.iconst 0, 1) := by decide +kernel
theorem dL_steps_2 : decode cL_steps 2 = .ok (.aload_n 0, 1) := by decide +kernel
theorem dL_steps_3 : decode cL_steps 3 = .ok (.iload_n 1, 1) := by decide +kernel
theorem dL_steps_4 : decode cL_steps 4 = .ok (.iload_n 2, 1) := by decide +kernel
theorem dL_steps_5 : decode cL_steps 5 = .ok (.invokevirtual 36, 3) := by decide +kernel
theorem dL_steps_13 : decode cL_steps 13 = .ok (.astore 4, 2) := by decide +kernel
theorem dL_steps_15 : decode cL_steps 15 = .ok (.iconst 1, 1) := by decide +kernel
theorem dL_steps_16 : decode cL_steps 16 = .ok (.ireturn, 1) := by decide +kernel
theorem dL_ticksFor_0 : decode cL_ticksFor 0 = .ok (.aload_n 3, 1) := by decide +kernel
theorem dL_ticksFor_1 : decode cL_ticksFor 1 = .ok (.iconst 0, 1) := by decide +kernel
theorem dL_ticksFor_2 : decode cL_ticksFor 2 = .ok (.aload_n 0, 1) := by decide +kernel
theorem dL_ticksFor_3 : decode cL_ticksFor 3 = .ok (.iload_n 1, 1) := by decide +kernel
theorem dL_ticksFor_4 : decode cL_ticksFor 4 = .ok (.iload_n 2, 1) := by decide +kernel
theorem dL_ticksFor_5 : decode cL_ticksFor 5 = .ok (.invokevirtual 39, 3) := by decide +kernel
theorem dL_ticksFor_13 : decode cL_ticksFor 13 = .ok (.astore 4, 2) := by decide +kernel
theorem dL_ticksFor_15 : decode cL_ticksFor 15 = .ok (.iconst 1, 1) := by decide +kernel
theorem dL_ticksFor_16 : decode cL_ticksFor 16 = .ok (.ireturn, 1) := by decide +kernel
theorem dL_day_0 : decode cL_day 0 = .ok (.aload 4, 2) := by decide +kernel
theorem dL_day_2 : decode cL_day 2 = .ok (.iconst 0, 1) := by decide +kernel
theorem dL_day_3 : decode cL_day 3 = .ok (.aload_n 0, 1) := by decide +kernel
theorem dL_day_4 : decode cL_day 4 = .ok (.iload_n 1, 1) := by decide +kernel
theorem dL_day_5 : decode cL_day 5 = .ok (.iload_n 2, 1) := by decide +kernel
theorem dL_day_6 : decode cL_day 6 = .ok (.iload_n 3, 1) := by decide +kernel
theorem dL_day_7 : decode cL_day 7 = .ok (.invokevirtual 42, 3) := by decide +kernel
theorem dL_day_15 : decode cL_day 15 = .ok (.astore 5, 2) := by decide +kernel
theorem dL_day_17 : decode cL_day 17 = .ok (.iconst 1, 1) := by decide +kernel
theorem dL_day_18 : decode cL_day 18 = .ok (.ireturn, 1) := by decide +kernel
theorem dL_today_0 : decode cL_today 0 = .ok (.aload_n 3, 1) := by decide +kernel
theorem dL_today_1 : decode cL_today 1 = .ok (.iconst 0, 1) := by decide +kernel
theorem dL_today_2 : decode cL_today 2 = .ok (.aload_n 0, 1) := by decide +kernel
theorem dL_today_3 : decode cL_today 3 = .ok (.iload_n 1, 1) := by decide +kernel
theorem dL_today_4 : decode cL_today 4 = .ok (.iload_n 2, 1) := by decide +kernel
theorem dL_today_5 : decode cL_today 5 = .ok (.invokevirtual 46, 3) := by decide +kernel
theorem dL_today_13 : decode cL_today 13 = .ok (.astore 4, 2) := by decide +kernel
theorem dL_today_15 : decode cL_today 15 = .ok (.iconst 1, 1) := by decide +kernel
theorem dL_today_16 : decode cL_today 16 = .ok (.ireturn, 1) := by decide +kernel
theorem dL_total_0 : decode cL_total 0 = .ok (.aload_n 2, 1) := by decide +kernel
theorem dL_total_1 : decode cL_total 1 = .ok (.iconst 0, 1) := by decide +kernel
theorem dL_total_2 : decode cL_total 2 = .ok (.aload_n 0, 1) := by decide +kernel
theorem dL_total_3 : decode cL_total 3 = .ok (.iload_n 1, 1) := by decide +kernel
theorem dL_total_4 : decode cL_total 4 = .ok (.invokevirtual 49, 3) := by decide +kernel
theorem dL_total_7 : decode cL_total 7 = .ok (.i2l, 1) := by decide +kernel
theorem dL_total_8 : decode cL_total 8 = .ok (.lastore, 1) := by decide +kernel
theorem dL_total_9 : decode cL_total 9 = .ok (.goto 6, 3) := by decide +kernel
theorem dL_total_12 : decode cL_total 12 = .ok (.astore_n 3, 1) := by decide +kernel
theorem dL_total_13 : decode cL_total 13 = .ok (.iconst 1, 1) := by decide +kernel
theorem dL_total_14 : decode cL_total 14 = .ok (.ireturn, 1) := by decide +kernel
theorem dL_total_15 : decode cL_total 15 = .ok (.iconst 0, 1) := by decide +kernel
theorem dL_total_16 : decode cL_total 16 = .ok (.ireturn, 1) := by decide +kernel
theorem dL_busyPart_0 : decode cL_busyPart 0 = .ok (.aload_n 2, 1) := by decide +kernel
theorem dL_busyPart_1 : decode cL_busyPart 1 = .ok (.iconst 0, 1) := by decide +kernel
theorem dL_busyPart_2 : decode cL_busyPart 2 = .ok (.aload_n 0, 1) := by decide +kernel
theorem dL_busyPart_3 : decode cL_busyPart 3 = .ok (.iload_n 1, 1) := by decide +kernel
theorem dL_busyPart_4 : decode cL_busyPart 4 = .ok (.invokevirtual 52, 3) := by decide +kernel
theorem dL_busyPart_12 : decode cL_busyPart 12 = .ok (.astore_n 3, 1) := by decide +kernel
theorem dL_busyPart_13 : decode cL_busyPart 13 = .ok (.iconst 1, 1) := by decide +kernel
theorem dL_busyPart_14 : decode cL_busyPart 14 = .ok (.ireturn, 1) := by decide +kernel
theorem dL_order_0 : decode cL_order 0 = .ok (.aload_n 2, 1) := by decide +kernel
theorem dL_order_1 : decode cL_order 1 = .ok (.iconst 0, 1) := by decide +kernel
theorem dL_order_2 : decode cL_order 2 = .ok (.aload_n 0, 1) := by decide +kernel
theorem dL_order_3 : decode cL_order 3 = .ok (.iload_n 1, 1) := by decide +kernel
theorem dL_order_4 : decode cL_order 4 = .ok (.invokevirtual 56, 3) := by decide +kernel
theorem dL_order_12 : decode cL_order 12 = .ok (.astore_n 3, 1) := by decide +kernel
theorem dL_order_13 : decode cL_order 13 = .ok (.iconst 1, 1) := by decide +kernel
theorem dL_order_14 : decode cL_order 14 = .ok (.ireturn, 1) := by decide +kernel
theorem dL_giveUp_0 : decode cL_giveUp 0 = .ok (.aload_n 2, 1) := by decide +kernel
theorem dL_giveUp_1 : decode cL_giveUp 1 = .ok (.iconst 0, 1) := by decide +kernel
theorem dL_giveUp_2 : decode cL_giveUp 2 = .ok (.aload_n 0, 1) := by decide +kernel
theorem dL_giveUp_3 : decode cL_giveUp 3 = .ok (.iload_n 1, 1) := by decide +kernel
theorem dL_giveUp_4 : decode cL_giveUp 4 = .ok (.invokevirtual 59, 3) := by decide +kernel
theorem dL_giveUp_12 : decode cL_giveUp 12 = .ok (.astore_n 3, 1) := by decide +kernel
theorem dL_giveUp_13 : decode cL_giveUp 13 = .ok (.iconst 1, 1) := by decide +kernel
theorem dL_giveUp_14 : decode cL_giveUp 14 = .ok (.ireturn, 1) := by decide +kernel
theorem dL_setRank_0 : decode cL_setRank 0 = .ok (.aload_n 3, 1) := by decide +kernel
theorem dL_setRank_1 : decode cL_setRank 1 = .ok (.iconst 0, 1) := by decide +kernel
theorem dL_setRank_2 : decode cL_setRank 2 = .ok (.aload_n 0, 1) := by decide +kernel
theorem dL_setRank_3 : decode cL_setRank 3 = .ok (.iload_n 1, 1) := by decide +kernel
theorem dL_setRank_4 : decode cL_setRank 4 = .ok (.iload_n 2, 1) := by decide +kernel
theorem dL_setRank_5 : decode cL_setRank 5 = .ok (.invokevirtual 62, 3) := by decide +kernel
theorem dL_setRank_13 : decode cL_setRank 13 = .ok (.astore 4, 2) := by decide +kernel
theorem dL_setRank_15 : decode cL_setRank 15 = .ok (.iconst 1, 1) := by decide +kernel
theorem dL_setRank_16 : decode cL_setRank 16 = .ok (.ireturn, 1) := by decide +kernel
theorem dL_refill_0 : decode cL_refill 0 = .ok (.aload_n 2, 1) := by decide +kernel
theorem dL_refill_1 : decode cL_refill 1 = .ok (.iconst 0, 1) := by decide +kernel
theorem dL_refill_2 : decode cL_refill 2 = .ok (.aload_n 0, 1) := by decide +kernel
theorem dL_refill_3 : decode cL_refill 3 = .ok (.iload_n 1, 1) := by decide +kernel
theorem dL_refill_4 : decode cL_refill 4 = .ok (.invokevirtual 65, 3) := by decide +kernel
theorem dL_refill_7 : decode cL_refill 7 = .ok (.i2l, 1) := by decide +kernel
theorem dL_refill_8 : decode cL_refill 8 = .ok (.lastore, 1) := by decide +kernel
theorem dL_refill_9 : decode cL_refill 9 = .ok (.goto 6, 3) := by decide +kernel
theorem dL_refill_12 : decode cL_refill 12 = .ok (.astore_n 3, 1) := by decide +kernel
theorem dL_refill_13 : decode cL_refill 13 = .ok (.iconst 1, 1) := by decide +kernel
theorem dL_refill_14 : decode cL_refill 14 = .ok (.ireturn, 1) := by decide +kernel
theorem dL_refill_15 : decode cL_refill 15 = .ok (.iconst 0, 1) := by decide +kernel
theorem dL_refill_16 : decode cL_refill 16 = .ok (.ireturn, 1) := by decide +kernel
theorem dL_setPace_0 : decode cL_setPace 0 = .ok (.aload_n 3, 1) := by decide +kernel
theorem dL_setPace_1 : decode cL_setPace 1 = .ok (.iconst 0, 1) := by decide +kernel
theorem dL_setPace_2 : decode cL_setPace 2 = .ok (.aload_n 0, 1) := by decide +kernel
theorem dL_setPace_3 : decode cL_setPace 3 = .ok (.iload_n 1, 1) := by decide +kernel
theorem dL_setPace_4 : decode cL_setPace 4 = .ok (.iload_n 2, 1) := by decide +kernel
theorem dL_setPace_5 : decode cL_setPace 5 = .ok (.invokevirtual 68, 3) := by decide +kernel
theorem dL_setPace_13 : decode cL_setPace 13 = .ok (.astore 4, 2) := by decide +kernel
theorem dL_setPace_15 : decode cL_setPace 15 = .ok (.iconst 1, 1) := by decide +kernel
theorem dL_setPace_16 : decode cL_setPace 16 = .ok (.ireturn, 1) := by decide +kernel
theorem dL_stop_0 : decode cL_stop 0 = .ok (.aload_n 3, 1) := by decide +kernel
theorem dL_stop_1 : decode cL_stop 1 = .ok (.iconst 0, 1) := by decide +kernel
theorem dL_stop_2 : decode cL_stop 2 = .ok (.aload_n 0, 1) := by decide +kernel
theorem dL_stop_3 : decode cL_stop 3 = .ok (.iload_n 1, 1) := by decide +kernel
theorem dL_stop_4 : decode cL_stop 4 = .ok (.iload_n 2, 1) := by decide +kernel
theorem dL_stop_5 : decode cL_stop 5 = .ok (.invokevirtual 71, 3) := by decide +kernel
theorem dL_stop_13 : decode cL_stop 13 = .ok (.astore 4, 2) := by decide +kernel
theorem dL_stop_15 : decode cL_stop 15 = .ok (.iconst 1, 1) := by decide +kernel
theorem dL_stop_16 : decode cL_stop 16 = .ok (.ireturn, 1) := by decide +kernel
theorem dL_setRest_0 : decode cL_setRest 0 = .ok (.aload 4, 2) := by decide +kernel
theorem dL_setRest_2 : decode cL_setRest 2 = .ok (.iconst 0, 1) := by decide +kernel
theorem dL_setRest_3 : decode cL_setRest 3 = .ok (.aload_n 0, 1) := by decide +kernel
theorem dL_setRest_4 : decode cL_setRest 4 = .ok (.iload_n 1, 1) := by decide +kernel
theorem dL_setRest_5 : decode cL_setRest 5 = .ok (.iload_n 2, 1) := by decide +kernel
theorem dL_setRest_6 : decode cL_setRest 6 = .ok (.iload_n 3, 1) := by decide +kernel
theorem dL_setRest_7 : decode cL_setRest 7 = .ok (.invokevirtual 75, 3) := by decide +kernel
theorem dL_setRest_15 : decode cL_setRest 15 = .ok (.astore 5, 2) := by decide +kernel
theorem dL_setRest_17 : decode cL_setRest 17 = .ok (.iconst 1, 1) := by decide +kernel
theorem dL_setRest_18 : decode cL_setRest 18 = .ok (.ireturn, 1) := by decide +kernel
theorem dL_rush_0 : decode cL_rush 0 = .ok (.aload_n 2, 1) := by decide +kernel
theorem dL_rush_1 : decode cL_rush 1 = .ok (.iconst 0, 1) := by decide +kernel
theorem dL_rush_2 : decode cL_rush 2 = .ok (.aload_n 0, 1) := by decide +kernel
theorem dL_rush_3 : decode cL_rush 3 = .ok (.iload_n 1, 1) := by decide +kernel
theorem dL_rush_4 : decode cL_rush 4 = .ok (.invokevirtual 78, 3) := by decide +kernel
theorem dL_rush_12 : decode cL_rush 12 = .ok (.astore_n 3, 1) := by decide +kernel
theorem dL_rush_13 : decode cL_rush 13 = .ok (.iconst 1, 1) := by decide +kernel
theorem dL_rush_14 : decode cL_rush 14 = .ok (.ireturn, 1) := by decide +kernel
theorem dL_swap_0 : decode cL_swap 0 = .ok (.aload_n 3, 1) := by decide +kernel
theorem dL_swap_1 : decode cL_swap 1 = .ok (.iconst 0, 1) := by decide +kernel
theorem dL_swap_2 : decode cL_swap 2 = .ok (.aload_n 0, 1) := by decide +kernel
theorem dL_swap_3 : decode cL_swap 3 = .ok (.iload_n 1, 1) := by decide +kernel
theorem dL_swap_4 : decode cL_swap 4 = .ok (.iload_n 2, 1) := by decide +kernel
theorem dL_swap_5 : decode cL_swap 5 = .ok (.invokevirtual 81, 3) := by decide +kernel
theorem dL_swap_13 : decode cL_swap 13 = .ok (.astore 4, 2) := by decide +kernel
theorem dL_swap_15 : decode cL_swap 15 = .ok (.iconst 1, 1) := by decide +kernel
theorem dL_swap_16 : decode cL_swap 16 = .ok (.ireturn, 1) := by decide +kernel
theorem dL_setTries_0 : decode cL_setTries 0 = .ok (.aload_n 2, 1) := by decide +kernel
theorem dL_setTries_1 : decode cL_setTries 1 = .ok (.iconst 0, 1) := by decide +kernel
theorem dL_setTries_2 : decode cL_setTries 2 = .ok (.aload_n 0, 1) := by decide +kernel
theorem dL_setTries_3 : decode cL_setTries 3 = .ok (.iload_n 1, 1) := by decide +kernel
theorem dL_setTries_4 : decode cL_setTries 4 = .ok (.invokevirtual 84, 3) := by decide +kernel
theorem dL_setTries_7 : decode cL_setTries 7 = .ok (.i2l, 1) := by decide +kernel
theorem dL_setTries_8 : decode cL_setTries 8 = .ok (.lastore, 1) := by decide +kernel
theorem dL_setTries_9 : decode cL_setTries 9 = .ok (.goto 6, 3) := by decide +kernel
theorem dL_setTries_12 : decode cL_setTries 12 = .ok (.astore_n 3, 1) := by decide +kernel
theorem dL_setTries_13 : decode cL_setTries 13 = .ok (.iconst 1, 1) := by decide +kernel
theorem dL_setTries_14 : decode cL_setTries 14 = .ok (.ireturn, 1) := by decide +kernel
theorem dL_setTries_15 : decode cL_setTries 15 = .ok (.iconst 0, 1) := by decide +kernel
theorem dL_setTries_16 : decode cL_setTries 16 = .ok (.ireturn, 1) := by decide +kernel
theorem dL_setTray_0 : decode cL_setTray 0 = .ok (.aload_n 2, 1) := by decide +kernel
theorem dL_setTray_1 : decode cL_setTray 1 = .ok (.iconst 0, 1) := by decide +kernel
theorem dL_setTray_2 : decode cL_setTray 2 = .ok (.aload_n 0, 1) := by decide +kernel
theorem dL_setTray_3 : decode cL_setTray 3 = .ok (.iload_n 1, 1) := by decide +kernel
theorem dL_setTray_4 : decode cL_setTray 4 = .ok (.invokevirtual 87, 3) := by decide +kernel
theorem dL_setTray_7 : decode cL_setTray 7 = .ok (.i2l, 1) := by decide +kernel
theorem dL_setTray_8 : decode cL_setTray 8 = .ok (.lastore, 1) := by decide +kernel
theorem dL_setTray_9 : decode cL_setTray 9 = .ok (.goto 6, 3) := by decide +kernel
theorem dL_setTray_12 : decode cL_setTray 12 = .ok (.astore_n 3, 1) := by decide +kernel
theorem dL_setTray_13 : decode cL_setTray 13 = .ok (.iconst 1, 1) := by decide +kernel
theorem dL_setTray_14 : decode cL_setTray 14 = .ok (.ireturn, 1) := by decide +kernel
theorem dL_setTray_15 : decode cL_setTray 15 = .ok (.iconst 0, 1) := by decide +kernel
theorem dL_setTray_16 : decode cL_setTray 16 = .ok (.ireturn, 1) := by decide +kernel
theorem dL_run_0 : decode cL_run 0 = .ok (.aload_n 2, 1) := by decide +kernel
theorem dL_run_1 : decode cL_run 1 = .ok (.iconst 0, 1) := by decide +kernel
theorem dL_run_2 : decode cL_run 2 = .ok (.aload_n 0, 1) := by decide +kernel
theorem dL_run_3 : decode cL_run 3 = .ok (.iload_n 1, 1) := by decide +kernel
theorem dL_run_4 : decode cL_run 4 = .ok (.invokevirtual 90, 3) := by decide +kernel
theorem dL_run_7 : decode cL_run 7 = .ok (.i2l, 1) := by decide +kernel
theorem dL_run_8 : decode cL_run 8 = .ok (.lastore, 1) := by decide +kernel
theorem dL_run_9 : decode cL_run 9 = .ok (.goto 6, 3) := by decide +kernel
theorem dL_run_12 : decode cL_run 12 = .ok (.astore_n 3, 1) := by decide +kernel
theorem dL_run_13 : decode cL_run 13 = .ok (.iconst 1, 1) := by decide +kernel
theorem dL_run_14 : decode cL_run 14 = .ok (.ireturn, 1) := by decide +kernel
theorem dL_run_15 : decode cL_run 15 = .ok (.iconst 0, 1) := by decide +kernel
theorem dL_run_16 : decode cL_run 16 = .ok (.ireturn, 1) := by decide +kernel
theorem dL_runToLeave_0 : decode cL_runToLeave 0 = .ok (.aload_n 2, 1) := by decide +kernel
theorem dL_runToLeave_1 : decode cL_runToLeave 1 = .ok (.iconst 0, 1) := by decide +kernel
theorem dL_runToLeave_2 : decode cL_runToLeave 2 = .ok (.aload_n 0, 1) := by decide +kernel
theorem dL_runToLeave_3 : decode cL_runToLeave 3 = .ok (.iload_n 1, 1) := by decide +kernel
theorem dL_runToLeave_4 : decode cL_runToLeave 4 = .ok (.invokevirtual 93, 3) := by decide +kernel
theorem dL_runToLeave_7 : decode cL_runToLeave 7 = .ok (.i2l, 1) := by decide +kernel
theorem dL_runToLeave_8 : decode cL_runToLeave 8 = .ok (.lastore, 1) := by decide +kernel
theorem dL_runToLeave_9 : decode cL_runToLeave 9 = .ok (.goto 6, 3) := by decide +kernel
theorem dL_runToLeave_12 : decode cL_runToLeave 12 = .ok (.astore_n 3, 1) := by decide +kernel
theorem dL_runToLeave_13 : decode cL_runToLeave 13 = .ok (.iconst 1, 1) := by decide +kernel
theorem dL_runToLeave_14 : decode cL_runToLeave 14 = .ok (.ireturn, 1) := by decide +kernel
theorem dL_runToLeave_15 : decode cL_runToLeave 15 = .ok (.iconst 0, 1) := by decide +kernel
theorem dL_runToLeave_16 : decode cL_runToLeave 16 = .ok (.ireturn, 1) := by decide +kernel
theorem dL_leavesIn_0 : decode cL_leavesIn 0 = .ok (.aload_n 2, 1) := by decide +kernel
theorem dL_leavesIn_1 : decode cL_leavesIn 1 = .ok (.iconst 0, 1) := by decide +kernel
theorem dL_leavesIn_2 : decode cL_leavesIn 2 = .ok (.aload_n 0, 1) := by decide +kernel
theorem dL_leavesIn_3 : decode cL_leavesIn 3 = .ok (.iload_n 1, 1) := by decide +kernel
theorem dL_leavesIn_4 : decode cL_leavesIn 4 = .ok (.invokevirtual 96, 3) := by decide +kernel
theorem dL_leavesIn_12 : decode cL_leavesIn 12 = .ok (.astore_n 3, 1) := by decide +kernel
theorem dL_leavesIn_13 : decode cL_leavesIn 13 = .ok (.iconst 1, 1) := by decide +kernel
theorem dL_leavesIn_14 : decode cL_leavesIn 14 = .ok (.ireturn, 1) := by decide +kernel
theorem dL_lotIn_0 : decode cL_lotIn 0 = .ok (.aload_n 2, 1) := by decide +kernel
theorem dL_lotIn_1 : decode cL_lotIn 1 = .ok (.iconst 0, 1) := by decide +kernel
theorem dL_lotIn_2 : decode cL_lotIn 2 = .ok (.aload_n 0, 1) := by decide +kernel
theorem dL_lotIn_3 : decode cL_lotIn 3 = .ok (.iload_n 1, 1) := by decide +kernel
theorem dL_lotIn_4 : decode cL_lotIn 4 = .ok (.invokevirtual 99, 3) := by decide +kernel
theorem dL_lotIn_12 : decode cL_lotIn 12 = .ok (.astore_n 3, 1) := by decide +kernel
theorem dL_lotIn_13 : decode cL_lotIn 13 = .ok (.iconst 1, 1) := by decide +kernel
theorem dL_lotIn_14 : decode cL_lotIn 14 = .ok (.ireturn, 1) := by decide +kernel
theorem dL_leftIn_0 : decode cL_leftIn 0 = .ok (.aload_n 2, 1) := by decide +kernel
theorem dL_leftIn_1 : decode cL_leftIn 1 = .ok (.iconst 0, 1) := by decide +kernel
theorem dL_leftIn_2 : decode cL_leftIn 2 = .ok (.aload_n 0, 1) := by decide +kernel
theorem dL_leftIn_3 : decode cL_leftIn 3 = .ok (.iload_n 1, 1) := by decide +kernel
theorem dL_leftIn_4 : decode cL_leftIn 4 = .ok (.invokevirtual 102, 3) := by decide +kernel
theorem dL_leftIn_7 : decode cL_leftIn 7 = .ok (.i2l, 1) := by decide +kernel
theorem dL_leftIn_8 : decode cL_leftIn 8 = .ok (.lastore, 1) := by decide +kernel
theorem dL_leftIn_9 : decode cL_leftIn 9 = .ok (.goto 6, 3) := by decide +kernel
theorem dL_leftIn_12 : decode cL_leftIn 12 = .ok (.astore_n 3, 1) := by decide +kernel
theorem dL_leftIn_13 : decode cL_leftIn 13 = .ok (.iconst 1, 1) := by decide +kernel
theorem dL_leftIn_14 : decode cL_leftIn 14 = .ok (.ireturn, 1) := by decide +kernel
theorem dL_leftIn_15 : decode cL_leftIn 15 = .ok (.iconst 0, 1) := by decide +kernel
theorem dL_leftIn_16 : decode cL_leftIn 16 = .ok (.ireturn, 1) := by decide +kernel
theorem dL_failIn_0 : decode cL_failIn 0 = .ok (.aload_n 2, 1) := by decide +kernel
theorem dL_failIn_1 : decode cL_failIn 1 = .ok (.iconst 0, 1) := by decide +kernel
theorem dL_failIn_2 : decode cL_failIn 2 = .ok (.aload_n 0, 1) := by decide +kernel
theorem dL_failIn_3 : decode cL_failIn 3 = .ok (.iload_n 1, 1) := by decide +kernel
theorem dL_failIn_4 : decode cL_failIn 4 = .ok (.invokevirtual 105, 3) := by decide +kernel
theorem dL_failIn_12 : decode cL_failIn 12 = .ok (.astore_n 3, 1) := by decide +kernel
theorem dL_failIn_13 : decode cL_failIn 13 = .ok (.iconst 1, 1) := by decide +kernel
theorem dL_failIn_14 : decode cL_failIn 14 = .ok (.ireturn, 1) := by decide +kernel
theorem dL_blanksIn_0 : decode cL_blanksIn 0 = .ok (.aload_n 2, 1) := by decide +kernel
theorem dL_blanksIn_1 : decode cL_blanksIn 1 = .ok (.iconst 0, 1) := by decide +kernel
theorem dL_blanksIn_2 : decode cL_blanksIn 2 = .ok (.aload_n 0, 1) := by decide +kernel
theorem dL_blanksIn_3 : decode cL_blanksIn 3 = .ok (.iload_n 1, 1) := by decide +kernel
theorem dL_blanksIn_4 : decode cL_blanksIn 4 = .ok (.invokevirtual 108, 3) := by decide +kernel
theorem dL_blanksIn_7 : decode cL_blanksIn 7 = .ok (.i2l, 1) := by decide +kernel
theorem dL_blanksIn_8 : decode cL_blanksIn 8 = .ok (.lastore, 1) := by decide +kernel
theorem dL_blanksIn_9 : decode cL_blanksIn 9 = .ok (.goto 6, 3) := by decide +kernel
theorem dL_blanksIn_12 : decode cL_blanksIn 12 = .ok (.astore_n 3, 1) := by decide +kernel
theorem dL_blanksIn_13 : decode cL_blanksIn 13 = .ok (.iconst 1, 1) := by decide +kernel
theorem dL_blanksIn_14 : decode cL_blanksIn 14 = .ok (.ireturn, 1) := by decide +kernel
theorem dL_blanksIn_15 : decode cL_blanksIn 15 = .ok (.iconst 0, 1) := by decide +kernel
theorem dL_blanksIn_16 : decode cL_blanksIn 16 = .ok (.ireturn, 1) := by decide +kernel
theorem dL_restIn_0 : decode cL_restIn 0 = .ok (.aload_n 2, 1) := by decide +kernel
theorem dL_restIn_1 : decode cL_restIn 1 = .ok (.iconst 0, 1) := by decide +kernel
theorem dL_restIn_2 : decode cL_restIn 2 = .ok (.aload_n 0, 1) := by decide +kernel
theorem dL_restIn_3 : decode cL_restIn 3 = .ok (.iload_n 1, 1) := by decide +kernel
theorem dL_restIn_4 : decode cL_restIn 4 = .ok (.invokevirtual 111, 3) := by decide +kernel
theorem dL_restIn_12 : decode cL_restIn 12 = .ok (.astore_n 3, 1) := by decide +kernel
theorem dL_restIn_13 : decode cL_restIn 13 = .ok (.iconst 1, 1) := by decide +kernel
theorem dL_restIn_14 : decode cL_restIn 14 = .ok (.ireturn, 1) := by decide +kernel
theorem dL_bestRank_0 : decode cL_bestRank 0 = .ok (.aload_n 2, 1) := by decide +kernel
theorem dL_bestRank_1 : decode cL_bestRank 1 = .ok (.iconst 0, 1) := by decide +kernel
theorem dL_bestRank_2 : decode cL_bestRank 2 = .ok (.aload_n 0, 1) := by decide +kernel
theorem dL_bestRank_3 : decode cL_bestRank 3 = .ok (.iload_n 1, 1) := by decide +kernel
theorem dL_bestRank_4 : decode cL_bestRank 4 = .ok (.invokevirtual 114, 3) := by decide +kernel
theorem dL_bestRank_12 : decode cL_bestRank 12 = .ok (.astore_n 3, 1) := by decide +kernel
theorem dL_bestRank_13 : decode cL_bestRank 13 = .ok (.iconst 1, 1) := by decide +kernel
theorem dL_bestRank_14 : decode cL_bestRank 14 = .ok (.ireturn, 1) := by decide +kernel
theorem dL_writeCard_0 : decode cL_writeCard 0 = .ok (.aload_n 2, 1) := by decide +kernel
theorem dL_writeCard_1 : decode cL_writeCard 1 = .ok (.iconst 0, 1) := by decide +kernel
theorem dL_writeCard_2 : decode cL_writeCard 2 = .ok (.aload_n 0, 1) := by decide +kernel
theorem dL_writeCard_3 : decode cL_writeCard 3 = .ok (.iload_n 1, 1) := by decide +kernel
theorem dL_writeCard_4 : decode cL_writeCard 4 = .ok (.invokevirtual 117, 3) := by decide +kernel
theorem dL_writeCard_12 : decode cL_writeCard 12 = .ok (.astore_n 3, 1) := by decide +kernel
theorem dL_writeCard_13 : decode cL_writeCard 13 = .ok (.iconst 1, 1) := by decide +kernel
theorem dL_writeCard_14 : decode cL_writeCard 14 = .ok (.ireturn, 1) := by decide +kernel
theorem dL_saveSnapshot_0 : decode cL_saveSnapshot 0 = .ok (.aload_n 2, 1) := by decide +kernel
theorem dL_saveSnapshot_1 : decode cL_saveSnapshot 1 = .ok (.iconst 0, 1) := by decide +kernel
theorem dL_saveSnapshot_2 : decode cL_saveSnapshot 2 = .ok (.aload_n 0, 1) := by decide +kernel
theorem dL_saveSnapshot_3 : decode cL_saveSnapshot 3 = .ok (.iload_n 1, 1) := by decide +kernel
theorem dL_saveSnapshot_4 : decode cL_saveSnapshot 4 = .ok (.invokevirtual 120, 3) := by decide +kernel
theorem dL_saveSnapshot_7 : decode cL_saveSnapshot 7 = .ok (.i2l, 1) := by decide +kernel
theorem dL_saveSnapshot_8 : decode cL_saveSnapshot 8 = .ok (.lastore, 1) := by decide +kernel
theorem dL_saveSnapshot_9 : decode cL_saveSnapshot 9 = .ok (.goto 6, 3) := by decide +kernel
theorem dL_saveSnapshot_12 : decode cL_saveSnapshot 12 = .ok (.astore_n 3, 1) := by decide +kernel
theorem dL_saveSnapshot_13 : decode cL_saveSnapshot 13 = .ok (.iconst 1, 1) := by decide +kernel
theorem dL_saveSnapshot_14 : decode cL_saveSnapshot 14 = .ok (.ireturn, 1) := by decide +kernel
theorem dL_saveSnapshot_15 : decode cL_saveSnapshot 15 = .ok (.iconst 0, 1) := by decide +kernel
theorem dL_saveSnapshot_16 : decode cL_saveSnapshot 16 = .ok (.ireturn, 1) := by decide +kernel
theorem dL_restoreSnapshot_0 : decode cL_restoreSnapshot 0 = .ok (.aload_n 2, 1) := by decide +kernel
theorem dL_restoreSnapshot_1 : decode cL_restoreSnapshot 1 = .ok (.iconst 0, 1) := by decide +kernel
theorem dL_restoreSnapshot_2 : decode cL_restoreSnapshot 2 = .ok (.aload_n 0, 1) := by decide +kernel
theorem dL_restoreSnapshot_3 : decode cL_restoreSnapshot 3 = .ok (.iload_n 1, 1) := by decide +kernel
theorem dL_restoreSnapshot_4 : decode cL_restoreSnapshot 4 = .ok (.invokevirtual 123, 3) := by decide +kernel
theorem dL_restoreSnapshot_7 : decode cL_restoreSnapshot 7 = .ok (.i2l, 1) := by decide +kernel
theorem dL_restoreSnapshot_8 : decode cL_restoreSnapshot 8 = .ok (.lastore, 1) := by decide +kernel
theorem dL_restoreSnapshot_9 : decode cL_restoreSnapshot 9 = .ok (.goto 6, 3) := by decide +kernel
theorem dL_restoreSnapshot_12 : decode cL_restoreSnapshot 12 = .ok (.astore_n 3, 1) := by decide +kernel
theorem dL_restoreSnapshot_13 : decode cL_restoreSnapshot 13 = .ok (.iconst 1, 1) := by decide +kernel
theorem dL_restoreSnapshot_14 : decode cL_restoreSnapshot 14 = .ok (.ireturn, 1) := by decide +kernel
theorem dL_restoreSnapshot_15 : decode cL_restoreSnapshot 15 = .ok (.iconst 0, 1) := by decide +kernel
theorem dL_restoreSnapshot_16 : decode cL_restoreSnapshot 16 = .ok (.ireturn, 1) := by decide +kernel
