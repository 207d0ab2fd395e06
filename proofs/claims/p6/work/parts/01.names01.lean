theorem dJ0_charAt_5068e_0 : decode cJ0_charAt_5068e 0 = .ok (.aload_n 0, 1) := by decide +kernel
theorem dJ0_charAt_5068e_1 : decode cJ0_charAt_5068e 1 = .ok (.invokevirtual 492, 3) := by decide +kernel
theorem dJ0_charAt_5068e_11 : decode cJ0_charAt_5068e 11 = .ok (.iload_n 1, 1) := by decide +kernel
theorem dJ0_charAt_5068e_12 : decode cJ0_charAt_5068e 12 = .ok (.invokestatic 495, 3) := by decide +kernel
theorem dJ0_charAt_5068e_15 : decode cJ0_charAt_5068e 15 = .ok (.ireturn, 1) := by decide +kernel
theorem dJ0_charAt_5068e_4 : decode cJ0_charAt_5068e 4 = .ok (.ifCond .eq 12, 3) := by decide +kernel
theorem dJ0_charAt_5068e_7 : decode cJ0_charAt_5068e 7 = .ok (.aload_n 0, 1) := by decide +kernel
theorem dJ0_charAt_5068e_8 : decode cJ0_charAt_5068e 8 = .ok (.getfield 9, 3) := by decide +kernel
theorem dJ0_checkIndex_df160_0 : decode cJ0_checkIndex_df160 0 = .ok (.iload_n 0, 1) := by decide +kernel
theorem dJ0_checkIndex_df160_1 : decode cJ0_checkIndex_df160 1 = .ok (.iload_n 1, 1) := by decide +kernel
theorem dJ0_checkIndex_df160_2 : decode cJ0_checkIndex_df160 2 = .ok (.getstatic 1053, 3) := by decide +kernel
theorem dJ0_checkIndex_df160_5 : decode cJ0_checkIndex_df160 5 = .ok (.invokestatic 1059, 3) := by decide +kernel
theorem dJ0_checkIndex_df160_8 : decode cJ0_checkIndex_df160 8 = .ok (.pop, 1) := by decide +kernel
theorem dJ0_checkIndex_df160_9 : decode cJ0_checkIndex_df160 9 = .ok (.return_, 1) := by decide +kernel
theorem dJ0_coder_7d493_0 : decode cJ0_coder_7d493 0 = .ok (.getstatic 38, 3) := by decide +kernel
theorem dJ0_coder_7d493_10 : decode cJ0_coder_7d493 10 = .ok (.goto 4, 3) := by decide +kernel
theorem dJ0_coder_7d493_14 : decode cJ0_coder_7d493 14 = .ok (.ireturn, 1) := by decide +kernel
theorem dJ0_coder_7d493_3 : decode cJ0_coder_7d493 3 = .ok (.ifCond .eq 10, 3) := by decide +kernel
theorem dJ0_coder_7d493_6 : decode cJ0_coder_7d493 6 = .ok (.aload_n 0, 1) := by decide +kernel
theorem dJ0_coder_7d493_7 : decode cJ0_coder_7d493 7 = .ok (.getfield 15, 3) := by decide +kernel
theorem dJ0_isLatin1_aae02_0 : decode cJ0_isLatin1_aae02 0 = .ok (.getstatic 38, 3) := by decide +kernel
theorem dJ0_isLatin1_aae02_10 : decode cJ0_isLatin1_aae02 10 = .ok (.ifCond .ne 7, 3) := by decide +kernel
theorem dJ0_isLatin1_aae02_13 : decode cJ0_isLatin1_aae02 13 = .ok (.iconst 1, 1) := by decide +kernel
theorem dJ0_isLatin1_aae02_14 : decode cJ0_isLatin1_aae02 14 = .ok (.goto 4, 3) := by decide +kernel
theorem dJ0_isLatin1_aae02_18 : decode cJ0_isLatin1_aae02 18 = .ok (.ireturn, 1) := by decide +kernel
theorem dJ0_isLatin1_aae02_3 : decode cJ0_isLatin1_aae02 3 = .ok (.ifCond .eq 14, 3) := by decide +kernel
theorem dJ0_isLatin1_aae02_6 : decode cJ0_isLatin1_aae02 6 = .ok (.aload_n 0, 1) := by decide +kernel
theorem dJ0_isLatin1_aae02_7 : decode cJ0_isLatin1_aae02 7 = .ok (.getfield 15, 3) := by decide +kernel
theorem dJ0_length_8abf5_0 : decode cJ0_length_8abf5 0 = .ok (.aload_n 0, 1) := by decide +kernel
theorem dJ0_length_8abf5_1 : decode cJ0_length_8abf5 1 = .ok (.getfield 9, 3) := by decide +kernel
theorem dJ0_length_8abf5_10 : decode cJ0_length_8abf5 10 = .ok (.ireturn, 1) := by decide +kernel
theorem dJ0_length_8abf5_4 : decode cJ0_length_8abf5 4 = .ok (.arraylength, 1) := by decide +kernel
theorem dJ0_length_8abf5_5 : decode cJ0_length_8abf5 5 = .ok (.aload_n 0, 1) := by decide +kernel
theorem dJ0_length_8abf5_6 : decode cJ0_length_8abf5 6 = .ok (.invokevirtual 335, 3) := by decide +kernel
theorem dJ0_length_8abf5_9 : decode cJ0_length_8abf5 9 = .ok (.ishr, 1) := by decide +kernel
theorem dJ1_charAt_3b067_0 : decode cJ1_charAt_3b067 0 = .ok (.iload_n 1, 1) := by decide +kernel
theorem dJ1_charAt_3b067_1 : decode cJ1_charAt_3b067 1 = .ok (.aload_n 0, 1) := by decide +kernel
theorem dJ1_charAt_3b067_12 : decode cJ1_charAt_3b067 12 = .ok (.iand, 1) := by decide +kernel
theorem dJ1_charAt_3b067_13 : decode cJ1_charAt_3b067 13 = .ok (.i2c, 1) := by decide +kernel
theorem dJ1_charAt_3b067_14 : decode cJ1_charAt_3b067 14 = .ok (.ireturn, 1) := by decide +kernel
theorem dJ1_charAt_3b067_2 : decode cJ1_charAt_3b067 2 = .ok (.arraylength, 1) := by decide +kernel
theorem dJ1_charAt_3b067_3 : decode cJ1_charAt_3b067 3 = .ok (.invokestatic 9, 3) := by decide +kernel
theorem dJ1_charAt_3b067_6 : decode cJ1_charAt_3b067 6 = .ok (.aload_n 0, 1) := by decide +kernel
theorem dJ1_charAt_3b067_7 : decode cJ1_charAt_3b067 7 = .ok (.iload_n 1, 1) := by decide +kernel
theorem dJ1_charAt_3b067_8 : decode cJ1_charAt_3b067 8 = .ok (.baload, 1) := by decide +kernel
theorem dJ1_charAt_3b067_9 : decode cJ1_charAt_3b067 9 = .ok (.sipush 255, 3) := by decide +kernel
theorem dJ3_checkIndex_8e157_0 : decode cJ3_checkIndex_8e157 0 = .ok (.iload_n 0, 1) := by decide +kernel
theorem dJ3_checkIndex_8e157_1 : decode cJ3_checkIndex_8e157 1 = .ok (.ifCond .lt 8, 3) := by decide +kernel
theorem dJ3_checkIndex_8e157_16 : decode cJ3_checkIndex_8e157 16 = .ok (.iload_n 0, 1) := by decide +kernel
theorem dJ3_checkIndex_8e157_17 : decode cJ3_checkIndex_8e157 17 = .ok (.ireturn, 1) := by decide +kernel
theorem dJ3_checkIndex_8e157_4 : decode cJ3_checkIndex_8e157 4 = .ok (.iload_n 0, 1) := by decide +kernel
theorem dJ3_checkIndex_8e157_5 : decode cJ3_checkIndex_8e157 5 = .ok (.iload_n 1, 1) := by decide +kernel
theorem dJ3_checkIndex_8e157_6 : decode cJ3_checkIndex_8e157 6 = .ok (.if_icmp .lt 10, 3) := by decide +kernel
theorem dX8_adds_0 : decode cX8_adds 0 = .ok (.aload_n 0, 1) := by decide +kernel
theorem dX8_adds_1 : decode cX8_adds 1 = .ok (.getfield 9, 3) := by decide +kernel
theorem dX8_adds_10 : decode cX8_adds 10 = .ok (.iconst 0, 1) := by decide +kernel
theorem dX8_adds_100 : decode cX8_adds 100 = .ok (.iinc 3 1, 3) := by decide +kernel
theorem dX8_adds_103 : decode cX8_adds 103 = .ok (.goto (-26), 3) := by decide +kernel
theorem dX8_adds_106 : decode cX8_adds 106 = .ok (.aload_n 0, 1) := by decide +kernel
theorem dX8_adds_107 : decode cX8_adds 107 = .ok (.getfield 9, 3) := by decide +kernel
theorem dX8_adds_11 : decode cX8_adds 11 = .ok (.iload_n 1, 1) := by decide +kernel
theorem dX8_adds_110 : decode cX8_adds 110 = .ok (.bipush 9, 2) := by decide +kernel
theorem dX8_adds_112 : decode cX8_adds 112 = .ok (.dup2, 1) := by decide +kernel
theorem dX8_adds_113 : decode cX8_adds 113 = .ok (.iaload, 1) := by decide +kernel
theorem dX8_adds_114 : decode cX8_adds 114 = .ok (.iconst 1, 1) := by decide +kernel
theorem dX8_adds_115 : decode cX8_adds 115 = .ok (.iadd, 1) := by decide +kernel
theorem dX8_adds_116 : decode cX8_adds 116 = .ok (.iastore, 1) := by decide +kernel
theorem dX8_adds_117 : decode cX8_adds 117 = .ok (.aload_n 0, 1) := by decide +kernel
theorem dX8_adds_118 : decode cX8_adds 118 = .ok (.getfield 9, 3) := by decide +kernel
theorem dX8_adds_12 : decode cX8_adds 12 = .ok (.invokevirtual 130, 3) := by decide +kernel
theorem dX8_adds_121 : decode cX8_adds 121 = .ok (.bipush 113, 2) := by decide +kernel
theorem dX8_adds_123 : decode cX8_adds 123 = .ok (.iconst 4, 1) := by decide +kernel
theorem dX8_adds_124 : decode cX8_adds 124 = .ok (.iload_n 1, 1) := by decide +kernel
theorem dX8_adds_125 : decode cX8_adds 125 = .ok (.imul, 1) := by decide +kernel
theorem dX8_adds_126 : decode cX8_adds 126 = .ok (.iadd, 1) := by decide +kernel
theorem dX8_adds_127 : decode cX8_adds 127 = .ok (.iconst 1, 1) := by decide +kernel
theorem dX8_adds_128 : decode cX8_adds 128 = .ok (.iadd, 1) := by decide +kernel
theorem dX8_adds_129 : decode cX8_adds 129 = .ok (.dup2, 1) := by decide +kernel
theorem dX8_adds_130 : decode cX8_adds 130 = .ok (.iaload, 1) := by decide +kernel
theorem dX8_adds_131 : decode cX8_adds 131 = .ok (.iconst 1, 1) := by decide +kernel
theorem dX8_adds_132 : decode cX8_adds 132 = .ok (.iadd, 1) := by decide +kernel
theorem dX8_adds_133 : decode cX8_adds 133 = .ok (.iastore, 1) := by decide +kernel
theorem dX8_adds_134 : decode cX8_adds 134 = .ok (.return_, 1) := by decide +kernel
theorem dX8_adds_15 : decode cX8_adds 15 = .ok (.aload_n 0, 1) := by decide +kernel
theorem dX8_adds_16 : decode cX8_adds 16 = .ok (.iload_n 2, 1) := by decide +kernel
theorem dX8_adds_17 : decode cX8_adds 17 = .ok (.iconst 1, 1) := by decide +kernel
theorem dX8_adds_18 : decode cX8_adds 18 = .ok (.aload_n 0, 1) := by decide +kernel
theorem dX8_adds_19 : decode cX8_adds 19 = .ok (.iload_n 1, 1) := by decide +kernel
theorem dX8_adds_20 : decode cX8_adds 20 = .ok (.iconst 1, 1) := by decide +kernel
theorem dX8_adds_21 : decode cX8_adds 21 = .ok (.invokevirtual 134, 3) := by decide +kernel
theorem dX8_adds_24 : decode cX8_adds 24 = .ok (.invokevirtual 130, 3) := by decide +kernel
theorem dX8_adds_27 : decode cX8_adds 27 = .ok (.aload_n 0, 1) := by decide +kernel
theorem dX8_adds_28 : decode cX8_adds 28 = .ok (.iload_n 2, 1) := by decide +kernel
theorem dX8_adds_29 : decode cX8_adds 29 = .ok (.iconst 2, 1) := by decide +kernel
theorem dX8_adds_30 : decode cX8_adds 30 = .ok (.aload_n 0, 1) := by decide +kernel
theorem dX8_adds_31 : decode cX8_adds 31 = .ok (.getfield 111, 3) := by decide +kernel
theorem dX8_adds_34 : decode cX8_adds 34 = .ok (.invokevirtual 130, 3) := by decide +kernel
theorem dX8_adds_37 : decode cX8_adds 37 = .ok (.iconst 0, 1) := by decide +kernel
theorem dX8_adds_38 : decode cX8_adds 38 = .ok (.istore_n 3, 1) := by decide +kernel
theorem dX8_adds_39 : decode cX8_adds 39 = .ok (.iload_n 3, 1) := by decide +kernel
theorem dX8_adds_4 : decode cX8_adds 4 = .ok (.bipush 9, 2) := by decide +kernel
theorem dX8_adds_40 : decode cX8_adds 40 = .ok (.bipush 22, 2) := by decide +kernel
theorem dX8_adds_42 : decode cX8_adds 42 = .ok (.if_icmp .ge 18, 3) := by decide +kernel
theorem dX8_adds_45 : decode cX8_adds 45 = .ok (.aload_n 0, 1) := by decide +kernel
theorem dX8_adds_46 : decode cX8_adds 46 = .ok (.iload_n 2, 1) := by decide +kernel
theorem dX8_adds_47 : decode cX8_adds 47 = .ok (.iconst 3, 1) := by decide +kernel
theorem dX8_adds_48 : decode cX8_adds 48 = .ok (.iload_n 3, 1) := by decide +kernel
theorem dX8_adds_49 : decode cX8_adds 49 = .ok (.iadd, 1) := by decide +kernel
theorem dX8_adds_50 : decode cX8_adds 50 = .ok (.iconst 0, 1) := by decide +kernel
theorem dX8_adds_51 : decode cX8_adds 51 = .ok (.invokevirtual 130, 3) := by decide +kernel
theorem dX8_adds_54 : decode cX8_adds 54 = .ok (.iinc 3 1, 3) := by decide +kernel
theorem dX8_adds_57 : decode cX8_adds 57 = .ok (.goto (-18), 3) := by decide +kernel
theorem dX8_adds_6 : decode cX8_adds 6 = .ok (.iaload, 1) := by decide +kernel
theorem dX8_adds_60 : decode cX8_adds 60 = .ok (.aload_n 0, 1) := by decide +kernel
theorem dX8_adds_61 : decode cX8_adds 61 = .ok (.iload_n 2, 1) := by decide +kernel
theorem dX8_adds_62 : decode cX8_adds 62 = .ok (.iconst 4, 1) := by decide +kernel
theorem dX8_adds_63 : decode cX8_adds 63 = .ok (.iconst (-1), 1) := by decide +kernel
theorem dX8_adds_64 : decode cX8_adds 64 = .ok (.invokevirtual 130, 3) := by decide +kernel
theorem dX8_adds_67 : decode cX8_adds 67 = .ok (.aload_n 0, 1) := by decide +kernel
theorem dX8_adds_68 : decode cX8_adds 68 = .ok (.iload_n 2, 1) := by decide +kernel
theorem dX8_adds_69 : decode cX8_adds 69 = .ok (.bipush 7, 2) := by decide +kernel
theorem dX8_adds_7 : decode cX8_adds 7 = .ok (.istore_n 2, 1) := by decide +kernel
theorem dX8_adds_71 : decode cX8_adds 71 = .ok (.iconst (-1), 1) := by decide +kernel
theorem dX8_adds_72 : decode cX8_adds 72 = .ok (.invokevirtual 130, 3) := by decide +kernel
theorem dX8_adds_75 : decode cX8_adds 75 = .ok (.iconst 0, 1) := by decide +kernel
theorem dX8_adds_76 : decode cX8_adds 76 = .ok (.istore_n 3, 1) := by decide +kernel
theorem dX8_adds_77 : decode cX8_adds 77 = .ok (.iload_n 3, 1) := by decide +kernel
theorem dX8_adds_78 : decode cX8_adds 78 = .ok (.aload_n 0, 1) := by decide +kernel
theorem dX8_adds_79 : decode cX8_adds 79 = .ok (.getfield 111, 3) := by decide +kernel
theorem dX8_adds_8 : decode cX8_adds 8 = .ok (.aload_n 0, 1) := by decide +kernel
theorem dX8_adds_82 : decode cX8_adds 82 = .ok (.if_icmp .ge 24, 3) := by decide +kernel
theorem dX8_adds_85 : decode cX8_adds 85 = .ok (.aload_n 0, 1) := by decide +kernel
theorem dX8_adds_86 : decode cX8_adds 86 = .ok (.iload_n 2, 1) := by decide +kernel
theorem dX8_adds_87 : decode cX8_adds 87 = .ok (.bipush 9, 2) := by decide +kernel
theorem dX8_adds_89 : decode cX8_adds 89 = .ok (.iload_n 3, 1) := by decide +kernel
theorem dX8_adds_9 : decode cX8_adds 9 = .ok (.iload_n 2, 1) := by decide +kernel
theorem dX8_adds_90 : decode cX8_adds 90 = .ok (.iadd, 1) := by decide +kernel
theorem dX8_adds_91 : decode cX8_adds 91 = .ok (.aload_n 0, 1) := by decide +kernel
theorem dX8_adds_92 : decode cX8_adds 92 = .ok (.getfield 34, 3) := by decide +kernel
theorem dX8_adds_95 : decode cX8_adds 95 = .ok (.iload_n 3, 1) := by decide +kernel
theorem dX8_adds_96 : decode cX8_adds 96 = .ok (.iaload, 1) := by decide +kernel
theorem dX8_adds_97 : decode cX8_adds 97 = .ok (.invokevirtual 130, 3) := by decide +kernel
theorem dX8_allIn_0 : decode cX8_allIn 0 = .ok (.aload_n 0, 1) := by decide +kernel
theorem dX8_allIn_1 : decode cX8_allIn 1 = .ok (.iconst 0, 1) := by decide +kernel
theorem dX8_allIn_11 : decode cX8_allIn 11 = .ok (.ireturn, 1) := by decide +kernel
theorem dX8_allIn_2 : decode cX8_allIn 2 = .ok (.putfield 49, 3) := by decide +kernel
theorem dX8_allIn_5 : decode cX8_allIn 5 = .ok (.aload_n 0, 1) := by decide +kernel
theorem dX8_allIn_6 : decode cX8_allIn 6 = .ok (.iconst 2, 1) := by decide +kernel
theorem dX8_allIn_7 : decode cX8_allIn 7 = .ok (.iconst (-1), 1) := by decide +kernel
theorem dX8_allIn_8 : decode cX8_allIn 8 = .ok (.invokevirtual 362, 3) := by decide +kernel
theorem dX8_append_0 : decode cX8_append 0 = .ok (.aload_n 0, 1) := by decide +kernel
theorem dX8_append_1 : decode cX8_append 1 = .ok (.iconst 0, 1) := by decide +kernel
theorem dX8_append_10 : decode cX8_append 10 = .ok (.iload 4, 2) := by decide +kernel
theorem dX8_append_100 : decode cX8_append 100 = .ok (.iinc 4 1, 3) := by decide +kernel
theorem dX8_append_103 : decode cX8_append 103 = .ok (.goto (-45), 3) := by decide +kernel
theorem dX8_append_106 : decode cX8_append 106 = .ok (.aload_n 0, 1) := by decide +kernel
theorem dX8_append_107 : decode cX8_append 107 = .ok (.getfield 62, 3) := by decide +kernel
theorem dX8_append_110 : decode cX8_append 110 = .ok (.ireturn, 1) := by decide +kernel
theorem dX8_append_12 : decode cX8_append 12 = .ok (.bipush 8, 2) := by decide +kernel
theorem dX8_append_14 : decode cX8_append 14 = .ok (.if_icmp .ge 26, 3) := by decide +kernel
theorem dX8_append_17 : decode cX8_append 17 = .ok (.iload_n 3, 1) := by decide +kernel
theorem dX8_append_18 : decode cX8_append 18 = .ok (.lload_n 1, 1) := by decide +kernel
theorem dX8_append_19 : decode cX8_append 19 = .ok (.iload 4, 2) := by decide +kernel
theorem dX8_append_2 : decode cX8_append 2 = .ok (.putfield 49, 3) := by decide +kernel
theorem dX8_append_21 : decode cX8_append 21 = .ok (.invokestatic 58, 3) := by decide +kernel
theorem dX8_append_24 : decode cX8_append 24 = .ok (.ifCond .ne 7, 3) := by decide +kernel
theorem dX8_append_27 : decode cX8_append 27 = .ok (.iconst 0, 1) := by decide +kernel
theorem dX8_append_28 : decode cX8_append 28 = .ok (.goto 4, 3) := by decide +kernel
theorem dX8_append_31 : decode cX8_append 31 = .ok (.iconst 1, 1) := by decide +kernel
theorem dX8_append_32 : decode cX8_append 32 = .ok (.iadd, 1) := by decide +kernel
theorem dX8_append_33 : decode cX8_append 33 = .ok (.istore_n 3, 1) := by decide +kernel
theorem dX8_append_34 : decode cX8_append 34 = .ok (.iinc 4 1, 3) := by decide +kernel
theorem dX8_append_37 : decode cX8_append 37 = .ok (.goto (-27), 3) := by decide +kernel
theorem dX8_append_40 : decode cX8_append 40 = .ok (.aload_n 0, 1) := by decide +kernel
theorem dX8_append_41 : decode cX8_append 41 = .ok (.getfield 62, 3) := by decide +kernel
theorem dX8_append_44 : decode cX8_append 44 = .ok (.iload_n 3, 1) := by decide +kernel
theorem dX8_append_45 : decode cX8_append 45 = .ok (.iadd, 1) := by decide +kernel
theorem dX8_append_46 : decode cX8_append 46 = .ok (.sipush 600, 3) := by decide +kernel
theorem dX8_append_49 : decode cX8_append 49 = .ok (.if_icmp .le 6, 3) := by decide +kernel
theorem dX8_append_5 : decode cX8_append 5 = .ok (.iconst 0, 1) := by decide +kernel
theorem dX8_append_52 : decode cX8_append 52 = .ok (.bipush (-2), 2) := by decide +kernel
theorem dX8_append_54 : decode cX8_append 54 = .ok (.ireturn, 1) := by decide +kernel
theorem dX8_append_55 : decode cX8_append 55 = .ok (.iconst 0, 1) := by decide +kernel
theorem dX8_append_56 : decode cX8_append 56 = .ok (.istore 4, 2) := by decide +kernel
theorem dX8_append_58 : decode cX8_append 58 = .ok (.iload 4, 2) := by decide +kernel
theorem dX8_append_6 : decode cX8_append 6 = .ok (.istore_n 3, 1) := by decide +kernel
theorem dX8_append_60 : decode cX8_append 60 = .ok (.bipush 8, 2) := by decide +kernel
theorem dX8_append_62 : decode cX8_append 62 = .ok (.if_icmp .ge 44, 3) := by decide +kernel
theorem dX8_append_65 : decode cX8_append 65 = .ok (.lload_n 1, 1) := by decide +kernel
theorem dX8_append_66 : decode cX8_append 66 = .ok (.iload 4, 2) := by decide +kernel
theorem dX8_append_68 : decode cX8_append 68 = .ok (.invokestatic 58, 3) := by decide +kernel
theorem dX8_append_7 : decode cX8_append 7 = .ok (.iconst 0, 1) := by decide +kernel
theorem dX8_append_71 : decode cX8_append 71 = .ok (.ifCond .eq 29, 3) := by decide +kernel
theorem dX8_append_74 : decode cX8_append 74 = .ok (.aload_n 0, 1) := by decide +kernel
theorem dX8_append_75 : decode cX8_append 75 = .ok (.getfield 26, 3) := by decide +kernel
theorem dX8_append_78 : decode cX8_append 78 = .ok (.aload_n 0, 1) := by decide +kernel
theorem dX8_append_79 : decode cX8_append 79 = .ok (.getfield 62, 3) := by decide +kernel
theorem dX8_append_8 : decode cX8_append 8 = .ok (.istore 4, 2) := by decide +kernel
theorem dX8_append_82 : decode cX8_append 82 = .ok (.lload_n 1, 1) := by decide +kernel
theorem dX8_append_83 : decode cX8_append 83 = .ok (.iload 4, 2) := by decide +kernel
theorem dX8_append_85 : decode cX8_append 85 = .ok (.invokestatic 58, 3) := by decide +kernel
theorem dX8_append_88 : decode cX8_append 88 = .ok (.i2b, 1) := by decide +kernel
theorem dX8_append_89 : decode cX8_append 89 = .ok (.bastore, 1) := by decide +kernel
theorem dX8_append_90 : decode cX8_append 90 = .ok (.aload_n 0, 1) := by decide +kernel
theorem dX8_append_91 : decode cX8_append 91 = .ok (.dup, 1) := by decide +kernel
theorem dX8_append_92 : decode cX8_append 92 = .ok (.getfield 62, 3) := by decide +kernel
theorem dX8_append_95 : decode cX8_append 95 = .ok (.iconst 1, 1) := by decide +kernel
theorem dX8_append_96 : decode cX8_append 96 = .ok (.iadd, 1) := by decide +kernel
theorem dX8_append_97 : decode cX8_append 97 = .ok (.putfield 62, 3) := by decide +kernel
theorem dX8_areFinished_0 : decode cX8_areFinished 0 = .ok (.iconst 0, 1) := by decide +kernel
theorem dX8_areFinished_1 : decode cX8_areFinished 1 = .ok (.istore_n 2, 1) := by decide +kernel
theorem dX8_areFinished_10 : decode cX8_areFinished 10 = .ok (.if_icmp .ge 34, 3) := by decide +kernel
theorem dX8_areFinished_13 : decode cX8_areFinished 13 = .ok (.iload_n 1, 1) := by decide +kernel
theorem dX8_areFinished_14 : decode cX8_areFinished 14 = .ok (.iconst (-1), 1) := by decide +kernel
theorem dX8_areFinished_15 : decode cX8_areFinished 15 = .ok (.if_icmp .eq 13, 3) := by decide +kernel
theorem dX8_areFinished_18 : decode cX8_areFinished 18 = .ok (.aload_n 0, 1) := by decide +kernel
theorem dX8_areFinished_19 : decode cX8_areFinished 19 = .ok (.iload_n 2, 1) := by decide +kernel
theorem dX8_areFinished_2 : decode cX8_areFinished 2 = .ok (.iload_n 2, 1) := by decide +kernel
theorem dX8_areFinished_20 : decode cX8_areFinished 20 = .ok (.iconst 0, 1) := by decide +kernel
theorem dX8_areFinished_21 : decode cX8_areFinished 21 = .ok (.invokevirtual 233, 3) := by decide +kernel
theorem dX8_areFinished_24 : decode cX8_areFinished 24 = .ok (.iload_n 1, 1) := by decide +kernel
theorem dX8_areFinished_25 : decode cX8_areFinished 25 = .ok (.if_icmp .ne 13, 3) := by decide +kernel
theorem dX8_areFinished_28 : decode cX8_areFinished 28 = .ok (.aload_n 0, 1) := by decide +kernel
theorem dX8_areFinished_29 : decode cX8_areFinished 29 = .ok (.iload_n 2, 1) := by decide +kernel
theorem dX8_areFinished_3 : decode cX8_areFinished 3 = .ok (.aload_n 0, 1) := by decide +kernel
theorem dX8_areFinished_30 : decode cX8_areFinished 30 = .ok (.invokevirtual 256, 3) := by decide +kernel
theorem dX8_areFinished_33 : decode cX8_areFinished 33 = .ok (.ifCond .ne 5, 3) := by decide +kernel
theorem dX8_areFinished_36 : decode cX8_areFinished 36 = .ok (.iconst 0, 1) := by decide +kernel
theorem dX8_areFinished_37 : decode cX8_areFinished 37 = .ok (.ireturn, 1) := by decide +kernel
theorem dX8_areFinished_38 : decode cX8_areFinished 38 = .ok (.iinc 2 1, 3) := by decide +kernel
theorem dX8_areFinished_4 : decode cX8_areFinished 4 = .ok (.getfield 9, 3) := by decide +kernel
theorem dX8_areFinished_41 : decode cX8_areFinished 41 = .ok (.goto (-39), 3) := by decide +kernel
theorem dX8_areFinished_44 : decode cX8_areFinished 44 = .ok (.iconst 1, 1) := by decide +kernel
theorem dX8_areFinished_45 : decode cX8_areFinished 45 = .ok (.ireturn, 1) := by decide +kernel
theorem dX8_areFinished_7 : decode cX8_areFinished 7 = .ok (.bipush 9, 2) := by decide +kernel
theorem dX8_areFinished_9 : decode cX8_areFinished 9 = .ok (.iaload, 1) := by decide +kernel
theorem dX8_at_0 : decode cX8_at 0 = .ok (.iconst 0, 1) := by decide +kernel
theorem dX8_at_1 : decode cX8_at 1 = .ok (.istore_n 3, 1) := by decide +kernel
theorem dX8_at_10 : decode cX8_at 10 = .ok (.if_icmp .ge 31, 3) := by decide +kernel
theorem dX8_at_13 : decode cX8_at 13 = .ok (.aload_n 0, 1) := by decide +kernel
theorem dX8_at_14 : decode cX8_at 14 = .ok (.iload_n 3, 1) := by decide +kernel
theorem dX8_at_15 : decode cX8_at 15 = .ok (.iconst 0, 1) := by decide +kernel
theorem dX8_at_16 : decode cX8_at 16 = .ok (.invokevirtual 233, 3) := by decide +kernel
theorem dX8_at_19 : decode cX8_at 19 = .ok (.iload_n 1, 1) := by decide +kernel
theorem dX8_at_2 : decode cX8_at 2 = .ok (.iload_n 3, 1) := by decide +kernel
theorem dX8_at_20 : decode cX8_at 20 = .ok (.if_icmp .ne 15, 3) := by decide +kernel
theorem dX8_at_23 : decode cX8_at 23 = .ok (.aload_n 0, 1) := by decide +kernel
theorem dX8_at_24 : decode cX8_at 24 = .ok (.iload_n 3, 1) := by decide +kernel
theorem dX8_at_25 : decode cX8_at 25 = .ok (.iconst 1, 1) := by decide +kernel
theorem dX8_at_26 : decode cX8_at 26 = .ok (.invokevirtual 233, 3) := by decide +kernel
theorem dX8_at_29 : decode cX8_at 29 = .ok (.iload_n 2, 1) := by decide +kernel
theorem dX8_at_3 : decode cX8_at 3 = .ok (.aload_n 0, 1) := by decide +kernel
theorem dX8_at_30 : decode cX8_at 30 = .ok (.if_icmp .ne 5, 3) := by decide +kernel
theorem dX8_at_33 : decode cX8_at 33 = .ok (.iload_n 3, 1) := by decide +kernel
theorem dX8_at_34 : decode cX8_at 34 = .ok (.ireturn, 1) := by decide +kernel
theorem dX8_at_35 : decode cX8_at 35 = .ok (.iinc 3 1, 3) := by decide +kernel
theorem dX8_at_38 : decode cX8_at 38 = .ok (.goto (-36), 3) := by decide +kernel
theorem dX8_at_4 : decode cX8_at 4 = .ok (.getfield 9, 3) := by decide +kernel
theorem dX8_at_41 : decode cX8_at 41 = .ok (.iconst (-1), 1) := by decide +kernel
theorem dX8_at_42 : decode cX8_at 42 = .ok (.ireturn, 1) := by decide +kernel
theorem dX8_at_7 : decode cX8_at 7 = .ok (.bipush 9, 2) := by decide +kernel
theorem dX8_at_9 : decode cX8_at 9 = .ok (.iaload, 1) := by decide +kernel
theorem dX8_begins_0 : decode cX8_begins 0 = .ok (.iconst 0, 1) := by decide +kernel
theorem dX8_begins_1 : decode cX8_begins 1 = .ok (.istore_n 1, 1) := by decide +kernel
theorem dX8_begins_10 : decode cX8_begins 10 = .ok (.getfield 9, 3) := by decide +kernel
theorem dX8_begins_13 : decode cX8_begins 13 = .ok (.iload_n 1, 1) := by decide +kernel
theorem dX8_begins_14 : decode cX8_begins 14 = .ok (.iconst 0, 1) := by decide +kernel
theorem dX8_begins_15 : decode cX8_begins 15 = .ok (.iastore, 1) := by decide +kernel
theorem dX8_begins_16 : decode cX8_begins 16 = .ok (.iinc 1 1, 3) := by decide +kernel
theorem dX8_begins_19 : decode cX8_begins 19 = .ok (.goto (-17), 3) := by decide +kernel
theorem dX8_begins_2 : decode cX8_begins 2 = .ok (.iload_n 1, 1) := by decide +kernel
theorem dX8_begins_22 : decode cX8_begins 22 = .ok (.aload_n 0, 1) := by decide +kernel
theorem dX8_begins_23 : decode cX8_begins 23 = .ok (.getfield 9, 3) := by decide +kernel
theorem dX8_begins_26 : decode cX8_begins 26 = .ok (.iconst 0, 1) := by decide +kernel
theorem dX8_begins_27 : decode cX8_begins 27 = .ok (.sipush 480, 3) := by decide +kernel
theorem dX8_begins_3 : decode cX8_begins 3 = .ok (.sipush 1037, 3) := by decide +kernel
theorem dX8_begins_30 : decode cX8_begins 30 = .ok (.iastore, 1) := by decide +kernel
theorem dX8_begins_31 : decode cX8_begins 31 = .ok (.aload_n 0, 1) := by decide +kernel
theorem dX8_begins_32 : decode cX8_begins 32 = .ok (.getfield 9, 3) := by decide +kernel
theorem dX8_begins_35 : decode cX8_begins 35 = .ok (.iconst 1, 1) := by decide +kernel
theorem dX8_begins_36 : decode cX8_begins 36 = .ok (.iconst 1, 1) := by decide +kernel
theorem dX8_begins_37 : decode cX8_begins 37 = .ok (.iastore, 1) := by decide +kernel
theorem dX8_begins_38 : decode cX8_begins 38 = .ok (.aload_n 0, 1) := by decide +kernel
theorem dX8_begins_39 : decode cX8_begins 39 = .ok (.getfield 9, 3) := by decide +kernel
theorem dX8_begins_42 : decode cX8_begins 42 = .ok (.iconst 2, 1) := by decide +kernel
theorem dX8_begins_43 : decode cX8_begins 43 = .ok (.iconst 1, 1) := by decide +kernel
theorem dX8_begins_44 : decode cX8_begins 44 = .ok (.iastore, 1) := by decide +kernel
theorem dX8_begins_45 : decode cX8_begins 45 = .ok (.return_, 1) := by decide +kernel
theorem dX8_begins_6 : decode cX8_begins 6 = .ok (.if_icmp .ge 16, 3) := by decide +kernel
theorem dX8_begins_9 : decode cX8_begins 9 = .ok (.aload_n 0, 1) := by decide +kernel
theorem dX8_behind_0 : decode cX8_behind 0 = .ok (.aload_n 0, 1) := by decide +kernel
theorem dX8_behind_1 : decode cX8_behind 1 = .ok (.getfield 9, 3) := by decide +kernel
theorem dX8_behind_10 : decode cX8_behind 10 = .ok (.invokestatic 204, 3) := by decide +kernel
theorem dX8_behind_13 : decode cX8_behind 13 = .ok (.aload_n 0, 1) := by decide +kernel
theorem dX8_behind_14 : decode cX8_behind 14 = .ok (.iload_n 1, 1) := by decide +kernel
theorem dX8_behind_15 : decode cX8_behind 15 = .ok (.iload_n 2, 1) := by decide +kernel
theorem dX8_behind_16 : decode cX8_behind 16 = .ok (.invokevirtual 359, 3) := by decide +kernel
theorem dX8_behind_19 : decode cX8_behind 19 = .ok (.istore_n 3, 1) := by decide +kernel
theorem dX8_behind_20 : decode cX8_behind 20 = .ok (.aload_n 0, 1) := by decide +kernel
theorem dX8_behind_21 : decode cX8_behind 21 = .ok (.getfield 13, 3) := by decide +kernel
theorem dX8_behind_24 : decode cX8_behind 24 = .ok (.iconst 0, 1) := by decide +kernel
theorem dX8_behind_25 : decode cX8_behind 25 = .ok (.aload_n 0, 1) := by decide +kernel
theorem dX8_behind_26 : decode cX8_behind 26 = .ok (.getfield 9, 3) := by decide +kernel
theorem dX8_behind_29 : decode cX8_behind 29 = .ok (.iconst 0, 1) := by decide +kernel
theorem dX8_behind_30 : decode cX8_behind 30 = .ok (.invokestatic 204, 3) := by decide +kernel
theorem dX8_behind_33 : decode cX8_behind 33 = .ok (.iload_n 3, 1) := by decide +kernel
theorem dX8_behind_34 : decode cX8_behind 34 = .ok (.ireturn, 1) := by decide +kernel
theorem dX8_behind_4 : decode cX8_behind 4 = .ok (.iconst 0, 1) := by decide +kernel
theorem dX8_behind_5 : decode cX8_behind 5 = .ok (.aload_n 0, 1) := by decide +kernel
theorem dX8_behind_6 : decode cX8_behind 6 = .ok (.getfield 13, 3) := by decide +kernel
theorem dX8_behind_9 : decode cX8_behind 9 = .ok (.iconst 0, 1) := by decide +kernel
theorem dX8_bestOf_0 : decode cX8_bestOf 0 = .ok (.aload_n 0, 1) := by decide +kernel
theorem dX8_bestOf_1 : decode cX8_bestOf 1 = .ok (.getfield 9, 3) := by decide +kernel
theorem dX8_bestOf_10 : decode cX8_bestOf 10 = .ok (.invokestatic 204, 3) := by decide +kernel
theorem dX8_bestOf_13 : decode cX8_bestOf 13 = .ok (.iconst (-1), 1) := by decide +kernel
theorem dX8_bestOf_14 : decode cX8_bestOf 14 = .ok (.istore 6, 2) := by decide +kernel
theorem dX8_bestOf_16 : decode cX8_bestOf 16 = .ok (.sipush 2001, 3) := by decide +kernel
theorem dX8_bestOf_19 : decode cX8_bestOf 19 = .ok (.istore 7, 2) := by decide +kernel
theorem dX8_bestOf_21 : decode cX8_bestOf 21 = .ok (.iload_n 2, 1) := by decide +kernel
theorem dX8_bestOf_22 : decode cX8_bestOf 22 = .ok (.istore 8, 2) := by decide +kernel
theorem dX8_bestOf_24 : decode cX8_bestOf 24 = .ok (.iload 8, 2) := by decide +kernel
theorem dX8_bestOf_26 : decode cX8_bestOf 26 = .ok (.iload_n 3, 1) := by decide +kernel
theorem dX8_bestOf_27 : decode cX8_bestOf 27 = .ok (.if_icmp .gt 61, 3) := by decide +kernel
theorem dX8_bestOf_30 : decode cX8_bestOf 30 = .ok (.aload_n 0, 1) := by decide +kernel
theorem dX8_bestOf_31 : decode cX8_bestOf 31 = .ok (.getfield 9, 3) := by decide +kernel
theorem dX8_bestOf_34 : decode cX8_bestOf 34 = .ok (.iload_n 1, 1) := by decide +kernel
theorem dX8_bestOf_35 : decode cX8_bestOf 35 = .ok (.iload 8, 2) := by decide +kernel
theorem dX8_bestOf_37 : decode cX8_bestOf 37 = .ok (.iastore, 1) := by decide +kernel
theorem dX8_bestOf_38 : decode cX8_bestOf 38 = .ok (.aload_n 0, 1) := by decide +kernel
theorem dX8_bestOf_39 : decode cX8_bestOf 39 = .ok (.iload 4, 2) := by decide +kernel
theorem dX8_bestOf_4 : decode cX8_bestOf 4 = .ok (.iconst 0, 1) := by decide +kernel
theorem dX8_bestOf_41 : decode cX8_bestOf 41 = .ok (.iload 5, 2) := by decide +kernel
theorem dX8_bestOf_43 : decode cX8_bestOf 43 = .ok (.invokevirtual 359, 3) := by decide +kernel
theorem dX8_bestOf_46 : decode cX8_bestOf 46 = .ok (.istore 9, 2) := by decide +kernel
theorem dX8_bestOf_48 : decode cX8_bestOf 48 = .ok (.iload 9, 2) := by decide +kernel
theorem dX8_bestOf_5 : decode cX8_bestOf 5 = .ok (.aload_n 0, 1) := by decide +kernel
theorem dX8_bestOf_50 : decode cX8_bestOf 50 = .ok (.iconst (-1), 1) := by decide +kernel
theorem dX8_bestOf_51 : decode cX8_bestOf 51 = .ok (.if_icmp .eq 18, 3) := by decide +kernel
theorem dX8_bestOf_54 : decode cX8_bestOf 54 = .ok (.iload 9, 2) := by decide +kernel
theorem dX8_bestOf_56 : decode cX8_bestOf 56 = .ok (.iload 7, 2) := by decide +kernel
theorem dX8_bestOf_58 : decode cX8_bestOf 58 = .ok (.if_icmp .ge 11, 3) := by decide +kernel
theorem dX8_bestOf_6 : decode cX8_bestOf 6 = .ok (.getfield 13, 3) := by decide +kernel
theorem dX8_bestOf_61 : decode cX8_bestOf 61 = .ok (.iload 8, 2) := by decide +kernel
theorem dX8_bestOf_63 : decode cX8_bestOf 63 = .ok (.istore 6, 2) := by decide +kernel
theorem dX8_bestOf_65 : decode cX8_bestOf 65 = .ok (.iload 9, 2) := by decide +kernel
theorem dX8_bestOf_67 : decode cX8_bestOf 67 = .ok (.istore 7, 2) := by decide +kernel
theorem dX8_bestOf_69 : decode cX8_bestOf 69 = .ok (.aload_n 0, 1) := by decide +kernel
theorem dX8_bestOf_70 : decode cX8_bestOf 70 = .ok (.getfield 13, 3) := by decide +kernel
theorem dX8_bestOf_73 : decode cX8_bestOf 73 = .ok (.iconst 0, 1) := by decide +kernel
theorem dX8_bestOf_74 : decode cX8_bestOf 74 = .ok (.aload_n 0, 1) := by decide +kernel
theorem dX8_bestOf_75 : decode cX8_bestOf 75 = .ok (.getfield 9, 3) := by decide +kernel
theorem dX8_bestOf_78 : decode cX8_bestOf 78 = .ok (.iconst 0, 1) := by decide +kernel
theorem dX8_bestOf_79 : decode cX8_bestOf 79 = .ok (.invokestatic 204, 3) := by decide +kernel
theorem dX8_bestOf_82 : decode cX8_bestOf 82 = .ok (.iinc 8 1, 3) := by decide +kernel
theorem dX8_bestOf_85 : decode cX8_bestOf 85 = .ok (.goto (-61), 3) := by decide +kernel
theorem dX8_bestOf_88 : decode cX8_bestOf 88 = .ok (.iload 6, 2) := by decide +kernel
theorem dX8_bestOf_9 : decode cX8_bestOf 9 = .ok (.iconst 0, 1) := by decide +kernel
theorem dX8_bestOf_90 : decode cX8_bestOf 90 = .ok (.ireturn, 1) := by decide +kernel
theorem dX8_bestRank_0 : decode cX8_bestRank 0 = .ok (.aload_n 0, 1) := by decide +kernel
theorem dX8_bestRank_1 : decode cX8_bestRank 1 = .ok (.aload_n 0, 1) := by decide +kernel
theorem dX8_bestRank_10 : decode cX8_bestRank 10 = .ok (.ifCond .eq 7, 3) := by decide +kernel
theorem dX8_bestRank_13 : decode cX8_bestRank 13 = .ok (.iconst 0, 1) := by decide +kernel
theorem dX8_bestRank_14 : decode cX8_bestRank 14 = .ok (.goto 20, 3) := by decide +kernel
theorem dX8_bestRank_17 : decode cX8_bestRank 17 = .ok (.aload_n 0, 1) := by decide +kernel
theorem dX8_bestRank_18 : decode cX8_bestRank 18 = .ok (.bipush 113, 2) := by decide +kernel
theorem dX8_bestRank_2 : decode cX8_bestRank 2 = .ok (.iload_n 1, 1) := by decide +kernel
theorem dX8_bestRank_20 : decode cX8_bestRank 20 = .ok (.iconst 4, 1) := by decide +kernel
theorem dX8_bestRank_21 : decode cX8_bestRank 21 = .ok (.iload_n 1, 1) := by decide +kernel
theorem dX8_bestRank_22 : decode cX8_bestRank 22 = .ok (.imul, 1) := by decide +kernel
theorem dX8_bestRank_23 : decode cX8_bestRank 23 = .ok (.iadd, 1) := by decide +kernel
theorem dX8_bestRank_24 : decode cX8_bestRank 24 = .ok (.iconst 0, 1) := by decide +kernel
theorem dX8_bestRank_25 : decode cX8_bestRank 25 = .ok (.iadd, 1) := by decide +kernel
theorem dX8_bestRank_26 : decode cX8_bestRank 26 = .ok (.iconst 0, 1) := by decide +kernel
theorem dX8_bestRank_27 : decode cX8_bestRank 27 = .ok (.bipush 9, 2) := by decide +kernel
theorem dX8_bestRank_29 : decode cX8_bestRank 29 = .ok (.iconst 1, 1) := by decide +kernel
theorem dX8_bestRank_3 : decode cX8_bestRank 3 = .ok (.invokevirtual 222, 3) := by decide +kernel
theorem dX8_bestRank_30 : decode cX8_bestRank 30 = .ok (.iload_n 1, 1) := by decide +kernel
theorem dX8_bestRank_31 : decode cX8_bestRank 31 = .ok (.invokevirtual 368, 3) := by decide +kernel
theorem dX8_bestRank_34 : decode cX8_bestRank 34 = .ok (.ireturn, 1) := by decide +kernel
theorem dX8_bestRank_6 : decode cX8_bestRank 6 = .ok (.iconst 1, 1) := by decide +kernel
theorem dX8_bestRank_7 : decode cX8_bestRank 7 = .ok (.invokevirtual 226, 3) := by decide +kernel
theorem dX8_bestTray_0 : decode cX8_bestTray 0 = .ok (.aload_n 0, 1) := by decide +kernel
theorem dX8_bestTray_1 : decode cX8_bestTray 1 = .ok (.iconst 0, 1) := by decide +kernel
theorem dX8_bestTray_10 : decode cX8_bestTray 10 = .ok (.iconst 2, 1) := by decide +kernel
theorem dX8_bestTray_11 : decode cX8_bestTray 11 = .ok (.iconst (-1), 1) := by decide +kernel
theorem dX8_bestTray_12 : decode cX8_bestTray 12 = .ok (.invokevirtual 368, 3) := by decide +kernel
theorem dX8_bestTray_15 : decode cX8_bestTray 15 = .ok (.ireturn, 1) := by decide +kernel
theorem dX8_bestTray_2 : decode cX8_bestTray 2 = .ok (.putfield 49, 3) := by decide +kernel
theorem dX8_bestTray_5 : decode cX8_bestTray 5 = .ok (.aload_n 0, 1) := by decide +kernel
theorem dX8_bestTray_6 : decode cX8_bestTray 6 = .ok (.iconst 1, 1) := by decide +kernel
theorem dX8_bestTray_7 : decode cX8_bestTray 7 = .ok (.iconst 1, 1) := by decide +kernel
theorem dX8_bestTray_8 : decode cX8_bestTray 8 = .ok (.bipush 20, 2) := by decide +kernel
theorem dX8_blanksIn_0 : decode cX8_blanksIn 0 = .ok (.aload_n 0, 1) := by decide +kernel
theorem dX8_blanksIn_1 : decode cX8_blanksIn 1 = .ok (.iload_n 1, 1) := by decide +kernel
theorem dX8_blanksIn_10 : decode cX8_blanksIn 10 = .ok (.iconst 1, 1) := by decide +kernel
theorem dX8_blanksIn_11 : decode cX8_blanksIn 11 = .ok (.invokevirtual 226, 3) := by decide +kernel
theorem dX8_blanksIn_14 : decode cX8_blanksIn 14 = .ok (.ifCond .eq 7, 3) := by decide +kernel
theorem dX8_blanksIn_17 : decode cX8_blanksIn 17 = .ok (.iconst 0, 1) := by decide +kernel
theorem dX8_blanksIn_18 : decode cX8_blanksIn 18 = .ok (.goto 9, 3) := by decide +kernel
theorem dX8_blanksIn_2 : decode cX8_blanksIn 2 = .ok (.i2l, 1) := by decide +kernel
theorem dX8_blanksIn_21 : decode cX8_blanksIn 21 = .ok (.aload_n 0, 1) := by decide +kernel
theorem dX8_blanksIn_22 : decode cX8_blanksIn 22 = .ok (.iconst 5, 1) := by decide +kernel
theorem dX8_blanksIn_23 : decode cX8_blanksIn 23 = .ok (.iload_n 1, 1) := by decide +kernel
theorem dX8_blanksIn_24 : decode cX8_blanksIn 24 = .ok (.invokevirtual 365, 3) := by decide +kernel
theorem dX8_blanksIn_27 : decode cX8_blanksIn 27 = .ok (.ireturn, 1) := by decide +kernel
theorem dX8_blanksIn_3 : decode cX8_blanksIn 3 = .ok (.lconst 1, 1) := by decide +kernel
theorem dX8_blanksIn_4 : decode cX8_blanksIn 4 = .ok (.ldc2_w 347, 3) := by decide +kernel
theorem dX8_blanksIn_7 : decode cX8_blanksIn 7 = .ok (.invokestatic 52, 3) := by decide +kernel
theorem dX8_bottleneck_0 : decode cX8_bottleneck 0 = .ok (.aload_n 0, 1) := by decide +kernel
theorem dX8_bottleneck_1 : decode cX8_bottleneck 1 = .ok (.iconst 0, 1) := by decide +kernel
theorem dX8_bottleneck_10 : decode cX8_bottleneck 10 = .ok (.istore_n 3, 1) := by decide +kernel
theorem dX8_bottleneck_11 : decode cX8_bottleneck 11 = .ok (.iload_n 3, 1) := by decide +kernel
theorem dX8_bottleneck_12 : decode cX8_bottleneck 12 = .ok (.aload_n 0, 1) := by decide +kernel
theorem dX8_bottleneck_13 : decode cX8_bottleneck 13 = .ok (.getfield 9, 3) := by decide +kernel
theorem dX8_bottleneck_16 : decode cX8_bottleneck 16 = .ok (.bipush 7, 2) := by decide +kernel
theorem dX8_bottleneck_18 : decode cX8_bottleneck 18 = .ok (.iaload, 1) := by decide +kernel
theorem dX8_bottleneck_19 : decode cX8_bottleneck 19 = .ok (.if_icmp .ge 77, 3) := by decide +kernel
theorem dX8_bottleneck_2 : decode cX8_bottleneck 2 = .ok (.putfield 49, 3) := by decide +kernel
theorem dX8_bottleneck_22 : decode cX8_bottleneck 22 = .ok (.iconst 0, 1) := by decide +kernel
theorem dX8_bottleneck_23 : decode cX8_bottleneck 23 = .ok (.istore 4, 2) := by decide +kernel
theorem dX8_bottleneck_25 : decode cX8_bottleneck 25 = .ok (.iconst 0, 1) := by decide +kernel
theorem dX8_bottleneck_26 : decode cX8_bottleneck 26 = .ok (.istore 5, 2) := by decide +kernel
theorem dX8_bottleneck_28 : decode cX8_bottleneck 28 = .ok (.iload 5, 2) := by decide +kernel
theorem dX8_bottleneck_30 : decode cX8_bottleneck 30 = .ok (.aload_n 0, 1) := by decide +kernel
theorem dX8_bottleneck_31 : decode cX8_bottleneck 31 = .ok (.getfield 9, 3) := by decide +kernel
theorem dX8_bottleneck_34 : decode cX8_bottleneck 34 = .ok (.bipush 9, 2) := by decide +kernel
theorem dX8_bottleneck_36 : decode cX8_bottleneck 36 = .ok (.iaload, 1) := by decide +kernel
theorem dX8_bottleneck_37 : decode cX8_bottleneck 37 = .ok (.if_icmp .ge 34, 3) := by decide +kernel
theorem dX8_bottleneck_40 : decode cX8_bottleneck 40 = .ok (.iload 4, 2) := by decide +kernel
theorem dX8_bottleneck_42 : decode cX8_bottleneck 42 = .ok (.aload_n 0, 1) := by decide +kernel
theorem dX8_bottleneck_43 : decode cX8_bottleneck 43 = .ok (.iload 5, 2) := by decide +kernel
theorem dX8_bottleneck_45 : decode cX8_bottleneck 45 = .ok (.invokevirtual 256, 3) := by decide +kernel
theorem dX8_bottleneck_48 : decode cX8_bottleneck 48 = .ok (.ifCond .eq 7, 3) := by decide +kernel
theorem dX8_bottleneck_5 : decode cX8_bottleneck 5 = .ok (.iconst (-1), 1) := by decide +kernel
theorem dX8_bottleneck_51 : decode cX8_bottleneck 51 = .ok (.iconst 0, 1) := by decide +kernel
theorem dX8_bottleneck_52 : decode cX8_bottleneck 52 = .ok (.goto 10, 3) := by decide +kernel
theorem dX8_bottleneck_55 : decode cX8_bottleneck 55 = .ok (.aload_n 0, 1) := by decide +kernel
theorem dX8_bottleneck_56 : decode cX8_bottleneck 56 = .ok (.iload_n 3, 1) := by decide +kernel
theorem dX8_bottleneck_57 : decode cX8_bottleneck 57 = .ok (.iload 5, 2) := by decide +kernel
theorem dX8_bottleneck_59 : decode cX8_bottleneck 59 = .ok (.invokevirtual 296, 3) := by decide +kernel
theorem dX8_bottleneck_6 : decode cX8_bottleneck 6 = .ok (.istore_n 1, 1) := by decide +kernel
theorem dX8_bottleneck_62 : decode cX8_bottleneck 62 = .ok (.iadd, 1) := by decide +kernel
theorem dX8_bottleneck_63 : decode cX8_bottleneck 63 = .ok (.istore 4, 2) := by decide +kernel
theorem dX8_bottleneck_65 : decode cX8_bottleneck 65 = .ok (.iinc 5 1, 3) := by decide +kernel
theorem dX8_bottleneck_68 : decode cX8_bottleneck 68 = .ok (.goto (-40), 3) := by decide +kernel
theorem dX8_bottleneck_7 : decode cX8_bottleneck 7 = .ok (.iconst (-1), 1) := by decide +kernel
theorem dX8_bottleneck_71 : decode cX8_bottleneck 71 = .ok (.iload 4, 2) := by decide +kernel
theorem dX8_bottleneck_73 : decode cX8_bottleneck 73 = .ok (.iload_n 2, 1) := by decide +kernel
theorem dX8_bottleneck_74 : decode cX8_bottleneck 74 = .ok (.if_icmp .le 7, 3) := by decide +kernel
theorem dX8_bottleneck_77 : decode cX8_bottleneck 77 = .ok (.iload_n 3, 1) := by decide +kernel
theorem dX8_bottleneck_78 : decode cX8_bottleneck 78 = .ok (.goto 4, 3) := by decide +kernel
theorem dX8_bottleneck_8 : decode cX8_bottleneck 8 = .ok (.istore_n 2, 1) := by decide +kernel
theorem dX8_bottleneck_81 : decode cX8_bottleneck 81 = .ok (.iload_n 1, 1) := by decide +kernel
theorem dX8_bottleneck_82 : decode cX8_bottleneck 82 = .ok (.istore_n 1, 1) := by decide +kernel
theorem dX8_bottleneck_83 : decode cX8_bottleneck 83 = .ok (.iload_n 2, 1) := by decide +kernel
theorem dX8_bottleneck_84 : decode cX8_bottleneck 84 = .ok (.iload 4, 2) := by decide +kernel
theorem dX8_bottleneck_86 : decode cX8_bottleneck 86 = .ok (.invokestatic 299, 3) := by decide +kernel
theorem dX8_bottleneck_89 : decode cX8_bottleneck 89 = .ok (.istore_n 2, 1) := by decide +kernel
theorem dX8_bottleneck_9 : decode cX8_bottleneck 9 = .ok (.iconst 0, 1) := by decide +kernel
theorem dX8_bottleneck_90 : decode cX8_bottleneck 90 = .ok (.iinc 3 1, 3) := by decide +kernel
theorem dX8_bottleneck_93 : decode cX8_bottleneck 93 = .ok (.goto (-82), 3) := by decide +kernel
theorem dX8_bottleneck_96 : decode cX8_bottleneck 96 = .ok (.iload_n 1, 1) := by decide +kernel
theorem dX8_bottleneck_97 : decode cX8_bottleneck 97 = .ok (.ireturn, 1) := by decide +kernel
theorem dX8_busyPart_0 : decode cX8_busyPart 0 = .ok (.aload_n 0, 1) := by decide +kernel
theorem dX8_busyPart_1 : decode cX8_busyPart 1 = .ok (.aload_n 0, 1) := by decide +kernel
theorem dX8_busyPart_10 : decode cX8_busyPart 10 = .ok (.ifCond .eq 5, 3) := by decide +kernel
theorem dX8_busyPart_13 : decode cX8_busyPart 13 = .ok (.fconst 0, 1) := by decide +kernel
theorem dX8_busyPart_14 : decode cX8_busyPart 14 = .ok (.freturn, 1) := by decide +kernel
theorem dX8_busyPart_15 : decode cX8_busyPart 15 = .ok (.aload_n 0, 1) := by decide +kernel
theorem dX8_busyPart_16 : decode cX8_busyPart 16 = .ok (.getfield 9, 3) := by decide +kernel
theorem dX8_busyPart_19 : decode cX8_busyPart 19 = .ok (.bipush 6, 2) := by decide +kernel
theorem dX8_busyPart_2 : decode cX8_busyPart 2 = .ok (.iload_n 1, 1) := by decide +kernel
theorem dX8_busyPart_21 : decode cX8_busyPart 21 = .ok (.iaload, 1) := by decide +kernel
theorem dX8_busyPart_22 : decode cX8_busyPart 22 = .ok (.ifCond .ne 7, 3) := by decide +kernel
theorem dX8_busyPart_25 : decode cX8_busyPart 25 = .ok (.fconst 0, 1) := by decide +kernel
theorem dX8_busyPart_26 : decode cX8_busyPart 26 = .ok (.goto 20, 3) := by decide +kernel
theorem dX8_busyPart_29 : decode cX8_busyPart 29 = .ok (.aload_n 0, 1) := by decide +kernel
theorem dX8_busyPart_3 : decode cX8_busyPart 3 = .ok (.invokevirtual 243, 3) := by decide +kernel
theorem dX8_busyPart_30 : decode cX8_busyPart 30 = .ok (.iload_n 1, 1) := by decide +kernel
theorem dX8_busyPart_31 : decode cX8_busyPart 31 = .ok (.bipush 12, 2) := by decide +kernel
theorem dX8_busyPart_33 : decode cX8_busyPart 33 = .ok (.invokevirtual 248, 3) := by decide +kernel
theorem dX8_busyPart_36 : decode cX8_busyPart 36 = .ok (.i2f, 1) := by decide +kernel
theorem dX8_busyPart_37 : decode cX8_busyPart 37 = .ok (.aload_n 0, 1) := by decide +kernel
theorem dX8_busyPart_38 : decode cX8_busyPart 38 = .ok (.getfield 9, 3) := by decide +kernel
theorem dX8_busyPart_41 : decode cX8_busyPart 41 = .ok (.bipush 6, 2) := by decide +kernel
theorem dX8_busyPart_43 : decode cX8_busyPart 43 = .ok (.iaload, 1) := by decide +kernel
theorem dX8_busyPart_44 : decode cX8_busyPart 44 = .ok (.i2f, 1) := by decide +kernel
theorem dX8_busyPart_45 : decode cX8_busyPart 45 = .ok (.fdiv, 1) := by decide +kernel
theorem dX8_busyPart_46 : decode cX8_busyPart 46 = .ok (.freturn, 1) := by decide +kernel
theorem dX8_busyPart_6 : decode cX8_busyPart 6 = .ok (.iconst 1, 1) := by decide +kernel
theorem dX8_busyPart_7 : decode cX8_busyPart 7 = .ok (.invokevirtual 226, 3) := by decide +kernel
theorem dX8_byteOf_0 : decode cX8_byteOf 0 = .ok (.lload_n 0, 1) := by decide +kernel
theorem dX8_byteOf_1 : decode cX8_byteOf 1 = .ok (.bipush 8, 2) := by decide +kernel
theorem dX8_byteOf_12 : decode cX8_byteOf 12 = .ok (.land, 1) := by decide +kernel
theorem dX8_byteOf_13 : decode cX8_byteOf 13 = .ok (.l2i, 1) := by decide +kernel
theorem dX8_byteOf_14 : decode cX8_byteOf 14 = .ok (.ireturn, 1) := by decide +kernel
theorem dX8_byteOf_3 : decode cX8_byteOf 3 = .ok (.bipush 7, 2) := by decide +kernel
theorem dX8_byteOf_5 : decode cX8_byteOf 5 = .ok (.iload_n 2, 1) := by decide +kernel
theorem dX8_byteOf_6 : decode cX8_byteOf 6 = .ok (.isub, 1) := by decide +kernel
theorem dX8_byteOf_7 : decode cX8_byteOf 7 = .ok (.imul, 1) := by decide +kernel
theorem dX8_byteOf_8 : decode cX8_byteOf 8 = .ok (.lshr, 1) := by decide +kernel
theorem dX8_byteOf_9 : decode cX8_byteOf 9 = .ok (.ldc2_w 56, 3) := by decide +kernel
theorem dX8_cardOf_0 : decode cX8_cardOf 0 = .ok (.aload_n 0, 1) := by decide +kernel
theorem dX8_cardOf_1 : decode cX8_cardOf 1 = .ok (.aload_n 0, 1) := by decide +kernel
theorem dX8_cardOf_10 : decode cX8_cardOf 10 = .ok (.ifCond .eq 7, 3) := by decide +kernel
theorem dX8_cardOf_13 : decode cX8_cardOf 13 = .ok (.iconst 0, 1) := by decide +kernel
theorem dX8_cardOf_14 : decode cX8_cardOf 14 = .ok (.goto 9, 3) := by decide +kernel
theorem dX8_cardOf_17 : decode cX8_cardOf 17 = .ok (.aload_n 0, 1) := by decide +kernel
theorem dX8_cardOf_18 : decode cX8_cardOf 18 = .ok (.iload_n 1, 1) := by decide +kernel
theorem dX8_cardOf_19 : decode cX8_cardOf 19 = .ok (.iload_n 2, 1) := by decide +kernel
theorem dX8_cardOf_2 : decode cX8_cardOf 2 = .ok (.iload_n 1, 1) := by decide +kernel
theorem dX8_cardOf_20 : decode cX8_cardOf 20 = .ok (.invokevirtual 270, 3) := by decide +kernel
theorem dX8_cardOf_23 : decode cX8_cardOf 23 = .ok (.ireturn, 1) := by decide +kernel
theorem dX8_cardOf_3 : decode cX8_cardOf 3 = .ok (.invokevirtual 222, 3) := by decide +kernel
theorem dX8_cardOf_6 : decode cX8_cardOf 6 = .ok (.iconst 1, 1) := by decide +kernel
theorem dX8_cardOf_7 : decode cX8_cardOf 7 = .ok (.invokevirtual 226, 3) := by decide +kernel
theorem dX8_cardPart_0 : decode cX8_cardPart 0 = .ok (.aload_n 0, 1) := by decide +kernel
theorem dX8_cardPart_1 : decode cX8_cardPart 1 = .ok (.aload_n 0, 1) := by decide +kernel
theorem dX8_cardPart_10 : decode cX8_cardPart 10 = .ok (.if_icmp .ne 7, 3) := by decide +kernel
theorem dX8_cardPart_13 : decode cX8_cardPart 13 = .ok (.iconst 1, 1) := by decide +kernel
theorem dX8_cardPart_14 : decode cX8_cardPart 14 = .ok (.goto 4, 3) := by decide +kernel
theorem dX8_cardPart_17 : decode cX8_cardPart 17 = .ok (.iconst 0, 1) := by decide +kernel
theorem dX8_cardPart_18 : decode cX8_cardPart 18 = .ok (.invokevirtual 152, 3) := by decide +kernel
theorem dX8_cardPart_2 : decode cX8_cardPart 2 = .ok (.getfield 9, 3) := by decide +kernel
theorem dX8_cardPart_21 : decode cX8_cardPart 21 = .ok (.aload_n 0, 1) := by decide +kernel
theorem dX8_cardPart_22 : decode cX8_cardPart 22 = .ok (.iconst 0, 1) := by decide +kernel
theorem dX8_cardPart_23 : decode cX8_cardPart 23 = .ok (.aload_n 0, 1) := by decide +kernel
theorem dX8_cardPart_24 : decode cX8_cardPart 24 = .ok (.getfield 9, 3) := by decide +kernel
theorem dX8_cardPart_27 : decode cX8_cardPart 27 = .ok (.bipush 8, 2) := by decide +kernel
theorem dX8_cardPart_29 : decode cX8_cardPart 29 = .ok (.iaload, 1) := by decide +kernel
theorem dX8_cardPart_30 : decode cX8_cardPart 30 = .ok (.iconst 1, 1) := by decide +kernel
theorem dX8_cardPart_31 : decode cX8_cardPart 31 = .ok (.isub, 1) := by decide +kernel
theorem dX8_cardPart_32 : decode cX8_cardPart 32 = .ok (.invokevirtual 121, 3) := by decide +kernel
theorem dX8_cardPart_35 : decode cX8_cardPart 35 = .ok (.istore_n 1, 1) := by decide +kernel
theorem dX8_cardPart_36 : decode cX8_cardPart 36 = .ok (.aload_n 0, 1) := by decide +kernel
theorem dX8_cardPart_37 : decode cX8_cardPart 37 = .ok (.getfield 75, 3) := by decide +kernel
theorem dX8_cardPart_40 : decode cX8_cardPart 40 = .ok (.ifCond .ne 7, 3) := by decide +kernel
theorem dX8_cardPart_43 : decode cX8_cardPart 43 = .ok (.aload_n 0, 1) := by decide +kernel
theorem dX8_cardPart_44 : decode cX8_cardPart 44 = .ok (.invokevirtual 163, 3) := by decide +kernel
theorem dX8_cardPart_47 : decode cX8_cardPart 47 = .ok (.aload_n 0, 1) := by decide +kernel
theorem dX8_cardPart_48 : decode cX8_cardPart 48 = .ok (.getfield 75, 3) := by decide +kernel
theorem dX8_cardPart_5 : decode cX8_cardPart 5 = .ok (.bipush 9, 2) := by decide +kernel
theorem dX8_cardPart_51 : decode cX8_cardPart 51 = .ok (.ifCond .ne 8, 3) := by decide +kernel
theorem dX8_cardPart_54 : decode cX8_cardPart 54 = .ok (.aload_n 0, 1) := by decide +kernel
theorem dX8_cardPart_55 : decode cX8_cardPart 55 = .ok (.iload_n 1, 1) := by decide +kernel
theorem dX8_cardPart_56 : decode cX8_cardPart 56 = .ok (.invokevirtual 166, 3) := by decide +kernel
theorem dX8_cardPart_59 : decode cX8_cardPart 59 = .ok (.return_, 1) := by decide +kernel
theorem dX8_cardPart_7 : decode cX8_cardPart 7 = .ok (.iaload, 1) := by decide +kernel
theorem dX8_cardPart_8 : decode cX8_cardPart 8 = .ok (.bipush 30, 2) := by decide +kernel
theorem dX8_card_0 : decode cX8_card 0 = .ok (.aload_n 0, 1) := by decide +kernel
theorem dX8_card_1 : decode cX8_card 1 = .ok (.aload_n 0, 1) := by decide +kernel
theorem dX8_card_10 : decode cX8_card 10 = .ok (.ifCond .ne 20, 3) := by decide +kernel
theorem dX8_card_13 : decode cX8_card 13 = .ok (.aload_n 0, 1) := by decide +kernel
theorem dX8_card_14 : decode cX8_card 14 = .ok (.iload_n 2, 1) := by decide +kernel
theorem dX8_card_15 : decode cX8_card 15 = .ok (.i2l, 1) := by decide +kernel
theorem dX8_card_16 : decode cX8_card 16 = .ok (.lconst 0, 1) := by decide +kernel
theorem dX8_card_17 : decode cX8_card 17 = .ok (.ldc2_w 254, 3) := by decide +kernel
theorem dX8_card_2 : decode cX8_card 2 = .ok (.iload_n 1, 1) := by decide +kernel
theorem dX8_card_20 : decode cX8_card 20 = .ok (.invokestatic 52, 3) := by decide +kernel
theorem dX8_card_23 : decode cX8_card 23 = .ok (.iconst 2, 1) := by decide +kernel
theorem dX8_card_24 : decode cX8_card 24 = .ok (.invokevirtual 226, 3) := by decide +kernel
theorem dX8_card_27 : decode cX8_card 27 = .ok (.ifCond .eq 5, 3) := by decide +kernel
theorem dX8_card_3 : decode cX8_card 3 = .ok (.invokevirtual 251, 3) := by decide +kernel
theorem dX8_card_30 : decode cX8_card 30 = .ok (.iconst 0, 1) := by decide +kernel
theorem dX8_card_31 : decode cX8_card 31 = .ok (.ireturn, 1) := by decide +kernel
theorem dX8_card_32 : decode cX8_card 32 = .ok (.aload_n 0, 1) := by decide +kernel
theorem dX8_card_33 : decode cX8_card 33 = .ok (.iload_n 1, 1) := by decide +kernel
theorem dX8_card_34 : decode cX8_card 34 = .ok (.iload_n 2, 1) := by decide +kernel
theorem dX8_card_35 : decode cX8_card 35 = .ok (.invokevirtual 233, 3) := by decide +kernel
theorem dX8_card_38 : decode cX8_card 38 = .ok (.ireturn, 1) := by decide +kernel
theorem dX8_card_6 : decode cX8_card 6 = .ok (.iconst 1, 1) := by decide +kernel
theorem dX8_card_7 : decode cX8_card 7 = .ok (.invokevirtual 226, 3) := by decide +kernel
theorem dX8_classOf_0 : decode cX8_classOf 0 = .ok (.aload_n 0, 1) := by decide +kernel
theorem dX8_classOf_1 : decode cX8_classOf 1 = .ok (.iload_n 1, 1) := by decide +kernel
theorem dX8_classOf_11 : decode cX8_classOf 11 = .ok (.iconst 0, 1) := by decide +kernel
theorem dX8_classOf_12 : decode cX8_classOf 12 = .ok (.goto 25, 3) := by decide +kernel
theorem dX8_classOf_15 : decode cX8_classOf 15 = .ok (.aload_n 0, 1) := by decide +kernel
theorem dX8_classOf_16 : decode cX8_classOf 16 = .ok (.iload_n 1, 1) := by decide +kernel
theorem dX8_classOf_17 : decode cX8_classOf 17 = .ok (.iconst 5, 1) := by decide +kernel
theorem dX8_classOf_18 : decode cX8_classOf 18 = .ok (.invokevirtual 233, 3) := by decide +kernel
theorem dX8_classOf_2 : decode cX8_classOf 2 = .ok (.bipush 8, 2) := by decide +kernel
theorem dX8_classOf_21 : decode cX8_classOf 21 = .ok (.aload_n 0, 1) := by decide +kernel
theorem dX8_classOf_22 : decode cX8_classOf 22 = .ok (.iload_n 1, 1) := by decide +kernel
theorem dX8_classOf_23 : decode cX8_classOf 23 = .ok (.bipush 6, 2) := by decide +kernel
theorem dX8_classOf_25 : decode cX8_classOf 25 = .ok (.invokevirtual 233, 3) := by decide +kernel
theorem dX8_classOf_28 : decode cX8_classOf 28 = .ok (.iadd, 1) := by decide +kernel
theorem dX8_classOf_29 : decode cX8_classOf 29 = .ok (.ifCond .le 7, 3) := by decide +kernel
theorem dX8_classOf_32 : decode cX8_classOf 32 = .ok (.iconst 1, 1) := by decide +kernel
theorem dX8_classOf_33 : decode cX8_classOf 33 = .ok (.goto 4, 3) := by decide +kernel
theorem dX8_classOf_36 : decode cX8_classOf 36 = .ok (.iconst 2, 1) := by decide +kernel
theorem dX8_classOf_37 : decode cX8_classOf 37 = .ok (.ireturn, 1) := by decide +kernel
theorem dX8_classOf_4 : decode cX8_classOf 4 = .ok (.invokevirtual 233, 3) := by decide +kernel
theorem dX8_classOf_7 : decode cX8_classOf 7 = .ok (.iconst 1, 1) := by decide +kernel
theorem dX8_classOf_8 : decode cX8_classOf 8 = .ok (.if_icmp .ne 7, 3) := by decide +kernel
theorem dX8_clearsTray_0 : decode cX8_clearsTray 0 = .ok (.iconst 0, 1) := by decide +kernel
theorem dX8_clearsTray_1 : decode cX8_clearsTray 1 = .ok (.istore_n 1, 1) := by decide +kernel
theorem dX8_clearsTray_10 : decode cX8_clearsTray 10 = .ok (.if_icmp .ge 44, 3) := by decide +kernel
theorem dX8_clearsTray_13 : decode cX8_clearsTray 13 = .ok (.aload_n 0, 1) := by decide +kernel
theorem dX8_clearsTray_14 : decode cX8_clearsTray 14 = .ok (.iload_n 1, 1) := by decide +kernel
theorem dX8_clearsTray_15 : decode cX8_clearsTray 15 = .ok (.invokevirtual 267, 3) := by decide +kernel
theorem dX8_clearsTray_18 : decode cX8_clearsTray 18 = .ok (.istore_n 2, 1) := by decide +kernel
theorem dX8_clearsTray_19 : decode cX8_clearsTray 19 = .ok (.iload_n 2, 1) := by decide +kernel
theorem dX8_clearsTray_2 : decode cX8_clearsTray 2 = .ok (.iload_n 1, 1) := by decide +kernel
theorem dX8_clearsTray_20 : decode cX8_clearsTray 20 = .ok (.iconst (-1), 1) := by decide +kernel
theorem dX8_clearsTray_21 : decode cX8_clearsTray 21 = .ok (.if_icmp .eq 27, 3) := by decide +kernel
theorem dX8_clearsTray_24 : decode cX8_clearsTray 24 = .ok (.aload_n 0, 1) := by decide +kernel
theorem dX8_clearsTray_25 : decode cX8_clearsTray 25 = .ok (.iload_n 2, 1) := by decide +kernel
theorem dX8_clearsTray_26 : decode cX8_clearsTray 26 = .ok (.iconst 3, 1) := by decide +kernel
theorem dX8_clearsTray_27 : decode cX8_clearsTray 27 = .ok (.invokevirtual 233, 3) := by decide +kernel
theorem dX8_clearsTray_3 : decode cX8_clearsTray 3 = .ok (.aload_n 0, 1) := by decide +kernel
theorem dX8_clearsTray_30 : decode cX8_clearsTray 30 = .ok (.iconst 2, 1) := by decide +kernel
theorem dX8_clearsTray_31 : decode cX8_clearsTray 31 = .ok (.if_icmp .ne 17, 3) := by decide +kernel
theorem dX8_clearsTray_34 : decode cX8_clearsTray 34 = .ok (.aload_n 0, 1) := by decide +kernel
theorem dX8_clearsTray_35 : decode cX8_clearsTray 35 = .ok (.iload_n 2, 1) := by decide +kernel
theorem dX8_clearsTray_36 : decode cX8_clearsTray 36 = .ok (.invokevirtual 314, 3) := by decide +kernel
theorem dX8_clearsTray_39 : decode cX8_clearsTray 39 = .ok (.aload_n 0, 1) := by decide +kernel
theorem dX8_clearsTray_4 : decode cX8_clearsTray 4 = .ok (.getfield 9, 3) := by decide +kernel
theorem dX8_clearsTray_40 : decode cX8_clearsTray 40 = .ok (.iload_n 1, 1) := by decide +kernel
theorem dX8_clearsTray_41 : decode cX8_clearsTray 41 = .ok (.invokevirtual 267, 3) := by decide +kernel
theorem dX8_clearsTray_44 : decode cX8_clearsTray 44 = .ok (.istore_n 2, 1) := by decide +kernel
theorem dX8_clearsTray_45 : decode cX8_clearsTray 45 = .ok (.goto (-26), 3) := by decide +kernel
theorem dX8_clearsTray_48 : decode cX8_clearsTray 48 = .ok (.iinc 1 1, 3) := by decide +kernel
theorem dX8_clearsTray_51 : decode cX8_clearsTray 51 = .ok (.goto (-49), 3) := by decide +kernel
theorem dX8_clearsTray_54 : decode cX8_clearsTray 54 = .ok (.return_, 1) := by decide +kernel
theorem dX8_clearsTray_7 : decode cX8_clearsTray 7 = .ok (.bipush 8, 2) := by decide +kernel
theorem dX8_clearsTray_9 : decode cX8_clearsTray 9 = .ok (.iaload, 1) := by decide +kernel
theorem dX8_copies_0 : decode cX8_copies 0 = .ok (.iconst 0, 1) := by decide +kernel
theorem dX8_copies_1 : decode cX8_copies 1 = .ok (.istore 4, 2) := by decide +kernel
theorem dX8_copies_11 : decode cX8_copies 11 = .ok (.aload_n 2, 1) := by decide +kernel
theorem dX8_copies_12 : decode cX8_copies 12 = .ok (.sipush 1037, 3) := by decide +kernel
theorem dX8_copies_15 : decode cX8_copies 15 = .ok (.iload_n 3, 1) := by decide +kernel
theorem dX8_copies_16 : decode cX8_copies 16 = .ok (.imul, 1) := by decide +kernel
theorem dX8_copies_17 : decode cX8_copies 17 = .ok (.iload 4, 2) := by decide +kernel
theorem dX8_copies_19 : decode cX8_copies 19 = .ok (.iadd, 1) := by decide +kernel
theorem dX8_copies_20 : decode cX8_copies 20 = .ok (.aload_n 0, 1) := by decide +kernel
theorem dX8_copies_21 : decode cX8_copies 21 = .ok (.sipush 1037, 3) := by decide +kernel
theorem dX8_copies_24 : decode cX8_copies 24 = .ok (.iload_n 1, 1) := by decide +kernel
theorem dX8_copies_25 : decode cX8_copies 25 = .ok (.imul, 1) := by decide +kernel
theorem dX8_copies_26 : decode cX8_copies 26 = .ok (.iload 4, 2) := by decide +kernel
theorem dX8_copies_28 : decode cX8_copies 28 = .ok (.iadd, 1) := by decide +kernel
theorem dX8_copies_29 : decode cX8_copies 29 = .ok (.iaload, 1) := by decide +kernel
theorem dX8_copies_3 : decode cX8_copies 3 = .ok (.iload 4, 2) := by decide +kernel
theorem dX8_copies_30 : decode cX8_copies 30 = .ok (.iastore, 1) := by decide +kernel
theorem dX8_copies_31 : decode cX8_copies 31 = .ok (.iinc 4 1, 3) := by decide +kernel
theorem dX8_copies_34 : decode cX8_copies 34 = .ok (.goto (-31), 3) := by decide +kernel
theorem dX8_copies_37 : decode cX8_copies 37 = .ok (.return_, 1) := by decide +kernel
theorem dX8_copies_5 : decode cX8_copies 5 = .ok (.sipush 1037, 3) := by decide +kernel
theorem dX8_copies_8 : decode cX8_copies 8 = .ok (.if_icmp .ge 29, 3) := by decide +kernel
theorem dX8_count_0 : decode cX8_count 0 = .ok (.aload_n 0, 1) := by decide +kernel
theorem dX8_count_1 : decode cX8_count 1 = .ok (.iload_n 1, 1) := by decide +kernel
theorem dX8_count_10 : decode cX8_count 10 = .ok (.iconst 1, 1) := by decide +kernel
theorem dX8_count_100 : decode cX8_count 100 = .ok (.aload_n 0, 1) := by decide +kernel
theorem dX8_count_101 : decode cX8_count 101 = .ok (.getfield 9, 3) := by decide +kernel
theorem dX8_count_104 : decode cX8_count 104 = .ok (.iconst 5, 1) := by decide +kernel
theorem dX8_count_105 : decode cX8_count 105 = .ok (.iaload, 1) := by decide +kernel
theorem dX8_count_106 : decode cX8_count 106 = .ok (.ireturn, 1) := by decide +kernel
theorem dX8_count_107 : decode cX8_count 107 = .ok (.aload_n 0, 1) := by decide +kernel
theorem dX8_count_108 : decode cX8_count 108 = .ok (.getfield 219, 3) := by decide +kernel
theorem dX8_count_11 : decode cX8_count 11 = .ok (.invokevirtual 226, 3) := by decide +kernel
theorem dX8_count_111 : decode cX8_count 111 = .ok (.ireturn, 1) := by decide +kernel
theorem dX8_count_112 : decode cX8_count 112 = .ok (.aload_n 0, 1) := by decide +kernel
theorem dX8_count_113 : decode cX8_count 113 = .ok (.iload_n 1, 1) := by decide +kernel
theorem dX8_count_114 : decode cX8_count 114 = .ok (.iconst 4, 1) := by decide +kernel
theorem dX8_count_115 : decode cX8_count 115 = .ok (.isub, 1) := by decide +kernel
theorem dX8_count_116 : decode cX8_count 116 = .ok (.invokevirtual 238, 3) := by decide +kernel
theorem dX8_count_119 : decode cX8_count 119 = .ok (.ireturn, 1) := by decide +kernel
theorem dX8_count_14 : decode cX8_count 14 = .ok (.ifCond .eq 5, 3) := by decide +kernel
theorem dX8_count_17 : decode cX8_count 17 = .ok (.iconst 0, 1) := by decide +kernel
theorem dX8_count_18 : decode cX8_count 18 = .ok (.ireturn, 1) := by decide +kernel
theorem dX8_count_19 : decode cX8_count 19 = .ok (.iload_n 1, 1) := by decide +kernel
theorem dX8_count_2 : decode cX8_count 2 = .ok (.i2l, 1) := by decide +kernel
theorem dX8_count_20 : decode cX8_count 20 = .ok (.tableswitch 92 0 9 #[56, 64, 72, 80, 92, 92, 92, 92, 92, 87], 56) := by decide +kernel
theorem dX8_count_3 : decode cX8_count 3 = .ok (.lconst 0, 1) := by decide +kernel
theorem dX8_count_4 : decode cX8_count 4 = .ok (.ldc2_w 236, 3) := by decide +kernel
theorem dX8_count_7 : decode cX8_count 7 = .ok (.invokestatic 52, 3) := by decide +kernel
theorem dX8_count_76 : decode cX8_count 76 = .ok (.aload_n 0, 1) := by decide +kernel
theorem dX8_count_77 : decode cX8_count 77 = .ok (.getfield 9, 3) := by decide +kernel
theorem dX8_count_80 : decode cX8_count 80 = .ok (.bipush 7, 2) := by decide +kernel
theorem dX8_count_82 : decode cX8_count 82 = .ok (.iaload, 1) := by decide +kernel
theorem dX8_count_83 : decode cX8_count 83 = .ok (.ireturn, 1) := by decide +kernel
theorem dX8_count_84 : decode cX8_count 84 = .ok (.aload_n 0, 1) := by decide +kernel
theorem dX8_count_85 : decode cX8_count 85 = .ok (.getfield 9, 3) := by decide +kernel
theorem dX8_count_88 : decode cX8_count 88 = .ok (.bipush 8, 2) := by decide +kernel
theorem dX8_count_90 : decode cX8_count 90 = .ok (.iaload, 1) := by decide +kernel
theorem dX8_count_91 : decode cX8_count 91 = .ok (.ireturn, 1) := by decide +kernel
theorem dX8_count_92 : decode cX8_count 92 = .ok (.aload_n 0, 1) := by decide +kernel
theorem dX8_count_93 : decode cX8_count 93 = .ok (.getfield 9, 3) := by decide +kernel
theorem dX8_count_96 : decode cX8_count 96 = .ok (.bipush 9, 2) := by decide +kernel
theorem dX8_count_98 : decode cX8_count 98 = .ok (.iaload, 1) := by decide +kernel
theorem dX8_count_99 : decode cX8_count 99 = .ok (.ireturn, 1) := by decide +kernel
theorem dX8_dayEnds_0 : decode cX8_dayEnds 0 = .ok (.bipush 119, 2) := by decide +kernel
theorem dX8_dayEnds_10 : decode cX8_dayEnds 10 = .ok (.getfield 9, 3) := by decide +kernel
theorem dX8_dayEnds_100 : decode cX8_dayEnds 100 = .ok (.goto (-60), 3) := by decide +kernel
theorem dX8_dayEnds_103 : decode cX8_dayEnds 103 = .ok (.aload_n 0, 1) := by decide +kernel
theorem dX8_dayEnds_104 : decode cX8_dayEnds 104 = .ok (.getfield 9, 3) := by decide +kernel
theorem dX8_dayEnds_107 : decode cX8_dayEnds 107 = .ok (.bipush 11, 2) := by decide +kernel
theorem dX8_dayEnds_109 : decode cX8_dayEnds 109 = .ok (.bipush 10, 2) := by decide +kernel
theorem dX8_dayEnds_111 : decode cX8_dayEnds 111 = .ok (.aload_n 0, 1) := by decide +kernel
theorem dX8_dayEnds_112 : decode cX8_dayEnds 112 = .ok (.getfield 9, 3) := by decide +kernel
theorem dX8_dayEnds_115 : decode cX8_dayEnds 115 = .ok (.bipush 11, 2) := by decide +kernel
theorem dX8_dayEnds_117 : decode cX8_dayEnds 117 = .ok (.iaload, 1) := by decide +kernel
theorem dX8_dayEnds_118 : decode cX8_dayEnds 118 = .ok (.iconst 1, 1) := by decide +kernel
theorem dX8_dayEnds_119 : decode cX8_dayEnds 119 = .ok (.iadd, 1) := by decide +kernel
theorem dX8_dayEnds_120 : decode cX8_dayEnds 120 = .ok (.invokestatic 105, 3) := by decide +kernel
theorem dX8_dayEnds_123 : decode cX8_dayEnds 123 = .ok (.iastore, 1) := by decide +kernel
theorem dX8_dayEnds_124 : decode cX8_dayEnds 124 = .ok (.return_, 1) := by decide +kernel
theorem dX8_dayEnds_13 : decode cX8_dayEnds 13 = .ok (.sipush 917, 3) := by decide +kernel
theorem dX8_dayEnds_16 : decode cX8_dayEnds 16 = .ok (.iload_n 1, 1) := by decide +kernel
theorem dX8_dayEnds_17 : decode cX8_dayEnds 17 = .ok (.iadd, 1) := by decide +kernel
theorem dX8_dayEnds_18 : decode cX8_dayEnds 18 = .ok (.aload_n 0, 1) := by decide +kernel
theorem dX8_dayEnds_19 : decode cX8_dayEnds 19 = .ok (.getfield 9, 3) := by decide +kernel
theorem dX8_dayEnds_2 : decode cX8_dayEnds 2 = .ok (.istore_n 1, 1) := by decide +kernel
theorem dX8_dayEnds_22 : decode cX8_dayEnds 22 = .ok (.sipush 917, 3) := by decide +kernel
theorem dX8_dayEnds_25 : decode cX8_dayEnds 25 = .ok (.iload_n 1, 1) := by decide +kernel
theorem dX8_dayEnds_26 : decode cX8_dayEnds 26 = .ok (.iadd, 1) := by decide +kernel
theorem dX8_dayEnds_27 : decode cX8_dayEnds 27 = .ok (.bipush 12, 2) := by decide +kernel
theorem dX8_dayEnds_29 : decode cX8_dayEnds 29 = .ok (.isub, 1) := by decide +kernel
theorem dX8_dayEnds_3 : decode cX8_dayEnds 3 = .ok (.iload_n 1, 1) := by decide +kernel
theorem dX8_dayEnds_30 : decode cX8_dayEnds 30 = .ok (.iaload, 1) := by decide +kernel
theorem dX8_dayEnds_31 : decode cX8_dayEnds 31 = .ok (.iastore, 1) := by decide +kernel
theorem dX8_dayEnds_32 : decode cX8_dayEnds 32 = .ok (.iinc 1 (-1), 3) := by decide +kernel
theorem dX8_dayEnds_35 : decode cX8_dayEnds 35 = .ok (.goto (-32), 3) := by decide +kernel
theorem dX8_dayEnds_38 : decode cX8_dayEnds 38 = .ok (.iconst 0, 1) := by decide +kernel
theorem dX8_dayEnds_39 : decode cX8_dayEnds 39 = .ok (.istore_n 1, 1) := by decide +kernel
theorem dX8_dayEnds_4 : decode cX8_dayEnds 4 = .ok (.bipush 12, 2) := by decide +kernel
theorem dX8_dayEnds_40 : decode cX8_dayEnds 40 = .ok (.iload_n 1, 1) := by decide +kernel
theorem dX8_dayEnds_41 : decode cX8_dayEnds 41 = .ok (.bipush 6, 2) := by decide +kernel
theorem dX8_dayEnds_43 : decode cX8_dayEnds 43 = .ok (.if_icmp .ge 60, 3) := by decide +kernel
theorem dX8_dayEnds_46 : decode cX8_dayEnds 46 = .ok (.iconst 0, 1) := by decide +kernel
theorem dX8_dayEnds_47 : decode cX8_dayEnds 47 = .ok (.istore_n 2, 1) := by decide +kernel
theorem dX8_dayEnds_48 : decode cX8_dayEnds 48 = .ok (.iload_n 2, 1) := by decide +kernel
theorem dX8_dayEnds_49 : decode cX8_dayEnds 49 = .ok (.iconst 2, 1) := by decide +kernel
theorem dX8_dayEnds_50 : decode cX8_dayEnds 50 = .ok (.if_icmp .ge 47, 3) := by decide +kernel
theorem dX8_dayEnds_53 : decode cX8_dayEnds 53 = .ok (.aload_n 0, 1) := by decide +kernel
theorem dX8_dayEnds_54 : decode cX8_dayEnds 54 = .ok (.getfield 9, 3) := by decide +kernel
theorem dX8_dayEnds_57 : decode cX8_dayEnds 57 = .ok (.sipush 917, 3) := by decide +kernel
theorem dX8_dayEnds_6 : decode cX8_dayEnds 6 = .ok (.if_icmp .lt 32, 3) := by decide +kernel
theorem dX8_dayEnds_60 : decode cX8_dayEnds 60 = .ok (.iconst 2, 1) := by decide +kernel
theorem dX8_dayEnds_61 : decode cX8_dayEnds 61 = .ok (.iload_n 1, 1) := by decide +kernel
theorem dX8_dayEnds_62 : decode cX8_dayEnds 62 = .ok (.imul, 1) := by decide +kernel
theorem dX8_dayEnds_63 : decode cX8_dayEnds 63 = .ok (.iadd, 1) := by decide +kernel
theorem dX8_dayEnds_64 : decode cX8_dayEnds 64 = .ok (.iload_n 2, 1) := by decide +kernel
theorem dX8_dayEnds_65 : decode cX8_dayEnds 65 = .ok (.iadd, 1) := by decide +kernel
theorem dX8_dayEnds_66 : decode cX8_dayEnds 66 = .ok (.aload_n 0, 1) := by decide +kernel
theorem dX8_dayEnds_67 : decode cX8_dayEnds 67 = .ok (.iload_n 1, 1) := by decide +kernel
theorem dX8_dayEnds_68 : decode cX8_dayEnds 68 = .ok (.iconst 2, 1) := by decide +kernel
theorem dX8_dayEnds_69 : decode cX8_dayEnds 69 = .ok (.iload_n 2, 1) := by decide +kernel
theorem dX8_dayEnds_70 : decode cX8_dayEnds 70 = .ok (.iadd, 1) := by decide +kernel
theorem dX8_dayEnds_71 : decode cX8_dayEnds 71 = .ok (.invokevirtual 134, 3) := by decide +kernel
theorem dX8_dayEnds_74 : decode cX8_dayEnds 74 = .ok (.iastore, 1) := by decide +kernel
theorem dX8_dayEnds_75 : decode cX8_dayEnds 75 = .ok (.aload_n 0, 1) := by decide +kernel
theorem dX8_dayEnds_76 : decode cX8_dayEnds 76 = .ok (.getfield 9, 3) := by decide +kernel
theorem dX8_dayEnds_79 : decode cX8_dayEnds 79 = .ok (.bipush 113, 2) := by decide +kernel
theorem dX8_dayEnds_81 : decode cX8_dayEnds 81 = .ok (.iconst 4, 1) := by decide +kernel
theorem dX8_dayEnds_82 : decode cX8_dayEnds 82 = .ok (.iload_n 1, 1) := by decide +kernel
theorem dX8_dayEnds_83 : decode cX8_dayEnds 83 = .ok (.imul, 1) := by decide +kernel
theorem dX8_dayEnds_84 : decode cX8_dayEnds 84 = .ok (.iadd, 1) := by decide +kernel
theorem dX8_dayEnds_85 : decode cX8_dayEnds 85 = .ok (.iconst 2, 1) := by decide +kernel
theorem dX8_dayEnds_86 : decode cX8_dayEnds 86 = .ok (.iadd, 1) := by decide +kernel
theorem dX8_dayEnds_87 : decode cX8_dayEnds 87 = .ok (.iload_n 2, 1) := by decide +kernel
theorem dX8_dayEnds_88 : decode cX8_dayEnds 88 = .ok (.iadd, 1) := by decide +kernel
theorem dX8_dayEnds_89 : decode cX8_dayEnds 89 = .ok (.iconst 0, 1) := by decide +kernel
theorem dX8_dayEnds_9 : decode cX8_dayEnds 9 = .ok (.aload_n 0, 1) := by decide +kernel
theorem dX8_dayEnds_90 : decode cX8_dayEnds 90 = .ok (.iastore, 1) := by decide +kernel
theorem dX8_dayEnds_91 : decode cX8_dayEnds 91 = .ok (.iinc 2 1, 3) := by decide +kernel
theorem dX8_dayEnds_94 : decode cX8_dayEnds 94 = .ok (.goto (-46), 3) := by decide +kernel
theorem dX8_dayEnds_97 : decode cX8_dayEnds 97 = .ok (.iinc 1 1, 3) := by decide +kernel
theorem dX8_day_0 : decode cX8_day 0 = .ok (.aload_n 0, 1) := by decide +kernel
theorem dX8_day_1 : decode cX8_day 1 = .ok (.aload_n 0, 1) := by decide +kernel
theorem dX8_day_10 : decode cX8_day 10 = .ok (.ifCond .ne 30, 3) := by decide +kernel
theorem dX8_day_13 : decode cX8_day 13 = .ok (.aload_n 0, 1) := by decide +kernel
theorem dX8_day_14 : decode cX8_day 14 = .ok (.iload_n 1, 1) := by decide +kernel
theorem dX8_day_15 : decode cX8_day 15 = .ok (.ifCond .lt 17, 3) := by decide +kernel
theorem dX8_day_18 : decode cX8_day 18 = .ok (.iload_n 3, 1) := by decide +kernel
theorem dX8_day_19 : decode cX8_day 19 = .ok (.i2l, 1) := by decide +kernel
theorem dX8_day_2 : decode cX8_day 2 = .ok (.iload_n 2, 1) := by decide +kernel
theorem dX8_day_20 : decode cX8_day 20 = .ok (.lconst 0, 1) := by decide +kernel
theorem dX8_day_21 : decode cX8_day 21 = .ok (.lconst 1, 1) := by decide +kernel
theorem dX8_day_22 : decode cX8_day 22 = .ok (.invokestatic 52, 3) := by decide +kernel
theorem dX8_day_25 : decode cX8_day 25 = .ok (.ifCond .eq 7, 3) := by decide +kernel
theorem dX8_day_28 : decode cX8_day 28 = .ok (.iconst 1, 1) := by decide +kernel
theorem dX8_day_29 : decode cX8_day 29 = .ok (.goto 4, 3) := by decide +kernel
theorem dX8_day_3 : decode cX8_day 3 = .ok (.invokevirtual 222, 3) := by decide +kernel
theorem dX8_day_32 : decode cX8_day 32 = .ok (.iconst 0, 1) := by decide +kernel
theorem dX8_day_33 : decode cX8_day 33 = .ok (.iconst 2, 1) := by decide +kernel
theorem dX8_day_34 : decode cX8_day 34 = .ok (.invokevirtual 226, 3) := by decide +kernel
theorem dX8_day_37 : decode cX8_day 37 = .ok (.ifCond .eq 5, 3) := by decide +kernel
theorem dX8_day_40 : decode cX8_day 40 = .ok (.iconst 0, 1) := by decide +kernel
theorem dX8_day_41 : decode cX8_day 41 = .ok (.ireturn, 1) := by decide +kernel
theorem dX8_day_42 : decode cX8_day 42 = .ok (.iload_n 1, 1) := by decide +kernel
theorem dX8_day_43 : decode cX8_day 43 = .ok (.aload_n 0, 1) := by decide +kernel
theorem dX8_day_44 : decode cX8_day 44 = .ok (.getfield 9, 3) := by decide +kernel
theorem dX8_day_47 : decode cX8_day 47 = .ok (.bipush 11, 2) := by decide +kernel
theorem dX8_day_49 : decode cX8_day 49 = .ok (.iaload, 1) := by decide +kernel
theorem dX8_day_50 : decode cX8_day 50 = .ok (.if_icmp .ge 25, 3) := by decide +kernel
theorem dX8_day_53 : decode cX8_day 53 = .ok (.aload_n 0, 1) := by decide +kernel
theorem dX8_day_54 : decode cX8_day 54 = .ok (.getfield 9, 3) := by decide +kernel
theorem dX8_day_57 : decode cX8_day 57 = .ok (.sipush 917, 3) := by decide +kernel
theorem dX8_day_6 : decode cX8_day 6 = .ok (.iconst 1, 1) := by decide +kernel
theorem dX8_day_60 : decode cX8_day 60 = .ok (.bipush 12, 2) := by decide +kernel
theorem dX8_day_62 : decode cX8_day 62 = .ok (.iload_n 1, 1) := by decide +kernel
theorem dX8_day_63 : decode cX8_day 63 = .ok (.imul, 1) := by decide +kernel
theorem dX8_day_64 : decode cX8_day 64 = .ok (.iadd, 1) := by decide +kernel
theorem dX8_day_65 : decode cX8_day 65 = .ok (.iconst 2, 1) := by decide +kernel
theorem dX8_day_66 : decode cX8_day 66 = .ok (.iload_n 2, 1) := by decide +kernel
theorem dX8_day_67 : decode cX8_day 67 = .ok (.imul, 1) := by decide +kernel
theorem dX8_day_68 : decode cX8_day 68 = .ok (.iadd, 1) := by decide +kernel
theorem dX8_day_69 : decode cX8_day 69 = .ok (.iload_n 3, 1) := by decide +kernel
theorem dX8_day_7 : decode cX8_day 7 = .ok (.invokevirtual 226, 3) := by decide +kernel
theorem dX8_day_70 : decode cX8_day 70 = .ok (.iadd, 1) := by decide +kernel
theorem dX8_day_71 : decode cX8_day 71 = .ok (.iaload, 1) := by decide +kernel
theorem dX8_day_72 : decode cX8_day 72 = .ok (.goto 4, 3) := by decide +kernel
theorem dX8_day_75 : decode cX8_day 75 = .ok (.iconst (-1), 1) := by decide +kernel
theorem dX8_day_76 : decode cX8_day 76 = .ok (.ireturn, 1) := by decide +kernel
theorem dX8_enters_0 : decode cX8_enters 0 = .ok (.aload_n 0, 1) := by decide +kernel
theorem dX8_enters_1 : decode cX8_enters 1 = .ok (.iload_n 1, 1) := by decide +kernel
theorem dX8_enters_10 : decode cX8_enters 10 = .ok (.invokevirtual 248, 3) := by decide +kernel
theorem dX8_enters_13 : decode cX8_enters 13 = .ok (.iconst 3, 1) := by decide +kernel
theorem dX8_enters_14 : decode cX8_enters 14 = .ok (.if_icmp .ne 48, 3) := by decide +kernel
theorem dX8_enters_17 : decode cX8_enters 17 = .ok (.aload_n 0, 1) := by decide +kernel
theorem dX8_enters_18 : decode cX8_enters 18 = .ok (.getfield 9, 3) := by decide +kernel
theorem dX8_enters_2 : decode cX8_enters 2 = .ok (.iload_n 2, 1) := by decide +kernel
theorem dX8_enters_21 : decode cX8_enters 21 = .ok (.bipush 15, 2) := by decide +kernel
theorem dX8_enters_23 : decode cX8_enters 23 = .ok (.dup2, 1) := by decide +kernel
theorem dX8_enters_24 : decode cX8_enters 24 = .ok (.iaload, 1) := by decide +kernel
theorem dX8_enters_25 : decode cX8_enters 25 = .ok (.aload_n 0, 1) := by decide +kernel
theorem dX8_enters_26 : decode cX8_enters 26 = .ok (.iload_n 2, 1) := by decide +kernel
theorem dX8_enters_27 : decode cX8_enters 27 = .ok (.aload_n 0, 1) := by decide +kernel
theorem dX8_enters_28 : decode cX8_enters 28 = .ok (.iload_n 1, 1) := by decide +kernel
theorem dX8_enters_29 : decode cX8_enters 29 = .ok (.bipush 8, 2) := by decide +kernel
theorem dX8_enters_3 : decode cX8_enters 3 = .ok (.invokevirtual 296, 3) := by decide +kernel
theorem dX8_enters_31 : decode cX8_enters 31 = .ok (.invokevirtual 248, 3) := by decide +kernel
theorem dX8_enters_34 : decode cX8_enters 34 = .ok (.invokevirtual 293, 3) := by decide +kernel
theorem dX8_enters_37 : decode cX8_enters 37 = .ok (.iadd, 1) := by decide +kernel
theorem dX8_enters_38 : decode cX8_enters 38 = .ok (.iastore, 1) := by decide +kernel
theorem dX8_enters_39 : decode cX8_enters 39 = .ok (.aload_n 0, 1) := by decide +kernel
theorem dX8_enters_40 : decode cX8_enters 40 = .ok (.iload_n 1, 1) := by decide +kernel
theorem dX8_enters_41 : decode cX8_enters 41 = .ok (.bipush 8, 2) := by decide +kernel
theorem dX8_enters_43 : decode cX8_enters 43 = .ok (.aload_n 0, 1) := by decide +kernel
theorem dX8_enters_44 : decode cX8_enters 44 = .ok (.iload_n 2, 1) := by decide +kernel
theorem dX8_enters_45 : decode cX8_enters 45 = .ok (.bipush 9, 2) := by decide +kernel
theorem dX8_enters_47 : decode cX8_enters 47 = .ok (.aload_n 0, 1) := by decide +kernel
theorem dX8_enters_48 : decode cX8_enters 48 = .ok (.iload_n 2, 1) := by decide +kernel
theorem dX8_enters_49 : decode cX8_enters 49 = .ok (.iconst 2, 1) := by decide +kernel
theorem dX8_enters_50 : decode cX8_enters 50 = .ok (.invokevirtual 233, 3) := by decide +kernel
theorem dX8_enters_53 : decode cX8_enters 53 = .ok (.iadd, 1) := by decide +kernel
theorem dX8_enters_54 : decode cX8_enters 54 = .ok (.iconst 1, 1) := by decide +kernel
theorem dX8_enters_55 : decode cX8_enters 55 = .ok (.isub, 1) := by decide +kernel
theorem dX8_enters_56 : decode cX8_enters 56 = .ok (.invokevirtual 233, 3) := by decide +kernel
theorem dX8_enters_59 : decode cX8_enters 59 = .ok (.invokevirtual 149, 3) := by decide +kernel
theorem dX8_enters_6 : decode cX8_enters 6 = .ok (.istore_n 3, 1) := by decide +kernel
theorem dX8_enters_62 : decode cX8_enters 62 = .ok (.aload_n 0, 1) := by decide +kernel
theorem dX8_enters_63 : decode cX8_enters 63 = .ok (.iload_n 1, 1) := by decide +kernel
theorem dX8_enters_64 : decode cX8_enters 64 = .ok (.iconst 2, 1) := by decide +kernel
theorem dX8_enters_65 : decode cX8_enters 65 = .ok (.iload_n 2, 1) := by decide +kernel
theorem dX8_enters_66 : decode cX8_enters 66 = .ok (.invokevirtual 149, 3) := by decide +kernel
theorem dX8_enters_69 : decode cX8_enters 69 = .ok (.aload_n 0, 1) := by decide +kernel
theorem dX8_enters_7 : decode cX8_enters 7 = .ok (.aload_n 0, 1) := by decide +kernel
theorem dX8_enters_70 : decode cX8_enters 70 = .ok (.iload_n 1, 1) := by decide +kernel
theorem dX8_enters_71 : decode cX8_enters 71 = .ok (.iconst 3, 1) := by decide +kernel
theorem dX8_enters_72 : decode cX8_enters 72 = .ok (.iload_n 3, 1) := by decide +kernel
theorem dX8_enters_73 : decode cX8_enters 73 = .ok (.invokevirtual 149, 3) := by decide +kernel
theorem dX8_enters_76 : decode cX8_enters 76 = .ok (.aload_n 0, 1) := by decide +kernel
theorem dX8_enters_77 : decode cX8_enters 77 = .ok (.iload_n 2, 1) := by decide +kernel
theorem dX8_enters_78 : decode cX8_enters 78 = .ok (.iconst 3, 1) := by decide +kernel
theorem dX8_enters_79 : decode cX8_enters 79 = .ok (.iconst 1, 1) := by decide +kernel
theorem dX8_enters_8 : decode cX8_enters 8 = .ok (.iload_n 1, 1) := by decide +kernel
theorem dX8_enters_80 : decode cX8_enters 80 = .ok (.invokevirtual 130, 3) := by decide +kernel
theorem dX8_enters_83 : decode cX8_enters 83 = .ok (.aload_n 0, 1) := by decide +kernel
theorem dX8_enters_84 : decode cX8_enters 84 = .ok (.iload_n 2, 1) := by decide +kernel
theorem dX8_enters_85 : decode cX8_enters 85 = .ok (.iconst 4, 1) := by decide +kernel
theorem dX8_enters_86 : decode cX8_enters 86 = .ok (.iload_n 1, 1) := by decide +kernel
theorem dX8_enters_87 : decode cX8_enters 87 = .ok (.invokevirtual 130, 3) := by decide +kernel
theorem dX8_enters_9 : decode cX8_enters 9 = .ok (.iconst 0, 1) := by decide +kernel
theorem dX8_enters_90 : decode cX8_enters 90 = .ok (.return_, 1) := by decide +kernel
theorem dX8_failIn_0 : decode cX8_failIn 0 = .ok (.aload_n 0, 1) := by decide +kernel
theorem dX8_failIn_1 : decode cX8_failIn 1 = .ok (.aload_n 0, 1) := by decide +kernel
theorem dX8_failIn_10 : decode cX8_failIn 10 = .ok (.ifCond .eq 7, 3) := by decide +kernel
theorem dX8_failIn_13 : decode cX8_failIn 13 = .ok (.iconst 0, 1) := by decide +kernel
theorem dX8_failIn_14 : decode cX8_failIn 14 = .ok (.goto 9, 3) := by decide +kernel
theorem dX8_failIn_17 : decode cX8_failIn 17 = .ok (.aload_n 0, 1) := by decide +kernel
theorem dX8_failIn_18 : decode cX8_failIn 18 = .ok (.iconst 3, 1) := by decide +kernel
theorem dX8_failIn_19 : decode cX8_failIn 19 = .ok (.iload_n 1, 1) := by decide +kernel
theorem dX8_failIn_2 : decode cX8_failIn 2 = .ok (.iload_n 1, 1) := by decide +kernel
theorem dX8_failIn_20 : decode cX8_failIn 20 = .ok (.invokevirtual 362, 3) := by decide +kernel
theorem dX8_failIn_23 : decode cX8_failIn 23 = .ok (.ireturn, 1) := by decide +kernel
theorem dX8_failIn_3 : decode cX8_failIn 3 = .ok (.invokevirtual 243, 3) := by decide +kernel
theorem dX8_failIn_6 : decode cX8_failIn 6 = .ok (.iconst 1, 1) := by decide +kernel
theorem dX8_failIn_7 : decode cX8_failIn 7 = .ok (.invokevirtual 226, 3) := by decide +kernel
theorem dX8_failsIn_0 : decode cX8_failsIn 0 = .ok (.aload_n 0, 1) := by decide +kernel
theorem dX8_failsIn_1 : decode cX8_failsIn 1 = .ok (.iload_n 1, 1) := by decide +kernel
theorem dX8_failsIn_10 : decode cX8_failsIn 10 = .ok (.iconst 1, 1) := by decide +kernel
theorem dX8_failsIn_11 : decode cX8_failsIn 11 = .ok (.invokevirtual 302, 3) := by decide +kernel
theorem dX8_failsIn_14 : decode cX8_failsIn 14 = .ok (.aload_n 0, 1) := by decide +kernel
theorem dX8_failsIn_15 : decode cX8_failsIn 15 = .ok (.iload_n 2, 1) := by decide +kernel
theorem dX8_failsIn_16 : decode cX8_failsIn 16 = .ok (.iconst 5, 1) := by decide +kernel
theorem dX8_failsIn_17 : decode cX8_failsIn 17 = .ok (.aload_n 0, 1) := by decide +kernel
theorem dX8_failsIn_18 : decode cX8_failsIn 18 = .ok (.iload_n 2, 1) := by decide +kernel
theorem dX8_failsIn_19 : decode cX8_failsIn 19 = .ok (.iconst 5, 1) := by decide +kernel
theorem dX8_failsIn_2 : decode cX8_failsIn 2 = .ok (.iconst 2, 1) := by decide +kernel
theorem dX8_failsIn_20 : decode cX8_failsIn 20 = .ok (.invokevirtual 233, 3) := by decide +kernel
theorem dX8_failsIn_23 : decode cX8_failsIn 23 = .ok (.iconst 1, 1) := by decide +kernel
theorem dX8_failsIn_24 : decode cX8_failsIn 24 = .ok (.iadd, 1) := by decide +kernel
theorem dX8_failsIn_25 : decode cX8_failsIn 25 = .ok (.invokevirtual 130, 3) := by decide +kernel
theorem dX8_failsIn_28 : decode cX8_failsIn 28 = .ok (.aload_n 0, 1) := by decide +kernel
theorem dX8_failsIn_29 : decode cX8_failsIn 29 = .ok (.iload_n 2, 1) := by decide +kernel
theorem dX8_failsIn_3 : decode cX8_failsIn 3 = .ok (.iconst (-1), 1) := by decide +kernel
theorem dX8_failsIn_30 : decode cX8_failsIn 30 = .ok (.iconst 4, 1) := by decide +kernel
theorem dX8_failsIn_31 : decode cX8_failsIn 31 = .ok (.iconst (-1), 1) := by decide +kernel
theorem dX8_failsIn_32 : decode cX8_failsIn 32 = .ok (.invokevirtual 130, 3) := by decide +kernel
theorem dX8_failsIn_35 : decode cX8_failsIn 35 = .ok (.aload_n 0, 1) := by decide +kernel
theorem dX8_failsIn_36 : decode cX8_failsIn 36 = .ok (.iload_n 2, 1) := by decide +kernel
theorem dX8_failsIn_37 : decode cX8_failsIn 37 = .ok (.iconst 3, 1) := by decide +kernel
theorem dX8_failsIn_38 : decode cX8_failsIn 38 = .ok (.aload_n 0, 1) := by decide +kernel
theorem dX8_failsIn_39 : decode cX8_failsIn 39 = .ok (.iload_n 2, 1) := by decide +kernel
theorem dX8_failsIn_4 : decode cX8_failsIn 4 = .ok (.invokevirtual 149, 3) := by decide +kernel
theorem dX8_failsIn_40 : decode cX8_failsIn 40 = .ok (.iconst 5, 1) := by decide +kernel
theorem dX8_failsIn_41 : decode cX8_failsIn 41 = .ok (.invokevirtual 233, 3) := by decide +kernel
theorem dX8_failsIn_44 : decode cX8_failsIn 44 = .ok (.aload_n 0, 1) := by decide +kernel
theorem dX8_failsIn_45 : decode cX8_failsIn 45 = .ok (.getfield 9, 3) := by decide +kernel
theorem dX8_failsIn_48 : decode cX8_failsIn 48 = .ok (.iconst 2, 1) := by decide +kernel
theorem dX8_failsIn_49 : decode cX8_failsIn 49 = .ok (.iaload, 1) := by decide +kernel
theorem dX8_failsIn_50 : decode cX8_failsIn 50 = .ok (.if_icmp .lt 7, 3) := by decide +kernel
theorem dX8_failsIn_53 : decode cX8_failsIn 53 = .ok (.iconst 4, 1) := by decide +kernel
theorem dX8_failsIn_54 : decode cX8_failsIn 54 = .ok (.goto 4, 3) := by decide +kernel
theorem dX8_failsIn_57 : decode cX8_failsIn 57 = .ok (.iconst 0, 1) := by decide +kernel
theorem dX8_failsIn_58 : decode cX8_failsIn 58 = .ok (.invokevirtual 130, 3) := by decide +kernel
theorem dX8_failsIn_61 : decode cX8_failsIn 61 = .ok (.aload_n 0, 1) := by decide +kernel
theorem dX8_failsIn_62 : decode cX8_failsIn 62 = .ok (.getfield 9, 3) := by decide +kernel
theorem dX8_failsIn_65 : decode cX8_failsIn 65 = .ok (.bipush 13, 2) := by decide +kernel
theorem dX8_failsIn_67 : decode cX8_failsIn 67 = .ok (.dup2, 1) := by decide +kernel
theorem dX8_failsIn_68 : decode cX8_failsIn 68 = .ok (.iaload, 1) := by decide +kernel
theorem dX8_failsIn_69 : decode cX8_failsIn 69 = .ok (.iconst 1, 1) := by decide +kernel
theorem dX8_failsIn_7 : decode cX8_failsIn 7 = .ok (.aload_n 0, 1) := by decide +kernel
theorem dX8_failsIn_70 : decode cX8_failsIn 70 = .ok (.iadd, 1) := by decide +kernel
theorem dX8_failsIn_71 : decode cX8_failsIn 71 = .ok (.iastore, 1) := by decide +kernel
theorem dX8_failsIn_72 : decode cX8_failsIn 72 = .ok (.aload_n 0, 1) := by decide +kernel
theorem dX8_failsIn_73 : decode cX8_failsIn 73 = .ok (.getfield 9, 3) := by decide +kernel
theorem dX8_failsIn_76 : decode cX8_failsIn 76 = .ok (.bipush 113, 2) := by decide +kernel
theorem dX8_failsIn_78 : decode cX8_failsIn 78 = .ok (.iconst 4, 1) := by decide +kernel
theorem dX8_failsIn_79 : decode cX8_failsIn 79 = .ok (.aload_n 0, 1) := by decide +kernel
theorem dX8_failsIn_8 : decode cX8_failsIn 8 = .ok (.iload_n 1, 1) := by decide +kernel
theorem dX8_failsIn_80 : decode cX8_failsIn 80 = .ok (.iload_n 2, 1) := by decide +kernel
theorem dX8_failsIn_81 : decode cX8_failsIn 81 = .ok (.iconst 0, 1) := by decide +kernel
theorem dX8_failsIn_82 : decode cX8_failsIn 82 = .ok (.invokevirtual 233, 3) := by decide +kernel
theorem dX8_failsIn_85 : decode cX8_failsIn 85 = .ok (.imul, 1) := by decide +kernel
theorem dX8_failsIn_86 : decode cX8_failsIn 86 = .ok (.iadd, 1) := by decide +kernel
theorem dX8_failsIn_87 : decode cX8_failsIn 87 = .ok (.iconst 2, 1) := by decide +kernel
theorem dX8_failsIn_88 : decode cX8_failsIn 88 = .ok (.iadd, 1) := by decide +kernel
theorem dX8_failsIn_89 : decode cX8_failsIn 89 = .ok (.iconst 1, 1) := by decide +kernel
theorem dX8_failsIn_9 : decode cX8_failsIn 9 = .ok (.iconst 5, 1) := by decide +kernel
theorem dX8_failsIn_90 : decode cX8_failsIn 90 = .ok (.iadd, 1) := by decide +kernel
theorem dX8_failsIn_91 : decode cX8_failsIn 91 = .ok (.dup2, 1) := by decide +kernel
theorem dX8_failsIn_92 : decode cX8_failsIn 92 = .ok (.iaload, 1) := by decide +kernel
theorem dX8_failsIn_93 : decode cX8_failsIn 93 = .ok (.iconst 1, 1) := by decide +kernel
theorem dX8_failsIn_94 : decode cX8_failsIn 94 = .ok (.iadd, 1) := by decide +kernel
theorem dX8_failsIn_95 : decode cX8_failsIn 95 = .ok (.iastore, 1) := by decide +kernel
theorem dX8_failsIn_96 : decode cX8_failsIn 96 = .ok (.return_, 1) := by decide +kernel
theorem dX8_fails_0 : decode cX8_fails 0 = .ok (.aload_n 0, 1) := by decide +kernel
theorem dX8_fails_1 : decode cX8_fails 1 = .ok (.getfield 75, 3) := by decide +kernel
theorem dX8_fails_12 : decode cX8_fails 12 = .ok (.aload_n 0, 1) := by decide +kernel
theorem dX8_fails_13 : decode cX8_fails 13 = .ok (.aload_n 0, 1) := by decide +kernel
theorem dX8_fails_14 : decode cX8_fails 14 = .ok (.getfield 72, 3) := by decide +kernel
theorem dX8_fails_17 : decode cX8_fails 17 = .ok (.putfield 78, 3) := by decide +kernel
theorem dX8_fails_20 : decode cX8_fails 20 = .ok (.return_, 1) := by decide +kernel
theorem dX8_fails_4 : decode cX8_fails 4 = .ok (.ifCond .ne 16, 3) := by decide +kernel
theorem dX8_fails_7 : decode cX8_fails 7 = .ok (.aload_n 0, 1) := by decide +kernel
theorem dX8_fails_8 : decode cX8_fails 8 = .ok (.iload_n 1, 1) := by decide +kernel
theorem dX8_fails_9 : decode cX8_fails 9 = .ok (.putfield 75, 3) := by decide +kernel
theorem dX8_feeds_0 : decode cX8_feeds 0 = .ok (.aload_n 0, 1) := by decide +kernel
theorem dX8_feeds_1 : decode cX8_feeds 1 = .ok (.getfield 9, 3) := by decide +kernel
theorem dX8_feeds_10 : decode cX8_feeds 10 = .ok (.aload_n 0, 1) := by decide +kernel
theorem dX8_feeds_11 : decode cX8_feeds 11 = .ok (.iconst 0, 1) := by decide +kernel
theorem dX8_feeds_12 : decode cX8_feeds 12 = .ok (.iconst 2, 1) := by decide +kernel
theorem dX8_feeds_13 : decode cX8_feeds 13 = .ok (.invokevirtual 248, 3) := by decide +kernel
theorem dX8_feeds_16 : decode cX8_feeds 16 = .ok (.iconst (-1), 1) := by decide +kernel
theorem dX8_feeds_17 : decode cX8_feeds 17 = .ok (.if_icmp .ne 26, 3) := by decide +kernel
theorem dX8_feeds_20 : decode cX8_feeds 20 = .ok (.aload_n 0, 1) := by decide +kernel
theorem dX8_feeds_21 : decode cX8_feeds 21 = .ok (.iconst 0, 1) := by decide +kernel
theorem dX8_feeds_22 : decode cX8_feeds 22 = .ok (.bipush 7, 2) := by decide +kernel
theorem dX8_feeds_24 : decode cX8_feeds 24 = .ok (.invokevirtual 248, 3) := by decide +kernel
theorem dX8_feeds_27 : decode cX8_feeds 27 = .ok (.ifCond .ne 16, 3) := by decide +kernel
theorem dX8_feeds_30 : decode cX8_feeds 30 = .ok (.aload_n 0, 1) := by decide +kernel
theorem dX8_feeds_31 : decode cX8_feeds 31 = .ok (.getfield 9, 3) := by decide +kernel
theorem dX8_feeds_34 : decode cX8_feeds 34 = .ok (.iconst 5, 1) := by decide +kernel
theorem dX8_feeds_35 : decode cX8_feeds 35 = .ok (.iaload, 1) := by decide +kernel
theorem dX8_feeds_36 : decode cX8_feeds 36 = .ok (.ifCond .le 7, 3) := by decide +kernel
theorem dX8_feeds_39 : decode cX8_feeds 39 = .ok (.iconst 1, 1) := by decide +kernel
theorem dX8_feeds_4 : decode cX8_feeds 4 = .ok (.bipush 7, 2) := by decide +kernel
theorem dX8_feeds_40 : decode cX8_feeds 40 = .ok (.goto 4, 3) := by decide +kernel
theorem dX8_feeds_43 : decode cX8_feeds 43 = .ok (.iconst 0, 1) := by decide +kernel
theorem dX8_feeds_44 : decode cX8_feeds 44 = .ok (.istore_n 1, 1) := by decide +kernel
theorem dX8_feeds_45 : decode cX8_feeds 45 = .ok (.iload_n 1, 1) := by decide +kernel
theorem dX8_feeds_46 : decode cX8_feeds 46 = .ok (.ifCond .eq 10, 3) := by decide +kernel
theorem dX8_feeds_49 : decode cX8_feeds 49 = .ok (.aload_n 0, 1) := by decide +kernel
theorem dX8_feeds_50 : decode cX8_feeds 50 = .ok (.invokevirtual 282, 3) := by decide +kernel
theorem dX8_feeds_53 : decode cX8_feeds 53 = .ok (.goto 4, 3) := by decide +kernel
theorem dX8_feeds_56 : decode cX8_feeds 56 = .ok (.iconst (-1), 1) := by decide +kernel
theorem dX8_feeds_57 : decode cX8_feeds 57 = .ok (.istore_n 2, 1) := by decide +kernel
theorem dX8_feeds_58 : decode cX8_feeds 58 = .ok (.iload_n 2, 1) := by decide +kernel
theorem dX8_feeds_59 : decode cX8_feeds 59 = .ok (.iconst (-1), 1) := by decide +kernel
theorem dX8_feeds_6 : decode cX8_feeds 6 = .ok (.iaload, 1) := by decide +kernel
theorem dX8_feeds_60 : decode cX8_feeds 60 = .ok (.if_icmp .ne 4, 3) := by decide +kernel
theorem dX8_feeds_63 : decode cX8_feeds 63 = .ok (.return_, 1) := by decide +kernel
theorem dX8_feeds_64 : decode cX8_feeds 64 = .ok (.aload_n 0, 1) := by decide +kernel
theorem dX8_feeds_65 : decode cX8_feeds 65 = .ok (.getfield 9, 3) := by decide +kernel
theorem dX8_feeds_68 : decode cX8_feeds 68 = .ok (.iconst 5, 1) := by decide +kernel
theorem dX8_feeds_69 : decode cX8_feeds 69 = .ok (.dup2, 1) := by decide +kernel
theorem dX8_feeds_7 : decode cX8_feeds 7 = .ok (.ifCond .le 36, 3) := by decide +kernel
theorem dX8_feeds_70 : decode cX8_feeds 70 = .ok (.iaload, 1) := by decide +kernel
theorem dX8_feeds_71 : decode cX8_feeds 71 = .ok (.iconst 1, 1) := by decide +kernel
theorem dX8_feeds_72 : decode cX8_feeds 72 = .ok (.isub, 1) := by decide +kernel
theorem dX8_feeds_73 : decode cX8_feeds 73 = .ok (.iastore, 1) := by decide +kernel
theorem dX8_feeds_74 : decode cX8_feeds 74 = .ok (.aload_n 0, 1) := by decide +kernel
theorem dX8_feeds_75 : decode cX8_feeds 75 = .ok (.getfield 9, 3) := by decide +kernel
theorem dX8_feeds_78 : decode cX8_feeds 78 = .ok (.bipush 12, 2) := by decide +kernel
theorem dX8_feeds_80 : decode cX8_feeds 80 = .ok (.dup2, 1) := by decide +kernel
theorem dX8_feeds_81 : decode cX8_feeds 81 = .ok (.iaload, 1) := by decide +kernel
theorem dX8_feeds_82 : decode cX8_feeds 82 = .ok (.iconst 1, 1) := by decide +kernel
theorem dX8_feeds_83 : decode cX8_feeds 83 = .ok (.iadd, 1) := by decide +kernel
theorem dX8_feeds_84 : decode cX8_feeds 84 = .ok (.iastore, 1) := by decide +kernel
theorem dX8_feeds_85 : decode cX8_feeds 85 = .ok (.aload_n 0, 1) := by decide +kernel
theorem dX8_feeds_86 : decode cX8_feeds 86 = .ok (.iload_n 2, 1) := by decide +kernel
theorem dX8_feeds_87 : decode cX8_feeds 87 = .ok (.bipush 8, 2) := by decide +kernel
theorem dX8_feeds_89 : decode cX8_feeds 89 = .ok (.iconst 0, 1) := by decide +kernel
theorem dX8_feeds_90 : decode cX8_feeds 90 = .ok (.invokevirtual 130, 3) := by decide +kernel
theorem dX8_feeds_93 : decode cX8_feeds 93 = .ok (.aload_n 0, 1) := by decide +kernel
theorem dX8_feeds_94 : decode cX8_feeds 94 = .ok (.iconst 0, 1) := by decide +kernel
theorem dX8_feeds_95 : decode cX8_feeds 95 = .ok (.iload_n 2, 1) := by decide +kernel
theorem dX8_feeds_96 : decode cX8_feeds 96 = .ok (.invokevirtual 311, 3) := by decide +kernel
theorem dX8_feeds_99 : decode cX8_feeds 99 = .ok (.return_, 1) := by decide +kernel
theorem dX8_giveUp_0 : decode cX8_giveUp 0 = .ok (.aload_n 0, 1) := by decide +kernel
theorem dX8_giveUp_1 : decode cX8_giveUp 1 = .ok (.aload_n 0, 1) := by decide +kernel
theorem dX8_giveUp_10 : decode cX8_giveUp 10 = .ok (.ifCond .eq 5, 3) := by decide +kernel
theorem dX8_giveUp_13 : decode cX8_giveUp 13 = .ok (.iconst 0, 1) := by decide +kernel
theorem dX8_giveUp_14 : decode cX8_giveUp 14 = .ok (.ireturn, 1) := by decide +kernel
theorem dX8_giveUp_15 : decode cX8_giveUp 15 = .ok (.aload_n 0, 1) := by decide +kernel
theorem dX8_giveUp_16 : decode cX8_giveUp 16 = .ok (.iload_n 1, 1) := by decide +kernel
theorem dX8_giveUp_17 : decode cX8_giveUp 17 = .ok (.iconst 3, 1) := by decide +kernel
theorem dX8_giveUp_18 : decode cX8_giveUp 18 = .ok (.invokevirtual 233, 3) := by decide +kernel
theorem dX8_giveUp_2 : decode cX8_giveUp 2 = .ok (.iload_n 1, 1) := by decide +kernel
theorem dX8_giveUp_21 : decode cX8_giveUp 21 = .ok (.ifCond .eq 6, 3) := by decide +kernel
theorem dX8_giveUp_24 : decode cX8_giveUp 24 = .ok (.bipush (-3), 2) := by decide +kernel
theorem dX8_giveUp_26 : decode cX8_giveUp 26 = .ok (.ireturn, 1) := by decide +kernel
theorem dX8_giveUp_27 : decode cX8_giveUp 27 = .ok (.aload_n 0, 1) := by decide +kernel
theorem dX8_giveUp_28 : decode cX8_giveUp 28 = .ok (.invokevirtual 230, 3) := by decide +kernel
theorem dX8_giveUp_3 : decode cX8_giveUp 3 = .ok (.invokevirtual 251, 3) := by decide +kernel
theorem dX8_giveUp_31 : decode cX8_giveUp 31 = .ok (.aload_n 0, 1) := by decide +kernel
theorem dX8_giveUp_32 : decode cX8_giveUp 32 = .ok (.iload_n 1, 1) := by decide +kernel
theorem dX8_giveUp_33 : decode cX8_giveUp 33 = .ok (.iconst 3, 1) := by decide +kernel
theorem dX8_giveUp_34 : decode cX8_giveUp 34 = .ok (.iconst 4, 1) := by decide +kernel
theorem dX8_giveUp_35 : decode cX8_giveUp 35 = .ok (.invokevirtual 130, 3) := by decide +kernel
theorem dX8_giveUp_38 : decode cX8_giveUp 38 = .ok (.aload_n 0, 1) := by decide +kernel
theorem dX8_giveUp_39 : decode cX8_giveUp 39 = .ok (.iload_n 1, 1) := by decide +kernel
theorem dX8_giveUp_40 : decode cX8_giveUp 40 = .ok (.bipush 8, 2) := by decide +kernel
theorem dX8_giveUp_42 : decode cX8_giveUp 42 = .ok (.iconst 0, 1) := by decide +kernel
theorem dX8_giveUp_43 : decode cX8_giveUp 43 = .ok (.invokevirtual 130, 3) := by decide +kernel
theorem dX8_giveUp_46 : decode cX8_giveUp 46 = .ok (.aload_n 0, 1) := by decide +kernel
theorem dX8_giveUp_47 : decode cX8_giveUp 47 = .ok (.iconst 0, 1) := by decide +kernel
theorem dX8_giveUp_48 : decode cX8_giveUp 48 = .ok (.invokevirtual 238, 3) := by decide +kernel
theorem dX8_giveUp_51 : decode cX8_giveUp 51 = .ok (.ireturn, 1) := by decide +kernel
theorem dX8_giveUp_6 : decode cX8_giveUp 6 = .ok (.iconst 1, 1) := by decide +kernel
theorem dX8_giveUp_7 : decode cX8_giveUp 7 = .ok (.invokevirtual 226, 3) := by decide +kernel
theorem dX8_goesOn_0 : decode cX8_goesOn 0 = .ok (.aload_n 0, 1) := by decide +kernel
theorem dX8_goesOn_1 : decode cX8_goesOn 1 = .ok (.iload_n 1, 1) := by decide +kernel
theorem dX8_goesOn_100 : decode cX8_goesOn 100 = .ok (.aload_n 0, 1) := by decide +kernel
theorem dX8_goesOn_101 : decode cX8_goesOn 101 = .ok (.iconst 2, 1) := by decide +kernel
theorem dX8_goesOn_102 : decode cX8_goesOn 102 = .ok (.invokevirtual 238, 3) := by decide +kernel
theorem dX8_goesOn_105 : decode cX8_goesOn 105 = .ok (.aload_n 0, 1) := by decide +kernel
theorem dX8_goesOn_106 : decode cX8_goesOn 106 = .ok (.getfield 9, 3) := by decide +kernel
theorem dX8_goesOn_109 : decode cX8_goesOn 109 = .ok (.iconst 1, 1) := by decide +kernel
theorem dX8_goesOn_110 : decode cX8_goesOn 110 = .ok (.iaload, 1) := by decide +kernel
theorem dX8_goesOn_111 : decode cX8_goesOn 111 = .ok (.if_icmp .ge 13, 3) := by decide +kernel
theorem dX8_goesOn_114 : decode cX8_goesOn 114 = .ok (.aload_n 0, 1) := by decide +kernel
theorem dX8_goesOn_115 : decode cX8_goesOn 115 = .ok (.iload_n 2, 1) := by decide +kernel
theorem dX8_goesOn_116 : decode cX8_goesOn 116 = .ok (.iconst 3, 1) := by decide +kernel
theorem dX8_goesOn_117 : decode cX8_goesOn 117 = .ok (.iconst 2, 1) := by decide +kernel
theorem dX8_goesOn_118 : decode cX8_goesOn 118 = .ok (.invokevirtual 130, 3) := by decide +kernel
theorem dX8_goesOn_12 : decode cX8_goesOn 12 = .ok (.bipush 7, 2) := by decide +kernel
theorem dX8_goesOn_121 : decode cX8_goesOn 121 = .ok (.goto 37, 3) := by decide +kernel
theorem dX8_goesOn_124 : decode cX8_goesOn 124 = .ok (.aload_n 0, 1) := by decide +kernel
theorem dX8_goesOn_125 : decode cX8_goesOn 125 = .ok (.iload_n 2, 1) := by decide +kernel
theorem dX8_goesOn_126 : decode cX8_goesOn 126 = .ok (.iconst 3, 1) := by decide +kernel
theorem dX8_goesOn_127 : decode cX8_goesOn 127 = .ok (.iconst 0, 1) := by decide +kernel
theorem dX8_goesOn_128 : decode cX8_goesOn 128 = .ok (.invokevirtual 130, 3) := by decide +kernel
theorem dX8_goesOn_131 : decode cX8_goesOn 131 = .ok (.aload_n 0, 1) := by decide +kernel
theorem dX8_goesOn_132 : decode cX8_goesOn 132 = .ok (.iload_n 2, 1) := by decide +kernel
theorem dX8_goesOn_133 : decode cX8_goesOn 133 = .ok (.bipush 6, 2) := by decide +kernel
theorem dX8_goesOn_135 : decode cX8_goesOn 135 = .ok (.aload_n 0, 1) := by decide +kernel
theorem dX8_goesOn_136 : decode cX8_goesOn 136 = .ok (.iload_n 2, 1) := by decide +kernel
theorem dX8_goesOn_137 : decode cX8_goesOn 137 = .ok (.bipush 6, 2) := by decide +kernel
theorem dX8_goesOn_139 : decode cX8_goesOn 139 = .ok (.invokevirtual 233, 3) := by decide +kernel
theorem dX8_goesOn_14 : decode cX8_goesOn 14 = .ok (.iaload, 1) := by decide +kernel
theorem dX8_goesOn_142 : decode cX8_goesOn 142 = .ok (.iconst 1, 1) := by decide +kernel
theorem dX8_goesOn_143 : decode cX8_goesOn 143 = .ok (.iadd, 1) := by decide +kernel
theorem dX8_goesOn_144 : decode cX8_goesOn 144 = .ok (.invokevirtual 130, 3) := by decide +kernel
theorem dX8_goesOn_147 : decode cX8_goesOn 147 = .ok (.aload_n 0, 1) := by decide +kernel
theorem dX8_goesOn_148 : decode cX8_goesOn 148 = .ok (.getfield 9, 3) := by decide +kernel
theorem dX8_goesOn_15 : decode cX8_goesOn 15 = .ok (.iconst 1, 1) := by decide +kernel
theorem dX8_goesOn_151 : decode cX8_goesOn 151 = .ok (.bipush 14, 2) := by decide +kernel
theorem dX8_goesOn_153 : decode cX8_goesOn 153 = .ok (.dup2, 1) := by decide +kernel
theorem dX8_goesOn_154 : decode cX8_goesOn 154 = .ok (.iaload, 1) := by decide +kernel
theorem dX8_goesOn_155 : decode cX8_goesOn 155 = .ok (.iconst 1, 1) := by decide +kernel
theorem dX8_goesOn_156 : decode cX8_goesOn 156 = .ok (.iadd, 1) := by decide +kernel
theorem dX8_goesOn_157 : decode cX8_goesOn 157 = .ok (.iastore, 1) := by decide +kernel
theorem dX8_goesOn_158 : decode cX8_goesOn 158 = .ok (.return_, 1) := by decide +kernel
theorem dX8_goesOn_16 : decode cX8_goesOn 16 = .ok (.isub, 1) := by decide +kernel
theorem dX8_goesOn_17 : decode cX8_goesOn 17 = .ok (.if_icmp .ne 7, 3) := by decide +kernel
theorem dX8_goesOn_2 : decode cX8_goesOn 2 = .ok (.iconst 2, 1) := by decide +kernel
theorem dX8_goesOn_20 : decode cX8_goesOn 20 = .ok (.iconst 1, 1) := by decide +kernel
theorem dX8_goesOn_21 : decode cX8_goesOn 21 = .ok (.goto 4, 3) := by decide +kernel
theorem dX8_goesOn_24 : decode cX8_goesOn 24 = .ok (.iconst 0, 1) := by decide +kernel
theorem dX8_goesOn_25 : decode cX8_goesOn 25 = .ok (.istore_n 3, 1) := by decide +kernel
theorem dX8_goesOn_26 : decode cX8_goesOn 26 = .ok (.iload_n 3, 1) := by decide +kernel
theorem dX8_goesOn_27 : decode cX8_goesOn 27 = .ok (.ifCond .ne 16, 3) := by decide +kernel
theorem dX8_goesOn_3 : decode cX8_goesOn 3 = .ok (.invokevirtual 248, 3) := by decide +kernel
theorem dX8_goesOn_30 : decode cX8_goesOn 30 = .ok (.aload_n 0, 1) := by decide +kernel
theorem dX8_goesOn_31 : decode cX8_goesOn 31 = .ok (.iload_n 1, 1) := by decide +kernel
theorem dX8_goesOn_32 : decode cX8_goesOn 32 = .ok (.iconst 1, 1) := by decide +kernel
theorem dX8_goesOn_33 : decode cX8_goesOn 33 = .ok (.iadd, 1) := by decide +kernel
theorem dX8_goesOn_34 : decode cX8_goesOn 34 = .ok (.iconst 2, 1) := by decide +kernel
theorem dX8_goesOn_35 : decode cX8_goesOn 35 = .ok (.invokevirtual 248, 3) := by decide +kernel
theorem dX8_goesOn_38 : decode cX8_goesOn 38 = .ok (.iconst (-1), 1) := by decide +kernel
theorem dX8_goesOn_39 : decode cX8_goesOn 39 = .ok (.if_icmp .eq 4, 3) := by decide +kernel
theorem dX8_goesOn_42 : decode cX8_goesOn 42 = .ok (.return_, 1) := by decide +kernel
theorem dX8_goesOn_43 : decode cX8_goesOn 43 = .ok (.aload_n 0, 1) := by decide +kernel
theorem dX8_goesOn_44 : decode cX8_goesOn 44 = .ok (.iload_n 1, 1) := by decide +kernel
theorem dX8_goesOn_45 : decode cX8_goesOn 45 = .ok (.iconst 2, 1) := by decide +kernel
theorem dX8_goesOn_46 : decode cX8_goesOn 46 = .ok (.iconst (-1), 1) := by decide +kernel
theorem dX8_goesOn_47 : decode cX8_goesOn 47 = .ok (.invokevirtual 149, 3) := by decide +kernel
theorem dX8_goesOn_50 : decode cX8_goesOn 50 = .ok (.aload_n 0, 1) := by decide +kernel
theorem dX8_goesOn_51 : decode cX8_goesOn 51 = .ok (.iload_n 1, 1) := by decide +kernel
theorem dX8_goesOn_52 : decode cX8_goesOn 52 = .ok (.bipush 6, 2) := by decide +kernel
theorem dX8_goesOn_54 : decode cX8_goesOn 54 = .ok (.iconst 1, 1) := by decide +kernel
theorem dX8_goesOn_55 : decode cX8_goesOn 55 = .ok (.invokevirtual 302, 3) := by decide +kernel
theorem dX8_goesOn_58 : decode cX8_goesOn 58 = .ok (.iload_n 3, 1) := by decide +kernel
theorem dX8_goesOn_59 : decode cX8_goesOn 59 = .ok (.ifCond .ne 12, 3) := by decide +kernel
theorem dX8_goesOn_6 : decode cX8_goesOn 6 = .ok (.istore_n 2, 1) := by decide +kernel
theorem dX8_goesOn_62 : decode cX8_goesOn 62 = .ok (.aload_n 0, 1) := by decide +kernel
theorem dX8_goesOn_63 : decode cX8_goesOn 63 = .ok (.iload_n 1, 1) := by decide +kernel
theorem dX8_goesOn_64 : decode cX8_goesOn 64 = .ok (.iconst 1, 1) := by decide +kernel
theorem dX8_goesOn_65 : decode cX8_goesOn 65 = .ok (.iadd, 1) := by decide +kernel
theorem dX8_goesOn_66 : decode cX8_goesOn 66 = .ok (.iload_n 2, 1) := by decide +kernel
theorem dX8_goesOn_67 : decode cX8_goesOn 67 = .ok (.invokevirtual 311, 3) := by decide +kernel
theorem dX8_goesOn_7 : decode cX8_goesOn 7 = .ok (.iload_n 1, 1) := by decide +kernel
theorem dX8_goesOn_70 : decode cX8_goesOn 70 = .ok (.return_, 1) := by decide +kernel
theorem dX8_goesOn_71 : decode cX8_goesOn 71 = .ok (.aload_n 0, 1) := by decide +kernel
theorem dX8_goesOn_72 : decode cX8_goesOn 72 = .ok (.iload_n 2, 1) := by decide +kernel
theorem dX8_goesOn_73 : decode cX8_goesOn 73 = .ok (.iconst 4, 1) := by decide +kernel
theorem dX8_goesOn_74 : decode cX8_goesOn 74 = .ok (.iconst (-1), 1) := by decide +kernel
theorem dX8_goesOn_75 : decode cX8_goesOn 75 = .ok (.invokevirtual 130, 3) := by decide +kernel
theorem dX8_goesOn_78 : decode cX8_goesOn 78 = .ok (.aload_n 0, 1) := by decide +kernel
theorem dX8_goesOn_79 : decode cX8_goesOn 79 = .ok (.aload_n 0, 1) := by decide +kernel
theorem dX8_goesOn_8 : decode cX8_goesOn 8 = .ok (.aload_n 0, 1) := by decide +kernel
theorem dX8_goesOn_80 : decode cX8_goesOn 80 = .ok (.iload_n 2, 1) := by decide +kernel
theorem dX8_goesOn_81 : decode cX8_goesOn 81 = .ok (.iconst 0, 1) := by decide +kernel
theorem dX8_goesOn_82 : decode cX8_goesOn 82 = .ok (.invokevirtual 233, 3) := by decide +kernel
theorem dX8_goesOn_85 : decode cX8_goesOn 85 = .ok (.invokevirtual 267, 3) := by decide +kernel
theorem dX8_goesOn_88 : decode cX8_goesOn 88 = .ok (.iload_n 2, 1) := by decide +kernel
theorem dX8_goesOn_89 : decode cX8_goesOn 89 = .ok (.if_icmp .ne 11, 3) := by decide +kernel
theorem dX8_goesOn_9 : decode cX8_goesOn 9 = .ok (.getfield 9, 3) := by decide +kernel
theorem dX8_goesOn_92 : decode cX8_goesOn 92 = .ok (.aload_n 0, 1) := by decide +kernel
theorem dX8_goesOn_93 : decode cX8_goesOn 93 = .ok (.iload_n 2, 1) := by decide +kernel
theorem dX8_goesOn_94 : decode cX8_goesOn 94 = .ok (.invokevirtual 314, 3) := by decide +kernel
theorem dX8_goesOn_97 : decode cX8_goesOn 97 = .ok (.goto 61, 3) := by decide +kernel
theorem dX8_goes_0 : decode cX8_goes 0 = .ok (.iload_n 1, 1) := by decide +kernel
theorem dX8_goes_1 : decode cX8_goes 1 = .ok (.iconst 3, 1) := by decide +kernel
theorem dX8_goes_11 : decode cX8_goes 11 = .ok (.goto 4, 3) := by decide +kernel
theorem dX8_goes_14 : decode cX8_goes 14 = .ok (.iconst 0, 1) := by decide +kernel
theorem dX8_goes_15 : decode cX8_goes 15 = .ok (.istore_n 3, 1) := by decide +kernel
theorem dX8_goes_16 : decode cX8_goes 16 = .ok (.iconst 0, 1) := by decide +kernel
theorem dX8_goes_17 : decode cX8_goes 17 = .ok (.istore 4, 2) := by decide +kernel
theorem dX8_goes_19 : decode cX8_goes 19 = .ok (.iload 4, 2) := by decide +kernel
theorem dX8_goes_2 : decode cX8_goes 2 = .ok (.if_icmp .ne 12, 3) := by decide +kernel
theorem dX8_goes_21 : decode cX8_goes 21 = .ok (.sipush 2000, 3) := by decide +kernel
theorem dX8_goes_24 : decode cX8_goes 24 = .ok (.if_icmp .gt 34, 3) := by decide +kernel
theorem dX8_goes_27 : decode cX8_goes 27 = .ok (.aload_n 0, 1) := by decide +kernel
theorem dX8_goes_28 : decode cX8_goes 28 = .ok (.iload_n 1, 1) := by decide +kernel
theorem dX8_goes_29 : decode cX8_goes 29 = .ok (.iload_n 2, 1) := by decide +kernel
theorem dX8_goes_30 : decode cX8_goes 30 = .ok (.iload_n 3, 1) := by decide +kernel
theorem dX8_goes_31 : decode cX8_goes 31 = .ok (.invokevirtual 355, 3) := by decide +kernel
theorem dX8_goes_34 : decode cX8_goes 34 = .ok (.ifCond .eq 6, 3) := by decide +kernel
theorem dX8_goes_37 : decode cX8_goes 37 = .ok (.iload 4, 2) := by decide +kernel
theorem dX8_goes_39 : decode cX8_goes 39 = .ok (.ireturn, 1) := by decide +kernel
theorem dX8_goes_40 : decode cX8_goes 40 = .ok (.iload 4, 2) := by decide +kernel
theorem dX8_goes_42 : decode cX8_goes 42 = .ok (.sipush 2000, 3) := by decide +kernel
theorem dX8_goes_45 : decode cX8_goes 45 = .ok (.if_icmp .ge 7, 3) := by decide +kernel
theorem dX8_goes_48 : decode cX8_goes 48 = .ok (.aload_n 0, 1) := by decide +kernel
theorem dX8_goes_49 : decode cX8_goes 49 = .ok (.invokevirtual 349, 3) := by decide +kernel
theorem dX8_goes_5 : decode cX8_goes 5 = .ok (.aload_n 0, 1) := by decide +kernel
theorem dX8_goes_52 : decode cX8_goes 52 = .ok (.iinc 4 1, 3) := by decide +kernel
theorem dX8_goes_55 : decode cX8_goes 55 = .ok (.goto (-36), 3) := by decide +kernel
theorem dX8_goes_58 : decode cX8_goes 58 = .ok (.iconst (-1), 1) := by decide +kernel
theorem dX8_goes_59 : decode cX8_goes 59 = .ok (.ireturn, 1) := by decide +kernel
theorem dX8_goes_6 : decode cX8_goes 6 = .ok (.iload_n 2, 1) := by decide +kernel
theorem dX8_goes_7 : decode cX8_goes 7 = .ok (.iconst 5, 1) := by decide +kernel
theorem dX8_goes_8 : decode cX8_goes 8 = .ok (.invokevirtual 248, 3) := by decide +kernel
theorem dX8_group_0 : decode cX8_group 0 = .ok (.aload_n 0, 1) := by decide +kernel
theorem dX8_group_1 : decode cX8_group 1 = .ok (.getfield 65, 3) := by decide +kernel
theorem dX8_group_102 : decode cX8_group 102 = .ok (.aload_n 0, 1) := by decide +kernel
theorem dX8_group_103 : decode cX8_group 103 = .ok (.getfield 75, 3) := by decide +kernel
theorem dX8_group_106 : decode cX8_group 106 = .ok (.ifCond .ne 9, 3) := by decide +kernel
theorem dX8_group_109 : decode cX8_group 109 = .ok (.aload_n 0, 1) := by decide +kernel
theorem dX8_group_110 : decode cX8_group 110 = .ok (.iload_n 1, 1) := by decide +kernel
theorem dX8_group_111 : decode cX8_group 111 = .ok (.iload_n 3, 1) := by decide +kernel
theorem dX8_group_112 : decode cX8_group 112 = .ok (.invokevirtual 127, 3) := by decide +kernel
theorem dX8_group_115 : decode cX8_group 115 = .ok (.return_, 1) := by decide +kernel
theorem dX8_group_12 : decode cX8_group 12 = .ok (.istore_n 3, 1) := by decide +kernel
theorem dX8_group_13 : decode cX8_group 13 = .ok (.aload_n 0, 1) := by decide +kernel
theorem dX8_group_14 : decode cX8_group 14 = .ok (.getfield 75, 3) := by decide +kernel
theorem dX8_group_17 : decode cX8_group 17 = .ok (.ifCond .ne 18, 3) := by decide +kernel
theorem dX8_group_20 : decode cX8_group 20 = .ok (.iload_n 1, 1) := by decide +kernel
theorem dX8_group_21 : decode cX8_group 21 = .ok (.iconst 3, 1) := by decide +kernel
theorem dX8_group_22 : decode cX8_group 22 = .ok (.if_icmp .ne 13, 3) := by decide +kernel
theorem dX8_group_25 : decode cX8_group 25 = .ok (.aload_n 0, 1) := by decide +kernel
theorem dX8_group_26 : decode cX8_group 26 = .ok (.iload_n 2, 1) := by decide +kernel
theorem dX8_group_27 : decode cX8_group 27 = .ok (.putfield 72, 3) := by decide +kernel
theorem dX8_group_30 : decode cX8_group 30 = .ok (.aload_n 0, 1) := by decide +kernel
theorem dX8_group_31 : decode cX8_group 31 = .ok (.iconst 3, 1) := by decide +kernel
theorem dX8_group_32 : decode cX8_group 32 = .ok (.invokevirtual 100, 3) := by decide +kernel
theorem dX8_group_35 : decode cX8_group 35 = .ok (.aload_n 0, 1) := by decide +kernel
theorem dX8_group_36 : decode cX8_group 36 = .ok (.getfield 75, 3) := by decide +kernel
theorem dX8_group_39 : decode cX8_group 39 = .ok (.ifCond .ne 17, 3) := by decide +kernel
theorem dX8_group_4 : decode cX8_group 4 = .ok (.istore_n 2, 1) := by decide +kernel
theorem dX8_group_42 : decode cX8_group 42 = .ok (.aload_n 0, 1) := by decide +kernel
theorem dX8_group_43 : decode cX8_group 43 = .ok (.invokevirtual 81, 3) := by decide +kernel
theorem dX8_group_46 : decode cX8_group 46 = .ok (.bipush 40, 2) := by decide +kernel
theorem dX8_group_48 : decode cX8_group 48 = .ok (.if_icmp .eq 8, 3) := by decide +kernel
theorem dX8_group_5 : decode cX8_group 5 = .ok (.aload_n 0, 1) := by decide +kernel
theorem dX8_group_51 : decode cX8_group 51 = .ok (.aload_n 0, 1) := by decide +kernel
theorem dX8_group_52 : decode cX8_group 52 = .ok (.iconst 1, 1) := by decide +kernel
theorem dX8_group_53 : decode cX8_group 53 = .ok (.invokevirtual 100, 3) := by decide +kernel
theorem dX8_group_56 : decode cX8_group 56 = .ok (.aload_n 0, 1) := by decide +kernel
theorem dX8_group_57 : decode cX8_group 57 = .ok (.getfield 75, 3) := by decide +kernel
theorem dX8_group_6 : decode cX8_group 6 = .ok (.iconst 2, 1) := by decide +kernel
theorem dX8_group_60 : decode cX8_group 60 = .ok (.ifCond .eq 4, 3) := by decide +kernel
theorem dX8_group_63 : decode cX8_group 63 = .ok (.return_, 1) := by decide +kernel
theorem dX8_group_64 : decode cX8_group 64 = .ok (.aload_n 0, 1) := by decide +kernel
theorem dX8_group_65 : decode cX8_group 65 = .ok (.dup, 1) := by decide +kernel
theorem dX8_group_66 : decode cX8_group 66 = .ok (.getfield 65, 3) := by decide +kernel
theorem dX8_group_69 : decode cX8_group 69 = .ok (.iconst 1, 1) := by decide +kernel
theorem dX8_group_7 : decode cX8_group 7 = .ok (.bipush 9, 2) := by decide +kernel
theorem dX8_group_70 : decode cX8_group 70 = .ok (.iadd, 1) := by decide +kernel
theorem dX8_group_71 : decode cX8_group 71 = .ok (.putfield 65, 3) := by decide +kernel
theorem dX8_group_74 : decode cX8_group 74 = .ok (.aload_n 0, 1) := by decide +kernel
theorem dX8_group_75 : decode cX8_group 75 = .ok (.iload_n 1, 1) := by decide +kernel
theorem dX8_group_76 : decode cX8_group 76 = .ok (.iconst 1, 1) := by decide +kernel
theorem dX8_group_77 : decode cX8_group 77 = .ok (.iadd, 1) := by decide +kernel
theorem dX8_group_78 : decode cX8_group 78 = .ok (.invokevirtual 124, 3) := by decide +kernel
theorem dX8_group_81 : decode cX8_group 81 = .ok (.aload_n 0, 1) := by decide +kernel
theorem dX8_group_82 : decode cX8_group 82 = .ok (.getfield 75, 3) := by decide +kernel
theorem dX8_group_85 : decode cX8_group 85 = .ok (.ifCond .ne 17, 3) := by decide +kernel
theorem dX8_group_88 : decode cX8_group 88 = .ok (.aload_n 0, 1) := by decide +kernel
theorem dX8_group_89 : decode cX8_group 89 = .ok (.invokevirtual 81, 3) := by decide +kernel
theorem dX8_group_9 : decode cX8_group 9 = .ok (.invokevirtual 121, 3) := by decide +kernel
theorem dX8_group_92 : decode cX8_group 92 = .ok (.bipush 41, 2) := by decide +kernel
theorem dX8_group_94 : decode cX8_group 94 = .ok (.if_icmp .eq 8, 3) := by decide +kernel
theorem dX8_group_97 : decode cX8_group 97 = .ok (.aload_n 0, 1) := by decide +kernel
theorem dX8_group_98 : decode cX8_group 98 = .ok (.iconst 1, 1) := by decide +kernel
theorem dX8_group_99 : decode cX8_group 99 = .ok (.invokevirtual 100, 3) := by decide +kernel
theorem dX8_grows_0 : decode cX8_grows 0 = .ok (.aload_n 0, 1) := by decide +kernel
theorem dX8_grows_1 : decode cX8_grows 1 = .ok (.getfield 9, 3) := by decide +kernel
theorem dX8_grows_10 : decode cX8_grows 10 = .ok (.iadd, 1) := by decide +kernel
theorem dX8_grows_11 : decode cX8_grows 11 = .ok (.iload_n 2, 1) := by decide +kernel
theorem dX8_grows_12 : decode cX8_grows 12 = .ok (.iadd, 1) := by decide +kernel
theorem dX8_grows_13 : decode cX8_grows 13 = .ok (.dup2, 1) := by decide +kernel
theorem dX8_grows_14 : decode cX8_grows 14 = .ok (.iaload, 1) := by decide +kernel
theorem dX8_grows_15 : decode cX8_grows 15 = .ok (.iload_n 3, 1) := by decide +kernel
theorem dX8_grows_16 : decode cX8_grows 16 = .ok (.iadd, 1) := by decide +kernel
theorem dX8_grows_17 : decode cX8_grows 17 = .ok (.iastore, 1) := by decide +kernel
theorem dX8_grows_18 : decode cX8_grows 18 = .ok (.return_, 1) := by decide +kernel
theorem dX8_grows_4 : decode cX8_grows 4 = .ok (.bipush 17, 2) := by decide +kernel
theorem dX8_grows_6 : decode cX8_grows 6 = .ok (.bipush 16, 2) := by decide +kernel
theorem dX8_grows_8 : decode cX8_grows 8 = .ok (.iload_n 1, 1) := by decide +kernel
theorem dX8_grows_9 : decode cX8_grows 9 = .ok (.imul, 1) := by decide +kernel
theorem dX8_here_0 : decode cX8_here 0 = .ok (.aload_n 0, 1) := by decide +kernel
theorem dX8_here_1 : decode cX8_here 1 = .ok (.getfield 65, 3) := by decide +kernel
theorem dX8_here_11 : decode cX8_here 11 = .ok (.aload_n 0, 1) := by decide +kernel
theorem dX8_here_12 : decode cX8_here 12 = .ok (.getfield 26, 3) := by decide +kernel
theorem dX8_here_15 : decode cX8_here 15 = .ok (.aload_n 0, 1) := by decide +kernel
theorem dX8_here_16 : decode cX8_here 16 = .ok (.getfield 65, 3) := by decide +kernel
theorem dX8_here_19 : decode cX8_here 19 = .ok (.baload, 1) := by decide +kernel
theorem dX8_here_20 : decode cX8_here 20 = .ok (.sipush 255, 3) := by decide +kernel
theorem dX8_here_23 : decode cX8_here 23 = .ok (.iand, 1) := by decide +kernel
theorem dX8_here_24 : decode cX8_here 24 = .ok (.goto 4, 3) := by decide +kernel
theorem dX8_here_27 : decode cX8_here 27 = .ok (.iconst (-1), 1) := by decide +kernel
theorem dX8_here_28 : decode cX8_here 28 = .ok (.ireturn, 1) := by decide +kernel
theorem dX8_here_4 : decode cX8_here 4 = .ok (.aload_n 0, 1) := by decide +kernel
theorem dX8_here_5 : decode cX8_here 5 = .ok (.getfield 62, 3) := by decide +kernel
theorem dX8_here_8 : decode cX8_here 8 = .ok (.if_icmp .ge 19, 3) := by decide +kernel
theorem dX8_inStateOf_0 : decode cX8_inStateOf 0 = .ok (.iconst 0, 1) := by decide +kernel
theorem dX8_inStateOf_1 : decode cX8_inStateOf 1 = .ok (.istore_n 3, 1) := by decide +kernel
theorem dX8_inStateOf_11 : decode cX8_inStateOf 11 = .ok (.bipush 9, 2) := by decide +kernel
theorem dX8_inStateOf_13 : decode cX8_inStateOf 13 = .ok (.iaload, 1) := by decide +kernel
theorem dX8_inStateOf_14 : decode cX8_inStateOf 14 = .ok (.if_icmp .ge 39, 3) := by decide +kernel
theorem dX8_inStateOf_17 : decode cX8_inStateOf 17 = .ok (.iload_n 3, 1) := by decide +kernel
theorem dX8_inStateOf_18 : decode cX8_inStateOf 18 = .ok (.aload_n 0, 1) := by decide +kernel
theorem dX8_inStateOf_19 : decode cX8_inStateOf 19 = .ok (.iload 4, 2) := by decide +kernel
theorem dX8_inStateOf_2 : decode cX8_inStateOf 2 = .ok (.iconst 0, 1) := by decide +kernel
theorem dX8_inStateOf_21 : decode cX8_inStateOf 21 = .ok (.iconst 0, 1) := by decide +kernel
theorem dX8_inStateOf_22 : decode cX8_inStateOf 22 = .ok (.invokevirtual 233, 3) := by decide +kernel
theorem dX8_inStateOf_25 : decode cX8_inStateOf 25 = .ok (.iload_n 1, 1) := by decide +kernel
theorem dX8_inStateOf_26 : decode cX8_inStateOf 26 = .ok (.if_icmp .ne 18, 3) := by decide +kernel
theorem dX8_inStateOf_29 : decode cX8_inStateOf 29 = .ok (.aload_n 0, 1) := by decide +kernel
theorem dX8_inStateOf_3 : decode cX8_inStateOf 3 = .ok (.istore 4, 2) := by decide +kernel
theorem dX8_inStateOf_30 : decode cX8_inStateOf 30 = .ok (.iload 4, 2) := by decide +kernel
theorem dX8_inStateOf_32 : decode cX8_inStateOf 32 = .ok (.iconst 3, 1) := by decide +kernel
theorem dX8_inStateOf_33 : decode cX8_inStateOf 33 = .ok (.invokevirtual 233, 3) := by decide +kernel
theorem dX8_inStateOf_36 : decode cX8_inStateOf 36 = .ok (.iload_n 2, 1) := by decide +kernel
theorem dX8_inStateOf_37 : decode cX8_inStateOf 37 = .ok (.if_icmp .ne 7, 3) := by decide +kernel
theorem dX8_inStateOf_40 : decode cX8_inStateOf 40 = .ok (.iconst 1, 1) := by decide +kernel
theorem dX8_inStateOf_41 : decode cX8_inStateOf 41 = .ok (.goto 4, 3) := by decide +kernel
theorem dX8_inStateOf_44 : decode cX8_inStateOf 44 = .ok (.iconst 0, 1) := by decide +kernel
theorem dX8_inStateOf_45 : decode cX8_inStateOf 45 = .ok (.iadd, 1) := by decide +kernel
theorem dX8_inStateOf_46 : decode cX8_inStateOf 46 = .ok (.istore_n 3, 1) := by decide +kernel
theorem dX8_inStateOf_47 : decode cX8_inStateOf 47 = .ok (.iinc 4 1, 3) := by decide +kernel
theorem dX8_inStateOf_5 : decode cX8_inStateOf 5 = .ok (.iload 4, 2) := by decide +kernel
theorem dX8_inStateOf_50 : decode cX8_inStateOf 50 = .ok (.goto (-45), 3) := by decide +kernel
theorem dX8_inStateOf_53 : decode cX8_inStateOf 53 = .ok (.iload_n 3, 1) := by decide +kernel
theorem dX8_inStateOf_54 : decode cX8_inStateOf 54 = .ok (.ireturn, 1) := by decide +kernel
theorem dX8_inStateOf_7 : decode cX8_inStateOf 7 = .ok (.aload_n 0, 1) := by decide +kernel
theorem dX8_inStateOf_8 : decode cX8_inStateOf 8 = .ok (.getfield 9, 3) := by decide +kernel
theorem dX8_inState_0 : decode cX8_inState 0 = .ok (.iconst 0, 1) := by decide +kernel
theorem dX8_inState_1 : decode cX8_inState 1 = .ok (.istore_n 2, 1) := by decide +kernel
theorem dX8_inState_11 : decode cX8_inState 11 = .ok (.iaload, 1) := by decide +kernel
theorem dX8_inState_12 : decode cX8_inState 12 = .ok (.if_icmp .ge 27, 3) := by decide +kernel
theorem dX8_inState_15 : decode cX8_inState 15 = .ok (.iload_n 2, 1) := by decide +kernel
theorem dX8_inState_16 : decode cX8_inState 16 = .ok (.aload_n 0, 1) := by decide +kernel
theorem dX8_inState_17 : decode cX8_inState 17 = .ok (.iload_n 3, 1) := by decide +kernel
theorem dX8_inState_18 : decode cX8_inState 18 = .ok (.iconst 3, 1) := by decide +kernel
theorem dX8_inState_19 : decode cX8_inState 19 = .ok (.invokevirtual 233, 3) := by decide +kernel
theorem dX8_inState_2 : decode cX8_inState 2 = .ok (.iconst 0, 1) := by decide +kernel
theorem dX8_inState_22 : decode cX8_inState 22 = .ok (.iload_n 1, 1) := by decide +kernel
theorem dX8_inState_23 : decode cX8_inState 23 = .ok (.if_icmp .ne 7, 3) := by decide +kernel
theorem dX8_inState_26 : decode cX8_inState 26 = .ok (.iconst 1, 1) := by decide +kernel
theorem dX8_inState_27 : decode cX8_inState 27 = .ok (.goto 4, 3) := by decide +kernel
theorem dX8_inState_3 : decode cX8_inState 3 = .ok (.istore_n 3, 1) := by decide +kernel
theorem dX8_inState_30 : decode cX8_inState 30 = .ok (.iconst 0, 1) := by decide +kernel
theorem dX8_inState_31 : decode cX8_inState 31 = .ok (.iadd, 1) := by decide +kernel
theorem dX8_inState_32 : decode cX8_inState 32 = .ok (.istore_n 2, 1) := by decide +kernel
theorem dX8_inState_33 : decode cX8_inState 33 = .ok (.iinc 3 1, 3) := by decide +kernel
theorem dX8_inState_36 : decode cX8_inState 36 = .ok (.goto (-32), 3) := by decide +kernel
theorem dX8_inState_39 : decode cX8_inState 39 = .ok (.iload_n 2, 1) := by decide +kernel
theorem dX8_inState_4 : decode cX8_inState 4 = .ok (.iload_n 3, 1) := by decide +kernel
theorem dX8_inState_40 : decode cX8_inState 40 = .ok (.ireturn, 1) := by decide +kernel
theorem dX8_inState_5 : decode cX8_inState 5 = .ok (.aload_n 0, 1) := by decide +kernel
theorem dX8_inState_6 : decode cX8_inState 6 = .ok (.getfield 9, 3) := by decide +kernel
theorem dX8_inState_9 : decode cX8_inState 9 = .ok (.bipush 9, 2) := by decide +kernel
theorem dX8_in_0 : decode cX8_in 0 = .ok (.lload_n 0, 1) := by decide +kernel
theorem dX8_in_1 : decode cX8_in 1 = .ok (.lload_n 2, 1) := by decide +kernel
theorem dX8_in_10 : decode cX8_in 10 = .ok (.ifCond .gt 7, 3) := by decide +kernel
theorem dX8_in_13 : decode cX8_in 13 = .ok (.iconst 1, 1) := by decide +kernel
theorem dX8_in_14 : decode cX8_in 14 = .ok (.goto 4, 3) := by decide +kernel
theorem dX8_in_17 : decode cX8_in 17 = .ok (.iconst 0, 1) := by decide +kernel
theorem dX8_in_18 : decode cX8_in 18 = .ok (.ireturn, 1) := by decide +kernel
theorem dX8_in_2 : decode cX8_in 2 = .ok (.lcmp, 1) := by decide +kernel
theorem dX8_in_3 : decode cX8_in 3 = .ok (.ifCond .lt 14, 3) := by decide +kernel
theorem dX8_in_6 : decode cX8_in 6 = .ok (.lload_n 0, 1) := by decide +kernel
theorem dX8_in_7 : decode cX8_in 7 = .ok (.lload 4, 2) := by decide +kernel
theorem dX8_in_9 : decode cX8_in 9 = .ok (.lcmp, 1) := by decide +kernel
theorem dX8_isAhead_0 : decode cX8_isAhead 0 = .ok (.aload_n 0, 1) := by decide +kernel
theorem dX8_isAhead_1 : decode cX8_isAhead 1 = .ok (.iload_n 1, 1) := by decide +kernel
theorem dX8_isAhead_11 : decode cX8_isAhead 11 = .ok (.istore 4, 2) := by decide +kernel
theorem dX8_isAhead_13 : decode cX8_isAhead 13 = .ok (.iload_n 3, 1) := by decide +kernel
theorem dX8_isAhead_14 : decode cX8_isAhead 14 = .ok (.iload 4, 2) := by decide +kernel
theorem dX8_isAhead_16 : decode cX8_isAhead 16 = .ok (.if_icmp .eq 15, 3) := by decide +kernel
theorem dX8_isAhead_19 : decode cX8_isAhead 19 = .ok (.iload_n 3, 1) := by decide +kernel
theorem dX8_isAhead_2 : decode cX8_isAhead 2 = .ok (.invokevirtual 272, 3) := by decide +kernel
theorem dX8_isAhead_20 : decode cX8_isAhead 20 = .ok (.iload 4, 2) := by decide +kernel
theorem dX8_isAhead_22 : decode cX8_isAhead 22 = .ok (.if_icmp .ge 7, 3) := by decide +kernel
theorem dX8_isAhead_25 : decode cX8_isAhead 25 = .ok (.iconst 1, 1) := by decide +kernel
theorem dX8_isAhead_26 : decode cX8_isAhead 26 = .ok (.goto 4, 3) := by decide +kernel
theorem dX8_isAhead_29 : decode cX8_isAhead 29 = .ok (.iconst 0, 1) := by decide +kernel
theorem dX8_isAhead_30 : decode cX8_isAhead 30 = .ok (.ireturn, 1) := by decide +kernel
theorem dX8_isAhead_31 : decode cX8_isAhead 31 = .ok (.iload_n 3, 1) := by decide +kernel
theorem dX8_isAhead_32 : decode cX8_isAhead 32 = .ok (.iconst 2, 1) := by decide +kernel
theorem dX8_isAhead_33 : decode cX8_isAhead 33 = .ok (.if_icmp .ne 20, 3) := by decide +kernel
theorem dX8_isAhead_36 : decode cX8_isAhead 36 = .ok (.aload_n 0, 1) := by decide +kernel
theorem dX8_isAhead_37 : decode cX8_isAhead 37 = .ok (.iload_n 1, 1) := by decide +kernel
theorem dX8_isAhead_38 : decode cX8_isAhead 38 = .ok (.invokevirtual 275, 3) := by decide +kernel
theorem dX8_isAhead_41 : decode cX8_isAhead 41 = .ok (.aload_n 0, 1) := by decide +kernel
theorem dX8_isAhead_42 : decode cX8_isAhead 42 = .ok (.iload_n 2, 1) := by decide +kernel
theorem dX8_isAhead_43 : decode cX8_isAhead 43 = .ok (.invokevirtual 275, 3) := by decide +kernel
theorem dX8_isAhead_46 : decode cX8_isAhead 46 = .ok (.if_icmp .le 7, 3) := by decide +kernel
theorem dX8_isAhead_49 : decode cX8_isAhead 49 = .ok (.iconst 1, 1) := by decide +kernel
theorem dX8_isAhead_5 : decode cX8_isAhead 5 = .ok (.istore_n 3, 1) := by decide +kernel
theorem dX8_isAhead_50 : decode cX8_isAhead 50 = .ok (.goto 4, 3) := by decide +kernel
theorem dX8_isAhead_53 : decode cX8_isAhead 53 = .ok (.iconst 0, 1) := by decide +kernel
theorem dX8_isAhead_54 : decode cX8_isAhead 54 = .ok (.ireturn, 1) := by decide +kernel
theorem dX8_isAhead_6 : decode cX8_isAhead 6 = .ok (.aload_n 0, 1) := by decide +kernel
theorem dX8_isAhead_7 : decode cX8_isAhead 7 = .ok (.iload_n 2, 1) := by decide +kernel
theorem dX8_isAhead_8 : decode cX8_isAhead 8 = .ok (.invokevirtual 272, 3) := by decide +kernel
theorem dX8_isBad_0 : decode cX8_isBad 0 = .ok (.aload_n 0, 1) := by decide +kernel
theorem dX8_isBad_1 : decode cX8_isBad 1 = .ok (.iload_n 1, 1) := by decide +kernel
theorem dX8_isBad_10 : decode cX8_isBad 10 = .ok (.invokevirtual 248, 3) := by decide +kernel
theorem dX8_isBad_13 : decode cX8_isBad 13 = .ok (.aload_n 0, 1) := by decide +kernel
theorem dX8_isBad_14 : decode cX8_isBad 14 = .ok (.iload_n 1, 1) := by decide +kernel
theorem dX8_isBad_15 : decode cX8_isBad 15 = .ok (.bipush 14, 2) := by decide +kernel
theorem dX8_isBad_17 : decode cX8_isBad 17 = .ok (.invokevirtual 248, 3) := by decide +kernel
theorem dX8_isBad_2 : decode cX8_isBad 2 = .ok (.bipush 15, 2) := by decide +kernel
theorem dX8_isBad_20 : decode cX8_isBad 20 = .ok (.irem, 1) := by decide +kernel
theorem dX8_isBad_21 : decode cX8_isBad 21 = .ok (.ishr, 1) := by decide +kernel
theorem dX8_isBad_22 : decode cX8_isBad 22 = .ok (.iconst 1, 1) := by decide +kernel
theorem dX8_isBad_23 : decode cX8_isBad 23 = .ok (.iand, 1) := by decide +kernel
theorem dX8_isBad_24 : decode cX8_isBad 24 = .ok (.iconst 1, 1) := by decide +kernel
theorem dX8_isBad_25 : decode cX8_isBad 25 = .ok (.if_icmp .ne 7, 3) := by decide +kernel
theorem dX8_isBad_28 : decode cX8_isBad 28 = .ok (.iconst 1, 1) := by decide +kernel
theorem dX8_isBad_29 : decode cX8_isBad 29 = .ok (.goto 4, 3) := by decide +kernel
theorem dX8_isBad_32 : decode cX8_isBad 32 = .ok (.iconst 0, 1) := by decide +kernel
theorem dX8_isBad_33 : decode cX8_isBad 33 = .ok (.istore_n 2, 1) := by decide +kernel
theorem dX8_isBad_34 : decode cX8_isBad 34 = .ok (.aload_n 0, 1) := by decide +kernel
theorem dX8_isBad_35 : decode cX8_isBad 35 = .ok (.iload_n 1, 1) := by decide +kernel
theorem dX8_isBad_36 : decode cX8_isBad 36 = .ok (.iconst 4, 1) := by decide +kernel
theorem dX8_isBad_37 : decode cX8_isBad 37 = .ok (.iconst 1, 1) := by decide +kernel
theorem dX8_isBad_38 : decode cX8_isBad 38 = .ok (.invokevirtual 302, 3) := by decide +kernel
theorem dX8_isBad_4 : decode cX8_isBad 4 = .ok (.invokevirtual 248, 3) := by decide +kernel
theorem dX8_isBad_41 : decode cX8_isBad 41 = .ok (.aload_n 0, 1) := by decide +kernel
theorem dX8_isBad_42 : decode cX8_isBad 42 = .ok (.iload_n 1, 1) := by decide +kernel
theorem dX8_isBad_43 : decode cX8_isBad 43 = .ok (.bipush 13, 2) := by decide +kernel
theorem dX8_isBad_45 : decode cX8_isBad 45 = .ok (.iconst 1, 1) := by decide +kernel
theorem dX8_isBad_46 : decode cX8_isBad 46 = .ok (.invokevirtual 302, 3) := by decide +kernel
theorem dX8_isBad_49 : decode cX8_isBad 49 = .ok (.aload_n 0, 1) := by decide +kernel
theorem dX8_isBad_50 : decode cX8_isBad 50 = .ok (.iload_n 1, 1) := by decide +kernel
theorem dX8_isBad_51 : decode cX8_isBad 51 = .ok (.bipush 9, 2) := by decide +kernel
theorem dX8_isBad_53 : decode cX8_isBad 53 = .ok (.invokevirtual 248, 3) := by decide +kernel
theorem dX8_isBad_56 : decode cX8_isBad 56 = .ok (.ifCond .le 42, 3) := by decide +kernel
theorem dX8_isBad_59 : decode cX8_isBad 59 = .ok (.aload_n 0, 1) := by decide +kernel
theorem dX8_isBad_60 : decode cX8_isBad 60 = .ok (.iload_n 1, 1) := by decide +kernel
theorem dX8_isBad_61 : decode cX8_isBad 61 = .ok (.bipush 13, 2) := by decide +kernel
theorem dX8_isBad_63 : decode cX8_isBad 63 = .ok (.invokevirtual 248, 3) := by decide +kernel
theorem dX8_isBad_66 : decode cX8_isBad 66 = .ok (.aload_n 0, 1) := by decide +kernel
theorem dX8_isBad_67 : decode cX8_isBad 67 = .ok (.iload_n 1, 1) := by decide +kernel
theorem dX8_isBad_68 : decode cX8_isBad 68 = .ok (.bipush 9, 2) := by decide +kernel
theorem dX8_isBad_7 : decode cX8_isBad 7 = .ok (.aload_n 0, 1) := by decide +kernel
theorem dX8_isBad_70 : decode cX8_isBad 70 = .ok (.invokevirtual 248, 3) := by decide +kernel
theorem dX8_isBad_73 : decode cX8_isBad 73 = .ok (.if_icmp .lt 25, 3) := by decide +kernel
theorem dX8_isBad_76 : decode cX8_isBad 76 = .ok (.aload_n 0, 1) := by decide +kernel
theorem dX8_isBad_77 : decode cX8_isBad 77 = .ok (.iload_n 1, 1) := by decide +kernel
theorem dX8_isBad_78 : decode cX8_isBad 78 = .ok (.bipush 11, 2) := by decide +kernel
theorem dX8_isBad_8 : decode cX8_isBad 8 = .ok (.iload_n 1, 1) := by decide +kernel
theorem dX8_isBad_80 : decode cX8_isBad 80 = .ok (.aload_n 0, 1) := by decide +kernel
theorem dX8_isBad_81 : decode cX8_isBad 81 = .ok (.iload_n 1, 1) := by decide +kernel
theorem dX8_isBad_82 : decode cX8_isBad 82 = .ok (.bipush 10, 2) := by decide +kernel
theorem dX8_isBad_84 : decode cX8_isBad 84 = .ok (.invokevirtual 248, 3) := by decide +kernel
theorem dX8_isBad_87 : decode cX8_isBad 87 = .ok (.invokevirtual 149, 3) := by decide +kernel
theorem dX8_isBad_9 : decode cX8_isBad 9 = .ok (.iconst 4, 1) := by decide +kernel
theorem dX8_isBad_90 : decode cX8_isBad 90 = .ok (.aload_n 0, 1) := by decide +kernel
theorem dX8_isBad_91 : decode cX8_isBad 91 = .ok (.iload_n 1, 1) := by decide +kernel
theorem dX8_isBad_92 : decode cX8_isBad 92 = .ok (.bipush 13, 2) := by decide +kernel
theorem dX8_isBad_94 : decode cX8_isBad 94 = .ok (.iconst 0, 1) := by decide +kernel
theorem dX8_isBad_95 : decode cX8_isBad 95 = .ok (.invokevirtual 149, 3) := by decide +kernel
theorem dX8_isBad_98 : decode cX8_isBad 98 = .ok (.iload_n 2, 1) := by decide +kernel
theorem dX8_isBad_99 : decode cX8_isBad 99 = .ok (.ireturn, 1) := by decide +kernel
theorem dX8_isCard_0 : decode cX8_isCard 0 = .ok (.iload_n 1, 1) := by decide +kernel
theorem dX8_isCard_1 : decode cX8_isCard 1 = .ok (.i2l, 1) := by decide +kernel
theorem dX8_isCard_10 : decode cX8_isCard 10 = .ok (.iconst 1, 1) := by decide +kernel
theorem dX8_isCard_11 : decode cX8_isCard 11 = .ok (.isub, 1) := by decide +kernel
theorem dX8_isCard_12 : decode cX8_isCard 12 = .ok (.i2l, 1) := by decide +kernel
theorem dX8_isCard_13 : decode cX8_isCard 13 = .ok (.invokestatic 52, 3) := by decide +kernel
theorem dX8_isCard_16 : decode cX8_isCard 16 = .ok (.ireturn, 1) := by decide +kernel
theorem dX8_isCard_2 : decode cX8_isCard 2 = .ok (.lconst 0, 1) := by decide +kernel
theorem dX8_isCard_3 : decode cX8_isCard 3 = .ok (.aload_n 0, 1) := by decide +kernel
theorem dX8_isCard_4 : decode cX8_isCard 4 = .ok (.getfield 9, 3) := by decide +kernel
theorem dX8_isCard_7 : decode cX8_isCard 7 = .ok (.bipush 9, 2) := by decide +kernel
theorem dX8_isCard_9 : decode cX8_isCard 9 = .ok (.iaload, 1) := by decide +kernel
theorem dX8_isFinished_0 : decode cX8_isFinished 0 = .ok (.aload_n 0, 1) := by decide +kernel
theorem dX8_isFinished_1 : decode cX8_isFinished 1 = .ok (.iload_n 1, 1) := by decide +kernel
theorem dX8_isFinished_10 : decode cX8_isFinished 10 = .ok (.iconst 1, 1) := by decide +kernel
theorem dX8_isFinished_11 : decode cX8_isFinished 11 = .ok (.goto 4, 3) := by decide +kernel
theorem dX8_isFinished_14 : decode cX8_isFinished 14 = .ok (.iconst 0, 1) := by decide +kernel
theorem dX8_isFinished_15 : decode cX8_isFinished 15 = .ok (.ireturn, 1) := by decide +kernel
theorem dX8_isFinished_2 : decode cX8_isFinished 2 = .ok (.iconst 3, 1) := by decide +kernel
theorem dX8_isFinished_3 : decode cX8_isFinished 3 = .ok (.invokevirtual 233, 3) := by decide +kernel
theorem dX8_isFinished_6 : decode cX8_isFinished 6 = .ok (.iconst 3, 1) := by decide +kernel
theorem dX8_isFinished_7 : decode cX8_isFinished 7 = .ok (.if_icmp .lt 7, 3) := by decide +kernel
theorem dX8_isLot_0 : decode cX8_isLot 0 = .ok (.iload_n 1, 1) := by decide +kernel
theorem dX8_isLot_1 : decode cX8_isLot 1 = .ok (.i2l, 1) := by decide +kernel
theorem dX8_isLot_10 : decode cX8_isLot 10 = .ok (.iconst 1, 1) := by decide +kernel
theorem dX8_isLot_11 : decode cX8_isLot 11 = .ok (.isub, 1) := by decide +kernel
theorem dX8_isLot_12 : decode cX8_isLot 12 = .ok (.i2l, 1) := by decide +kernel
theorem dX8_isLot_13 : decode cX8_isLot 13 = .ok (.invokestatic 52, 3) := by decide +kernel
theorem dX8_isLot_16 : decode cX8_isLot 16 = .ok (.ireturn, 1) := by decide +kernel
theorem dX8_isLot_2 : decode cX8_isLot 2 = .ok (.lconst 0, 1) := by decide +kernel
theorem dX8_isLot_3 : decode cX8_isLot 3 = .ok (.aload_n 0, 1) := by decide +kernel
theorem dX8_isLot_4 : decode cX8_isLot 4 = .ok (.getfield 9, 3) := by decide +kernel
theorem dX8_isLot_7 : decode cX8_isLot 7 = .ok (.bipush 8, 2) := by decide +kernel
theorem dX8_isLot_9 : decode cX8_isLot 9 = .ok (.iaload, 1) := by decide +kernel
theorem dX8_isMet_0 : decode cX8_isMet 0 = .ok (.iload_n 1, 1) := by decide +kernel
theorem dX8_isMet_1 : decode cX8_isMet 1 = .ok (.tableswitch 75 0 3 #[31, 47, 53, 59], 31) := by decide +kernel
theorem dX8_isMet_32 : decode cX8_isMet 32 = .ok (.aload_n 0, 1) := by decide +kernel
theorem dX8_isMet_33 : decode cX8_isMet 33 = .ok (.iload_n 2, 1) := by decide +kernel
theorem dX8_isMet_34 : decode cX8_isMet 34 = .ok (.iconst 3, 1) := by decide +kernel
theorem dX8_isMet_35 : decode cX8_isMet 35 = .ok (.invokevirtual 233, 3) := by decide +kernel
theorem dX8_isMet_38 : decode cX8_isMet 38 = .ok (.iconst 3, 1) := by decide +kernel
theorem dX8_isMet_39 : decode cX8_isMet 39 = .ok (.if_icmp .ne 7, 3) := by decide +kernel
theorem dX8_isMet_42 : decode cX8_isMet 42 = .ok (.iconst 1, 1) := by decide +kernel
theorem dX8_isMet_43 : decode cX8_isMet 43 = .ok (.goto 4, 3) := by decide +kernel
theorem dX8_isMet_46 : decode cX8_isMet 46 = .ok (.iconst 0, 1) := by decide +kernel
theorem dX8_isMet_47 : decode cX8_isMet 47 = .ok (.ireturn, 1) := by decide +kernel
theorem dX8_isMet_48 : decode cX8_isMet 48 = .ok (.aload_n 0, 1) := by decide +kernel
theorem dX8_isMet_49 : decode cX8_isMet 49 = .ok (.iload_n 2, 1) := by decide +kernel
theorem dX8_isMet_50 : decode cX8_isMet 50 = .ok (.invokevirtual 352, 3) := by decide +kernel
theorem dX8_isMet_53 : decode cX8_isMet 53 = .ok (.ireturn, 1) := by decide +kernel
theorem dX8_isMet_54 : decode cX8_isMet 54 = .ok (.aload_n 0, 1) := by decide +kernel
theorem dX8_isMet_55 : decode cX8_isMet 55 = .ok (.iconst (-1), 1) := by decide +kernel
theorem dX8_isMet_56 : decode cX8_isMet 56 = .ok (.invokevirtual 352, 3) := by decide +kernel
theorem dX8_isMet_59 : decode cX8_isMet 59 = .ok (.ireturn, 1) := by decide +kernel
theorem dX8_isMet_60 : decode cX8_isMet 60 = .ok (.aload_n 0, 1) := by decide +kernel
theorem dX8_isMet_61 : decode cX8_isMet 61 = .ok (.iload_n 2, 1) := by decide +kernel
theorem dX8_isMet_62 : decode cX8_isMet 62 = .ok (.iconst 5, 1) := by decide +kernel
theorem dX8_isMet_63 : decode cX8_isMet 63 = .ok (.invokevirtual 248, 3) := by decide +kernel
theorem dX8_isMet_66 : decode cX8_isMet 66 = .ok (.iload_n 3, 1) := by decide +kernel
theorem dX8_isMet_67 : decode cX8_isMet 67 = .ok (.if_icmp .le 7, 3) := by decide +kernel
theorem dX8_isMet_70 : decode cX8_isMet 70 = .ok (.iconst 1, 1) := by decide +kernel
theorem dX8_isMet_71 : decode cX8_isMet 71 = .ok (.goto 4, 3) := by decide +kernel
theorem dX8_isMet_74 : decode cX8_isMet 74 = .ok (.iconst 0, 1) := by decide +kernel
theorem dX8_isMet_75 : decode cX8_isMet 75 = .ok (.ireturn, 1) := by decide +kernel
theorem dX8_isMet_76 : decode cX8_isMet 76 = .ok (.aload_n 0, 1) := by decide +kernel
theorem dX8_isMet_77 : decode cX8_isMet 77 = .ok (.iload_n 2, 1) := by decide +kernel
theorem dX8_isMet_78 : decode cX8_isMet 78 = .ok (.bipush 11, 2) := by decide +kernel
theorem dX8_isMet_80 : decode cX8_isMet 80 = .ok (.invokevirtual 248, 3) := by decide +kernel
theorem dX8_isMet_83 : decode cX8_isMet 83 = .ok (.ifCond .le 7, 3) := by decide +kernel
theorem dX8_isMet_86 : decode cX8_isMet 86 = .ok (.iconst 1, 1) := by decide +kernel
theorem dX8_isMet_87 : decode cX8_isMet 87 = .ok (.goto 4, 3) := by decide +kernel
theorem dX8_isMet_90 : decode cX8_isMet 90 = .ok (.iconst 0, 1) := by decide +kernel
theorem dX8_isMet_91 : decode cX8_isMet 91 = .ok (.ireturn, 1) := by decide +kernel
theorem dX8_isMore_0 : decode cX8_isMore 0 = .ok (.aload_n 0, 1) := by decide +kernel
theorem dX8_isMore_1 : decode cX8_isMore 1 = .ok (.getfield 75, 3) := by decide +kernel
theorem dX8_isMore_11 : decode cX8_isMore 11 = .ok (.ifCond .ge 5, 3) := by decide +kernel
theorem dX8_isMore_14 : decode cX8_isMore 14 = .ok (.iconst 0, 1) := by decide +kernel
theorem dX8_isMore_15 : decode cX8_isMore 15 = .ok (.ireturn, 1) := by decide +kernel
theorem dX8_isMore_16 : decode cX8_isMore 16 = .ok (.aload_n 0, 1) := by decide +kernel
theorem dX8_isMore_17 : decode cX8_isMore 17 = .ok (.invokevirtual 68, 3) := by decide +kernel
theorem dX8_isMore_20 : decode cX8_isMore 20 = .ok (.bipush 59, 2) := by decide +kernel
theorem dX8_isMore_22 : decode cX8_isMore 22 = .ok (.if_icmp .eq 10, 3) := by decide +kernel
theorem dX8_isMore_25 : decode cX8_isMore 25 = .ok (.aload_n 0, 1) := by decide +kernel
theorem dX8_isMore_26 : decode cX8_isMore 26 = .ok (.iconst 1, 1) := by decide +kernel
theorem dX8_isMore_27 : decode cX8_isMore 27 = .ok (.invokevirtual 100, 3) := by decide +kernel
theorem dX8_isMore_30 : decode cX8_isMore 30 = .ok (.iconst 0, 1) := by decide +kernel
theorem dX8_isMore_31 : decode cX8_isMore 31 = .ok (.ireturn, 1) := by decide +kernel
theorem dX8_isMore_32 : decode cX8_isMore 32 = .ok (.aload_n 0, 1) := by decide +kernel
theorem dX8_isMore_33 : decode cX8_isMore 33 = .ok (.dup, 1) := by decide +kernel
theorem dX8_isMore_34 : decode cX8_isMore 34 = .ok (.getfield 65, 3) := by decide +kernel
theorem dX8_isMore_37 : decode cX8_isMore 37 = .ok (.iconst 1, 1) := by decide +kernel
theorem dX8_isMore_38 : decode cX8_isMore 38 = .ok (.iadd, 1) := by decide +kernel
theorem dX8_isMore_39 : decode cX8_isMore 39 = .ok (.putfield 65, 3) := by decide +kernel
theorem dX8_isMore_4 : decode cX8_isMore 4 = .ok (.ifCond .ne 10, 3) := by decide +kernel
theorem dX8_isMore_42 : decode cX8_isMore 42 = .ok (.aload_n 0, 1) := by decide +kernel
theorem dX8_isMore_43 : decode cX8_isMore 43 = .ok (.dup, 1) := by decide +kernel
theorem dX8_isMore_44 : decode cX8_isMore 44 = .ok (.getfield 195, 3) := by decide +kernel
theorem dX8_isMore_47 : decode cX8_isMore 47 = .ok (.iconst 1, 1) := by decide +kernel
theorem dX8_isMore_48 : decode cX8_isMore 48 = .ok (.iadd, 1) := by decide +kernel
theorem dX8_isMore_49 : decode cX8_isMore 49 = .ok (.putfield 195, 3) := by decide +kernel
theorem dX8_isMore_52 : decode cX8_isMore 52 = .ok (.iconst 1, 1) := by decide +kernel
theorem dX8_isMore_53 : decode cX8_isMore 53 = .ok (.ireturn, 1) := by decide +kernel
theorem dX8_isMore_7 : decode cX8_isMore 7 = .ok (.aload_n 0, 1) := by decide +kernel
theorem dX8_isMore_8 : decode cX8_isMore 8 = .ok (.invokevirtual 81, 3) := by decide +kernel
theorem dX8_isReady_0 : decode cX8_isReady 0 = .ok (.aload_n 0, 1) := by decide +kernel
theorem dX8_isReady_1 : decode cX8_isReady 1 = .ok (.iload_n 1, 1) := by decide +kernel
theorem dX8_isReady_10 : decode cX8_isReady 10 = .ok (.aload_n 0, 1) := by decide +kernel
theorem dX8_isReady_11 : decode cX8_isReady 11 = .ok (.iload_n 1, 1) := by decide +kernel
theorem dX8_isReady_12 : decode cX8_isReady 12 = .ok (.iconst 3, 1) := by decide +kernel
theorem dX8_isReady_13 : decode cX8_isReady 13 = .ok (.invokevirtual 248, 3) := by decide +kernel
theorem dX8_isReady_16 : decode cX8_isReady 16 = .ok (.ifCond .ne 7, 3) := by decide +kernel
theorem dX8_isReady_19 : decode cX8_isReady 19 = .ok (.iconst 1, 1) := by decide +kernel
theorem dX8_isReady_2 : decode cX8_isReady 2 = .ok (.iconst 2, 1) := by decide +kernel
theorem dX8_isReady_20 : decode cX8_isReady 20 = .ok (.goto 4, 3) := by decide +kernel
theorem dX8_isReady_23 : decode cX8_isReady 23 = .ok (.iconst 0, 1) := by decide +kernel
theorem dX8_isReady_24 : decode cX8_isReady 24 = .ok (.ireturn, 1) := by decide +kernel
theorem dX8_isReady_3 : decode cX8_isReady 3 = .ok (.invokevirtual 248, 3) := by decide +kernel
theorem dX8_isReady_6 : decode cX8_isReady 6 = .ok (.iconst (-1), 1) := by decide +kernel
theorem dX8_isReady_7 : decode cX8_isReady 7 = .ok (.if_icmp .eq 16, 3) := by decide +kernel
theorem dX8_isStation_0 : decode cX8_isStation 0 = .ok (.iload_n 1, 1) := by decide +kernel
theorem dX8_isStation_1 : decode cX8_isStation 1 = .ok (.i2l, 1) := by decide +kernel
theorem dX8_isStation_10 : decode cX8_isStation 10 = .ok (.iconst 1, 1) := by decide +kernel
theorem dX8_isStation_11 : decode cX8_isStation 11 = .ok (.isub, 1) := by decide +kernel
theorem dX8_isStation_12 : decode cX8_isStation 12 = .ok (.i2l, 1) := by decide +kernel
theorem dX8_isStation_13 : decode cX8_isStation 13 = .ok (.invokestatic 52, 3) := by decide +kernel
theorem dX8_isStation_16 : decode cX8_isStation 16 = .ok (.ireturn, 1) := by decide +kernel
theorem dX8_isStation_2 : decode cX8_isStation 2 = .ok (.lconst 0, 1) := by decide +kernel
theorem dX8_isStation_3 : decode cX8_isStation 3 = .ok (.aload_n 0, 1) := by decide +kernel
theorem dX8_isStation_4 : decode cX8_isStation 4 = .ok (.getfield 9, 3) := by decide +kernel
theorem dX8_isStation_7 : decode cX8_isStation 7 = .ok (.bipush 7, 2) := by decide +kernel
theorem dX8_isStation_9 : decode cX8_isStation 9 = .ok (.iaload, 1) := by decide +kernel
theorem dX8_isThrown_0 : decode cX8_isThrown 0 = .ok (.aload_n 0, 1) := by decide +kernel
theorem dX8_isThrown_1 : decode cX8_isThrown 1 = .ok (.iload_n 1, 1) := by decide +kernel
theorem dX8_isThrown_10 : decode cX8_isThrown 10 = .ok (.putfield 49, 3) := by decide +kernel
theorem dX8_isThrown_13 : decode cX8_isThrown 13 = .ok (.iload_n 1, 1) := by decide +kernel
theorem dX8_isThrown_14 : decode cX8_isThrown 14 = .ok (.ifCond .ne 7, 3) := by decide +kernel
theorem dX8_isThrown_17 : decode cX8_isThrown 17 = .ok (.iconst 1, 1) := by decide +kernel
theorem dX8_isThrown_18 : decode cX8_isThrown 18 = .ok (.goto 4, 3) := by decide +kernel
theorem dX8_isThrown_2 : decode cX8_isThrown 2 = .ok (.ifCond .eq 7, 3) := by decide +kernel
theorem dX8_isThrown_21 : decode cX8_isThrown 21 = .ok (.iconst 0, 1) := by decide +kernel
theorem dX8_isThrown_22 : decode cX8_isThrown 22 = .ok (.ireturn, 1) := by decide +kernel
theorem dX8_isThrown_5 : decode cX8_isThrown 5 = .ok (.iconst 0, 1) := by decide +kernel
theorem dX8_isThrown_6 : decode cX8_isThrown 6 = .ok (.goto 4, 3) := by decide +kernel
theorem dX8_isThrown_9 : decode cX8_isThrown 9 = .ok (.iload_n 2, 1) := by decide +kernel
theorem dX8_isWord_0 : decode cX8_isWord 0 = .ok (.aload_n 0, 1) := by decide +kernel
theorem dX8_isWord_1 : decode cX8_isWord 1 = .ok (.getfield 65, 3) := by decide +kernel
theorem dX8_isWord_10 : decode cX8_isWord 10 = .ok (.invokevirtual 88, 3) := by decide +kernel
theorem dX8_isWord_13 : decode cX8_isWord 13 = .ok (.if_icmp .ne 7, 3) := by decide +kernel
theorem dX8_isWord_16 : decode cX8_isWord 16 = .ok (.iconst 1, 1) := by decide +kernel
theorem dX8_isWord_17 : decode cX8_isWord 17 = .ok (.goto 4, 3) := by decide +kernel
theorem dX8_isWord_20 : decode cX8_isWord 20 = .ok (.iconst 0, 1) := by decide +kernel
theorem dX8_isWord_21 : decode cX8_isWord 21 = .ok (.istore_n 2, 1) := by decide +kernel
theorem dX8_isWord_22 : decode cX8_isWord 22 = .ok (.iconst 0, 1) := by decide +kernel
theorem dX8_isWord_23 : decode cX8_isWord 23 = .ok (.istore_n 3, 1) := by decide +kernel
theorem dX8_isWord_24 : decode cX8_isWord 24 = .ok (.iload_n 2, 1) := by decide +kernel
theorem dX8_isWord_25 : decode cX8_isWord 25 = .ok (.ifCond .eq 42, 3) := by decide +kernel
theorem dX8_isWord_28 : decode cX8_isWord 28 = .ok (.iload_n 3, 1) := by decide +kernel
theorem dX8_isWord_29 : decode cX8_isWord 29 = .ok (.aload_n 1, 1) := by decide +kernel
theorem dX8_isWord_30 : decode cX8_isWord 30 = .ok (.invokevirtual 88, 3) := by decide +kernel
theorem dX8_isWord_33 : decode cX8_isWord 33 = .ok (.if_icmp .ge 34, 3) := by decide +kernel
theorem dX8_isWord_36 : decode cX8_isWord 36 = .ok (.aload_n 0, 1) := by decide +kernel
theorem dX8_isWord_37 : decode cX8_isWord 37 = .ok (.getfield 26, 3) := by decide +kernel
theorem dX8_isWord_4 : decode cX8_isWord 4 = .ok (.aload_n 0, 1) := by decide +kernel
theorem dX8_isWord_40 : decode cX8_isWord 40 = .ok (.aload_n 0, 1) := by decide +kernel
theorem dX8_isWord_41 : decode cX8_isWord 41 = .ok (.getfield 72, 3) := by decide +kernel
theorem dX8_isWord_44 : decode cX8_isWord 44 = .ok (.iload_n 3, 1) := by decide +kernel
theorem dX8_isWord_45 : decode cX8_isWord 45 = .ok (.iadd, 1) := by decide +kernel
theorem dX8_isWord_46 : decode cX8_isWord 46 = .ok (.baload, 1) := by decide +kernel
theorem dX8_isWord_47 : decode cX8_isWord 47 = .ok (.aload_n 1, 1) := by decide +kernel
theorem dX8_isWord_48 : decode cX8_isWord 48 = .ok (.iload_n 3, 1) := by decide +kernel
theorem dX8_isWord_49 : decode cX8_isWord 49 = .ok (.invokevirtual 92, 3) := by decide +kernel
theorem dX8_isWord_5 : decode cX8_isWord 5 = .ok (.getfield 72, 3) := by decide +kernel
theorem dX8_isWord_52 : decode cX8_isWord 52 = .ok (.if_icmp .ne 7, 3) := by decide +kernel
theorem dX8_isWord_55 : decode cX8_isWord 55 = .ok (.iconst 1, 1) := by decide +kernel
theorem dX8_isWord_56 : decode cX8_isWord 56 = .ok (.goto 4, 3) := by decide +kernel
theorem dX8_isWord_59 : decode cX8_isWord 59 = .ok (.iconst 0, 1) := by decide +kernel
theorem dX8_isWord_60 : decode cX8_isWord 60 = .ok (.istore_n 2, 1) := by decide +kernel
theorem dX8_isWord_61 : decode cX8_isWord 61 = .ok (.iinc 3 1, 3) := by decide +kernel
theorem dX8_isWord_64 : decode cX8_isWord 64 = .ok (.goto (-40), 3) := by decide +kernel
theorem dX8_isWord_67 : decode cX8_isWord 67 = .ok (.iload_n 2, 1) := by decide +kernel
theorem dX8_isWord_68 : decode cX8_isWord 68 = .ok (.ireturn, 1) := by decide +kernel
theorem dX8_isWord_8 : decode cX8_isWord 8 = .ok (.isub, 1) := by decide +kernel
theorem dX8_isWord_9 : decode cX8_isWord 9 = .ok (.aload_n 1, 1) := by decide +kernel
theorem dX8_keeps_0 : decode cX8_keeps 0 = .ok (.aload_n 0, 1) := by decide +kernel
theorem dX8_keeps_1 : decode cX8_keeps 1 = .ok (.getfield 219, 3) := by decide +kernel
theorem dX8_keeps_10 : decode cX8_keeps 10 = .ok (.istore_n 1, 1) := by decide +kernel
theorem dX8_keeps_11 : decode cX8_keeps 11 = .ok (.iload_n 1, 1) := by decide +kernel
theorem dX8_keeps_12 : decode cX8_keeps 12 = .ok (.sipush 7259, 3) := by decide +kernel
theorem dX8_keeps_15 : decode cX8_keeps 15 = .ok (.if_icmp .ge 25, 3) := by decide +kernel
theorem dX8_keeps_18 : decode cX8_keeps 18 = .ok (.aload_n 0, 1) := by decide +kernel
theorem dX8_keeps_19 : decode cX8_keeps 19 = .ok (.getfield 16, 3) := by decide +kernel
theorem dX8_keeps_22 : decode cX8_keeps 22 = .ok (.iload_n 1, 1) := by decide +kernel
theorem dX8_keeps_23 : decode cX8_keeps 23 = .ok (.aload_n 0, 1) := by decide +kernel
theorem dX8_keeps_24 : decode cX8_keeps 24 = .ok (.getfield 16, 3) := by decide +kernel
theorem dX8_keeps_27 : decode cX8_keeps 27 = .ok (.iload_n 1, 1) := by decide +kernel
theorem dX8_keeps_28 : decode cX8_keeps 28 = .ok (.sipush 1037, 3) := by decide +kernel
theorem dX8_keeps_31 : decode cX8_keeps 31 = .ok (.iadd, 1) := by decide +kernel
theorem dX8_keeps_32 : decode cX8_keeps 32 = .ok (.iaload, 1) := by decide +kernel
theorem dX8_keeps_33 : decode cX8_keeps 33 = .ok (.iastore, 1) := by decide +kernel
theorem dX8_keeps_34 : decode cX8_keeps 34 = .ok (.iinc 1 1, 3) := by decide +kernel
theorem dX8_keeps_37 : decode cX8_keeps 37 = .ok (.goto (-26), 3) := by decide +kernel
theorem dX8_keeps_4 : decode cX8_keeps 4 = .ok (.bipush 8, 2) := by decide +kernel
theorem dX8_keeps_40 : decode cX8_keeps 40 = .ok (.aload_n 0, 1) := by decide +kernel
theorem dX8_keeps_41 : decode cX8_keeps 41 = .ok (.dup, 1) := by decide +kernel
theorem dX8_keeps_42 : decode cX8_keeps 42 = .ok (.getfield 219, 3) := by decide +kernel
theorem dX8_keeps_45 : decode cX8_keeps 45 = .ok (.iconst 1, 1) := by decide +kernel
theorem dX8_keeps_46 : decode cX8_keeps 46 = .ok (.isub, 1) := by decide +kernel
theorem dX8_keeps_47 : decode cX8_keeps 47 = .ok (.putfield 219, 3) := by decide +kernel
theorem dX8_keeps_50 : decode cX8_keeps 50 = .ok (.aload_n 0, 1) := by decide +kernel
theorem dX8_keeps_51 : decode cX8_keeps 51 = .ok (.getfield 9, 3) := by decide +kernel
theorem dX8_keeps_54 : decode cX8_keeps 54 = .ok (.iconst 0, 1) := by decide +kernel
theorem dX8_keeps_55 : decode cX8_keeps 55 = .ok (.aload_n 0, 1) := by decide +kernel
theorem dX8_keeps_56 : decode cX8_keeps 56 = .ok (.getfield 16, 3) := by decide +kernel
theorem dX8_keeps_59 : decode cX8_keeps 59 = .ok (.aload_n 0, 1) := by decide +kernel
theorem dX8_keeps_6 : decode cX8_keeps 6 = .ok (.if_icmp .ne 44, 3) := by decide +kernel
theorem dX8_keeps_60 : decode cX8_keeps 60 = .ok (.getfield 219, 3) := by decide +kernel
theorem dX8_keeps_63 : decode cX8_keeps 63 = .ok (.invokestatic 204, 3) := by decide +kernel
theorem dX8_keeps_66 : decode cX8_keeps 66 = .ok (.aload_n 0, 1) := by decide +kernel
theorem dX8_keeps_67 : decode cX8_keeps 67 = .ok (.dup, 1) := by decide +kernel
theorem dX8_keeps_68 : decode cX8_keeps 68 = .ok (.getfield 219, 3) := by decide +kernel
theorem dX8_keeps_71 : decode cX8_keeps 71 = .ok (.iconst 1, 1) := by decide +kernel
theorem dX8_keeps_72 : decode cX8_keeps 72 = .ok (.iadd, 1) := by decide +kernel
theorem dX8_keeps_73 : decode cX8_keeps 73 = .ok (.putfield 219, 3) := by decide +kernel
theorem dX8_keeps_76 : decode cX8_keeps 76 = .ok (.return_, 1) := by decide +kernel
theorem dX8_keeps_9 : decode cX8_keeps 9 = .ok (.iconst 0, 1) := by decide +kernel
theorem dX8_leavesIn_0 : decode cX8_leavesIn 0 = .ok (.aload_n 0, 1) := by decide +kernel
theorem dX8_leavesIn_1 : decode cX8_leavesIn 1 = .ok (.aload_n 0, 1) := by decide +kernel
theorem dX8_leavesIn_10 : decode cX8_leavesIn 10 = .ok (.ifCond .eq 7, 3) := by decide +kernel
theorem dX8_leavesIn_13 : decode cX8_leavesIn 13 = .ok (.iconst 0, 1) := by decide +kernel
theorem dX8_leavesIn_14 : decode cX8_leavesIn 14 = .ok (.goto 9, 3) := by decide +kernel
theorem dX8_leavesIn_17 : decode cX8_leavesIn 17 = .ok (.aload_n 0, 1) := by decide +kernel
theorem dX8_leavesIn_18 : decode cX8_leavesIn 18 = .ok (.iconst 0, 1) := by decide +kernel
theorem dX8_leavesIn_19 : decode cX8_leavesIn 19 = .ok (.iload_n 1, 1) := by decide +kernel
theorem dX8_leavesIn_2 : decode cX8_leavesIn 2 = .ok (.iload_n 1, 1) := by decide +kernel
theorem dX8_leavesIn_20 : decode cX8_leavesIn 20 = .ok (.invokevirtual 362, 3) := by decide +kernel
theorem dX8_leavesIn_23 : decode cX8_leavesIn 23 = .ok (.ireturn, 1) := by decide +kernel
theorem dX8_leavesIn_3 : decode cX8_leavesIn 3 = .ok (.invokevirtual 251, 3) := by decide +kernel
theorem dX8_leavesIn_6 : decode cX8_leavesIn 6 = .ok (.iconst 1, 1) := by decide +kernel
theorem dX8_leavesIn_7 : decode cX8_leavesIn 7 = .ok (.invokevirtual 226, 3) := by decide +kernel
theorem dX8_leaves_0 : decode cX8_leaves 0 = .ok (.aload_n 0, 1) := by decide +kernel
theorem dX8_leaves_1 : decode cX8_leaves 1 = .ok (.iload_n 1, 1) := by decide +kernel
theorem dX8_leaves_10 : decode cX8_leaves 10 = .ok (.iconst (-1), 1) := by decide +kernel
theorem dX8_leaves_11 : decode cX8_leaves 11 = .ok (.invokevirtual 130, 3) := by decide +kernel
theorem dX8_leaves_14 : decode cX8_leaves 14 = .ok (.aload_n 0, 1) := by decide +kernel
theorem dX8_leaves_15 : decode cX8_leaves 15 = .ok (.iload_n 1, 1) := by decide +kernel
theorem dX8_leaves_16 : decode cX8_leaves 16 = .ok (.bipush 7, 2) := by decide +kernel
theorem dX8_leaves_18 : decode cX8_leaves 18 = .ok (.aload_n 0, 1) := by decide +kernel
theorem dX8_leaves_19 : decode cX8_leaves 19 = .ok (.getfield 9, 3) := by decide +kernel
theorem dX8_leaves_2 : decode cX8_leaves 2 = .ok (.iconst 3, 1) := by decide +kernel
theorem dX8_leaves_22 : decode cX8_leaves 22 = .ok (.bipush 6, 2) := by decide +kernel
theorem dX8_leaves_24 : decode cX8_leaves 24 = .ok (.iaload, 1) := by decide +kernel
theorem dX8_leaves_25 : decode cX8_leaves 25 = .ok (.invokevirtual 130, 3) := by decide +kernel
theorem dX8_leaves_28 : decode cX8_leaves 28 = .ok (.aload_n 0, 1) := by decide +kernel
theorem dX8_leaves_29 : decode cX8_leaves 29 = .ok (.getfield 9, 3) := by decide +kernel
theorem dX8_leaves_3 : decode cX8_leaves 3 = .ok (.iconst 3, 1) := by decide +kernel
theorem dX8_leaves_32 : decode cX8_leaves 32 = .ok (.sipush 887, 3) := by decide +kernel
theorem dX8_leaves_35 : decode cX8_leaves 35 = .ok (.aload_n 0, 1) := by decide +kernel
theorem dX8_leaves_36 : decode cX8_leaves 36 = .ok (.getfield 9, 3) := by decide +kernel
theorem dX8_leaves_39 : decode cX8_leaves 39 = .ok (.bipush 10, 2) := by decide +kernel
theorem dX8_leaves_4 : decode cX8_leaves 4 = .ok (.invokevirtual 130, 3) := by decide +kernel
theorem dX8_leaves_41 : decode cX8_leaves 41 = .ok (.iaload, 1) := by decide +kernel
theorem dX8_leaves_42 : decode cX8_leaves 42 = .ok (.iadd, 1) := by decide +kernel
theorem dX8_leaves_43 : decode cX8_leaves 43 = .ok (.iload_n 1, 1) := by decide +kernel
theorem dX8_leaves_44 : decode cX8_leaves 44 = .ok (.iastore, 1) := by decide +kernel
theorem dX8_leaves_45 : decode cX8_leaves 45 = .ok (.aload_n 0, 1) := by decide +kernel
theorem dX8_leaves_46 : decode cX8_leaves 46 = .ok (.getfield 9, 3) := by decide +kernel
theorem dX8_leaves_49 : decode cX8_leaves 49 = .ok (.bipush 10, 2) := by decide +kernel
theorem dX8_leaves_51 : decode cX8_leaves 51 = .ok (.dup2, 1) := by decide +kernel
theorem dX8_leaves_52 : decode cX8_leaves 52 = .ok (.iaload, 1) := by decide +kernel
theorem dX8_leaves_53 : decode cX8_leaves 53 = .ok (.iconst 1, 1) := by decide +kernel
theorem dX8_leaves_54 : decode cX8_leaves 54 = .ok (.iadd, 1) := by decide +kernel
theorem dX8_leaves_55 : decode cX8_leaves 55 = .ok (.iastore, 1) := by decide +kernel
theorem dX8_leaves_56 : decode cX8_leaves 56 = .ok (.aload_n 0, 1) := by decide +kernel
theorem dX8_leaves_57 : decode cX8_leaves 57 = .ok (.getfield 9, 3) := by decide +kernel
theorem dX8_leaves_60 : decode cX8_leaves 60 = .ok (.bipush 113, 2) := by decide +kernel
theorem dX8_leaves_62 : decode cX8_leaves 62 = .ok (.iconst 4, 1) := by decide +kernel
theorem dX8_leaves_63 : decode cX8_leaves 63 = .ok (.aload_n 0, 1) := by decide +kernel
theorem dX8_leaves_64 : decode cX8_leaves 64 = .ok (.iload_n 1, 1) := by decide +kernel
theorem dX8_leaves_65 : decode cX8_leaves 65 = .ok (.iconst 0, 1) := by decide +kernel
theorem dX8_leaves_66 : decode cX8_leaves 66 = .ok (.invokevirtual 233, 3) := by decide +kernel
theorem dX8_leaves_69 : decode cX8_leaves 69 = .ok (.imul, 1) := by decide +kernel
theorem dX8_leaves_7 : decode cX8_leaves 7 = .ok (.aload_n 0, 1) := by decide +kernel
theorem dX8_leaves_70 : decode cX8_leaves 70 = .ok (.iadd, 1) := by decide +kernel
theorem dX8_leaves_71 : decode cX8_leaves 71 = .ok (.iconst 2, 1) := by decide +kernel
theorem dX8_leaves_72 : decode cX8_leaves 72 = .ok (.iadd, 1) := by decide +kernel
theorem dX8_leaves_73 : decode cX8_leaves 73 = .ok (.dup2, 1) := by decide +kernel
theorem dX8_leaves_74 : decode cX8_leaves 74 = .ok (.iaload, 1) := by decide +kernel
theorem dX8_leaves_75 : decode cX8_leaves 75 = .ok (.iconst 1, 1) := by decide +kernel
theorem dX8_leaves_76 : decode cX8_leaves 76 = .ok (.iadd, 1) := by decide +kernel
theorem dX8_leaves_77 : decode cX8_leaves 77 = .ok (.iastore, 1) := by decide +kernel
theorem dX8_leaves_78 : decode cX8_leaves 78 = .ok (.return_, 1) := by decide +kernel
theorem dX8_leaves_8 : decode cX8_leaves 8 = .ok (.iload_n 1, 1) := by decide +kernel
theorem dX8_leaves_9 : decode cX8_leaves 9 = .ok (.iconst 4, 1) := by decide +kernel
theorem dX8_leftAt_0 : decode cX8_leftAt 0 = .ok (.aload_n 0, 1) := by decide +kernel
theorem dX8_leftAt_1 : decode cX8_leftAt 1 = .ok (.iconst 0, 1) := by decide +kernel
theorem dX8_leftAt_12 : decode cX8_leftAt 12 = .ok (.bipush 10, 2) := by decide +kernel
theorem dX8_leftAt_14 : decode cX8_leftAt 14 = .ok (.iaload, 1) := by decide +kernel
theorem dX8_leftAt_15 : decode cX8_leftAt 15 = .ok (.iconst 1, 1) := by decide +kernel
theorem dX8_leftAt_16 : decode cX8_leftAt 16 = .ok (.isub, 1) := by decide +kernel
theorem dX8_leftAt_17 : decode cX8_leftAt 17 = .ok (.i2l, 1) := by decide +kernel
theorem dX8_leftAt_18 : decode cX8_leftAt 18 = .ok (.invokestatic 52, 3) := by decide +kernel
theorem dX8_leftAt_2 : decode cX8_leftAt 2 = .ok (.putfield 49, 3) := by decide +kernel
theorem dX8_leftAt_21 : decode cX8_leftAt 21 = .ok (.ifCond .eq 16, 3) := by decide +kernel
theorem dX8_leftAt_24 : decode cX8_leftAt 24 = .ok (.aload_n 0, 1) := by decide +kernel
theorem dX8_leftAt_25 : decode cX8_leftAt 25 = .ok (.getfield 9, 3) := by decide +kernel
theorem dX8_leftAt_28 : decode cX8_leftAt 28 = .ok (.sipush 887, 3) := by decide +kernel
theorem dX8_leftAt_31 : decode cX8_leftAt 31 = .ok (.iload_n 1, 1) := by decide +kernel
theorem dX8_leftAt_32 : decode cX8_leftAt 32 = .ok (.iadd, 1) := by decide +kernel
theorem dX8_leftAt_33 : decode cX8_leftAt 33 = .ok (.iaload, 1) := by decide +kernel
theorem dX8_leftAt_34 : decode cX8_leftAt 34 = .ok (.goto 4, 3) := by decide +kernel
theorem dX8_leftAt_37 : decode cX8_leftAt 37 = .ok (.iconst (-1), 1) := by decide +kernel
theorem dX8_leftAt_38 : decode cX8_leftAt 38 = .ok (.ireturn, 1) := by decide +kernel
theorem dX8_leftAt_5 : decode cX8_leftAt 5 = .ok (.iload_n 1, 1) := by decide +kernel
theorem dX8_leftAt_6 : decode cX8_leftAt 6 = .ok (.i2l, 1) := by decide +kernel
theorem dX8_leftAt_7 : decode cX8_leftAt 7 = .ok (.lconst 0, 1) := by decide +kernel
theorem dX8_leftAt_8 : decode cX8_leftAt 8 = .ok (.aload_n 0, 1) := by decide +kernel
theorem dX8_leftAt_9 : decode cX8_leftAt 9 = .ok (.getfield 9, 3) := by decide +kernel
theorem dX8_leftIn_0 : decode cX8_leftIn 0 = .ok (.aload_n 0, 1) := by decide +kernel
theorem dX8_leftIn_1 : decode cX8_leftIn 1 = .ok (.iload_n 1, 1) := by decide +kernel
theorem dX8_leftIn_10 : decode cX8_leftIn 10 = .ok (.iconst 1, 1) := by decide +kernel
theorem dX8_leftIn_11 : decode cX8_leftIn 11 = .ok (.invokevirtual 226, 3) := by decide +kernel
theorem dX8_leftIn_14 : decode cX8_leftIn 14 = .ok (.ifCond .eq 7, 3) := by decide +kernel
theorem dX8_leftIn_17 : decode cX8_leftIn 17 = .ok (.iconst 0, 1) := by decide +kernel
theorem dX8_leftIn_18 : decode cX8_leftIn 18 = .ok (.goto 10, 3) := by decide +kernel
theorem dX8_leftIn_2 : decode cX8_leftIn 2 = .ok (.i2l, 1) := by decide +kernel
theorem dX8_leftIn_21 : decode cX8_leftIn 21 = .ok (.aload_n 0, 1) := by decide +kernel
theorem dX8_leftIn_22 : decode cX8_leftIn 22 = .ok (.bipush 10, 2) := by decide +kernel
theorem dX8_leftIn_24 : decode cX8_leftIn 24 = .ok (.iload_n 1, 1) := by decide +kernel
theorem dX8_leftIn_25 : decode cX8_leftIn 25 = .ok (.invokevirtual 365, 3) := by decide +kernel
theorem dX8_leftIn_28 : decode cX8_leftIn 28 = .ok (.ireturn, 1) := by decide +kernel
theorem dX8_leftIn_3 : decode cX8_leftIn 3 = .ok (.lconst 1, 1) := by decide +kernel
theorem dX8_leftIn_4 : decode cX8_leftIn 4 = .ok (.ldc2_w 347, 3) := by decide +kernel
theorem dX8_leftIn_7 : decode cX8_leftIn 7 = .ok (.invokestatic 52, 3) := by decide +kernel
theorem dX8_letter_0 : decode cX8_letter 0 = .ok (.aload_n 0, 1) := by decide +kernel
theorem dX8_letter_1 : decode cX8_letter 1 = .ok (.aload_n 0, 1) := by decide +kernel
theorem dX8_letter_10 : decode cX8_letter 10 = .ok (.ifCond .eq 5, 3) := by decide +kernel
theorem dX8_letter_13 : decode cX8_letter 13 = .ok (.iconst 0, 1) := by decide +kernel
theorem dX8_letter_14 : decode cX8_letter 14 = .ok (.ireturn, 1) := by decide +kernel
theorem dX8_letter_15 : decode cX8_letter 15 = .ok (.iload_n 2, 1) := by decide +kernel
theorem dX8_letter_16 : decode cX8_letter 16 = .ok (.i2l, 1) := by decide +kernel
theorem dX8_letter_17 : decode cX8_letter 17 = .ok (.lconst 0, 1) := by decide +kernel
theorem dX8_letter_18 : decode cX8_letter 18 = .ok (.aload_n 0, 1) := by decide +kernel
theorem dX8_letter_19 : decode cX8_letter 19 = .ok (.iload_n 1, 1) := by decide +kernel
theorem dX8_letter_2 : decode cX8_letter 2 = .ok (.iload_n 1, 1) := by decide +kernel
theorem dX8_letter_20 : decode cX8_letter 20 = .ok (.iconst 2, 1) := by decide +kernel
theorem dX8_letter_21 : decode cX8_letter 21 = .ok (.invokevirtual 233, 3) := by decide +kernel
theorem dX8_letter_24 : decode cX8_letter 24 = .ok (.iconst 1, 1) := by decide +kernel
theorem dX8_letter_25 : decode cX8_letter 25 = .ok (.isub, 1) := by decide +kernel
theorem dX8_letter_26 : decode cX8_letter 26 = .ok (.i2l, 1) := by decide +kernel
theorem dX8_letter_27 : decode cX8_letter 27 = .ok (.invokestatic 52, 3) := by decide +kernel
theorem dX8_letter_3 : decode cX8_letter 3 = .ok (.invokevirtual 251, 3) := by decide +kernel
theorem dX8_letter_30 : decode cX8_letter 30 = .ok (.ifCond .eq 15, 3) := by decide +kernel
theorem dX8_letter_33 : decode cX8_letter 33 = .ok (.aload_n 0, 1) := by decide +kernel
theorem dX8_letter_34 : decode cX8_letter 34 = .ok (.iload_n 1, 1) := by decide +kernel
theorem dX8_letter_35 : decode cX8_letter 35 = .ok (.bipush 9, 2) := by decide +kernel
theorem dX8_letter_37 : decode cX8_letter 37 = .ok (.iload_n 2, 1) := by decide +kernel
theorem dX8_letter_38 : decode cX8_letter 38 = .ok (.iadd, 1) := by decide +kernel
theorem dX8_letter_39 : decode cX8_letter 39 = .ok (.invokevirtual 233, 3) := by decide +kernel
theorem dX8_letter_42 : decode cX8_letter 42 = .ok (.goto 4, 3) := by decide +kernel
theorem dX8_letter_45 : decode cX8_letter 45 = .ok (.iconst (-1), 1) := by decide +kernel
theorem dX8_letter_46 : decode cX8_letter 46 = .ok (.ireturn, 1) := by decide +kernel
theorem dX8_letter_6 : decode cX8_letter 6 = .ok (.iconst 1, 1) := by decide +kernel
theorem dX8_letter_7 : decode cX8_letter 7 = .ok (.invokevirtual 226, 3) := by decide +kernel
theorem dX8_linePart_0 : decode cX8_linePart 0 = .ok (.aload_n 0, 1) := by decide +kernel
theorem dX8_linePart_1 : decode cX8_linePart 1 = .ok (.invokevirtual 140, 3) := by decide +kernel
theorem dX8_linePart_10 : decode cX8_linePart 10 = .ok (.ifCond .ne 8, 3) := by decide +kernel
theorem dX8_linePart_13 : decode cX8_linePart 13 = .ok (.aload_n 0, 1) := by decide +kernel
theorem dX8_linePart_14 : decode cX8_linePart 14 = .ok (.iconst 1, 1) := by decide +kernel
theorem dX8_linePart_15 : decode cX8_linePart 15 = .ok (.invokevirtual 100, 3) := by decide +kernel
theorem dX8_linePart_18 : decode cX8_linePart 18 = .ok (.aload_n 0, 1) := by decide +kernel
theorem dX8_linePart_19 : decode cX8_linePart 19 = .ok (.getfield 9, 3) := by decide +kernel
theorem dX8_linePart_22 : decode cX8_linePart 22 = .ok (.iconst 0, 1) := by decide +kernel
theorem dX8_linePart_23 : decode cX8_linePart 23 = .ok (.aload_n 0, 1) := by decide +kernel
theorem dX8_linePart_24 : decode cX8_linePart 24 = .ok (.iconst 1, 1) := by decide +kernel
theorem dX8_linePart_25 : decode cX8_linePart 25 = .ok (.sipush 2000, 3) := by decide +kernel
theorem dX8_linePart_28 : decode cX8_linePart 28 = .ok (.invokevirtual 121, 3) := by decide +kernel
theorem dX8_linePart_31 : decode cX8_linePart 31 = .ok (.iastore, 1) := by decide +kernel
theorem dX8_linePart_32 : decode cX8_linePart 32 = .ok (.aload_n 0, 1) := by decide +kernel
theorem dX8_linePart_33 : decode cX8_linePart 33 = .ok (.getfield 9, 3) := by decide +kernel
theorem dX8_linePart_36 : decode cX8_linePart 36 = .ok (.iconst 3, 1) := by decide +kernel
theorem dX8_linePart_37 : decode cX8_linePart 37 = .ok (.aload_n 0, 1) := by decide +kernel
theorem dX8_linePart_38 : decode cX8_linePart 38 = .ok (.iconst 0, 1) := by decide +kernel
theorem dX8_linePart_39 : decode cX8_linePart 39 = .ok (.sipush 999, 3) := by decide +kernel
theorem dX8_linePart_4 : decode cX8_linePart 4 = .ok (.aload_n 0, 1) := by decide +kernel
theorem dX8_linePart_42 : decode cX8_linePart 42 = .ok (.invokevirtual 121, 3) := by decide +kernel
theorem dX8_linePart_45 : decode cX8_linePart 45 = .ok (.iastore, 1) := by decide +kernel
theorem dX8_linePart_46 : decode cX8_linePart 46 = .ok (.aload_n 0, 1) := by decide +kernel
theorem dX8_linePart_47 : decode cX8_linePart 47 = .ok (.getfield 9, 3) := by decide +kernel
theorem dX8_linePart_5 : decode cX8_linePart 5 = .ok (.ldc 143, 2) := by decide +kernel
theorem dX8_linePart_50 : decode cX8_linePart 50 = .ok (.iconst 5, 1) := by decide +kernel
theorem dX8_linePart_51 : decode cX8_linePart 51 = .ok (.aload_n 0, 1) := by decide +kernel
theorem dX8_linePart_52 : decode cX8_linePart 52 = .ok (.getfield 9, 3) := by decide +kernel
theorem dX8_linePart_55 : decode cX8_linePart 55 = .ok (.iconst 3, 1) := by decide +kernel
theorem dX8_linePart_56 : decode cX8_linePart 56 = .ok (.iaload, 1) := by decide +kernel
theorem dX8_linePart_57 : decode cX8_linePart 57 = .ok (.iastore, 1) := by decide +kernel
theorem dX8_linePart_58 : decode cX8_linePart 58 = .ok (.aload_n 0, 1) := by decide +kernel
theorem dX8_linePart_59 : decode cX8_linePart 59 = .ok (.getfield 9, 3) := by decide +kernel
theorem dX8_linePart_62 : decode cX8_linePart 62 = .ok (.iconst 1, 1) := by decide +kernel
theorem dX8_linePart_63 : decode cX8_linePart 63 = .ok (.aload_n 0, 1) := by decide +kernel
theorem dX8_linePart_64 : decode cX8_linePart 64 = .ok (.iconst 1, 1) := by decide +kernel
theorem dX8_linePart_65 : decode cX8_linePart 65 = .ok (.bipush 20, 2) := by decide +kernel
theorem dX8_linePart_67 : decode cX8_linePart 67 = .ok (.invokevirtual 121, 3) := by decide +kernel
theorem dX8_linePart_7 : decode cX8_linePart 7 = .ok (.invokevirtual 145, 3) := by decide +kernel
theorem dX8_linePart_70 : decode cX8_linePart 70 = .ok (.iastore, 1) := by decide +kernel
theorem dX8_linePart_71 : decode cX8_linePart 71 = .ok (.aload_n 0, 1) := by decide +kernel
theorem dX8_linePart_72 : decode cX8_linePart 72 = .ok (.getfield 9, 3) := by decide +kernel
theorem dX8_linePart_75 : decode cX8_linePart 75 = .ok (.iconst 2, 1) := by decide +kernel
theorem dX8_linePart_76 : decode cX8_linePart 76 = .ok (.aload_n 0, 1) := by decide +kernel
theorem dX8_linePart_77 : decode cX8_linePart 77 = .ok (.iconst 1, 1) := by decide +kernel
theorem dX8_linePart_78 : decode cX8_linePart 78 = .ok (.bipush 9, 2) := by decide +kernel
theorem dX8_linePart_80 : decode cX8_linePart 80 = .ok (.invokevirtual 121, 3) := by decide +kernel
theorem dX8_linePart_83 : decode cX8_linePart 83 = .ok (.iastore, 1) := by decide +kernel
theorem dX8_linePart_84 : decode cX8_linePart 84 = .ok (.return_, 1) := by decide +kernel
theorem dX8_loadError_0 : decode cX8_loadError 0 = .ok (.aload_n 0, 1) := by decide +kernel
theorem dX8_loadError_1 : decode cX8_loadError 1 = .ok (.iconst 0, 1) := by decide +kernel
theorem dX8_loadError_2 : decode cX8_loadError 2 = .ok (.putfield 49, 3) := by decide +kernel
theorem dX8_loadError_5 : decode cX8_loadError 5 = .ok (.aload_n 0, 1) := by decide +kernel
theorem dX8_loadError_6 : decode cX8_loadError 6 = .ok (.getfield 198, 3) := by decide +kernel
theorem dX8_loadError_9 : decode cX8_loadError 9 = .ok (.ireturn, 1) := by decide +kernel
theorem dX8_loadStatement_0 : decode cX8_loadStatement 0 = .ok (.aload_n 0, 1) := by decide +kernel
theorem dX8_loadStatement_1 : decode cX8_loadStatement 1 = .ok (.iconst 0, 1) := by decide +kernel
theorem dX8_loadStatement_2 : decode cX8_loadStatement 2 = .ok (.putfield 49, 3) := by decide +kernel
theorem dX8_loadStatement_5 : decode cX8_loadStatement 5 = .ok (.aload_n 0, 1) := by decide +kernel
theorem dX8_loadStatement_6 : decode cX8_loadStatement 6 = .ok (.getfield 30, 3) := by decide +kernel
theorem dX8_loadStatement_9 : decode cX8_loadStatement 9 = .ok (.ireturn, 1) := by decide +kernel
theorem dX8_load_0 : decode cX8_load 0 = .ok (.aload_n 0, 1) := by decide +kernel
theorem dX8_load_1 : decode cX8_load 1 = .ok (.invokevirtual 201, 3) := by decide +kernel
theorem dX8_load_10 : decode cX8_load 10 = .ok (.getfield 13, 3) := by decide +kernel
theorem dX8_load_13 : decode cX8_load 13 = .ok (.iconst 0, 1) := by decide +kernel
theorem dX8_load_14 : decode cX8_load 14 = .ok (.invokestatic 204, 3) := by decide +kernel
theorem dX8_load_17 : decode cX8_load 17 = .ok (.aload_n 0, 1) := by decide +kernel
theorem dX8_load_18 : decode cX8_load 18 = .ok (.invokevirtual 46, 3) := by decide +kernel
theorem dX8_load_21 : decode cX8_load 21 = .ok (.aload_n 0, 1) := by decide +kernel
theorem dX8_load_22 : decode cX8_load 22 = .ok (.invokevirtual 207, 3) := by decide +kernel
theorem dX8_load_25 : decode cX8_load 25 = .ok (.aload_n 0, 1) := by decide +kernel
theorem dX8_load_26 : decode cX8_load 26 = .ok (.invokevirtual 210, 3) := by decide +kernel
theorem dX8_load_29 : decode cX8_load 29 = .ok (.ifCond .eq 10, 3) := by decide +kernel
theorem dX8_load_32 : decode cX8_load 32 = .ok (.aload_n 0, 1) := by decide +kernel
theorem dX8_load_33 : decode cX8_load 33 = .ok (.invokevirtual 214, 3) := by decide +kernel
theorem dX8_load_36 : decode cX8_load 36 = .ok (.goto (-11), 3) := by decide +kernel
theorem dX8_load_39 : decode cX8_load 39 = .ok (.aload_n 0, 1) := by decide +kernel
theorem dX8_load_4 : decode cX8_load 4 = .ok (.aload_n 0, 1) := by decide +kernel
theorem dX8_load_40 : decode cX8_load 40 = .ok (.invokevirtual 216, 3) := by decide +kernel
theorem dX8_load_43 : decode cX8_load 43 = .ok (.aload_n 0, 1) := by decide +kernel
theorem dX8_load_44 : decode cX8_load 44 = .ok (.getfield 75, 3) := by decide +kernel
theorem dX8_load_47 : decode cX8_load 47 = .ok (.ifCond .eq 24, 3) := by decide +kernel
theorem dX8_load_5 : decode cX8_load 5 = .ok (.getfield 9, 3) := by decide +kernel
theorem dX8_load_50 : decode cX8_load 50 = .ok (.aload_n 0, 1) := by decide +kernel
theorem dX8_load_51 : decode cX8_load 51 = .ok (.getfield 13, 3) := by decide +kernel
theorem dX8_load_54 : decode cX8_load 54 = .ok (.iconst 0, 1) := by decide +kernel
theorem dX8_load_55 : decode cX8_load 55 = .ok (.aload_n 0, 1) := by decide +kernel
theorem dX8_load_56 : decode cX8_load 56 = .ok (.getfield 9, 3) := by decide +kernel
theorem dX8_load_59 : decode cX8_load 59 = .ok (.iconst 0, 1) := by decide +kernel
theorem dX8_load_60 : decode cX8_load 60 = .ok (.invokestatic 204, 3) := by decide +kernel
theorem dX8_load_63 : decode cX8_load 63 = .ok (.bipush (-100), 2) := by decide +kernel
theorem dX8_load_65 : decode cX8_load 65 = .ok (.aload_n 0, 1) := by decide +kernel
theorem dX8_load_66 : decode cX8_load 66 = .ok (.getfield 78, 3) := by decide +kernel
theorem dX8_load_69 : decode cX8_load 69 = .ok (.isub, 1) := by decide +kernel
theorem dX8_load_70 : decode cX8_load 70 = .ok (.ireturn, 1) := by decide +kernel
theorem dX8_load_71 : decode cX8_load 71 = .ok (.aload_n 0, 1) := by decide +kernel
theorem dX8_load_72 : decode cX8_load 72 = .ok (.iconst 0, 1) := by decide +kernel
theorem dX8_load_73 : decode cX8_load 73 = .ok (.putfield 219, 3) := by decide +kernel
theorem dX8_load_76 : decode cX8_load 76 = .ok (.aload_n 0, 1) := by decide +kernel
theorem dX8_load_77 : decode cX8_load 77 = .ok (.getfield 9, 3) := by decide +kernel
theorem dX8_load_8 : decode cX8_load 8 = .ok (.iconst 0, 1) := by decide +kernel
theorem dX8_load_80 : decode cX8_load 80 = .ok (.bipush 7, 2) := by decide +kernel
theorem dX8_load_82 : decode cX8_load 82 = .ok (.iaload, 1) := by decide +kernel
theorem dX8_load_83 : decode cX8_load 83 = .ok (.ireturn, 1) := by decide +kernel
theorem dX8_load_9 : decode cX8_load 9 = .ok (.aload_n 0, 1) := by decide +kernel
theorem dX8_lotBy_0 : decode cX8_lotBy 0 = .ok (.aload_n 0, 1) := by decide +kernel
theorem dX8_lotBy_1 : decode cX8_lotBy 1 = .ok (.iconst 0, 1) := by decide +kernel
theorem dX8_lotBy_100 : decode cX8_lotBy 100 = .ok (.iload_n 3, 1) := by decide +kernel
theorem dX8_lotBy_101 : decode cX8_lotBy 101 = .ok (.aload_n 0, 1) := by decide +kernel
theorem dX8_lotBy_102 : decode cX8_lotBy 102 = .ok (.getfield 40, 3) := by decide +kernel
theorem dX8_lotBy_105 : decode cX8_lotBy 105 = .ok (.iload 4, 2) := by decide +kernel
theorem dX8_lotBy_107 : decode cX8_lotBy 107 = .ok (.iaload, 1) := by decide +kernel
theorem dX8_lotBy_108 : decode cX8_lotBy 108 = .ok (.aload_n 0, 1) := by decide +kernel
theorem dX8_lotBy_109 : decode cX8_lotBy 109 = .ok (.getfield 40, 3) := by decide +kernel
theorem dX8_lotBy_112 : decode cX8_lotBy 112 = .ok (.iload_n 2, 1) := by decide +kernel
theorem dX8_lotBy_113 : decode cX8_lotBy 113 = .ok (.iaload, 1) := by decide +kernel
theorem dX8_lotBy_114 : decode cX8_lotBy 114 = .ok (.if_icmp .lt 25, 3) := by decide +kernel
theorem dX8_lotBy_117 : decode cX8_lotBy 117 = .ok (.aload_n 0, 1) := by decide +kernel
theorem dX8_lotBy_118 : decode cX8_lotBy 118 = .ok (.getfield 40, 3) := by decide +kernel
theorem dX8_lotBy_12 : decode cX8_lotBy 12 = .ok (.bipush 8, 2) := by decide +kernel
theorem dX8_lotBy_121 : decode cX8_lotBy 121 = .ok (.iload 4, 2) := by decide +kernel
theorem dX8_lotBy_123 : decode cX8_lotBy 123 = .ok (.iaload, 1) := by decide +kernel
theorem dX8_lotBy_124 : decode cX8_lotBy 124 = .ok (.aload_n 0, 1) := by decide +kernel
theorem dX8_lotBy_125 : decode cX8_lotBy 125 = .ok (.getfield 40, 3) := by decide +kernel
theorem dX8_lotBy_128 : decode cX8_lotBy 128 = .ok (.iload_n 2, 1) := by decide +kernel
theorem dX8_lotBy_129 : decode cX8_lotBy 129 = .ok (.iaload, 1) := by decide +kernel
theorem dX8_lotBy_130 : decode cX8_lotBy 130 = .ok (.if_icmp .ne 13, 3) := by decide +kernel
theorem dX8_lotBy_133 : decode cX8_lotBy 133 = .ok (.iload 4, 2) := by decide +kernel
theorem dX8_lotBy_135 : decode cX8_lotBy 135 = .ok (.iload_n 2, 1) := by decide +kernel
theorem dX8_lotBy_136 : decode cX8_lotBy 136 = .ok (.if_icmp .ge 7, 3) := by decide +kernel
theorem dX8_lotBy_139 : decode cX8_lotBy 139 = .ok (.iconst 1, 1) := by decide +kernel
theorem dX8_lotBy_14 : decode cX8_lotBy 14 = .ok (.iaload, 1) := by decide +kernel
theorem dX8_lotBy_140 : decode cX8_lotBy 140 = .ok (.goto 4, 3) := by decide +kernel
theorem dX8_lotBy_143 : decode cX8_lotBy 143 = .ok (.iconst 0, 1) := by decide +kernel
theorem dX8_lotBy_144 : decode cX8_lotBy 144 = .ok (.iadd, 1) := by decide +kernel
theorem dX8_lotBy_145 : decode cX8_lotBy 145 = .ok (.istore_n 3, 1) := by decide +kernel
theorem dX8_lotBy_146 : decode cX8_lotBy 146 = .ok (.iinc 4 1, 3) := by decide +kernel
theorem dX8_lotBy_149 : decode cX8_lotBy 149 = .ok (.goto (-61), 3) := by decide +kernel
theorem dX8_lotBy_15 : decode cX8_lotBy 15 = .ok (.iconst 1, 1) := by decide +kernel
theorem dX8_lotBy_152 : decode cX8_lotBy 152 = .ok (.iload_n 3, 1) := by decide +kernel
theorem dX8_lotBy_153 : decode cX8_lotBy 153 = .ok (.iload_n 1, 1) := by decide +kernel
theorem dX8_lotBy_154 : decode cX8_lotBy 154 = .ok (.if_icmp .ne 5, 3) := by decide +kernel
theorem dX8_lotBy_157 : decode cX8_lotBy 157 = .ok (.iload_n 2, 1) := by decide +kernel
theorem dX8_lotBy_158 : decode cX8_lotBy 158 = .ok (.ireturn, 1) := by decide +kernel
theorem dX8_lotBy_159 : decode cX8_lotBy 159 = .ok (.iinc 2 1, 3) := by decide +kernel
theorem dX8_lotBy_16 : decode cX8_lotBy 16 = .ok (.isub, 1) := by decide +kernel
theorem dX8_lotBy_162 : decode cX8_lotBy 162 = .ok (.goto (-90), 3) := by decide +kernel
theorem dX8_lotBy_165 : decode cX8_lotBy 165 = .ok (.iconst (-1), 1) := by decide +kernel
theorem dX8_lotBy_166 : decode cX8_lotBy 166 = .ok (.ireturn, 1) := by decide +kernel
theorem dX8_lotBy_17 : decode cX8_lotBy 17 = .ok (.i2l, 1) := by decide +kernel
theorem dX8_lotBy_18 : decode cX8_lotBy 18 = .ok (.invokestatic 52, 3) := by decide +kernel
theorem dX8_lotBy_2 : decode cX8_lotBy 2 = .ok (.putfield 49, 3) := by decide +kernel
theorem dX8_lotBy_21 : decode cX8_lotBy 21 = .ok (.ifCond .ne 5, 3) := by decide +kernel
theorem dX8_lotBy_24 : decode cX8_lotBy 24 = .ok (.iconst (-1), 1) := by decide +kernel
theorem dX8_lotBy_25 : decode cX8_lotBy 25 = .ok (.ireturn, 1) := by decide +kernel
theorem dX8_lotBy_26 : decode cX8_lotBy 26 = .ok (.iconst 0, 1) := by decide +kernel
theorem dX8_lotBy_27 : decode cX8_lotBy 27 = .ok (.istore_n 2, 1) := by decide +kernel
theorem dX8_lotBy_28 : decode cX8_lotBy 28 = .ok (.iload_n 2, 1) := by decide +kernel
theorem dX8_lotBy_29 : decode cX8_lotBy 29 = .ok (.aload_n 0, 1) := by decide +kernel
theorem dX8_lotBy_30 : decode cX8_lotBy 30 = .ok (.getfield 9, 3) := by decide +kernel
theorem dX8_lotBy_33 : decode cX8_lotBy 33 = .ok (.bipush 8, 2) := by decide +kernel
theorem dX8_lotBy_35 : decode cX8_lotBy 35 = .ok (.iaload, 1) := by decide +kernel
theorem dX8_lotBy_36 : decode cX8_lotBy 36 = .ok (.if_icmp .ge 34, 3) := by decide +kernel
theorem dX8_lotBy_39 : decode cX8_lotBy 39 = .ok (.aload_n 0, 1) := by decide +kernel
theorem dX8_lotBy_40 : decode cX8_lotBy 40 = .ok (.iconst 1, 1) := by decide +kernel
theorem dX8_lotBy_41 : decode cX8_lotBy 41 = .ok (.iload_n 2, 1) := by decide +kernel
theorem dX8_lotBy_42 : decode cX8_lotBy 42 = .ok (.invokevirtual 362, 3) := by decide +kernel
theorem dX8_lotBy_45 : decode cX8_lotBy 45 = .ok (.istore_n 3, 1) := by decide +kernel
theorem dX8_lotBy_46 : decode cX8_lotBy 46 = .ok (.aload_n 0, 1) := by decide +kernel
theorem dX8_lotBy_47 : decode cX8_lotBy 47 = .ok (.getfield 40, 3) := by decide +kernel
theorem dX8_lotBy_5 : decode cX8_lotBy 5 = .ok (.iload_n 1, 1) := by decide +kernel
theorem dX8_lotBy_50 : decode cX8_lotBy 50 = .ok (.iload_n 2, 1) := by decide +kernel
theorem dX8_lotBy_51 : decode cX8_lotBy 51 = .ok (.iload_n 3, 1) := by decide +kernel
theorem dX8_lotBy_52 : decode cX8_lotBy 52 = .ok (.iconst (-1), 1) := by decide +kernel
theorem dX8_lotBy_53 : decode cX8_lotBy 53 = .ok (.if_icmp .ne 9, 3) := by decide +kernel
theorem dX8_lotBy_56 : decode cX8_lotBy 56 = .ok (.sipush 2001, 3) := by decide +kernel
theorem dX8_lotBy_59 : decode cX8_lotBy 59 = .ok (.goto 4, 3) := by decide +kernel
theorem dX8_lotBy_6 : decode cX8_lotBy 6 = .ok (.i2l, 1) := by decide +kernel
theorem dX8_lotBy_62 : decode cX8_lotBy 62 = .ok (.iload_n 3, 1) := by decide +kernel
theorem dX8_lotBy_63 : decode cX8_lotBy 63 = .ok (.iastore, 1) := by decide +kernel
theorem dX8_lotBy_64 : decode cX8_lotBy 64 = .ok (.iinc 2 1, 3) := by decide +kernel
theorem dX8_lotBy_67 : decode cX8_lotBy 67 = .ok (.goto (-39), 3) := by decide +kernel
theorem dX8_lotBy_7 : decode cX8_lotBy 7 = .ok (.lconst 0, 1) := by decide +kernel
theorem dX8_lotBy_70 : decode cX8_lotBy 70 = .ok (.iconst 0, 1) := by decide +kernel
theorem dX8_lotBy_71 : decode cX8_lotBy 71 = .ok (.istore_n 2, 1) := by decide +kernel
theorem dX8_lotBy_72 : decode cX8_lotBy 72 = .ok (.iload_n 2, 1) := by decide +kernel
theorem dX8_lotBy_73 : decode cX8_lotBy 73 = .ok (.aload_n 0, 1) := by decide +kernel
theorem dX8_lotBy_74 : decode cX8_lotBy 74 = .ok (.getfield 9, 3) := by decide +kernel
theorem dX8_lotBy_77 : decode cX8_lotBy 77 = .ok (.bipush 8, 2) := by decide +kernel
theorem dX8_lotBy_79 : decode cX8_lotBy 79 = .ok (.iaload, 1) := by decide +kernel
theorem dX8_lotBy_8 : decode cX8_lotBy 8 = .ok (.aload_n 0, 1) := by decide +kernel
theorem dX8_lotBy_80 : decode cX8_lotBy 80 = .ok (.if_icmp .ge 85, 3) := by decide +kernel
theorem dX8_lotBy_83 : decode cX8_lotBy 83 = .ok (.iconst 0, 1) := by decide +kernel
theorem dX8_lotBy_84 : decode cX8_lotBy 84 = .ok (.istore_n 3, 1) := by decide +kernel
theorem dX8_lotBy_85 : decode cX8_lotBy 85 = .ok (.iconst 0, 1) := by decide +kernel
theorem dX8_lotBy_86 : decode cX8_lotBy 86 = .ok (.istore 4, 2) := by decide +kernel
theorem dX8_lotBy_88 : decode cX8_lotBy 88 = .ok (.iload 4, 2) := by decide +kernel
theorem dX8_lotBy_9 : decode cX8_lotBy 9 = .ok (.getfield 9, 3) := by decide +kernel
theorem dX8_lotBy_90 : decode cX8_lotBy 90 = .ok (.aload_n 0, 1) := by decide +kernel
theorem dX8_lotBy_91 : decode cX8_lotBy 91 = .ok (.getfield 9, 3) := by decide +kernel
theorem dX8_lotBy_94 : decode cX8_lotBy 94 = .ok (.bipush 8, 2) := by decide +kernel
theorem dX8_lotBy_96 : decode cX8_lotBy 96 = .ok (.iaload, 1) := by decide +kernel
theorem dX8_lotBy_97 : decode cX8_lotBy 97 = .ok (.if_icmp .ge 55, 3) := by decide +kernel
theorem dX8_lotIn_0 : decode cX8_lotIn 0 = .ok (.aload_n 0, 1) := by decide +kernel
theorem dX8_lotIn_1 : decode cX8_lotIn 1 = .ok (.aload_n 0, 1) := by decide +kernel
theorem dX8_lotIn_10 : decode cX8_lotIn 10 = .ok (.ifCond .eq 7, 3) := by decide +kernel
theorem dX8_lotIn_13 : decode cX8_lotIn 13 = .ok (.iconst 0, 1) := by decide +kernel
theorem dX8_lotIn_14 : decode cX8_lotIn 14 = .ok (.goto 9, 3) := by decide +kernel
theorem dX8_lotIn_17 : decode cX8_lotIn 17 = .ok (.aload_n 0, 1) := by decide +kernel
theorem dX8_lotIn_18 : decode cX8_lotIn 18 = .ok (.iconst 1, 1) := by decide +kernel
theorem dX8_lotIn_19 : decode cX8_lotIn 19 = .ok (.iload_n 1, 1) := by decide +kernel
theorem dX8_lotIn_2 : decode cX8_lotIn 2 = .ok (.iload_n 1, 1) := by decide +kernel
theorem dX8_lotIn_20 : decode cX8_lotIn 20 = .ok (.invokevirtual 362, 3) := by decide +kernel
theorem dX8_lotIn_23 : decode cX8_lotIn 23 = .ok (.ireturn, 1) := by decide +kernel
theorem dX8_lotIn_3 : decode cX8_lotIn 3 = .ok (.invokevirtual 222, 3) := by decide +kernel
theorem dX8_lotIn_6 : decode cX8_lotIn 6 = .ok (.iconst 1, 1) := by decide +kernel
theorem dX8_lotIn_7 : decode cX8_lotIn 7 = .ok (.invokevirtual 226, 3) := by decide +kernel
theorem dX8_lotPart_0 : decode cX8_lotPart 0 = .ok (.aload_n 0, 1) := by decide +kernel
theorem dX8_lotPart_1 : decode cX8_lotPart 1 = .ok (.aload_n 0, 1) := by decide +kernel
theorem dX8_lotPart_10 : decode cX8_lotPart 10 = .ok (.if_icmp .ne 7, 3) := by decide +kernel
theorem dX8_lotPart_13 : decode cX8_lotPart 13 = .ok (.iconst 1, 1) := by decide +kernel
theorem dX8_lotPart_14 : decode cX8_lotPart 14 = .ok (.goto 4, 3) := by decide +kernel
theorem dX8_lotPart_17 : decode cX8_lotPart 17 = .ok (.iconst 0, 1) := by decide +kernel
theorem dX8_lotPart_18 : decode cX8_lotPart 18 = .ok (.invokevirtual 152, 3) := by decide +kernel
theorem dX8_lotPart_2 : decode cX8_lotPart 2 = .ok (.getfield 9, 3) := by decide +kernel
theorem dX8_lotPart_21 : decode cX8_lotPart 21 = .ok (.aload_n 0, 1) := by decide +kernel
theorem dX8_lotPart_22 : decode cX8_lotPart 22 = .ok (.iconst 0, 1) := by decide +kernel
theorem dX8_lotPart_23 : decode cX8_lotPart 23 = .ok (.bipush 9, 2) := by decide +kernel
theorem dX8_lotPart_25 : decode cX8_lotPart 25 = .ok (.invokevirtual 121, 3) := by decide +kernel
theorem dX8_lotPart_28 : decode cX8_lotPart 28 = .ok (.istore_n 1, 1) := by decide +kernel
theorem dX8_lotPart_29 : decode cX8_lotPart 29 = .ok (.aload_n 0, 1) := by decide +kernel
theorem dX8_lotPart_30 : decode cX8_lotPart 30 = .ok (.getfield 75, 3) := by decide +kernel
theorem dX8_lotPart_33 : decode cX8_lotPart 33 = .ok (.ifCond .ne 34, 3) := by decide +kernel
theorem dX8_lotPart_36 : decode cX8_lotPart 36 = .ok (.aload_n 0, 1) := by decide +kernel
theorem dX8_lotPart_37 : decode cX8_lotPart 37 = .ok (.getfield 9, 3) := by decide +kernel
theorem dX8_lotPart_40 : decode cX8_lotPart 40 = .ok (.bipush 113, 2) := by decide +kernel
theorem dX8_lotPart_42 : decode cX8_lotPart 42 = .ok (.iconst 4, 1) := by decide +kernel
theorem dX8_lotPart_43 : decode cX8_lotPart 43 = .ok (.aload_n 0, 1) := by decide +kernel
theorem dX8_lotPart_44 : decode cX8_lotPart 44 = .ok (.getfield 9, 3) := by decide +kernel
theorem dX8_lotPart_47 : decode cX8_lotPart 47 = .ok (.bipush 8, 2) := by decide +kernel
theorem dX8_lotPart_49 : decode cX8_lotPart 49 = .ok (.iaload, 1) := by decide +kernel
theorem dX8_lotPart_5 : decode cX8_lotPart 5 = .ok (.bipush 8, 2) := by decide +kernel
theorem dX8_lotPart_50 : decode cX8_lotPart 50 = .ok (.imul, 1) := by decide +kernel
theorem dX8_lotPart_51 : decode cX8_lotPart 51 = .ok (.iadd, 1) := by decide +kernel
theorem dX8_lotPart_52 : decode cX8_lotPart 52 = .ok (.iconst 0, 1) := by decide +kernel
theorem dX8_lotPart_53 : decode cX8_lotPart 53 = .ok (.iadd, 1) := by decide +kernel
theorem dX8_lotPart_54 : decode cX8_lotPart 54 = .ok (.iload_n 1, 1) := by decide +kernel
theorem dX8_lotPart_55 : decode cX8_lotPart 55 = .ok (.iastore, 1) := by decide +kernel
theorem dX8_lotPart_56 : decode cX8_lotPart 56 = .ok (.aload_n 0, 1) := by decide +kernel
theorem dX8_lotPart_57 : decode cX8_lotPart 57 = .ok (.getfield 9, 3) := by decide +kernel
theorem dX8_lotPart_60 : decode cX8_lotPart 60 = .ok (.bipush 8, 2) := by decide +kernel
theorem dX8_lotPart_62 : decode cX8_lotPart 62 = .ok (.dup2, 1) := by decide +kernel
theorem dX8_lotPart_63 : decode cX8_lotPart 63 = .ok (.iaload, 1) := by decide +kernel
theorem dX8_lotPart_64 : decode cX8_lotPart 64 = .ok (.iconst 1, 1) := by decide +kernel
theorem dX8_lotPart_65 : decode cX8_lotPart 65 = .ok (.iadd, 1) := by decide +kernel
theorem dX8_lotPart_66 : decode cX8_lotPart 66 = .ok (.iastore, 1) := by decide +kernel
theorem dX8_lotPart_67 : decode cX8_lotPart 67 = .ok (.return_, 1) := by decide +kernel
theorem dX8_lotPart_7 : decode cX8_lotPart 7 = .ok (.iaload, 1) := by decide +kernel
theorem dX8_lotPart_8 : decode cX8_lotPart 8 = .ok (.bipush 6, 2) := by decide +kernel
theorem dX8_lot_0 : decode cX8_lot 0 = .ok (.aload_n 0, 1) := by decide +kernel
theorem dX8_lot_1 : decode cX8_lot 1 = .ok (.aload_n 0, 1) := by decide +kernel
theorem dX8_lot_10 : decode cX8_lot 10 = .ok (.ifCond .ne 20, 3) := by decide +kernel
theorem dX8_lot_100 : decode cX8_lot 100 = .ok (.aload_n 0, 1) := by decide +kernel
theorem dX8_lot_101 : decode cX8_lot 101 = .ok (.iload_n 1, 1) := by decide +kernel
theorem dX8_lot_102 : decode cX8_lot 102 = .ok (.iconst 5, 1) := by decide +kernel
theorem dX8_lot_103 : decode cX8_lot 103 = .ok (.invokevirtual 264, 3) := by decide +kernel
theorem dX8_lot_106 : decode cX8_lot 106 = .ok (.ireturn, 1) := by decide +kernel
theorem dX8_lot_107 : decode cX8_lot 107 = .ok (.aload_n 0, 1) := by decide +kernel
theorem dX8_lot_108 : decode cX8_lot 108 = .ok (.iload_n 1, 1) := by decide +kernel
theorem dX8_lot_109 : decode cX8_lot 109 = .ok (.bipush 6, 2) := by decide +kernel
theorem dX8_lot_111 : decode cX8_lot 111 = .ok (.invokevirtual 264, 3) := by decide +kernel
theorem dX8_lot_114 : decode cX8_lot 114 = .ok (.ireturn, 1) := by decide +kernel
theorem dX8_lot_115 : decode cX8_lot 115 = .ok (.aload_n 0, 1) := by decide +kernel
theorem dX8_lot_116 : decode cX8_lot 116 = .ok (.iload_n 1, 1) := by decide +kernel
theorem dX8_lot_117 : decode cX8_lot 117 = .ok (.invokevirtual 267, 3) := by decide +kernel
theorem dX8_lot_120 : decode cX8_lot 120 = .ok (.ireturn, 1) := by decide +kernel
theorem dX8_lot_13 : decode cX8_lot 13 = .ok (.aload_n 0, 1) := by decide +kernel
theorem dX8_lot_14 : decode cX8_lot 14 = .ok (.iload_n 2, 1) := by decide +kernel
theorem dX8_lot_15 : decode cX8_lot 15 = .ok (.i2l, 1) := by decide +kernel
theorem dX8_lot_16 : decode cX8_lot 16 = .ok (.lconst 0, 1) := by decide +kernel
theorem dX8_lot_17 : decode cX8_lot 17 = .ok (.ldc2_w 259, 3) := by decide +kernel
theorem dX8_lot_2 : decode cX8_lot 2 = .ok (.iload_n 1, 1) := by decide +kernel
theorem dX8_lot_20 : decode cX8_lot 20 = .ok (.invokestatic 52, 3) := by decide +kernel
theorem dX8_lot_23 : decode cX8_lot 23 = .ok (.iconst 2, 1) := by decide +kernel
theorem dX8_lot_24 : decode cX8_lot 24 = .ok (.invokevirtual 226, 3) := by decide +kernel
theorem dX8_lot_27 : decode cX8_lot 27 = .ok (.ifCond .eq 5, 3) := by decide +kernel
theorem dX8_lot_3 : decode cX8_lot 3 = .ok (.invokevirtual 222, 3) := by decide +kernel
theorem dX8_lot_30 : decode cX8_lot 30 = .ok (.iconst 0, 1) := by decide +kernel
theorem dX8_lot_31 : decode cX8_lot 31 = .ok (.ireturn, 1) := by decide +kernel
theorem dX8_lot_32 : decode cX8_lot 32 = .ok (.iload_n 2, 1) := by decide +kernel
theorem dX8_lot_33 : decode cX8_lot 33 = .ok (.tableswitch 82 0 5 #[39, 46, 53, 60, 67, 74], 39) := by decide +kernel
theorem dX8_lot_6 : decode cX8_lot 6 = .ok (.iconst 1, 1) := by decide +kernel
theorem dX8_lot_7 : decode cX8_lot 7 = .ok (.invokevirtual 226, 3) := by decide +kernel
theorem dX8_lot_72 : decode cX8_lot 72 = .ok (.aload_n 0, 1) := by decide +kernel
theorem dX8_lot_73 : decode cX8_lot 73 = .ok (.iload_n 1, 1) := by decide +kernel
theorem dX8_lot_74 : decode cX8_lot 74 = .ok (.iconst 0, 1) := by decide +kernel
theorem dX8_lot_75 : decode cX8_lot 75 = .ok (.invokevirtual 134, 3) := by decide +kernel
theorem dX8_lot_78 : decode cX8_lot 78 = .ok (.ireturn, 1) := by decide +kernel
theorem dX8_lot_79 : decode cX8_lot 79 = .ok (.aload_n 0, 1) := by decide +kernel
theorem dX8_lot_80 : decode cX8_lot 80 = .ok (.iload_n 1, 1) := by decide +kernel
theorem dX8_lot_81 : decode cX8_lot 81 = .ok (.iconst 1, 1) := by decide +kernel
theorem dX8_lot_82 : decode cX8_lot 82 = .ok (.invokevirtual 134, 3) := by decide +kernel
theorem dX8_lot_85 : decode cX8_lot 85 = .ok (.ireturn, 1) := by decide +kernel
theorem dX8_lot_86 : decode cX8_lot 86 = .ok (.aload_n 0, 1) := by decide +kernel
theorem dX8_lot_87 : decode cX8_lot 87 = .ok (.iload_n 1, 1) := by decide +kernel
theorem dX8_lot_88 : decode cX8_lot 88 = .ok (.iconst 3, 1) := by decide +kernel
theorem dX8_lot_89 : decode cX8_lot 89 = .ok (.invokevirtual 261, 3) := by decide +kernel
theorem dX8_lot_92 : decode cX8_lot 92 = .ok (.ireturn, 1) := by decide +kernel
theorem dX8_lot_93 : decode cX8_lot 93 = .ok (.aload_n 0, 1) := by decide +kernel
theorem dX8_lot_94 : decode cX8_lot 94 = .ok (.iload_n 1, 1) := by decide +kernel
theorem dX8_lot_95 : decode cX8_lot 95 = .ok (.iconst 4, 1) := by decide +kernel
theorem dX8_lot_96 : decode cX8_lot 96 = .ok (.invokevirtual 261, 3) := by decide +kernel
theorem dX8_lot_99 : decode cX8_lot 99 = .ok (.ireturn, 1) := by decide +kernel
theorem dX8_meanFails_0 : decode cX8_meanFails 0 = .ok (.aload_n 0, 1) := by decide +kernel
theorem dX8_meanFails_1 : decode cX8_meanFails 1 = .ok (.iconst 0, 1) := by decide +kernel
theorem dX8_meanFails_11 : decode cX8_meanFails 11 = .ok (.iaload, 1) := by decide +kernel
theorem dX8_meanFails_12 : decode cX8_meanFails 12 = .ok (.ifCond .ne 7, 3) := by decide +kernel
theorem dX8_meanFails_15 : decode cX8_meanFails 15 = .ok (.fconst 0, 1) := by decide +kernel
theorem dX8_meanFails_16 : decode cX8_meanFails 16 = .ok (.goto 20, 3) := by decide +kernel
theorem dX8_meanFails_19 : decode cX8_meanFails 19 = .ok (.aload_n 0, 1) := by decide +kernel
theorem dX8_meanFails_2 : decode cX8_meanFails 2 = .ok (.putfield 49, 3) := by decide +kernel
theorem dX8_meanFails_20 : decode cX8_meanFails 20 = .ok (.getfield 9, 3) := by decide +kernel
theorem dX8_meanFails_23 : decode cX8_meanFails 23 = .ok (.bipush 13, 2) := by decide +kernel
theorem dX8_meanFails_25 : decode cX8_meanFails 25 = .ok (.iaload, 1) := by decide +kernel
theorem dX8_meanFails_26 : decode cX8_meanFails 26 = .ok (.i2f, 1) := by decide +kernel
theorem dX8_meanFails_27 : decode cX8_meanFails 27 = .ok (.aload_n 0, 1) := by decide +kernel
theorem dX8_meanFails_28 : decode cX8_meanFails 28 = .ok (.getfield 9, 3) := by decide +kernel
theorem dX8_meanFails_31 : decode cX8_meanFails 31 = .ok (.bipush 9, 2) := by decide +kernel
theorem dX8_meanFails_33 : decode cX8_meanFails 33 = .ok (.iaload, 1) := by decide +kernel
theorem dX8_meanFails_34 : decode cX8_meanFails 34 = .ok (.i2f, 1) := by decide +kernel
theorem dX8_meanFails_35 : decode cX8_meanFails 35 = .ok (.fdiv, 1) := by decide +kernel
theorem dX8_meanFails_36 : decode cX8_meanFails 36 = .ok (.freturn, 1) := by decide +kernel
theorem dX8_meanFails_5 : decode cX8_meanFails 5 = .ok (.aload_n 0, 1) := by decide +kernel
theorem dX8_meanFails_6 : decode cX8_meanFails 6 = .ok (.getfield 9, 3) := by decide +kernel
theorem dX8_meanFails_9 : decode cX8_meanFails 9 = .ok (.bipush 9, 2) := by decide +kernel
theorem dX8_mostPace_0 : decode cX8_mostPace 0 = .ok (.iload_n 0, 1) := by decide +kernel
theorem dX8_mostPace_1 : decode cX8_mostPace 1 = .ok (.iconst 3, 1) := by decide +kernel
theorem dX8_mostPace_10 : decode cX8_mostPace 10 = .ok (.bipush 99, 2) := by decide +kernel
theorem dX8_mostPace_12 : decode cX8_mostPace 12 = .ok (.ireturn, 1) := by decide +kernel
theorem dX8_mostPace_2 : decode cX8_mostPace 2 = .ok (.if_icmp .ne 8, 3) := by decide +kernel
theorem dX8_mostPace_5 : decode cX8_mostPace 5 = .ok (.bipush 9, 2) := by decide +kernel
theorem dX8_mostPace_7 : decode cX8_mostPace 7 = .ok (.goto 5, 3) := by decide +kernel
theorem dX8_nextFed_0 : decode cX8_nextFed 0 = .ok (.aload_n 0, 1) := by decide +kernel
theorem dX8_nextFed_1 : decode cX8_nextFed 1 = .ok (.iconst 0, 1) := by decide +kernel
theorem dX8_nextFed_2 : decode cX8_nextFed 2 = .ok (.putfield 49, 3) := by decide +kernel
theorem dX8_nextFed_5 : decode cX8_nextFed 5 = .ok (.aload_n 0, 1) := by decide +kernel
theorem dX8_nextFed_6 : decode cX8_nextFed 6 = .ok (.invokevirtual 282, 3) := by decide +kernel
theorem dX8_nextFed_9 : decode cX8_nextFed 9 = .ok (.ireturn, 1) := by decide +kernel
theorem dX8_nextOf_0 : decode cX8_nextOf 0 = .ok (.iconst (-1), 1) := by decide +kernel
theorem dX8_nextOf_1 : decode cX8_nextOf 1 = .ok (.istore_n 2, 1) := by decide +kernel
theorem dX8_nextOf_11 : decode cX8_nextOf 11 = .ok (.iaload, 1) := by decide +kernel
theorem dX8_nextOf_12 : decode cX8_nextOf 12 = .ok (.if_icmp .ge 61, 3) := by decide +kernel
theorem dX8_nextOf_15 : decode cX8_nextOf 15 = .ok (.aload_n 0, 1) := by decide +kernel
theorem dX8_nextOf_16 : decode cX8_nextOf 16 = .ok (.iload_n 3, 1) := by decide +kernel
theorem dX8_nextOf_17 : decode cX8_nextOf 17 = .ok (.iconst 0, 1) := by decide +kernel
theorem dX8_nextOf_18 : decode cX8_nextOf 18 = .ok (.invokevirtual 233, 3) := by decide +kernel
theorem dX8_nextOf_2 : decode cX8_nextOf 2 = .ok (.iconst 0, 1) := by decide +kernel
theorem dX8_nextOf_21 : decode cX8_nextOf 21 = .ok (.iload_n 1, 1) := by decide +kernel
theorem dX8_nextOf_22 : decode cX8_nextOf 22 = .ok (.if_icmp .ne 15, 3) := by decide +kernel
theorem dX8_nextOf_25 : decode cX8_nextOf 25 = .ok (.aload_n 0, 1) := by decide +kernel
theorem dX8_nextOf_26 : decode cX8_nextOf 26 = .ok (.iload_n 3, 1) := by decide +kernel
theorem dX8_nextOf_27 : decode cX8_nextOf 27 = .ok (.invokevirtual 256, 3) := by decide +kernel
theorem dX8_nextOf_3 : decode cX8_nextOf 3 = .ok (.istore_n 3, 1) := by decide +kernel
theorem dX8_nextOf_30 : decode cX8_nextOf 30 = .ok (.ifCond .ne 7, 3) := by decide +kernel
theorem dX8_nextOf_33 : decode cX8_nextOf 33 = .ok (.iconst 1, 1) := by decide +kernel
theorem dX8_nextOf_34 : decode cX8_nextOf 34 = .ok (.goto 4, 3) := by decide +kernel
theorem dX8_nextOf_37 : decode cX8_nextOf 37 = .ok (.iconst 0, 1) := by decide +kernel
theorem dX8_nextOf_38 : decode cX8_nextOf 38 = .ok (.istore 4, 2) := by decide +kernel
theorem dX8_nextOf_4 : decode cX8_nextOf 4 = .ok (.iload_n 3, 1) := by decide +kernel
theorem dX8_nextOf_40 : decode cX8_nextOf 40 = .ok (.iload 4, 2) := by decide +kernel
theorem dX8_nextOf_42 : decode cX8_nextOf 42 = .ok (.ifCond .eq 25, 3) := by decide +kernel
theorem dX8_nextOf_45 : decode cX8_nextOf 45 = .ok (.iload_n 2, 1) := by decide +kernel
theorem dX8_nextOf_46 : decode cX8_nextOf 46 = .ok (.iconst (-1), 1) := by decide +kernel
theorem dX8_nextOf_47 : decode cX8_nextOf 47 = .ok (.if_icmp .eq 18, 3) := by decide +kernel
theorem dX8_nextOf_5 : decode cX8_nextOf 5 = .ok (.aload_n 0, 1) := by decide +kernel
theorem dX8_nextOf_50 : decode cX8_nextOf 50 = .ok (.aload_n 0, 1) := by decide +kernel
theorem dX8_nextOf_51 : decode cX8_nextOf 51 = .ok (.iload_n 3, 1) := by decide +kernel
theorem dX8_nextOf_52 : decode cX8_nextOf 52 = .ok (.iconst 1, 1) := by decide +kernel
theorem dX8_nextOf_53 : decode cX8_nextOf 53 = .ok (.invokevirtual 233, 3) := by decide +kernel
theorem dX8_nextOf_56 : decode cX8_nextOf 56 = .ok (.aload_n 0, 1) := by decide +kernel
theorem dX8_nextOf_57 : decode cX8_nextOf 57 = .ok (.iload_n 2, 1) := by decide +kernel
theorem dX8_nextOf_58 : decode cX8_nextOf 58 = .ok (.iconst 1, 1) := by decide +kernel
theorem dX8_nextOf_59 : decode cX8_nextOf 59 = .ok (.invokevirtual 233, 3) := by decide +kernel
theorem dX8_nextOf_6 : decode cX8_nextOf 6 = .ok (.getfield 9, 3) := by decide +kernel
theorem dX8_nextOf_62 : decode cX8_nextOf 62 = .ok (.if_icmp .ge 5, 3) := by decide +kernel
theorem dX8_nextOf_65 : decode cX8_nextOf 65 = .ok (.iload_n 3, 1) := by decide +kernel
theorem dX8_nextOf_66 : decode cX8_nextOf 66 = .ok (.istore_n 2, 1) := by decide +kernel
theorem dX8_nextOf_67 : decode cX8_nextOf 67 = .ok (.iinc 3 1, 3) := by decide +kernel
theorem dX8_nextOf_70 : decode cX8_nextOf 70 = .ok (.goto (-66), 3) := by decide +kernel
theorem dX8_nextOf_73 : decode cX8_nextOf 73 = .ok (.iload_n 2, 1) := by decide +kernel
theorem dX8_nextOf_74 : decode cX8_nextOf 74 = .ok (.ireturn, 1) := by decide +kernel
theorem dX8_nextOf_9 : decode cX8_nextOf 9 = .ok (.bipush 9, 2) := by decide +kernel
theorem dX8_next_0 : decode cX8_next 0 = .ok (.aload_n 0, 1) := by decide +kernel
theorem dX8_next_1 : decode cX8_next 1 = .ok (.invokevirtual 68, 3) := by decide +kernel
theorem dX8_next_10 : decode cX8_next 10 = .ok (.dup, 1) := by decide +kernel
theorem dX8_next_11 : decode cX8_next 11 = .ok (.getfield 65, 3) := by decide +kernel
theorem dX8_next_14 : decode cX8_next 14 = .ok (.iconst 1, 1) := by decide +kernel
theorem dX8_next_15 : decode cX8_next 15 = .ok (.iadd, 1) := by decide +kernel
theorem dX8_next_16 : decode cX8_next 16 = .ok (.putfield 65, 3) := by decide +kernel
theorem dX8_next_19 : decode cX8_next 19 = .ok (.goto (-19), 3) := by decide +kernel
theorem dX8_next_22 : decode cX8_next 22 = .ok (.aload_n 0, 1) := by decide +kernel
theorem dX8_next_23 : decode cX8_next 23 = .ok (.aload_n 0, 1) := by decide +kernel
theorem dX8_next_24 : decode cX8_next 24 = .ok (.getfield 65, 3) := by decide +kernel
theorem dX8_next_27 : decode cX8_next 27 = .ok (.putfield 72, 3) := by decide +kernel
theorem dX8_next_30 : decode cX8_next 30 = .ok (.aload_n 0, 1) := by decide +kernel
theorem dX8_next_31 : decode cX8_next 31 = .ok (.invokevirtual 68, 3) := by decide +kernel
theorem dX8_next_34 : decode cX8_next 34 = .ok (.ireturn, 1) := by decide +kernel
theorem dX8_next_4 : decode cX8_next 4 = .ok (.bipush 32, 2) := by decide +kernel
theorem dX8_next_6 : decode cX8_next 6 = .ok (.if_icmp .ne 16, 3) := by decide +kernel
theorem dX8_next_9 : decode cX8_next 9 = .ok (.aload_n 0, 1) := by decide +kernel
theorem dX8_now_0 : decode cX8_now 0 = .ok (.aload_n 0, 1) := by decide +kernel
theorem dX8_now_1 : decode cX8_now 1 = .ok (.iconst 0, 1) := by decide +kernel
theorem dX8_now_11 : decode cX8_now 11 = .ok (.iaload, 1) := by decide +kernel
theorem dX8_now_12 : decode cX8_now 12 = .ok (.ireturn, 1) := by decide +kernel
theorem dX8_now_2 : decode cX8_now 2 = .ok (.putfield 49, 3) := by decide +kernel
theorem dX8_now_5 : decode cX8_now 5 = .ok (.aload_n 0, 1) := by decide +kernel
theorem dX8_now_6 : decode cX8_now 6 = .ok (.getfield 9, 3) := by decide +kernel
theorem dX8_now_9 : decode cX8_now 9 = .ok (.bipush 6, 2) := by decide +kernel
theorem dX8_number_0 : decode cX8_number 0 = .ok (.aload_n 0, 1) := by decide +kernel
theorem dX8_number_1 : decode cX8_number 1 = .ok (.getfield 75, 3) := by decide +kernel
theorem dX8_number_10 : decode cX8_number 10 = .ok (.invokevirtual 81, 3) := by decide +kernel
theorem dX8_number_100 : decode cX8_number 100 = .ok (.iload_n 1, 1) := by decide +kernel
theorem dX8_number_101 : decode cX8_number 101 = .ok (.ireturn, 1) := by decide +kernel
theorem dX8_number_102 : decode cX8_number 102 = .ok (.iload_n 3, 1) := by decide +kernel
theorem dX8_number_103 : decode cX8_number 103 = .ok (.ireturn, 1) := by decide +kernel
theorem dX8_number_13 : decode cX8_number 13 = .ok (.i2l, 1) := by decide +kernel
theorem dX8_number_14 : decode cX8_number 14 = .ok (.ldc2_w 96, 3) := by decide +kernel
theorem dX8_number_17 : decode cX8_number 17 = .ok (.ldc2_w 98, 3) := by decide +kernel
theorem dX8_number_20 : decode cX8_number 20 = .ok (.invokestatic 52, 3) := by decide +kernel
theorem dX8_number_23 : decode cX8_number 23 = .ok (.ifCond .ne 10, 3) := by decide +kernel
theorem dX8_number_26 : decode cX8_number 26 = .ok (.aload_n 0, 1) := by decide +kernel
theorem dX8_number_27 : decode cX8_number 27 = .ok (.iconst 1, 1) := by decide +kernel
theorem dX8_number_28 : decode cX8_number 28 = .ok (.invokevirtual 100, 3) := by decide +kernel
theorem dX8_number_31 : decode cX8_number 31 = .ok (.iload_n 1, 1) := by decide +kernel
theorem dX8_number_32 : decode cX8_number 32 = .ok (.ireturn, 1) := by decide +kernel
theorem dX8_number_33 : decode cX8_number 33 = .ok (.iconst 0, 1) := by decide +kernel
theorem dX8_number_34 : decode cX8_number 34 = .ok (.istore_n 3, 1) := by decide +kernel
theorem dX8_number_35 : decode cX8_number 35 = .ok (.aload_n 0, 1) := by decide +kernel
theorem dX8_number_36 : decode cX8_number 36 = .ok (.invokevirtual 68, 3) := by decide +kernel
theorem dX8_number_39 : decode cX8_number 39 = .ok (.i2l, 1) := by decide +kernel
theorem dX8_number_4 : decode cX8_number 4 = .ok (.ifCond .eq 5, 3) := by decide +kernel
theorem dX8_number_40 : decode cX8_number 40 = .ok (.ldc2_w 96, 3) := by decide +kernel
theorem dX8_number_43 : decode cX8_number 43 = .ok (.ldc2_w 98, 3) := by decide +kernel
theorem dX8_number_46 : decode cX8_number 46 = .ok (.invokestatic 52, 3) := by decide +kernel
theorem dX8_number_49 : decode cX8_number 49 = .ok (.ifCond .eq 34, 3) := by decide +kernel
theorem dX8_number_52 : decode cX8_number 52 = .ok (.ldc 104, 2) := by decide +kernel
theorem dX8_number_54 : decode cX8_number 54 = .ok (.bipush 10, 2) := by decide +kernel
theorem dX8_number_56 : decode cX8_number 56 = .ok (.iload_n 3, 1) := by decide +kernel
theorem dX8_number_57 : decode cX8_number 57 = .ok (.imul, 1) := by decide +kernel
theorem dX8_number_58 : decode cX8_number 58 = .ok (.aload_n 0, 1) := by decide +kernel
theorem dX8_number_59 : decode cX8_number 59 = .ok (.invokevirtual 68, 3) := by decide +kernel
theorem dX8_number_62 : decode cX8_number 62 = .ok (.iadd, 1) := by decide +kernel
theorem dX8_number_63 : decode cX8_number 63 = .ok (.bipush 48, 2) := by decide +kernel
theorem dX8_number_65 : decode cX8_number 65 = .ok (.isub, 1) := by decide +kernel
theorem dX8_number_66 : decode cX8_number 66 = .ok (.invokestatic 105, 3) := by decide +kernel
theorem dX8_number_69 : decode cX8_number 69 = .ok (.istore_n 3, 1) := by decide +kernel
theorem dX8_number_7 : decode cX8_number 7 = .ok (.iload_n 1, 1) := by decide +kernel
theorem dX8_number_70 : decode cX8_number 70 = .ok (.aload_n 0, 1) := by decide +kernel
theorem dX8_number_71 : decode cX8_number 71 = .ok (.dup, 1) := by decide +kernel
theorem dX8_number_72 : decode cX8_number 72 = .ok (.getfield 65, 3) := by decide +kernel
theorem dX8_number_75 : decode cX8_number 75 = .ok (.iconst 1, 1) := by decide +kernel
theorem dX8_number_76 : decode cX8_number 76 = .ok (.iadd, 1) := by decide +kernel
theorem dX8_number_77 : decode cX8_number 77 = .ok (.putfield 65, 3) := by decide +kernel
theorem dX8_number_8 : decode cX8_number 8 = .ok (.ireturn, 1) := by decide +kernel
theorem dX8_number_80 : decode cX8_number 80 = .ok (.goto (-45), 3) := by decide +kernel
theorem dX8_number_83 : decode cX8_number 83 = .ok (.iload_n 3, 1) := by decide +kernel
theorem dX8_number_84 : decode cX8_number 84 = .ok (.i2l, 1) := by decide +kernel
theorem dX8_number_85 : decode cX8_number 85 = .ok (.iload_n 1, 1) := by decide +kernel
theorem dX8_number_86 : decode cX8_number 86 = .ok (.i2l, 1) := by decide +kernel
theorem dX8_number_87 : decode cX8_number 87 = .ok (.iload_n 2, 1) := by decide +kernel
theorem dX8_number_88 : decode cX8_number 88 = .ok (.i2l, 1) := by decide +kernel
theorem dX8_number_89 : decode cX8_number 89 = .ok (.invokestatic 52, 3) := by decide +kernel
theorem dX8_number_9 : decode cX8_number 9 = .ok (.aload_n 0, 1) := by decide +kernel
theorem dX8_number_92 : decode cX8_number 92 = .ok (.ifCond .ne 10, 3) := by decide +kernel
theorem dX8_number_95 : decode cX8_number 95 = .ok (.aload_n 0, 1) := by decide +kernel
theorem dX8_number_96 : decode cX8_number 96 = .ok (.iconst 2, 1) := by decide +kernel
theorem dX8_number_97 : decode cX8_number 97 = .ok (.invokevirtual 100, 3) := by decide +kernel
theorem dX8_ofCard_0 : decode cX8_ofCard 0 = .ok (.aload_n 0, 1) := by decide +kernel
theorem dX8_ofCard_1 : decode cX8_ofCard 1 = .ok (.getfield 9, 3) := by decide +kernel
theorem dX8_ofCard_10 : decode cX8_ofCard 10 = .ok (.imul, 1) := by decide +kernel
theorem dX8_ofCard_11 : decode cX8_ofCard 11 = .ok (.iadd, 1) := by decide +kernel
theorem dX8_ofCard_12 : decode cX8_ofCard 12 = .ok (.iload_n 2, 1) := by decide +kernel
theorem dX8_ofCard_13 : decode cX8_ofCard 13 = .ok (.iadd, 1) := by decide +kernel
theorem dX8_ofCard_14 : decode cX8_ofCard 14 = .ok (.iaload, 1) := by decide +kernel
theorem dX8_ofCard_15 : decode cX8_ofCard 15 = .ok (.ireturn, 1) := by decide +kernel
theorem dX8_ofCard_4 : decode cX8_ofCard 4 = .ok (.sipush 137, 3) := by decide +kernel
theorem dX8_ofCard_7 : decode cX8_ofCard 7 = .ok (.bipush 25, 2) := by decide +kernel
theorem dX8_ofCard_9 : decode cX8_ofCard 9 = .ok (.iload_n 1, 1) := by decide +kernel
theorem dX8_ofLot_0 : decode cX8_ofLot 0 = .ok (.aload_n 0, 1) := by decide +kernel
theorem dX8_ofLot_1 : decode cX8_ofLot 1 = .ok (.getfield 9, 3) := by decide +kernel
theorem dX8_ofLot_10 : decode cX8_ofLot 10 = .ok (.iload_n 2, 1) := by decide +kernel
theorem dX8_ofLot_11 : decode cX8_ofLot 11 = .ok (.iadd, 1) := by decide +kernel
theorem dX8_ofLot_12 : decode cX8_ofLot 12 = .ok (.iaload, 1) := by decide +kernel
theorem dX8_ofLot_13 : decode cX8_ofLot 13 = .ok (.ireturn, 1) := by decide +kernel
theorem dX8_ofLot_4 : decode cX8_ofLot 4 = .ok (.bipush 113, 2) := by decide +kernel
theorem dX8_ofLot_6 : decode cX8_ofLot 6 = .ok (.iconst 4, 1) := by decide +kernel
theorem dX8_ofLot_7 : decode cX8_ofLot 7 = .ok (.iload_n 1, 1) := by decide +kernel
theorem dX8_ofLot_8 : decode cX8_ofLot 8 = .ok (.imul, 1) := by decide +kernel
theorem dX8_ofLot_9 : decode cX8_ofLot 9 = .ok (.iadd, 1) := by decide +kernel
theorem dX8_of_0 : decode cX8_of 0 = .ok (.aload_n 0, 1) := by decide +kernel
theorem dX8_of_1 : decode cX8_of 1 = .ok (.getfield 9, 3) := by decide +kernel
theorem dX8_of_10 : decode cX8_of 10 = .ok (.iadd, 1) := by decide +kernel
theorem dX8_of_11 : decode cX8_of 11 = .ok (.iload_n 2, 1) := by decide +kernel
theorem dX8_of_12 : decode cX8_of 12 = .ok (.iadd, 1) := by decide +kernel
theorem dX8_of_13 : decode cX8_of 13 = .ok (.iaload, 1) := by decide +kernel
theorem dX8_of_14 : decode cX8_of 14 = .ok (.ireturn, 1) := by decide +kernel
theorem dX8_of_4 : decode cX8_of 4 = .ok (.bipush 17, 2) := by decide +kernel
theorem dX8_of_6 : decode cX8_of 6 = .ok (.bipush 16, 2) := by decide +kernel
theorem dX8_of_8 : decode cX8_of 8 = .ok (.iload_n 1, 1) := by decide +kernel
theorem dX8_of_9 : decode cX8_of 9 = .ok (.imul, 1) := by decide +kernel
theorem dX8_order_0 : decode cX8_order 0 = .ok (.aload_n 0, 1) := by decide +kernel
theorem dX8_order_1 : decode cX8_order 1 = .ok (.aload_n 0, 1) := by decide +kernel
theorem dX8_order_10 : decode cX8_order 10 = .ok (.ifCond .eq 5, 3) := by decide +kernel
theorem dX8_order_102 : decode cX8_order 102 = .ok (.aload_n 0, 1) := by decide +kernel
theorem dX8_order_103 : decode cX8_order 103 = .ok (.getfield 9, 3) := by decide +kernel
theorem dX8_order_106 : decode cX8_order 106 = .ok (.bipush 9, 2) := by decide +kernel
theorem dX8_order_108 : decode cX8_order 108 = .ok (.iaload, 1) := by decide +kernel
theorem dX8_order_109 : decode cX8_order 109 = .ok (.iconst 1, 1) := by decide +kernel
theorem dX8_order_110 : decode cX8_order 110 = .ok (.isub, 1) := by decide +kernel
theorem dX8_order_111 : decode cX8_order 111 = .ok (.ireturn, 1) := by decide +kernel
theorem dX8_order_13 : decode cX8_order 13 = .ok (.iconst 0, 1) := by decide +kernel
theorem dX8_order_14 : decode cX8_order 14 = .ok (.ireturn, 1) := by decide +kernel
theorem dX8_order_15 : decode cX8_order 15 = .ok (.aload_n 0, 1) := by decide +kernel
theorem dX8_order_16 : decode cX8_order 16 = .ok (.invokevirtual 201, 3) := by decide +kernel
theorem dX8_order_19 : decode cX8_order 19 = .ok (.aload_n 0, 1) := by decide +kernel
theorem dX8_order_2 : decode cX8_order 2 = .ok (.iload_n 1, 1) := by decide +kernel
theorem dX8_order_20 : decode cX8_order 20 = .ok (.invokevirtual 163, 3) := by decide +kernel
theorem dX8_order_23 : decode cX8_order 23 = .ok (.aload_n 0, 1) := by decide +kernel
theorem dX8_order_24 : decode cX8_order 24 = .ok (.getfield 75, 3) := by decide +kernel
theorem dX8_order_27 : decode cX8_order 27 = .ok (.ifCond .ne 15, 3) := by decide +kernel
theorem dX8_order_3 : decode cX8_order 3 = .ok (.invokevirtual 222, 3) := by decide +kernel
theorem dX8_order_30 : decode cX8_order 30 = .ok (.aload_n 0, 1) := by decide +kernel
theorem dX8_order_31 : decode cX8_order 31 = .ok (.invokevirtual 81, 3) := by decide +kernel
theorem dX8_order_34 : decode cX8_order 34 = .ok (.ifCond .lt 8, 3) := by decide +kernel
theorem dX8_order_37 : decode cX8_order 37 = .ok (.aload_n 0, 1) := by decide +kernel
theorem dX8_order_38 : decode cX8_order 38 = .ok (.iconst 1, 1) := by decide +kernel
theorem dX8_order_39 : decode cX8_order 39 = .ok (.invokevirtual 100, 3) := by decide +kernel
theorem dX8_order_42 : decode cX8_order 42 = .ok (.aload_n 0, 1) := by decide +kernel
theorem dX8_order_43 : decode cX8_order 43 = .ok (.getfield 75, 3) := by decide +kernel
theorem dX8_order_46 : decode cX8_order 46 = .ok (.ifCond .ne 28, 3) := by decide +kernel
theorem dX8_order_49 : decode cX8_order 49 = .ok (.aload_n 0, 1) := by decide +kernel
theorem dX8_order_50 : decode cX8_order 50 = .ok (.getfield 9, 3) := by decide +kernel
theorem dX8_order_53 : decode cX8_order 53 = .ok (.bipush 9, 2) := by decide +kernel
theorem dX8_order_55 : decode cX8_order 55 = .ok (.iaload, 1) := by decide +kernel
theorem dX8_order_56 : decode cX8_order 56 = .ok (.bipush 30, 2) := by decide +kernel
theorem dX8_order_58 : decode cX8_order 58 = .ok (.if_icmp .ne 16, 3) := by decide +kernel
theorem dX8_order_6 : decode cX8_order 6 = .ok (.iconst 1, 1) := by decide +kernel
theorem dX8_order_61 : decode cX8_order 61 = .ok (.aload_n 0, 1) := by decide +kernel
theorem dX8_order_62 : decode cX8_order 62 = .ok (.aload_n 0, 1) := by decide +kernel
theorem dX8_order_63 : decode cX8_order 63 = .ok (.getfield 62, 3) := by decide +kernel
theorem dX8_order_66 : decode cX8_order 66 = .ok (.putfield 72, 3) := by decide +kernel
theorem dX8_order_69 : decode cX8_order 69 = .ok (.aload_n 0, 1) := by decide +kernel
theorem dX8_order_7 : decode cX8_order 7 = .ok (.invokevirtual 226, 3) := by decide +kernel
theorem dX8_order_70 : decode cX8_order 70 = .ok (.iconst 4, 1) := by decide +kernel
theorem dX8_order_71 : decode cX8_order 71 = .ok (.invokevirtual 100, 3) := by decide +kernel
theorem dX8_order_74 : decode cX8_order 74 = .ok (.aload_n 0, 1) := by decide +kernel
theorem dX8_order_75 : decode cX8_order 75 = .ok (.invokevirtual 216, 3) := by decide +kernel
theorem dX8_order_78 : decode cX8_order 78 = .ok (.aload_n 0, 1) := by decide +kernel
theorem dX8_order_79 : decode cX8_order 79 = .ok (.getfield 75, 3) := by decide +kernel
theorem dX8_order_82 : decode cX8_order 82 = .ok (.ifCond .eq 11, 3) := by decide +kernel
theorem dX8_order_85 : decode cX8_order 85 = .ok (.bipush (-100), 2) := by decide +kernel
theorem dX8_order_87 : decode cX8_order 87 = .ok (.aload_n 0, 1) := by decide +kernel
theorem dX8_order_88 : decode cX8_order 88 = .ok (.getfield 78, 3) := by decide +kernel
theorem dX8_order_91 : decode cX8_order 91 = .ok (.isub, 1) := by decide +kernel
theorem dX8_order_92 : decode cX8_order 92 = .ok (.ireturn, 1) := by decide +kernel
theorem dX8_order_93 : decode cX8_order 93 = .ok (.aload_n 0, 1) := by decide +kernel
theorem dX8_order_94 : decode cX8_order 94 = .ok (.invokevirtual 230, 3) := by decide +kernel
theorem dX8_order_97 : decode cX8_order 97 = .ok (.aload_n 0, 1) := by decide +kernel
theorem dX8_order_98 : decode cX8_order 98 = .ok (.iload_n 1, 1) := by decide +kernel
theorem dX8_order_99 : decode cX8_order 99 = .ok (.invokevirtual 166, 3) := by decide +kernel
theorem dX8_outputByte_0 : decode cX8_outputByte 0 = .ok (.aload_n 0, 1) := by decide +kernel
theorem dX8_outputByte_1 : decode cX8_outputByte 1 = .ok (.iconst 0, 1) := by decide +kernel
theorem dX8_outputByte_12 : decode cX8_outputByte 12 = .ok (.iconst 1, 1) := by decide +kernel
theorem dX8_outputByte_13 : decode cX8_outputByte 13 = .ok (.isub, 1) := by decide +kernel
theorem dX8_outputByte_14 : decode cX8_outputByte 14 = .ok (.i2l, 1) := by decide +kernel
theorem dX8_outputByte_15 : decode cX8_outputByte 15 = .ok (.invokestatic 52, 3) := by decide +kernel
theorem dX8_outputByte_18 : decode cX8_outputByte 18 = .ok (.ifCond .eq 12, 3) := by decide +kernel
theorem dX8_outputByte_2 : decode cX8_outputByte 2 = .ok (.putfield 49, 3) := by decide +kernel
theorem dX8_outputByte_21 : decode cX8_outputByte 21 = .ok (.aload_n 0, 1) := by decide +kernel
theorem dX8_outputByte_22 : decode cX8_outputByte 22 = .ok (.getfield 43, 3) := by decide +kernel
theorem dX8_outputByte_25 : decode cX8_outputByte 25 = .ok (.iload_n 1, 1) := by decide +kernel
theorem dX8_outputByte_26 : decode cX8_outputByte 26 = .ok (.baload, 1) := by decide +kernel
theorem dX8_outputByte_27 : decode cX8_outputByte 27 = .ok (.goto 4, 3) := by decide +kernel
theorem dX8_outputByte_30 : decode cX8_outputByte 30 = .ok (.iconst (-1), 1) := by decide +kernel
theorem dX8_outputByte_31 : decode cX8_outputByte 31 = .ok (.ireturn, 1) := by decide +kernel
theorem dX8_outputByte_5 : decode cX8_outputByte 5 = .ok (.iload_n 1, 1) := by decide +kernel
theorem dX8_outputByte_6 : decode cX8_outputByte 6 = .ok (.i2l, 1) := by decide +kernel
theorem dX8_outputByte_7 : decode cX8_outputByte 7 = .ok (.lconst 0, 1) := by decide +kernel
theorem dX8_outputByte_8 : decode cX8_outputByte 8 = .ok (.aload_n 0, 1) := by decide +kernel
theorem dX8_outputByte_9 : decode cX8_outputByte 9 = .ok (.getfield 372, 3) := by decide +kernel
theorem dX8_passes_0 : decode cX8_passes 0 = .ok (.aload_n 0, 1) := by decide +kernel
theorem dX8_passes_1 : decode cX8_passes 1 = .ok (.getfield 9, 3) := by decide +kernel
theorem dX8_passes_10 : decode cX8_passes 10 = .ok (.iload_n 1, 1) := by decide +kernel
theorem dX8_passes_100 : decode cX8_passes 100 = .ok (.iastore, 1) := by decide +kernel
theorem dX8_passes_101 : decode cX8_passes 101 = .ok (.iinc 1 1, 3) := by decide +kernel
theorem dX8_passes_104 : decode cX8_passes 104 = .ok (.goto (-37), 3) := by decide +kernel
theorem dX8_passes_107 : decode cX8_passes 107 = .ok (.return_, 1) := by decide +kernel
theorem dX8_passes_11 : decode cX8_passes 11 = .ok (.ifCond .lt 14, 3) := by decide +kernel
theorem dX8_passes_14 : decode cX8_passes 14 = .ok (.aload_n 0, 1) := by decide +kernel
theorem dX8_passes_15 : decode cX8_passes 15 = .ok (.iload_n 1, 1) := by decide +kernel
theorem dX8_passes_16 : decode cX8_passes 16 = .ok (.invokevirtual 326, 3) := by decide +kernel
theorem dX8_passes_19 : decode cX8_passes 19 = .ok (.iinc 1 (-1), 3) := by decide +kernel
theorem dX8_passes_22 : decode cX8_passes 22 = .ok (.goto (-12), 3) := by decide +kernel
theorem dX8_passes_25 : decode cX8_passes 25 = .ok (.aload_n 0, 1) := by decide +kernel
theorem dX8_passes_26 : decode cX8_passes 26 = .ok (.invokevirtual 329, 3) := by decide +kernel
theorem dX8_passes_29 : decode cX8_passes 29 = .ok (.aload_n 0, 1) := by decide +kernel
theorem dX8_passes_30 : decode cX8_passes 30 = .ok (.invokevirtual 332, 3) := by decide +kernel
theorem dX8_passes_33 : decode cX8_passes 33 = .ok (.aload_n 0, 1) := by decide +kernel
theorem dX8_passes_34 : decode cX8_passes 34 = .ok (.getfield 9, 3) := by decide +kernel
theorem dX8_passes_37 : decode cX8_passes 37 = .ok (.bipush 6, 2) := by decide +kernel
theorem dX8_passes_39 : decode cX8_passes 39 = .ok (.dup2, 1) := by decide +kernel
theorem dX8_passes_4 : decode cX8_passes 4 = .ok (.bipush 7, 2) := by decide +kernel
theorem dX8_passes_40 : decode cX8_passes 40 = .ok (.iaload, 1) := by decide +kernel
theorem dX8_passes_41 : decode cX8_passes 41 = .ok (.iconst 1, 1) := by decide +kernel
theorem dX8_passes_42 : decode cX8_passes 42 = .ok (.iadd, 1) := by decide +kernel
theorem dX8_passes_43 : decode cX8_passes 43 = .ok (.iastore, 1) := by decide +kernel
theorem dX8_passes_44 : decode cX8_passes 44 = .ok (.aload_n 0, 1) := by decide +kernel
theorem dX8_passes_45 : decode cX8_passes 45 = .ok (.getfield 9, 3) := by decide +kernel
theorem dX8_passes_48 : decode cX8_passes 48 = .ok (.bipush 6, 2) := by decide +kernel
theorem dX8_passes_50 : decode cX8_passes 50 = .ok (.iaload, 1) := by decide +kernel
theorem dX8_passes_51 : decode cX8_passes 51 = .ok (.aload_n 0, 1) := by decide +kernel
theorem dX8_passes_52 : decode cX8_passes 52 = .ok (.getfield 9, 3) := by decide +kernel
theorem dX8_passes_55 : decode cX8_passes 55 = .ok (.iconst 0, 1) := by decide +kernel
theorem dX8_passes_56 : decode cX8_passes 56 = .ok (.iaload, 1) := by decide +kernel
theorem dX8_passes_57 : decode cX8_passes 57 = .ok (.irem, 1) := by decide +kernel
theorem dX8_passes_58 : decode cX8_passes 58 = .ok (.ifCond .ne 7, 3) := by decide +kernel
theorem dX8_passes_6 : decode cX8_passes 6 = .ok (.iaload, 1) := by decide +kernel
theorem dX8_passes_61 : decode cX8_passes 61 = .ok (.aload_n 0, 1) := by decide +kernel
theorem dX8_passes_62 : decode cX8_passes 62 = .ok (.invokevirtual 335, 3) := by decide +kernel
theorem dX8_passes_65 : decode cX8_passes 65 = .ok (.iconst 0, 1) := by decide +kernel
theorem dX8_passes_66 : decode cX8_passes 66 = .ok (.istore_n 1, 1) := by decide +kernel
theorem dX8_passes_67 : decode cX8_passes 67 = .ok (.iload_n 1, 1) := by decide +kernel
theorem dX8_passes_68 : decode cX8_passes 68 = .ok (.aload_n 0, 1) := by decide +kernel
theorem dX8_passes_69 : decode cX8_passes 69 = .ok (.getfield 9, 3) := by decide +kernel
theorem dX8_passes_7 : decode cX8_passes 7 = .ok (.iconst 1, 1) := by decide +kernel
theorem dX8_passes_72 : decode cX8_passes 72 = .ok (.bipush 7, 2) := by decide +kernel
theorem dX8_passes_74 : decode cX8_passes 74 = .ok (.iaload, 1) := by decide +kernel
theorem dX8_passes_75 : decode cX8_passes 75 = .ok (.if_icmp .ge 32, 3) := by decide +kernel
theorem dX8_passes_78 : decode cX8_passes 78 = .ok (.aload_n 0, 1) := by decide +kernel
theorem dX8_passes_79 : decode cX8_passes 79 = .ok (.getfield 9, 3) := by decide +kernel
theorem dX8_passes_8 : decode cX8_passes 8 = .ok (.isub, 1) := by decide +kernel
theorem dX8_passes_82 : decode cX8_passes 82 = .ok (.bipush 16, 2) := by decide +kernel
theorem dX8_passes_84 : decode cX8_passes 84 = .ok (.dup2, 1) := by decide +kernel
theorem dX8_passes_85 : decode cX8_passes 85 = .ok (.iaload, 1) := by decide +kernel
theorem dX8_passes_86 : decode cX8_passes 86 = .ok (.aload_n 0, 1) := by decide +kernel
theorem dX8_passes_87 : decode cX8_passes 87 = .ok (.iload_n 1, 1) := by decide +kernel
theorem dX8_passes_88 : decode cX8_passes 88 = .ok (.invokevirtual 320, 3) := by decide +kernel
theorem dX8_passes_9 : decode cX8_passes 9 = .ok (.istore_n 1, 1) := by decide +kernel
theorem dX8_passes_91 : decode cX8_passes 91 = .ok (.ifCond .eq 7, 3) := by decide +kernel
theorem dX8_passes_94 : decode cX8_passes 94 = .ok (.iconst 1, 1) := by decide +kernel
theorem dX8_passes_95 : decode cX8_passes 95 = .ok (.goto 4, 3) := by decide +kernel
theorem dX8_passes_98 : decode cX8_passes 98 = .ok (.iconst 0, 1) := by decide +kernel
theorem dX8_passes_99 : decode cX8_passes 99 = .ok (.iadd, 1) := by decide +kernel
theorem dX8_pieces_0 : decode cX8_pieces 0 = .ok (.aload_n 0, 1) := by decide +kernel
theorem dX8_pieces_1 : decode cX8_pieces 1 = .ok (.getfield 37, 3) := by decide +kernel
theorem dX8_pieces_10 : decode cX8_pieces 10 = .ok (.iconst 0, 1) := by decide +kernel
theorem dX8_pieces_11 : decode cX8_pieces 11 = .ok (.istore_n 2, 1) := by decide +kernel
theorem dX8_pieces_12 : decode cX8_pieces 12 = .ok (.aload_n 0, 1) := by decide +kernel
theorem dX8_pieces_13 : decode cX8_pieces 13 = .ok (.getfield 75, 3) := by decide +kernel
theorem dX8_pieces_16 : decode cX8_pieces 16 = .ok (.ifCond .ne 59, 3) := by decide +kernel
theorem dX8_pieces_19 : decode cX8_pieces 19 = .ok (.aload_n 0, 1) := by decide +kernel
theorem dX8_pieces_20 : decode cX8_pieces 20 = .ok (.invokevirtual 81, 3) := by decide +kernel
theorem dX8_pieces_23 : decode cX8_pieces 23 = .ok (.istore_n 3, 1) := by decide +kernel
theorem dX8_pieces_24 : decode cX8_pieces 24 = .ok (.iload_n 3, 1) := by decide +kernel
theorem dX8_pieces_25 : decode cX8_pieces 25 = .ok (.i2l, 1) := by decide +kernel
theorem dX8_pieces_26 : decode cX8_pieces 26 = .ok (.ldc2_w 84, 3) := by decide +kernel
theorem dX8_pieces_29 : decode cX8_pieces 29 = .ok (.ldc2_w 86, 3) := by decide +kernel
theorem dX8_pieces_32 : decode cX8_pieces 32 = .ok (.invokestatic 52, 3) := by decide +kernel
theorem dX8_pieces_35 : decode cX8_pieces 35 = .ok (.ifCond .eq 15, 3) := by decide +kernel
theorem dX8_pieces_38 : decode cX8_pieces 38 = .ok (.aload_n 0, 1) := by decide +kernel
theorem dX8_pieces_39 : decode cX8_pieces 39 = .ok (.iload_n 1, 1) := by decide +kernel
theorem dX8_pieces_4 : decode cX8_pieces 4 = .ok (.iload_n 1, 1) := by decide +kernel
theorem dX8_pieces_40 : decode cX8_pieces 40 = .ok (.iload_n 3, 1) := by decide +kernel
theorem dX8_pieces_41 : decode cX8_pieces 41 = .ok (.bipush 97, 2) := by decide +kernel
theorem dX8_pieces_43 : decode cX8_pieces 43 = .ok (.isub, 1) := by decide +kernel
theorem dX8_pieces_44 : decode cX8_pieces 44 = .ok (.invokevirtual 114, 3) := by decide +kernel
theorem dX8_pieces_47 : decode cX8_pieces 47 = .ok (.goto 22, 3) := by decide +kernel
theorem dX8_pieces_5 : decode cX8_pieces 5 = .ok (.aload_n 0, 1) := by decide +kernel
theorem dX8_pieces_50 : decode cX8_pieces 50 = .ok (.iload_n 3, 1) := by decide +kernel
theorem dX8_pieces_51 : decode cX8_pieces 51 = .ok (.i2l, 1) := by decide +kernel
theorem dX8_pieces_52 : decode cX8_pieces 52 = .ok (.ldc2_w 96, 3) := by decide +kernel
theorem dX8_pieces_55 : decode cX8_pieces 55 = .ok (.ldc2_w 98, 3) := by decide +kernel
theorem dX8_pieces_58 : decode cX8_pieces 58 = .ok (.invokestatic 52, 3) := by decide +kernel
theorem dX8_pieces_6 : decode cX8_pieces 6 = .ok (.getfield 111, 3) := by decide +kernel
theorem dX8_pieces_61 : decode cX8_pieces 61 = .ok (.ifCond .eq 14, 3) := by decide +kernel
theorem dX8_pieces_64 : decode cX8_pieces 64 = .ok (.aload_n 0, 1) := by decide +kernel
theorem dX8_pieces_65 : decode cX8_pieces 65 = .ok (.iload_n 1, 1) := by decide +kernel
theorem dX8_pieces_66 : decode cX8_pieces 66 = .ok (.invokevirtual 118, 3) := by decide +kernel
theorem dX8_pieces_69 : decode cX8_pieces 69 = .ok (.iinc 2 1, 3) := by decide +kernel
theorem dX8_pieces_72 : decode cX8_pieces 72 = .ok (.goto (-60), 3) := by decide +kernel
theorem dX8_pieces_75 : decode cX8_pieces 75 = .ok (.aload_n 0, 1) := by decide +kernel
theorem dX8_pieces_76 : decode cX8_pieces 76 = .ok (.getfield 75, 3) := by decide +kernel
theorem dX8_pieces_79 : decode cX8_pieces 79 = .ok (.ifCond .ne 12, 3) := by decide +kernel
theorem dX8_pieces_82 : decode cX8_pieces 82 = .ok (.iload_n 2, 1) := by decide +kernel
theorem dX8_pieces_83 : decode cX8_pieces 83 = .ok (.ifCond .ne 8, 3) := by decide +kernel
theorem dX8_pieces_86 : decode cX8_pieces 86 = .ok (.aload_n 0, 1) := by decide +kernel
theorem dX8_pieces_87 : decode cX8_pieces 87 = .ok (.iconst 1, 1) := by decide +kernel
theorem dX8_pieces_88 : decode cX8_pieces 88 = .ok (.invokevirtual 100, 3) := by decide +kernel
theorem dX8_pieces_9 : decode cX8_pieces 9 = .ok (.iastore, 1) := by decide +kernel
theorem dX8_pieces_91 : decode cX8_pieces 91 = .ok (.return_, 1) := by decide +kernel
theorem dX8_puts_0 : decode cX8_puts 0 = .ok (.aload_n 0, 1) := by decide +kernel
theorem dX8_puts_1 : decode cX8_puts 1 = .ok (.invokevirtual 230, 3) := by decide +kernel
theorem dX8_puts_10 : decode cX8_puts 10 = .ok (.istore_n 3, 1) := by decide +kernel
theorem dX8_puts_11 : decode cX8_puts 11 = .ok (.aload_n 0, 1) := by decide +kernel
theorem dX8_puts_12 : decode cX8_puts 12 = .ok (.getfield 9, 3) := by decide +kernel
theorem dX8_puts_15 : decode cX8_puts 15 = .ok (.iload_n 1, 1) := by decide +kernel
theorem dX8_puts_16 : decode cX8_puts 16 = .ok (.iload_n 2, 1) := by decide +kernel
theorem dX8_puts_17 : decode cX8_puts 17 = .ok (.iastore, 1) := by decide +kernel
theorem dX8_puts_18 : decode cX8_puts 18 = .ok (.iload_n 3, 1) := by decide +kernel
theorem dX8_puts_19 : decode cX8_puts 19 = .ok (.ireturn, 1) := by decide +kernel
theorem dX8_puts_4 : decode cX8_puts 4 = .ok (.aload_n 0, 1) := by decide +kernel
theorem dX8_puts_5 : decode cX8_puts 5 = .ok (.getfield 9, 3) := by decide +kernel
theorem dX8_puts_8 : decode cX8_puts 8 = .ok (.iload_n 1, 1) := by decide +kernel
theorem dX8_puts_9 : decode cX8_puts 9 = .ok (.iaload, 1) := by decide +kernel
theorem dX8_rankOf_0 : decode cX8_rankOf 0 = .ok (.aload_n 0, 1) := by decide +kernel
theorem dX8_rankOf_1 : decode cX8_rankOf 1 = .ok (.aload_n 0, 1) := by decide +kernel
theorem dX8_rankOf_11 : decode cX8_rankOf 11 = .ok (.ireturn, 1) := by decide +kernel
theorem dX8_rankOf_2 : decode cX8_rankOf 2 = .ok (.iload_n 1, 1) := by decide +kernel
theorem dX8_rankOf_3 : decode cX8_rankOf 3 = .ok (.iconst 0, 1) := by decide +kernel
theorem dX8_rankOf_4 : decode cX8_rankOf 4 = .ok (.invokevirtual 233, 3) := by decide +kernel
theorem dX8_rankOf_7 : decode cX8_rankOf 7 = .ok (.iconst 0, 1) := by decide +kernel
theorem dX8_rankOf_8 : decode cX8_rankOf 8 = .ok (.invokevirtual 134, 3) := by decide +kernel
theorem dX8_reads_0 : decode cX8_reads 0 = .ok (.aload_n 0, 1) := by decide +kernel
theorem dX8_reads_1 : decode cX8_reads 1 = .ok (.invokevirtual 81, 3) := by decide +kernel
theorem dX8_reads_10 : decode cX8_reads 10 = .ok (.ldc2_w 84, 3) := by decide +kernel
theorem dX8_reads_13 : decode cX8_reads 13 = .ok (.ldc2_w 86, 3) := by decide +kernel
theorem dX8_reads_16 : decode cX8_reads 16 = .ok (.invokestatic 52, 3) := by decide +kernel
theorem dX8_reads_19 : decode cX8_reads 19 = .ok (.ifCond .eq 16, 3) := by decide +kernel
theorem dX8_reads_22 : decode cX8_reads 22 = .ok (.aload_n 0, 1) := by decide +kernel
theorem dX8_reads_23 : decode cX8_reads 23 = .ok (.dup, 1) := by decide +kernel
theorem dX8_reads_24 : decode cX8_reads 24 = .ok (.getfield 65, 3) := by decide +kernel
theorem dX8_reads_27 : decode cX8_reads 27 = .ok (.iconst 1, 1) := by decide +kernel
theorem dX8_reads_28 : decode cX8_reads 28 = .ok (.iadd, 1) := by decide +kernel
theorem dX8_reads_29 : decode cX8_reads 29 = .ok (.putfield 65, 3) := by decide +kernel
theorem dX8_reads_32 : decode cX8_reads 32 = .ok (.goto (-27), 3) := by decide +kernel
theorem dX8_reads_35 : decode cX8_reads 35 = .ok (.return_, 1) := by decide +kernel
theorem dX8_reads_4 : decode cX8_reads 4 = .ok (.pop, 1) := by decide +kernel
theorem dX8_reads_5 : decode cX8_reads 5 = .ok (.aload_n 0, 1) := by decide +kernel
theorem dX8_reads_6 : decode cX8_reads 6 = .ok (.invokevirtual 68, 3) := by decide +kernel
theorem dX8_reads_9 : decode cX8_reads 9 = .ok (.i2l, 1) := by decide +kernel
theorem dX8_refill_0 : decode cX8_refill 0 = .ok (.aload_n 0, 1) := by decide +kernel
theorem dX8_refill_1 : decode cX8_refill 1 = .ok (.iload_n 1, 1) := by decide +kernel
theorem dX8_refill_10 : decode cX8_refill 10 = .ok (.iconst 1, 1) := by decide +kernel
theorem dX8_refill_11 : decode cX8_refill 11 = .ok (.invokevirtual 226, 3) := by decide +kernel
theorem dX8_refill_14 : decode cX8_refill 14 = .ok (.ifCond .eq 5, 3) := by decide +kernel
theorem dX8_refill_17 : decode cX8_refill 17 = .ok (.iconst 0, 1) := by decide +kernel
theorem dX8_refill_18 : decode cX8_refill 18 = .ok (.ireturn, 1) := by decide +kernel
theorem dX8_refill_19 : decode cX8_refill 19 = .ok (.aload_n 0, 1) := by decide +kernel
theorem dX8_refill_2 : decode cX8_refill 2 = .ok (.i2l, 1) := by decide +kernel
theorem dX8_refill_20 : decode cX8_refill 20 = .ok (.getfield 9, 3) := by decide +kernel
theorem dX8_refill_23 : decode cX8_refill 23 = .ok (.iconst 5, 1) := by decide +kernel
theorem dX8_refill_24 : decode cX8_refill 24 = .ok (.iaload, 1) := by decide +kernel
theorem dX8_refill_25 : decode cX8_refill 25 = .ok (.iload_n 1, 1) := by decide +kernel
theorem dX8_refill_26 : decode cX8_refill 26 = .ok (.iadd, 1) := by decide +kernel
theorem dX8_refill_27 : decode cX8_refill 27 = .ok (.sipush 9999, 3) := by decide +kernel
theorem dX8_refill_3 : decode cX8_refill 3 = .ok (.lconst 1, 1) := by decide +kernel
theorem dX8_refill_30 : decode cX8_refill 30 = .ok (.if_icmp .le 6, 3) := by decide +kernel
theorem dX8_refill_33 : decode cX8_refill 33 = .ok (.bipush (-2), 2) := by decide +kernel
theorem dX8_refill_35 : decode cX8_refill 35 = .ok (.ireturn, 1) := by decide +kernel
theorem dX8_refill_36 : decode cX8_refill 36 = .ok (.aload_n 0, 1) := by decide +kernel
theorem dX8_refill_37 : decode cX8_refill 37 = .ok (.invokevirtual 230, 3) := by decide +kernel
theorem dX8_refill_4 : decode cX8_refill 4 = .ok (.ldc2_w 341, 3) := by decide +kernel
theorem dX8_refill_40 : decode cX8_refill 40 = .ok (.aload_n 0, 1) := by decide +kernel
theorem dX8_refill_41 : decode cX8_refill 41 = .ok (.getfield 9, 3) := by decide +kernel
theorem dX8_refill_44 : decode cX8_refill 44 = .ok (.iconst 5, 1) := by decide +kernel
theorem dX8_refill_45 : decode cX8_refill 45 = .ok (.dup2, 1) := by decide +kernel
theorem dX8_refill_46 : decode cX8_refill 46 = .ok (.iaload, 1) := by decide +kernel
theorem dX8_refill_47 : decode cX8_refill 47 = .ok (.iload_n 1, 1) := by decide +kernel
theorem dX8_refill_48 : decode cX8_refill 48 = .ok (.iadd, 1) := by decide +kernel
theorem dX8_refill_49 : decode cX8_refill 49 = .ok (.iastore, 1) := by decide +kernel
theorem dX8_refill_50 : decode cX8_refill 50 = .ok (.aload_n 0, 1) := by decide +kernel
theorem dX8_refill_51 : decode cX8_refill 51 = .ok (.getfield 9, 3) := by decide +kernel
theorem dX8_refill_54 : decode cX8_refill 54 = .ok (.iconst 4, 1) := by decide +kernel
theorem dX8_refill_55 : decode cX8_refill 55 = .ok (.dup2, 1) := by decide +kernel
theorem dX8_refill_56 : decode cX8_refill 56 = .ok (.iaload, 1) := by decide +kernel
theorem dX8_refill_57 : decode cX8_refill 57 = .ok (.iload_n 1, 1) := by decide +kernel
theorem dX8_refill_58 : decode cX8_refill 58 = .ok (.iadd, 1) := by decide +kernel
theorem dX8_refill_59 : decode cX8_refill 59 = .ok (.iastore, 1) := by decide +kernel
theorem dX8_refill_60 : decode cX8_refill 60 = .ok (.aload_n 0, 1) := by decide +kernel
theorem dX8_refill_61 : decode cX8_refill 61 = .ok (.getfield 9, 3) := by decide +kernel
theorem dX8_refill_64 : decode cX8_refill 64 = .ok (.iconst 5, 1) := by decide +kernel
theorem dX8_refill_65 : decode cX8_refill 65 = .ok (.iaload, 1) := by decide +kernel
theorem dX8_refill_66 : decode cX8_refill 66 = .ok (.ireturn, 1) := by decide +kernel
theorem dX8_refill_7 : decode cX8_refill 7 = .ok (.invokestatic 52, 3) := by decide +kernel
theorem dX8_repeats_0 : decode cX8_repeats 0 = .ok (.aload_n 0, 1) := by decide +kernel
theorem dX8_repeats_1 : decode cX8_repeats 1 = .ok (.getfield 37, 3) := by decide +kernel
theorem dX8_repeats_10 : decode cX8_repeats 10 = .ok (.getfield 111, 3) := by decide +kernel
theorem dX8_repeats_101 : decode cX8_repeats 101 = .ok (.return_, 1) := by decide +kernel
theorem dX8_repeats_13 : decode cX8_repeats 13 = .ok (.iload_n 3, 1) := by decide +kernel
theorem dX8_repeats_14 : decode cX8_repeats 14 = .ok (.isub, 1) := by decide +kernel
theorem dX8_repeats_15 : decode cX8_repeats 15 = .ok (.istore 4, 2) := by decide +kernel
theorem dX8_repeats_17 : decode cX8_repeats 17 = .ok (.iload_n 3, 1) := by decide +kernel
theorem dX8_repeats_18 : decode cX8_repeats 18 = .ok (.aload_n 0, 1) := by decide +kernel
theorem dX8_repeats_19 : decode cX8_repeats 19 = .ok (.getfield 37, 3) := by decide +kernel
theorem dX8_repeats_22 : decode cX8_repeats 22 = .ok (.iload_n 1, 1) := by decide +kernel
theorem dX8_repeats_23 : decode cX8_repeats 23 = .ok (.iaload, 1) := by decide +kernel
theorem dX8_repeats_24 : decode cX8_repeats 24 = .ok (.isub, 1) := by decide +kernel
theorem dX8_repeats_25 : decode cX8_repeats 25 = .ok (.iload 4, 2) := by decide +kernel
theorem dX8_repeats_27 : decode cX8_repeats 27 = .ok (.iload_n 2, 1) := by decide +kernel
theorem dX8_repeats_28 : decode cX8_repeats 28 = .ok (.imul, 1) := by decide +kernel
theorem dX8_repeats_29 : decode cX8_repeats 29 = .ok (.iadd, 1) := by decide +kernel
theorem dX8_repeats_30 : decode cX8_repeats 30 = .ok (.bipush 16, 2) := by decide +kernel
theorem dX8_repeats_32 : decode cX8_repeats 32 = .ok (.if_icmp .le 9, 3) := by decide +kernel
theorem dX8_repeats_35 : decode cX8_repeats 35 = .ok (.aload_n 0, 1) := by decide +kernel
theorem dX8_repeats_36 : decode cX8_repeats 36 = .ok (.iconst 3, 1) := by decide +kernel
theorem dX8_repeats_37 : decode cX8_repeats 37 = .ok (.invokevirtual 100, 3) := by decide +kernel
theorem dX8_repeats_4 : decode cX8_repeats 4 = .ok (.iload_n 1, 1) := by decide +kernel
theorem dX8_repeats_40 : decode cX8_repeats 40 = .ok (.return_, 1) := by decide +kernel
theorem dX8_repeats_41 : decode cX8_repeats 41 = .ok (.iload 4, 2) := by decide +kernel
theorem dX8_repeats_43 : decode cX8_repeats 43 = .ok (.istore 5, 2) := by decide +kernel
theorem dX8_repeats_45 : decode cX8_repeats 45 = .ok (.iload 5, 2) := by decide +kernel
theorem dX8_repeats_47 : decode cX8_repeats 47 = .ok (.iload 4, 2) := by decide +kernel
theorem dX8_repeats_49 : decode cX8_repeats 49 = .ok (.iload_n 2, 1) := by decide +kernel
theorem dX8_repeats_5 : decode cX8_repeats 5 = .ok (.iconst 1, 1) := by decide +kernel
theorem dX8_repeats_50 : decode cX8_repeats 50 = .ok (.imul, 1) := by decide +kernel
theorem dX8_repeats_51 : decode cX8_repeats 51 = .ok (.if_icmp .ge 40, 3) := by decide +kernel
theorem dX8_repeats_54 : decode cX8_repeats 54 = .ok (.aload_n 0, 1) := by decide +kernel
theorem dX8_repeats_55 : decode cX8_repeats 55 = .ok (.getfield 34, 3) := by decide +kernel
theorem dX8_repeats_58 : decode cX8_repeats 58 = .ok (.iload_n 3, 1) := by decide +kernel
theorem dX8_repeats_59 : decode cX8_repeats 59 = .ok (.iload 5, 2) := by decide +kernel
theorem dX8_repeats_6 : decode cX8_repeats 6 = .ok (.iadd, 1) := by decide +kernel
theorem dX8_repeats_61 : decode cX8_repeats 61 = .ok (.iadd, 1) := by decide +kernel
theorem dX8_repeats_62 : decode cX8_repeats 62 = .ok (.aload_n 0, 1) := by decide +kernel
theorem dX8_repeats_63 : decode cX8_repeats 63 = .ok (.getfield 34, 3) := by decide +kernel
theorem dX8_repeats_66 : decode cX8_repeats 66 = .ok (.iload_n 3, 1) := by decide +kernel
theorem dX8_repeats_67 : decode cX8_repeats 67 = .ok (.iload 5, 2) := by decide +kernel
theorem dX8_repeats_69 : decode cX8_repeats 69 = .ok (.iadd, 1) := by decide +kernel
theorem dX8_repeats_7 : decode cX8_repeats 7 = .ok (.iaload, 1) := by decide +kernel
theorem dX8_repeats_70 : decode cX8_repeats 70 = .ok (.iload 4, 2) := by decide +kernel
theorem dX8_repeats_72 : decode cX8_repeats 72 = .ok (.isub, 1) := by decide +kernel
theorem dX8_repeats_73 : decode cX8_repeats 73 = .ok (.iaload, 1) := by decide +kernel
theorem dX8_repeats_74 : decode cX8_repeats 74 = .ok (.iastore, 1) := by decide +kernel
theorem dX8_repeats_75 : decode cX8_repeats 75 = .ok (.aload_n 0, 1) := by decide +kernel
theorem dX8_repeats_76 : decode cX8_repeats 76 = .ok (.dup, 1) := by decide +kernel
theorem dX8_repeats_77 : decode cX8_repeats 77 = .ok (.getfield 111, 3) := by decide +kernel
theorem dX8_repeats_8 : decode cX8_repeats 8 = .ok (.istore_n 3, 1) := by decide +kernel
theorem dX8_repeats_80 : decode cX8_repeats 80 = .ok (.iconst 1, 1) := by decide +kernel
theorem dX8_repeats_81 : decode cX8_repeats 81 = .ok (.iadd, 1) := by decide +kernel
theorem dX8_repeats_82 : decode cX8_repeats 82 = .ok (.putfield 111, 3) := by decide +kernel
theorem dX8_repeats_85 : decode cX8_repeats 85 = .ok (.iinc 5 1, 3) := by decide +kernel
theorem dX8_repeats_88 : decode cX8_repeats 88 = .ok (.goto (-43), 3) := by decide +kernel
theorem dX8_repeats_9 : decode cX8_repeats 9 = .ok (.aload_n 0, 1) := by decide +kernel
theorem dX8_repeats_91 : decode cX8_repeats 91 = .ok (.aload_n 0, 1) := by decide +kernel
theorem dX8_repeats_92 : decode cX8_repeats 92 = .ok (.dup, 1) := by decide +kernel
theorem dX8_repeats_93 : decode cX8_repeats 93 = .ok (.getfield 65, 3) := by decide +kernel
theorem dX8_repeats_96 : decode cX8_repeats 96 = .ok (.iconst 1, 1) := by decide +kernel
theorem dX8_repeats_97 : decode cX8_repeats 97 = .ok (.iadd, 1) := by decide +kernel
theorem dX8_repeats_98 : decode cX8_repeats 98 = .ok (.putfield 65, 3) := by decide +kernel
theorem dX8_restIn_0 : decode cX8_restIn 0 = .ok (.aload_n 0, 1) := by decide +kernel
theorem dX8_restIn_1 : decode cX8_restIn 1 = .ok (.aload_n 0, 1) := by decide +kernel
theorem dX8_restIn_10 : decode cX8_restIn 10 = .ok (.ifCond .eq 7, 3) := by decide +kernel
theorem dX8_restIn_13 : decode cX8_restIn 13 = .ok (.iconst 0, 1) := by decide +kernel
theorem dX8_restIn_14 : decode cX8_restIn 14 = .ok (.goto 9, 3) := by decide +kernel
theorem dX8_restIn_17 : decode cX8_restIn 17 = .ok (.aload_n 0, 1) := by decide +kernel
theorem dX8_restIn_18 : decode cX8_restIn 18 = .ok (.iconst 4, 1) := by decide +kernel
theorem dX8_restIn_19 : decode cX8_restIn 19 = .ok (.iload_n 1, 1) := by decide +kernel
theorem dX8_restIn_2 : decode cX8_restIn 2 = .ok (.iload_n 1, 1) := by decide +kernel
theorem dX8_restIn_20 : decode cX8_restIn 20 = .ok (.invokevirtual 362, 3) := by decide +kernel
theorem dX8_restIn_23 : decode cX8_restIn 23 = .ok (.ireturn, 1) := by decide +kernel
theorem dX8_restIn_3 : decode cX8_restIn 3 = .ok (.invokevirtual 243, 3) := by decide +kernel
theorem dX8_restIn_6 : decode cX8_restIn 6 = .ok (.iconst 1, 1) := by decide +kernel
theorem dX8_restIn_7 : decode cX8_restIn 7 = .ok (.invokevirtual 226, 3) := by decide +kernel
theorem dX8_restPart_0 : decode cX8_restPart 0 = .ok (.aload_n 0, 1) := by decide +kernel
theorem dX8_restPart_1 : decode cX8_restPart 1 = .ok (.iconst 0, 1) := by decide +kernel
theorem dX8_restPart_10 : decode cX8_restPart 10 = .ok (.isub, 1) := by decide +kernel
theorem dX8_restPart_11 : decode cX8_restPart 11 = .ok (.invokevirtual 121, 3) := by decide +kernel
theorem dX8_restPart_14 : decode cX8_restPart 14 = .ok (.istore_n 1, 1) := by decide +kernel
theorem dX8_restPart_15 : decode cX8_restPart 15 = .ok (.aload_n 0, 1) := by decide +kernel
theorem dX8_restPart_16 : decode cX8_restPart 16 = .ok (.iconst 1, 1) := by decide +kernel
theorem dX8_restPart_17 : decode cX8_restPart 17 = .ok (.bipush 99, 2) := by decide +kernel
theorem dX8_restPart_19 : decode cX8_restPart 19 = .ok (.invokevirtual 121, 3) := by decide +kernel
theorem dX8_restPart_2 : decode cX8_restPart 2 = .ok (.aload_n 0, 1) := by decide +kernel
theorem dX8_restPart_22 : decode cX8_restPart 22 = .ok (.istore_n 2, 1) := by decide +kernel
theorem dX8_restPart_23 : decode cX8_restPart 23 = .ok (.aload_n 0, 1) := by decide +kernel
theorem dX8_restPart_24 : decode cX8_restPart 24 = .ok (.iconst 1, 1) := by decide +kernel
theorem dX8_restPart_25 : decode cX8_restPart 25 = .ok (.bipush 99, 2) := by decide +kernel
theorem dX8_restPart_27 : decode cX8_restPart 27 = .ok (.invokevirtual 121, 3) := by decide +kernel
theorem dX8_restPart_3 : decode cX8_restPart 3 = .ok (.getfield 9, 3) := by decide +kernel
theorem dX8_restPart_30 : decode cX8_restPart 30 = .ok (.istore_n 3, 1) := by decide +kernel
theorem dX8_restPart_31 : decode cX8_restPart 31 = .ok (.aload_n 0, 1) := by decide +kernel
theorem dX8_restPart_32 : decode cX8_restPart 32 = .ok (.getfield 75, 3) := by decide +kernel
theorem dX8_restPart_35 : decode cX8_restPart 35 = .ok (.ifCond .ne 19, 3) := by decide +kernel
theorem dX8_restPart_38 : decode cX8_restPart 38 = .ok (.aload_n 0, 1) := by decide +kernel
theorem dX8_restPart_39 : decode cX8_restPart 39 = .ok (.iload_n 1, 1) := by decide +kernel
theorem dX8_restPart_40 : decode cX8_restPart 40 = .ok (.bipush 9, 2) := by decide +kernel
theorem dX8_restPart_42 : decode cX8_restPart 42 = .ok (.iload_n 2, 1) := by decide +kernel
theorem dX8_restPart_43 : decode cX8_restPart 43 = .ok (.invokevirtual 149, 3) := by decide +kernel
theorem dX8_restPart_46 : decode cX8_restPart 46 = .ok (.aload_n 0, 1) := by decide +kernel
theorem dX8_restPart_47 : decode cX8_restPart 47 = .ok (.iload_n 1, 1) := by decide +kernel
theorem dX8_restPart_48 : decode cX8_restPart 48 = .ok (.bipush 10, 2) := by decide +kernel
theorem dX8_restPart_50 : decode cX8_restPart 50 = .ok (.iload_n 3, 1) := by decide +kernel
theorem dX8_restPart_51 : decode cX8_restPart 51 = .ok (.invokevirtual 149, 3) := by decide +kernel
theorem dX8_restPart_54 : decode cX8_restPart 54 = .ok (.return_, 1) := by decide +kernel
theorem dX8_restPart_6 : decode cX8_restPart 6 = .ok (.bipush 7, 2) := by decide +kernel
theorem dX8_restPart_8 : decode cX8_restPart 8 = .ok (.iaload, 1) := by decide +kernel
theorem dX8_restPart_9 : decode cX8_restPart 9 = .ok (.iconst 1, 1) := by decide +kernel
theorem dX8_restoreSnapshot_0 : decode cX8_restoreSnapshot 0 = .ok (.aload_n 0, 1) := by decide +kernel
theorem dX8_restoreSnapshot_1 : decode cX8_restoreSnapshot 1 = .ok (.iload_n 1, 1) := by decide +kernel
theorem dX8_restoreSnapshot_12 : decode cX8_restoreSnapshot 12 = .ok (.ifCond .eq 5, 3) := by decide +kernel
theorem dX8_restoreSnapshot_15 : decode cX8_restoreSnapshot 15 = .ok (.iconst 0, 1) := by decide +kernel
theorem dX8_restoreSnapshot_16 : decode cX8_restoreSnapshot 16 = .ok (.ireturn, 1) := by decide +kernel
theorem dX8_restoreSnapshot_17 : decode cX8_restoreSnapshot 17 = .ok (.aload_n 0, 1) := by decide +kernel
theorem dX8_restoreSnapshot_18 : decode cX8_restoreSnapshot 18 = .ok (.getfield 22, 3) := by decide +kernel
theorem dX8_restoreSnapshot_2 : decode cX8_restoreSnapshot 2 = .ok (.i2l, 1) := by decide +kernel
theorem dX8_restoreSnapshot_21 : decode cX8_restoreSnapshot 21 = .ok (.iload_n 1, 1) := by decide +kernel
theorem dX8_restoreSnapshot_22 : decode cX8_restoreSnapshot 22 = .ok (.baload, 1) := by decide +kernel
theorem dX8_restoreSnapshot_23 : decode cX8_restoreSnapshot 23 = .ok (.ifCond .ne 5, 3) := by decide +kernel
theorem dX8_restoreSnapshot_26 : decode cX8_restoreSnapshot 26 = .ok (.iconst (-1), 1) := by decide +kernel
theorem dX8_restoreSnapshot_27 : decode cX8_restoreSnapshot 27 = .ok (.ireturn, 1) := by decide +kernel
theorem dX8_restoreSnapshot_28 : decode cX8_restoreSnapshot 28 = .ok (.aload_n 0, 1) := by decide +kernel
theorem dX8_restoreSnapshot_29 : decode cX8_restoreSnapshot 29 = .ok (.getfield 19, 3) := by decide +kernel
theorem dX8_restoreSnapshot_3 : decode cX8_restoreSnapshot 3 = .ok (.lconst 0, 1) := by decide +kernel
theorem dX8_restoreSnapshot_32 : decode cX8_restoreSnapshot 32 = .ok (.iload_n 1, 1) := by decide +kernel
theorem dX8_restoreSnapshot_33 : decode cX8_restoreSnapshot 33 = .ok (.aload_n 0, 1) := by decide +kernel
theorem dX8_restoreSnapshot_34 : decode cX8_restoreSnapshot 34 = .ok (.getfield 9, 3) := by decide +kernel
theorem dX8_restoreSnapshot_37 : decode cX8_restoreSnapshot 37 = .ok (.iconst 0, 1) := by decide +kernel
theorem dX8_restoreSnapshot_38 : decode cX8_restoreSnapshot 38 = .ok (.invokestatic 204, 3) := by decide +kernel
theorem dX8_restoreSnapshot_4 : decode cX8_restoreSnapshot 4 = .ok (.lconst 1, 1) := by decide +kernel
theorem dX8_restoreSnapshot_41 : decode cX8_restoreSnapshot 41 = .ok (.aload_n 0, 1) := by decide +kernel
theorem dX8_restoreSnapshot_42 : decode cX8_restoreSnapshot 42 = .ok (.iconst 0, 1) := by decide +kernel
theorem dX8_restoreSnapshot_43 : decode cX8_restoreSnapshot 43 = .ok (.putfield 219, 3) := by decide +kernel
theorem dX8_restoreSnapshot_46 : decode cX8_restoreSnapshot 46 = .ok (.aload_n 0, 1) := by decide +kernel
theorem dX8_restoreSnapshot_47 : decode cX8_restoreSnapshot 47 = .ok (.getfield 9, 3) := by decide +kernel
theorem dX8_restoreSnapshot_5 : decode cX8_restoreSnapshot 5 = .ok (.invokestatic 52, 3) := by decide +kernel
theorem dX8_restoreSnapshot_50 : decode cX8_restoreSnapshot 50 = .ok (.bipush 6, 2) := by decide +kernel
theorem dX8_restoreSnapshot_52 : decode cX8_restoreSnapshot 52 = .ok (.iaload, 1) := by decide +kernel
theorem dX8_restoreSnapshot_53 : decode cX8_restoreSnapshot 53 = .ok (.ireturn, 1) := by decide +kernel
theorem dX8_restoreSnapshot_8 : decode cX8_restoreSnapshot 8 = .ok (.iconst 1, 1) := by decide +kernel
theorem dX8_restoreSnapshot_9 : decode cX8_restoreSnapshot 9 = .ok (.invokevirtual 226, 3) := by decide +kernel
theorem dX8_runToLeave_0 : decode cX8_runToLeave 0 = .ok (.aload_n 0, 1) := by decide +kernel
theorem dX8_runToLeave_1 : decode cX8_runToLeave 1 = .ok (.iload_n 1, 1) := by decide +kernel
theorem dX8_runToLeave_10 : decode cX8_runToLeave 10 = .ok (.iconst 1, 1) := by decide +kernel
theorem dX8_runToLeave_11 : decode cX8_runToLeave 11 = .ok (.invokevirtual 226, 3) := by decide +kernel
theorem dX8_runToLeave_14 : decode cX8_runToLeave 14 = .ok (.ifCond .eq 5, 3) := by decide +kernel
theorem dX8_runToLeave_17 : decode cX8_runToLeave 17 = .ok (.iconst 0, 1) := by decide +kernel
theorem dX8_runToLeave_18 : decode cX8_runToLeave 18 = .ok (.ireturn, 1) := by decide +kernel
theorem dX8_runToLeave_19 : decode cX8_runToLeave 19 = .ok (.aload_n 0, 1) := by decide +kernel
theorem dX8_runToLeave_2 : decode cX8_runToLeave 2 = .ok (.i2l, 1) := by decide +kernel
theorem dX8_runToLeave_20 : decode cX8_runToLeave 20 = .ok (.invokevirtual 230, 3) := by decide +kernel
theorem dX8_runToLeave_23 : decode cX8_runToLeave 23 = .ok (.aload_n 0, 1) := by decide +kernel
theorem dX8_runToLeave_24 : decode cX8_runToLeave 24 = .ok (.getfield 9, 3) := by decide +kernel
theorem dX8_runToLeave_27 : decode cX8_runToLeave 27 = .ok (.bipush 10, 2) := by decide +kernel
theorem dX8_runToLeave_29 : decode cX8_runToLeave 29 = .ok (.iaload, 1) := by decide +kernel
theorem dX8_runToLeave_3 : decode cX8_runToLeave 3 = .ok (.lconst 1, 1) := by decide +kernel
theorem dX8_runToLeave_30 : decode cX8_runToLeave 30 = .ok (.istore_n 2, 1) := by decide +kernel
theorem dX8_runToLeave_31 : decode cX8_runToLeave 31 = .ok (.iconst 1, 1) := by decide +kernel
theorem dX8_runToLeave_32 : decode cX8_runToLeave 32 = .ok (.istore_n 3, 1) := by decide +kernel
theorem dX8_runToLeave_33 : decode cX8_runToLeave 33 = .ok (.iload_n 3, 1) := by decide +kernel
theorem dX8_runToLeave_34 : decode cX8_runToLeave 34 = .ok (.iload_n 1, 1) := by decide +kernel
theorem dX8_runToLeave_35 : decode cX8_runToLeave 35 = .ok (.if_icmp .gt 26, 3) := by decide +kernel
theorem dX8_runToLeave_38 : decode cX8_runToLeave 38 = .ok (.aload_n 0, 1) := by decide +kernel
theorem dX8_runToLeave_39 : decode cX8_runToLeave 39 = .ok (.invokevirtual 349, 3) := by decide +kernel
theorem dX8_runToLeave_4 : decode cX8_runToLeave 4 = .ok (.ldc2_w 347, 3) := by decide +kernel
theorem dX8_runToLeave_42 : decode cX8_runToLeave 42 = .ok (.aload_n 0, 1) := by decide +kernel
theorem dX8_runToLeave_43 : decode cX8_runToLeave 43 = .ok (.getfield 9, 3) := by decide +kernel
theorem dX8_runToLeave_46 : decode cX8_runToLeave 46 = .ok (.bipush 10, 2) := by decide +kernel
theorem dX8_runToLeave_48 : decode cX8_runToLeave 48 = .ok (.iaload, 1) := by decide +kernel
theorem dX8_runToLeave_49 : decode cX8_runToLeave 49 = .ok (.iload_n 2, 1) := by decide +kernel
theorem dX8_runToLeave_50 : decode cX8_runToLeave 50 = .ok (.if_icmp .le 5, 3) := by decide +kernel
theorem dX8_runToLeave_53 : decode cX8_runToLeave 53 = .ok (.iload_n 3, 1) := by decide +kernel
theorem dX8_runToLeave_54 : decode cX8_runToLeave 54 = .ok (.ireturn, 1) := by decide +kernel
theorem dX8_runToLeave_55 : decode cX8_runToLeave 55 = .ok (.iinc 3 1, 3) := by decide +kernel
theorem dX8_runToLeave_58 : decode cX8_runToLeave 58 = .ok (.goto (-25), 3) := by decide +kernel
theorem dX8_runToLeave_61 : decode cX8_runToLeave 61 = .ok (.iconst (-1), 1) := by decide +kernel
theorem dX8_runToLeave_62 : decode cX8_runToLeave 62 = .ok (.ireturn, 1) := by decide +kernel
theorem dX8_runToLeave_7 : decode cX8_runToLeave 7 = .ok (.invokestatic 52, 3) := by decide +kernel
theorem dX8_run_0 : decode cX8_run 0 = .ok (.aload_n 0, 1) := by decide +kernel
theorem dX8_run_1 : decode cX8_run 1 = .ok (.iload_n 1, 1) := by decide +kernel
theorem dX8_run_10 : decode cX8_run 10 = .ok (.iconst 1, 1) := by decide +kernel
theorem dX8_run_11 : decode cX8_run 11 = .ok (.invokevirtual 226, 3) := by decide +kernel
theorem dX8_run_14 : decode cX8_run 14 = .ok (.ifCond .eq 5, 3) := by decide +kernel
theorem dX8_run_17 : decode cX8_run 17 = .ok (.iconst 0, 1) := by decide +kernel
theorem dX8_run_18 : decode cX8_run 18 = .ok (.ireturn, 1) := by decide +kernel
theorem dX8_run_19 : decode cX8_run 19 = .ok (.aload_n 0, 1) := by decide +kernel
theorem dX8_run_2 : decode cX8_run 2 = .ok (.i2l, 1) := by decide +kernel
theorem dX8_run_20 : decode cX8_run 20 = .ok (.invokevirtual 230, 3) := by decide +kernel
theorem dX8_run_23 : decode cX8_run 23 = .ok (.iconst 0, 1) := by decide +kernel
theorem dX8_run_24 : decode cX8_run 24 = .ok (.istore_n 2, 1) := by decide +kernel
theorem dX8_run_25 : decode cX8_run 25 = .ok (.iload_n 2, 1) := by decide +kernel
theorem dX8_run_26 : decode cX8_run 26 = .ok (.iload_n 1, 1) := by decide +kernel
theorem dX8_run_27 : decode cX8_run 27 = .ok (.if_icmp .ge 13, 3) := by decide +kernel
theorem dX8_run_3 : decode cX8_run 3 = .ok (.lconst 1, 1) := by decide +kernel
theorem dX8_run_30 : decode cX8_run 30 = .ok (.aload_n 0, 1) := by decide +kernel
theorem dX8_run_31 : decode cX8_run 31 = .ok (.invokevirtual 349, 3) := by decide +kernel
theorem dX8_run_34 : decode cX8_run 34 = .ok (.iinc 2 1, 3) := by decide +kernel
theorem dX8_run_37 : decode cX8_run 37 = .ok (.goto (-12), 3) := by decide +kernel
theorem dX8_run_4 : decode cX8_run 4 = .ok (.ldc2_w 347, 3) := by decide +kernel
theorem dX8_run_40 : decode cX8_run 40 = .ok (.aload_n 0, 1) := by decide +kernel
theorem dX8_run_41 : decode cX8_run 41 = .ok (.getfield 9, 3) := by decide +kernel
theorem dX8_run_44 : decode cX8_run 44 = .ok (.bipush 10, 2) := by decide +kernel
theorem dX8_run_46 : decode cX8_run 46 = .ok (.iaload, 1) := by decide +kernel
theorem dX8_run_47 : decode cX8_run 47 = .ok (.ireturn, 1) := by decide +kernel
theorem dX8_run_7 : decode cX8_run 7 = .ok (.invokestatic 52, 3) := by decide +kernel
theorem dX8_rush_0 : decode cX8_rush 0 = .ok (.aload_n 0, 1) := by decide +kernel
theorem dX8_rush_1 : decode cX8_rush 1 = .ok (.aload_n 0, 1) := by decide +kernel
theorem dX8_rush_10 : decode cX8_rush 10 = .ok (.ifCond .eq 5, 3) := by decide +kernel
theorem dX8_rush_13 : decode cX8_rush 13 = .ok (.iconst 0, 1) := by decide +kernel
theorem dX8_rush_14 : decode cX8_rush 14 = .ok (.ireturn, 1) := by decide +kernel
theorem dX8_rush_15 : decode cX8_rush 15 = .ok (.aload_n 0, 1) := by decide +kernel
theorem dX8_rush_16 : decode cX8_rush 16 = .ok (.iload_n 1, 1) := by decide +kernel
theorem dX8_rush_17 : decode cX8_rush 17 = .ok (.iconst 3, 1) := by decide +kernel
theorem dX8_rush_18 : decode cX8_rush 18 = .ok (.invokevirtual 233, 3) := by decide +kernel
theorem dX8_rush_2 : decode cX8_rush 2 = .ok (.iload_n 1, 1) := by decide +kernel
theorem dX8_rush_21 : decode cX8_rush 21 = .ok (.ifCond .eq 6, 3) := by decide +kernel
theorem dX8_rush_24 : decode cX8_rush 24 = .ok (.bipush (-3), 2) := by decide +kernel
theorem dX8_rush_26 : decode cX8_rush 26 = .ok (.ireturn, 1) := by decide +kernel
theorem dX8_rush_27 : decode cX8_rush 27 = .ok (.aload_n 0, 1) := by decide +kernel
theorem dX8_rush_28 : decode cX8_rush 28 = .ok (.invokevirtual 230, 3) := by decide +kernel
theorem dX8_rush_3 : decode cX8_rush 3 = .ok (.invokevirtual 251, 3) := by decide +kernel
theorem dX8_rush_31 : decode cX8_rush 31 = .ok (.aload_n 0, 1) := by decide +kernel
theorem dX8_rush_32 : decode cX8_rush 32 = .ok (.iload_n 1, 1) := by decide +kernel
theorem dX8_rush_33 : decode cX8_rush 33 = .ok (.bipush 8, 2) := by decide +kernel
theorem dX8_rush_35 : decode cX8_rush 35 = .ok (.iconst 1, 1) := by decide +kernel
theorem dX8_rush_36 : decode cX8_rush 36 = .ok (.invokevirtual 130, 3) := by decide +kernel
theorem dX8_rush_39 : decode cX8_rush 39 = .ok (.iconst 0, 1) := by decide +kernel
theorem dX8_rush_40 : decode cX8_rush 40 = .ok (.istore_n 2, 1) := by decide +kernel
theorem dX8_rush_41 : decode cX8_rush 41 = .ok (.iconst 0, 1) := by decide +kernel
theorem dX8_rush_42 : decode cX8_rush 42 = .ok (.istore_n 3, 1) := by decide +kernel
theorem dX8_rush_43 : decode cX8_rush 43 = .ok (.iload_n 3, 1) := by decide +kernel
theorem dX8_rush_44 : decode cX8_rush 44 = .ok (.aload_n 0, 1) := by decide +kernel
theorem dX8_rush_45 : decode cX8_rush 45 = .ok (.getfield 9, 3) := by decide +kernel
theorem dX8_rush_48 : decode cX8_rush 48 = .ok (.bipush 9, 2) := by decide +kernel
theorem dX8_rush_50 : decode cX8_rush 50 = .ok (.iaload, 1) := by decide +kernel
theorem dX8_rush_51 : decode cX8_rush 51 = .ok (.if_icmp .ge 19, 3) := by decide +kernel
theorem dX8_rush_54 : decode cX8_rush 54 = .ok (.iload_n 2, 1) := by decide +kernel
theorem dX8_rush_55 : decode cX8_rush 55 = .ok (.aload_n 0, 1) := by decide +kernel
theorem dX8_rush_56 : decode cX8_rush 56 = .ok (.iload_n 3, 1) := by decide +kernel
theorem dX8_rush_57 : decode cX8_rush 57 = .ok (.bipush 8, 2) := by decide +kernel
theorem dX8_rush_59 : decode cX8_rush 59 = .ok (.invokevirtual 233, 3) := by decide +kernel
theorem dX8_rush_6 : decode cX8_rush 6 = .ok (.iconst 1, 1) := by decide +kernel
theorem dX8_rush_62 : decode cX8_rush 62 = .ok (.iadd, 1) := by decide +kernel
theorem dX8_rush_63 : decode cX8_rush 63 = .ok (.istore_n 2, 1) := by decide +kernel
theorem dX8_rush_64 : decode cX8_rush 64 = .ok (.iinc 3 1, 3) := by decide +kernel
theorem dX8_rush_67 : decode cX8_rush 67 = .ok (.goto (-24), 3) := by decide +kernel
theorem dX8_rush_7 : decode cX8_rush 7 = .ok (.invokevirtual 226, 3) := by decide +kernel
theorem dX8_rush_70 : decode cX8_rush 70 = .ok (.iload_n 2, 1) := by decide +kernel
theorem dX8_rush_71 : decode cX8_rush 71 = .ok (.ireturn, 1) := by decide +kernel
theorem dX8_saveSnapshot_0 : decode cX8_saveSnapshot 0 = .ok (.aload_n 0, 1) := by decide +kernel
theorem dX8_saveSnapshot_1 : decode cX8_saveSnapshot 1 = .ok (.iload_n 1, 1) := by decide +kernel
theorem dX8_saveSnapshot_12 : decode cX8_saveSnapshot 12 = .ok (.ifCond .eq 5, 3) := by decide +kernel
theorem dX8_saveSnapshot_15 : decode cX8_saveSnapshot 15 = .ok (.iconst 0, 1) := by decide +kernel
theorem dX8_saveSnapshot_16 : decode cX8_saveSnapshot 16 = .ok (.ireturn, 1) := by decide +kernel
theorem dX8_saveSnapshot_17 : decode cX8_saveSnapshot 17 = .ok (.aload_n 0, 1) := by decide +kernel
theorem dX8_saveSnapshot_18 : decode cX8_saveSnapshot 18 = .ok (.getfield 9, 3) := by decide +kernel
theorem dX8_saveSnapshot_2 : decode cX8_saveSnapshot 2 = .ok (.i2l, 1) := by decide +kernel
theorem dX8_saveSnapshot_21 : decode cX8_saveSnapshot 21 = .ok (.iconst 0, 1) := by decide +kernel
theorem dX8_saveSnapshot_22 : decode cX8_saveSnapshot 22 = .ok (.aload_n 0, 1) := by decide +kernel
theorem dX8_saveSnapshot_23 : decode cX8_saveSnapshot 23 = .ok (.getfield 19, 3) := by decide +kernel
theorem dX8_saveSnapshot_26 : decode cX8_saveSnapshot 26 = .ok (.iload_n 1, 1) := by decide +kernel
theorem dX8_saveSnapshot_27 : decode cX8_saveSnapshot 27 = .ok (.invokestatic 204, 3) := by decide +kernel
theorem dX8_saveSnapshot_3 : decode cX8_saveSnapshot 3 = .ok (.lconst 0, 1) := by decide +kernel
theorem dX8_saveSnapshot_30 : decode cX8_saveSnapshot 30 = .ok (.aload_n 0, 1) := by decide +kernel
theorem dX8_saveSnapshot_31 : decode cX8_saveSnapshot 31 = .ok (.getfield 22, 3) := by decide +kernel
theorem dX8_saveSnapshot_34 : decode cX8_saveSnapshot 34 = .ok (.iload_n 1, 1) := by decide +kernel
theorem dX8_saveSnapshot_35 : decode cX8_saveSnapshot 35 = .ok (.iconst 1, 1) := by decide +kernel
theorem dX8_saveSnapshot_36 : decode cX8_saveSnapshot 36 = .ok (.bastore, 1) := by decide +kernel
theorem dX8_saveSnapshot_37 : decode cX8_saveSnapshot 37 = .ok (.aload_n 0, 1) := by decide +kernel
theorem dX8_saveSnapshot_38 : decode cX8_saveSnapshot 38 = .ok (.getfield 9, 3) := by decide +kernel
theorem dX8_saveSnapshot_4 : decode cX8_saveSnapshot 4 = .ok (.lconst 1, 1) := by decide +kernel
theorem dX8_saveSnapshot_41 : decode cX8_saveSnapshot 41 = .ok (.bipush 6, 2) := by decide +kernel
theorem dX8_saveSnapshot_43 : decode cX8_saveSnapshot 43 = .ok (.iaload, 1) := by decide +kernel
theorem dX8_saveSnapshot_44 : decode cX8_saveSnapshot 44 = .ok (.ireturn, 1) := by decide +kernel
theorem dX8_saveSnapshot_5 : decode cX8_saveSnapshot 5 = .ok (.invokestatic 52, 3) := by decide +kernel
theorem dX8_saveSnapshot_8 : decode cX8_saveSnapshot 8 = .ok (.iconst 1, 1) := by decide +kernel
theorem dX8_saveSnapshot_9 : decode cX8_saveSnapshot 9 = .ok (.invokevirtual 226, 3) := by decide +kernel
theorem dX8_scriptPart_0 : decode cX8_scriptPart 0 = .ok (.aload_n 0, 1) := by decide +kernel
theorem dX8_scriptPart_1 : decode cX8_scriptPart 1 = .ok (.getfield 75, 3) := by decide +kernel
theorem dX8_scriptPart_100 : decode cX8_scriptPart 100 = .ok (.iconst 1, 1) := by decide +kernel
theorem dX8_scriptPart_101 : decode cX8_scriptPart 101 = .ok (.iand, 1) := by decide +kernel
theorem dX8_scriptPart_102 : decode cX8_scriptPart 102 = .ok (.iload_n 2, 1) := by decide +kernel
theorem dX8_scriptPart_103 : decode cX8_scriptPart 103 = .ok (.ishl, 1) := by decide +kernel
theorem dX8_scriptPart_104 : decode cX8_scriptPart 104 = .ok (.goto 4, 3) := by decide +kernel
theorem dX8_scriptPart_107 : decode cX8_scriptPart 107 = .ok (.iconst 0, 1) := by decide +kernel
theorem dX8_scriptPart_108 : decode cX8_scriptPart 108 = .ok (.ior, 1) := by decide +kernel
theorem dX8_scriptPart_109 : decode cX8_scriptPart 109 = .ok (.istore_n 3, 1) := by decide +kernel
theorem dX8_scriptPart_11 : decode cX8_scriptPart 11 = .ok (.i2l, 1) := by decide +kernel
theorem dX8_scriptPart_110 : decode cX8_scriptPart 110 = .ok (.iinc 2 1, 3) := by decide +kernel
theorem dX8_scriptPart_113 : decode cX8_scriptPart 113 = .ok (.aload_n 0, 1) := by decide +kernel
theorem dX8_scriptPart_114 : decode cX8_scriptPart 114 = .ok (.dup, 1) := by decide +kernel
theorem dX8_scriptPart_115 : decode cX8_scriptPart 115 = .ok (.getfield 65, 3) := by decide +kernel
theorem dX8_scriptPart_118 : decode cX8_scriptPart 118 = .ok (.iconst 1, 1) := by decide +kernel
theorem dX8_scriptPart_119 : decode cX8_scriptPart 119 = .ok (.iadd, 1) := by decide +kernel
theorem dX8_scriptPart_12 : decode cX8_scriptPart 12 = .ok (.ldc2_w 96, 3) := by decide +kernel
theorem dX8_scriptPart_120 : decode cX8_scriptPart 120 = .ok (.putfield 65, 3) := by decide +kernel
theorem dX8_scriptPart_123 : decode cX8_scriptPart 123 = .ok (.goto (-79), 3) := by decide +kernel
theorem dX8_scriptPart_126 : decode cX8_scriptPart 126 = .ok (.iload 4, 2) := by decide +kernel
theorem dX8_scriptPart_128 : decode cX8_scriptPart 128 = .ok (.ifCond .ne 8, 3) := by decide +kernel
theorem dX8_scriptPart_131 : decode cX8_scriptPart 131 = .ok (.aload_n 0, 1) := by decide +kernel
theorem dX8_scriptPart_132 : decode cX8_scriptPart 132 = .ok (.iconst 2, 1) := by decide +kernel
theorem dX8_scriptPart_133 : decode cX8_scriptPart 133 = .ok (.invokevirtual 100, 3) := by decide +kernel
theorem dX8_scriptPart_136 : decode cX8_scriptPart 136 = .ok (.aload_n 0, 1) := by decide +kernel
theorem dX8_scriptPart_137 : decode cX8_scriptPart 137 = .ok (.iload_n 1, 1) := by decide +kernel
theorem dX8_scriptPart_138 : decode cX8_scriptPart 138 = .ok (.bipush 14, 2) := by decide +kernel
theorem dX8_scriptPart_140 : decode cX8_scriptPart 140 = .ok (.iload_n 2, 1) := by decide +kernel
theorem dX8_scriptPart_141 : decode cX8_scriptPart 141 = .ok (.invokevirtual 149, 3) := by decide +kernel
theorem dX8_scriptPart_144 : decode cX8_scriptPart 144 = .ok (.aload_n 0, 1) := by decide +kernel
theorem dX8_scriptPart_145 : decode cX8_scriptPart 145 = .ok (.iload_n 1, 1) := by decide +kernel
theorem dX8_scriptPart_146 : decode cX8_scriptPart 146 = .ok (.bipush 15, 2) := by decide +kernel
theorem dX8_scriptPart_148 : decode cX8_scriptPart 148 = .ok (.iload_n 3, 1) := by decide +kernel
theorem dX8_scriptPart_149 : decode cX8_scriptPart 149 = .ok (.invokevirtual 149, 3) := by decide +kernel
theorem dX8_scriptPart_15 : decode cX8_scriptPart 15 = .ok (.ldc2_w 98, 3) := by decide +kernel
theorem dX8_scriptPart_152 : decode cX8_scriptPart 152 = .ok (.return_, 1) := by decide +kernel
theorem dX8_scriptPart_18 : decode cX8_scriptPart 18 = .ok (.invokestatic 52, 3) := by decide +kernel
theorem dX8_scriptPart_21 : decode cX8_scriptPart 21 = .ok (.ifCond .ne 8, 3) := by decide +kernel
theorem dX8_scriptPart_24 : decode cX8_scriptPart 24 = .ok (.aload_n 0, 1) := by decide +kernel
theorem dX8_scriptPart_25 : decode cX8_scriptPart 25 = .ok (.iconst 1, 1) := by decide +kernel
theorem dX8_scriptPart_26 : decode cX8_scriptPart 26 = .ok (.invokevirtual 100, 3) := by decide +kernel
theorem dX8_scriptPart_29 : decode cX8_scriptPart 29 = .ok (.aload_n 0, 1) := by decide +kernel
theorem dX8_scriptPart_30 : decode cX8_scriptPart 30 = .ok (.getfield 75, 3) := by decide +kernel
theorem dX8_scriptPart_33 : decode cX8_scriptPart 33 = .ok (.ifCond .eq 4, 3) := by decide +kernel
theorem dX8_scriptPart_36 : decode cX8_scriptPart 36 = .ok (.return_, 1) := by decide +kernel
theorem dX8_scriptPart_37 : decode cX8_scriptPart 37 = .ok (.iconst 0, 1) := by decide +kernel
theorem dX8_scriptPart_38 : decode cX8_scriptPart 38 = .ok (.istore_n 2, 1) := by decide +kernel
theorem dX8_scriptPart_39 : decode cX8_scriptPart 39 = .ok (.iconst 0, 1) := by decide +kernel
theorem dX8_scriptPart_4 : decode cX8_scriptPart 4 = .ok (.ifCond .ne 25, 3) := by decide +kernel
theorem dX8_scriptPart_40 : decode cX8_scriptPart 40 = .ok (.istore_n 3, 1) := by decide +kernel
theorem dX8_scriptPart_41 : decode cX8_scriptPart 41 = .ok (.iconst 1, 1) := by decide +kernel
theorem dX8_scriptPart_42 : decode cX8_scriptPart 42 = .ok (.istore 4, 2) := by decide +kernel
theorem dX8_scriptPart_44 : decode cX8_scriptPart 44 = .ok (.aload_n 0, 1) := by decide +kernel
theorem dX8_scriptPart_45 : decode cX8_scriptPart 45 = .ok (.invokevirtual 68, 3) := by decide +kernel
theorem dX8_scriptPart_48 : decode cX8_scriptPart 48 = .ok (.i2l, 1) := by decide +kernel
theorem dX8_scriptPart_49 : decode cX8_scriptPart 49 = .ok (.ldc2_w 96, 3) := by decide +kernel
theorem dX8_scriptPart_52 : decode cX8_scriptPart 52 = .ok (.ldc2_w 98, 3) := by decide +kernel
theorem dX8_scriptPart_55 : decode cX8_scriptPart 55 = .ok (.invokestatic 52, 3) := by decide +kernel
theorem dX8_scriptPart_58 : decode cX8_scriptPart 58 = .ok (.ifCond .eq 68, 3) := by decide +kernel
theorem dX8_scriptPart_61 : decode cX8_scriptPart 61 = .ok (.iload 4, 2) := by decide +kernel
theorem dX8_scriptPart_63 : decode cX8_scriptPart 63 = .ok (.aload_n 0, 1) := by decide +kernel
theorem dX8_scriptPart_64 : decode cX8_scriptPart 64 = .ok (.invokevirtual 68, 3) := by decide +kernel
theorem dX8_scriptPart_67 : decode cX8_scriptPart 67 = .ok (.bipush 49, 2) := by decide +kernel
theorem dX8_scriptPart_69 : decode cX8_scriptPart 69 = .ok (.if_icmp .gt 13, 3) := by decide +kernel
theorem dX8_scriptPart_7 : decode cX8_scriptPart 7 = .ok (.aload_n 0, 1) := by decide +kernel
theorem dX8_scriptPart_72 : decode cX8_scriptPart 72 = .ok (.iload_n 2, 1) := by decide +kernel
theorem dX8_scriptPart_73 : decode cX8_scriptPart 73 = .ok (.bipush 12, 2) := by decide +kernel
theorem dX8_scriptPart_75 : decode cX8_scriptPart 75 = .ok (.if_icmp .ge 7, 3) := by decide +kernel
theorem dX8_scriptPart_78 : decode cX8_scriptPart 78 = .ok (.iconst 1, 1) := by decide +kernel
theorem dX8_scriptPart_79 : decode cX8_scriptPart 79 = .ok (.goto 4, 3) := by decide +kernel
theorem dX8_scriptPart_8 : decode cX8_scriptPart 8 = .ok (.invokevirtual 81, 3) := by decide +kernel
theorem dX8_scriptPart_82 : decode cX8_scriptPart 82 = .ok (.iconst 0, 1) := by decide +kernel
theorem dX8_scriptPart_83 : decode cX8_scriptPart 83 = .ok (.iand, 1) := by decide +kernel
theorem dX8_scriptPart_84 : decode cX8_scriptPart 84 = .ok (.istore 4, 2) := by decide +kernel
theorem dX8_scriptPart_86 : decode cX8_scriptPart 86 = .ok (.iload_n 3, 1) := by decide +kernel
theorem dX8_scriptPart_87 : decode cX8_scriptPart 87 = .ok (.iload_n 2, 1) := by decide +kernel
theorem dX8_scriptPart_88 : decode cX8_scriptPart 88 = .ok (.bipush 12, 2) := by decide +kernel
theorem dX8_scriptPart_90 : decode cX8_scriptPart 90 = .ok (.if_icmp .ge 17, 3) := by decide +kernel
theorem dX8_scriptPart_93 : decode cX8_scriptPart 93 = .ok (.aload_n 0, 1) := by decide +kernel
theorem dX8_scriptPart_94 : decode cX8_scriptPart 94 = .ok (.invokevirtual 68, 3) := by decide +kernel
theorem dX8_scriptPart_97 : decode cX8_scriptPart 97 = .ok (.bipush 48, 2) := by decide +kernel
theorem dX8_scriptPart_99 : decode cX8_scriptPart 99 = .ok (.isub, 1) := by decide +kernel
theorem dX8_setPace_0 : decode cX8_setPace 0 = .ok (.aload_n 0, 1) := by decide +kernel
theorem dX8_setPace_1 : decode cX8_setPace 1 = .ok (.aload_n 0, 1) := by decide +kernel
theorem dX8_setPace_10 : decode cX8_setPace 10 = .ok (.ifCond .ne 27, 3) := by decide +kernel
theorem dX8_setPace_13 : decode cX8_setPace 13 = .ok (.aload_n 0, 1) := by decide +kernel
theorem dX8_setPace_14 : decode cX8_setPace 14 = .ok (.iload_n 2, 1) := by decide +kernel
theorem dX8_setPace_15 : decode cX8_setPace 15 = .ok (.i2l, 1) := by decide +kernel
theorem dX8_setPace_16 : decode cX8_setPace 16 = .ok (.lconst 1, 1) := by decide +kernel
theorem dX8_setPace_17 : decode cX8_setPace 17 = .ok (.aload_n 0, 1) := by decide +kernel
theorem dX8_setPace_18 : decode cX8_setPace 18 = .ok (.iload_n 1, 1) := by decide +kernel
theorem dX8_setPace_19 : decode cX8_setPace 19 = .ok (.iconst 0, 1) := by decide +kernel
theorem dX8_setPace_2 : decode cX8_setPace 2 = .ok (.iload_n 1, 1) := by decide +kernel
theorem dX8_setPace_20 : decode cX8_setPace 20 = .ok (.invokevirtual 248, 3) := by decide +kernel
theorem dX8_setPace_23 : decode cX8_setPace 23 = .ok (.invokestatic 156, 3) := by decide +kernel
theorem dX8_setPace_26 : decode cX8_setPace 26 = .ok (.i2l, 1) := by decide +kernel
theorem dX8_setPace_27 : decode cX8_setPace 27 = .ok (.invokestatic 52, 3) := by decide +kernel
theorem dX8_setPace_3 : decode cX8_setPace 3 = .ok (.invokevirtual 243, 3) := by decide +kernel
theorem dX8_setPace_30 : decode cX8_setPace 30 = .ok (.iconst 2, 1) := by decide +kernel
theorem dX8_setPace_31 : decode cX8_setPace 31 = .ok (.invokevirtual 226, 3) := by decide +kernel
theorem dX8_setPace_34 : decode cX8_setPace 34 = .ok (.ifCond .eq 5, 3) := by decide +kernel
theorem dX8_setPace_37 : decode cX8_setPace 37 = .ok (.iconst 0, 1) := by decide +kernel
theorem dX8_setPace_38 : decode cX8_setPace 38 = .ok (.ireturn, 1) := by decide +kernel
theorem dX8_setPace_39 : decode cX8_setPace 39 = .ok (.aload_n 0, 1) := by decide +kernel
theorem dX8_setPace_40 : decode cX8_setPace 40 = .ok (.bipush 17, 2) := by decide +kernel
theorem dX8_setPace_42 : decode cX8_setPace 42 = .ok (.bipush 16, 2) := by decide +kernel
theorem dX8_setPace_44 : decode cX8_setPace 44 = .ok (.iload_n 1, 1) := by decide +kernel
theorem dX8_setPace_45 : decode cX8_setPace 45 = .ok (.imul, 1) := by decide +kernel
theorem dX8_setPace_46 : decode cX8_setPace 46 = .ok (.iadd, 1) := by decide +kernel
theorem dX8_setPace_47 : decode cX8_setPace 47 = .ok (.iconst 1, 1) := by decide +kernel
theorem dX8_setPace_48 : decode cX8_setPace 48 = .ok (.iadd, 1) := by decide +kernel
theorem dX8_setPace_49 : decode cX8_setPace 49 = .ok (.iload_n 2, 1) := by decide +kernel
theorem dX8_setPace_50 : decode cX8_setPace 50 = .ok (.invokevirtual 338, 3) := by decide +kernel
theorem dX8_setPace_53 : decode cX8_setPace 53 = .ok (.ireturn, 1) := by decide +kernel
theorem dX8_setPace_6 : decode cX8_setPace 6 = .ok (.iconst 1, 1) := by decide +kernel
theorem dX8_setPace_7 : decode cX8_setPace 7 = .ok (.invokevirtual 226, 3) := by decide +kernel
theorem dX8_setRank_0 : decode cX8_setRank 0 = .ok (.aload_n 0, 1) := by decide +kernel
theorem dX8_setRank_1 : decode cX8_setRank 1 = .ok (.aload_n 0, 1) := by decide +kernel
theorem dX8_setRank_10 : decode cX8_setRank 10 = .ok (.ifCond .ne 20, 3) := by decide +kernel
theorem dX8_setRank_13 : decode cX8_setRank 13 = .ok (.aload_n 0, 1) := by decide +kernel
theorem dX8_setRank_14 : decode cX8_setRank 14 = .ok (.iload_n 2, 1) := by decide +kernel
theorem dX8_setRank_15 : decode cX8_setRank 15 = .ok (.i2l, 1) := by decide +kernel
theorem dX8_setRank_16 : decode cX8_setRank 16 = .ok (.lconst 0, 1) := by decide +kernel
theorem dX8_setRank_17 : decode cX8_setRank 17 = .ok (.ldc2_w 236, 3) := by decide +kernel
theorem dX8_setRank_2 : decode cX8_setRank 2 = .ok (.iload_n 1, 1) := by decide +kernel
theorem dX8_setRank_20 : decode cX8_setRank 20 = .ok (.invokestatic 52, 3) := by decide +kernel
theorem dX8_setRank_23 : decode cX8_setRank 23 = .ok (.iconst 2, 1) := by decide +kernel
theorem dX8_setRank_24 : decode cX8_setRank 24 = .ok (.invokevirtual 226, 3) := by decide +kernel
theorem dX8_setRank_27 : decode cX8_setRank 27 = .ok (.ifCond .eq 5, 3) := by decide +kernel
theorem dX8_setRank_3 : decode cX8_setRank 3 = .ok (.invokevirtual 222, 3) := by decide +kernel
theorem dX8_setRank_30 : decode cX8_setRank 30 = .ok (.iconst 0, 1) := by decide +kernel
theorem dX8_setRank_31 : decode cX8_setRank 31 = .ok (.ireturn, 1) := by decide +kernel
theorem dX8_setRank_32 : decode cX8_setRank 32 = .ok (.aload_n 0, 1) := by decide +kernel
theorem dX8_setRank_33 : decode cX8_setRank 33 = .ok (.bipush 113, 2) := by decide +kernel
theorem dX8_setRank_35 : decode cX8_setRank 35 = .ok (.iconst 4, 1) := by decide +kernel
theorem dX8_setRank_36 : decode cX8_setRank 36 = .ok (.iload_n 1, 1) := by decide +kernel
theorem dX8_setRank_37 : decode cX8_setRank 37 = .ok (.imul, 1) := by decide +kernel
theorem dX8_setRank_38 : decode cX8_setRank 38 = .ok (.iadd, 1) := by decide +kernel
theorem dX8_setRank_39 : decode cX8_setRank 39 = .ok (.iconst 0, 1) := by decide +kernel
theorem dX8_setRank_40 : decode cX8_setRank 40 = .ok (.iadd, 1) := by decide +kernel
theorem dX8_setRank_41 : decode cX8_setRank 41 = .ok (.iload_n 2, 1) := by decide +kernel
theorem dX8_setRank_42 : decode cX8_setRank 42 = .ok (.invokevirtual 338, 3) := by decide +kernel
theorem dX8_setRank_45 : decode cX8_setRank 45 = .ok (.ireturn, 1) := by decide +kernel
theorem dX8_setRank_6 : decode cX8_setRank 6 = .ok (.iconst 1, 1) := by decide +kernel
theorem dX8_setRank_7 : decode cX8_setRank 7 = .ok (.invokevirtual 226, 3) := by decide +kernel
theorem dX8_setRest_0 : decode cX8_setRest 0 = .ok (.iload_n 2, 1) := by decide +kernel
theorem dX8_setRest_1 : decode cX8_setRest 1 = .ok (.ifCond .eq 27, 3) := by decide +kernel
theorem dX8_setRest_10 : decode cX8_setRest 10 = .ok (.invokestatic 52, 3) := by decide +kernel
theorem dX8_setRest_13 : decode cX8_setRest 13 = .ok (.ifCond .eq 19, 3) := by decide +kernel
theorem dX8_setRest_16 : decode cX8_setRest 16 = .ok (.iload_n 3, 1) := by decide +kernel
theorem dX8_setRest_17 : decode cX8_setRest 17 = .ok (.i2l, 1) := by decide +kernel
theorem dX8_setRest_18 : decode cX8_setRest 18 = .ok (.lconst 1, 1) := by decide +kernel
theorem dX8_setRest_19 : decode cX8_setRest 19 = .ok (.ldc2_w 343, 3) := by decide +kernel
theorem dX8_setRest_22 : decode cX8_setRest 22 = .ok (.invokestatic 52, 3) := by decide +kernel
theorem dX8_setRest_25 : decode cX8_setRest 25 = .ok (.ifCond .eq 7, 3) := by decide +kernel
theorem dX8_setRest_28 : decode cX8_setRest 28 = .ok (.iconst 1, 1) := by decide +kernel
theorem dX8_setRest_29 : decode cX8_setRest 29 = .ok (.goto 4, 3) := by decide +kernel
theorem dX8_setRest_32 : decode cX8_setRest 32 = .ok (.iconst 0, 1) := by decide +kernel
theorem dX8_setRest_33 : decode cX8_setRest 33 = .ok (.istore 4, 2) := by decide +kernel
theorem dX8_setRest_35 : decode cX8_setRest 35 = .ok (.aload_n 0, 1) := by decide +kernel
theorem dX8_setRest_36 : decode cX8_setRest 36 = .ok (.aload_n 0, 1) := by decide +kernel
theorem dX8_setRest_37 : decode cX8_setRest 37 = .ok (.iload_n 1, 1) := by decide +kernel
theorem dX8_setRest_38 : decode cX8_setRest 38 = .ok (.invokevirtual 243, 3) := by decide +kernel
theorem dX8_setRest_4 : decode cX8_setRest 4 = .ok (.iload_n 2, 1) := by decide +kernel
theorem dX8_setRest_41 : decode cX8_setRest 41 = .ok (.iconst 1, 1) := by decide +kernel
theorem dX8_setRest_42 : decode cX8_setRest 42 = .ok (.invokevirtual 226, 3) := by decide +kernel
theorem dX8_setRest_45 : decode cX8_setRest 45 = .ok (.ifCond .ne 13, 3) := by decide +kernel
theorem dX8_setRest_48 : decode cX8_setRest 48 = .ok (.aload_n 0, 1) := by decide +kernel
theorem dX8_setRest_49 : decode cX8_setRest 49 = .ok (.iload 4, 2) := by decide +kernel
theorem dX8_setRest_5 : decode cX8_setRest 5 = .ok (.i2l, 1) := by decide +kernel
theorem dX8_setRest_51 : decode cX8_setRest 51 = .ok (.iconst 2, 1) := by decide +kernel
theorem dX8_setRest_52 : decode cX8_setRest 52 = .ok (.invokevirtual 226, 3) := by decide +kernel
theorem dX8_setRest_55 : decode cX8_setRest 55 = .ok (.ifCond .eq 5, 3) := by decide +kernel
theorem dX8_setRest_58 : decode cX8_setRest 58 = .ok (.iconst 0, 1) := by decide +kernel
theorem dX8_setRest_59 : decode cX8_setRest 59 = .ok (.ireturn, 1) := by decide +kernel
theorem dX8_setRest_6 : decode cX8_setRest 6 = .ok (.lconst 1, 1) := by decide +kernel
theorem dX8_setRest_60 : decode cX8_setRest 60 = .ok (.aload_n 0, 1) := by decide +kernel
theorem dX8_setRest_61 : decode cX8_setRest 61 = .ok (.invokevirtual 230, 3) := by decide +kernel
theorem dX8_setRest_64 : decode cX8_setRest 64 = .ok (.aload_n 0, 1) := by decide +kernel
theorem dX8_setRest_65 : decode cX8_setRest 65 = .ok (.iload_n 1, 1) := by decide +kernel
theorem dX8_setRest_66 : decode cX8_setRest 66 = .ok (.bipush 9, 2) := by decide +kernel
theorem dX8_setRest_68 : decode cX8_setRest 68 = .ok (.invokevirtual 248, 3) := by decide +kernel
theorem dX8_setRest_7 : decode cX8_setRest 7 = .ok (.ldc2_w 343, 3) := by decide +kernel
theorem dX8_setRest_71 : decode cX8_setRest 71 = .ok (.istore 5, 2) := by decide +kernel
theorem dX8_setRest_73 : decode cX8_setRest 73 = .ok (.aload_n 0, 1) := by decide +kernel
theorem dX8_setRest_74 : decode cX8_setRest 74 = .ok (.iload_n 1, 1) := by decide +kernel
theorem dX8_setRest_75 : decode cX8_setRest 75 = .ok (.bipush 9, 2) := by decide +kernel
theorem dX8_setRest_77 : decode cX8_setRest 77 = .ok (.iload_n 2, 1) := by decide +kernel
theorem dX8_setRest_78 : decode cX8_setRest 78 = .ok (.invokevirtual 149, 3) := by decide +kernel
theorem dX8_setRest_81 : decode cX8_setRest 81 = .ok (.aload_n 0, 1) := by decide +kernel
theorem dX8_setRest_82 : decode cX8_setRest 82 = .ok (.iload_n 1, 1) := by decide +kernel
theorem dX8_setRest_83 : decode cX8_setRest 83 = .ok (.bipush 10, 2) := by decide +kernel
theorem dX8_setRest_85 : decode cX8_setRest 85 = .ok (.iload_n 2, 1) := by decide +kernel
theorem dX8_setRest_86 : decode cX8_setRest 86 = .ok (.ifCond .ne 7, 3) := by decide +kernel
theorem dX8_setRest_89 : decode cX8_setRest 89 = .ok (.iconst 0, 1) := by decide +kernel
theorem dX8_setRest_90 : decode cX8_setRest 90 = .ok (.goto 4, 3) := by decide +kernel
theorem dX8_setRest_93 : decode cX8_setRest 93 = .ok (.iload_n 3, 1) := by decide +kernel
theorem dX8_setRest_94 : decode cX8_setRest 94 = .ok (.invokevirtual 149, 3) := by decide +kernel
theorem dX8_setRest_97 : decode cX8_setRest 97 = .ok (.iload 5, 2) := by decide +kernel
theorem dX8_setRest_99 : decode cX8_setRest 99 = .ok (.ireturn, 1) := by decide +kernel
theorem dX8_setTray_0 : decode cX8_setTray 0 = .ok (.aload_n 0, 1) := by decide +kernel
theorem dX8_setTray_1 : decode cX8_setTray 1 = .ok (.iload_n 1, 1) := by decide +kernel
theorem dX8_setTray_10 : decode cX8_setTray 10 = .ok (.iconst 1, 1) := by decide +kernel
theorem dX8_setTray_11 : decode cX8_setTray 11 = .ok (.invokevirtual 226, 3) := by decide +kernel
theorem dX8_setTray_14 : decode cX8_setTray 14 = .ok (.ifCond .eq 7, 3) := by decide +kernel
theorem dX8_setTray_17 : decode cX8_setTray 17 = .ok (.iconst 0, 1) := by decide +kernel
theorem dX8_setTray_18 : decode cX8_setTray 18 = .ok (.goto 9, 3) := by decide +kernel
theorem dX8_setTray_2 : decode cX8_setTray 2 = .ok (.i2l, 1) := by decide +kernel
theorem dX8_setTray_21 : decode cX8_setTray 21 = .ok (.aload_n 0, 1) := by decide +kernel
theorem dX8_setTray_22 : decode cX8_setTray 22 = .ok (.iconst 1, 1) := by decide +kernel
theorem dX8_setTray_23 : decode cX8_setTray 23 = .ok (.iload_n 1, 1) := by decide +kernel
theorem dX8_setTray_24 : decode cX8_setTray 24 = .ok (.invokevirtual 338, 3) := by decide +kernel
theorem dX8_setTray_27 : decode cX8_setTray 27 = .ok (.ireturn, 1) := by decide +kernel
theorem dX8_setTray_3 : decode cX8_setTray 3 = .ok (.lconst 1, 1) := by decide +kernel
theorem dX8_setTray_4 : decode cX8_setTray 4 = .ok (.ldc2_w 345, 3) := by decide +kernel
theorem dX8_setTray_7 : decode cX8_setTray 7 = .ok (.invokestatic 52, 3) := by decide +kernel
theorem dX8_setTries_0 : decode cX8_setTries 0 = .ok (.aload_n 0, 1) := by decide +kernel
theorem dX8_setTries_1 : decode cX8_setTries 1 = .ok (.iload_n 1, 1) := by decide +kernel
theorem dX8_setTries_10 : decode cX8_setTries 10 = .ok (.iconst 1, 1) := by decide +kernel
theorem dX8_setTries_11 : decode cX8_setTries 11 = .ok (.invokevirtual 226, 3) := by decide +kernel
theorem dX8_setTries_14 : decode cX8_setTries 14 = .ok (.ifCond .eq 7, 3) := by decide +kernel
theorem dX8_setTries_17 : decode cX8_setTries 17 = .ok (.iconst 0, 1) := by decide +kernel
theorem dX8_setTries_18 : decode cX8_setTries 18 = .ok (.goto 9, 3) := by decide +kernel
theorem dX8_setTries_2 : decode cX8_setTries 2 = .ok (.i2l, 1) := by decide +kernel
theorem dX8_setTries_21 : decode cX8_setTries 21 = .ok (.aload_n 0, 1) := by decide +kernel
theorem dX8_setTries_22 : decode cX8_setTries 22 = .ok (.iconst 2, 1) := by decide +kernel
theorem dX8_setTries_23 : decode cX8_setTries 23 = .ok (.iload_n 1, 1) := by decide +kernel
theorem dX8_setTries_24 : decode cX8_setTries 24 = .ok (.invokevirtual 338, 3) := by decide +kernel
theorem dX8_setTries_27 : decode cX8_setTries 27 = .ok (.ireturn, 1) := by decide +kernel
theorem dX8_setTries_3 : decode cX8_setTries 3 = .ok (.lconst 1, 1) := by decide +kernel
theorem dX8_setTries_4 : decode cX8_setTries 4 = .ok (.ldc2_w 236, 3) := by decide +kernel
theorem dX8_setTries_7 : decode cX8_setTries 7 = .ok (.invokestatic 52, 3) := by decide +kernel
theorem dX8_setsCard_0 : decode cX8_setsCard 0 = .ok (.aload_n 0, 1) := by decide +kernel
theorem dX8_setsCard_1 : decode cX8_setsCard 1 = .ok (.getfield 9, 3) := by decide +kernel
theorem dX8_setsCard_10 : decode cX8_setsCard 10 = .ok (.imul, 1) := by decide +kernel
theorem dX8_setsCard_11 : decode cX8_setsCard 11 = .ok (.iadd, 1) := by decide +kernel
theorem dX8_setsCard_12 : decode cX8_setsCard 12 = .ok (.iload_n 2, 1) := by decide +kernel
theorem dX8_setsCard_13 : decode cX8_setsCard 13 = .ok (.iadd, 1) := by decide +kernel
theorem dX8_setsCard_14 : decode cX8_setsCard 14 = .ok (.iload_n 3, 1) := by decide +kernel
theorem dX8_setsCard_15 : decode cX8_setsCard 15 = .ok (.iastore, 1) := by decide +kernel
theorem dX8_setsCard_16 : decode cX8_setsCard 16 = .ok (.return_, 1) := by decide +kernel
theorem dX8_setsCard_4 : decode cX8_setsCard 4 = .ok (.sipush 137, 3) := by decide +kernel
theorem dX8_setsCard_7 : decode cX8_setsCard 7 = .ok (.bipush 25, 2) := by decide +kernel
theorem dX8_setsCard_9 : decode cX8_setsCard 9 = .ok (.iload_n 1, 1) := by decide +kernel
theorem dX8_sets_0 : decode cX8_sets 0 = .ok (.aload_n 0, 1) := by decide +kernel
theorem dX8_sets_1 : decode cX8_sets 1 = .ok (.getfield 9, 3) := by decide +kernel
theorem dX8_sets_10 : decode cX8_sets 10 = .ok (.iadd, 1) := by decide +kernel
theorem dX8_sets_11 : decode cX8_sets 11 = .ok (.iload_n 2, 1) := by decide +kernel
theorem dX8_sets_12 : decode cX8_sets 12 = .ok (.iadd, 1) := by decide +kernel
theorem dX8_sets_13 : decode cX8_sets 13 = .ok (.iload_n 3, 1) := by decide +kernel
theorem dX8_sets_14 : decode cX8_sets 14 = .ok (.iastore, 1) := by decide +kernel
theorem dX8_sets_15 : decode cX8_sets 15 = .ok (.return_, 1) := by decide +kernel
theorem dX8_sets_4 : decode cX8_sets 4 = .ok (.bipush 17, 2) := by decide +kernel
theorem dX8_sets_6 : decode cX8_sets 6 = .ok (.bipush 16, 2) := by decide +kernel
theorem dX8_sets_8 : decode cX8_sets 8 = .ok (.iload_n 1, 1) := by decide +kernel
theorem dX8_sets_9 : decode cX8_sets 9 = .ok (.imul, 1) := by decide +kernel
theorem dX8_setting_0 : decode cX8_setting 0 = .ok (.aload_n 0, 1) := by decide +kernel
theorem dX8_setting_1 : decode cX8_setting 1 = .ok (.iload_n 1, 1) := by decide +kernel
theorem dX8_setting_10 : decode cX8_setting 10 = .ok (.iconst 1, 1) := by decide +kernel
theorem dX8_setting_11 : decode cX8_setting 11 = .ok (.invokevirtual 226, 3) := by decide +kernel
theorem dX8_setting_14 : decode cX8_setting 14 = .ok (.ifCond .eq 7, 3) := by decide +kernel
theorem dX8_setting_17 : decode cX8_setting 17 = .ok (.iconst 0, 1) := by decide +kernel
theorem dX8_setting_18 : decode cX8_setting 18 = .ok (.goto 9, 3) := by decide +kernel
theorem dX8_setting_2 : decode cX8_setting 2 = .ok (.i2l, 1) := by decide +kernel
theorem dX8_setting_21 : decode cX8_setting 21 = .ok (.aload_n 0, 1) := by decide +kernel
theorem dX8_setting_22 : decode cX8_setting 22 = .ok (.getfield 9, 3) := by decide +kernel
theorem dX8_setting_25 : decode cX8_setting 25 = .ok (.iload_n 1, 1) := by decide +kernel
theorem dX8_setting_26 : decode cX8_setting 26 = .ok (.iaload, 1) := by decide +kernel
theorem dX8_setting_27 : decode cX8_setting 27 = .ok (.ireturn, 1) := by decide +kernel
theorem dX8_setting_3 : decode cX8_setting 3 = .ok (.lconst 0, 1) := by decide +kernel
theorem dX8_setting_4 : decode cX8_setting 4 = .ok (.ldc2_w 241, 3) := by decide +kernel
theorem dX8_setting_7 : decode cX8_setting 7 = .ok (.invokestatic 52, 3) := by decide +kernel
theorem dX8_settles_0 : decode cX8_settles 0 = .ok (.aload_n 0, 1) := by decide +kernel
theorem dX8_settles_1 : decode cX8_settles 1 = .ok (.iconst 0, 1) := by decide +kernel
theorem dX8_settles_10 : decode cX8_settles 10 = .ok (.putfield 198, 3) := by decide +kernel
theorem dX8_settles_13 : decode cX8_settles 13 = .ok (.aload_n 0, 1) := by decide +kernel
theorem dX8_settles_14 : decode cX8_settles 14 = .ok (.aload_n 0, 1) := by decide +kernel
theorem dX8_settles_15 : decode cX8_settles 15 = .ok (.getfield 75, 3) := by decide +kernel
theorem dX8_settles_18 : decode cX8_settles 18 = .ok (.ifCond .ne 7, 3) := by decide +kernel
theorem dX8_settles_2 : decode cX8_settles 2 = .ok (.putfield 62, 3) := by decide +kernel
theorem dX8_settles_21 : decode cX8_settles 21 = .ok (.iconst (-1), 1) := by decide +kernel
theorem dX8_settles_22 : decode cX8_settles 22 = .ok (.goto 7, 3) := by decide +kernel
theorem dX8_settles_25 : decode cX8_settles 25 = .ok (.aload_n 0, 1) := by decide +kernel
theorem dX8_settles_26 : decode cX8_settles 26 = .ok (.getfield 195, 3) := by decide +kernel
theorem dX8_settles_29 : decode cX8_settles 29 = .ok (.putfield 30, 3) := by decide +kernel
theorem dX8_settles_32 : decode cX8_settles 32 = .ok (.return_, 1) := by decide +kernel
theorem dX8_settles_5 : decode cX8_settles 5 = .ok (.aload_n 0, 1) := by decide +kernel
theorem dX8_settles_6 : decode cX8_settles 6 = .ok (.aload_n 0, 1) := by decide +kernel
theorem dX8_settles_7 : decode cX8_settles 7 = .ok (.getfield 75, 3) := by decide +kernel
theorem dX8_starts_0 : decode cX8_starts 0 = .ok (.aload_n 0, 1) := by decide +kernel
theorem dX8_starts_1 : decode cX8_starts 1 = .ok (.iconst 0, 1) := by decide +kernel
theorem dX8_starts_10 : decode cX8_starts 10 = .ok (.aload_n 0, 1) := by decide +kernel
theorem dX8_starts_11 : decode cX8_starts 11 = .ok (.iconst 0, 1) := by decide +kernel
theorem dX8_starts_12 : decode cX8_starts 12 = .ok (.putfield 75, 3) := by decide +kernel
theorem dX8_starts_15 : decode cX8_starts 15 = .ok (.aload_n 0, 1) := by decide +kernel
theorem dX8_starts_16 : decode cX8_starts 16 = .ok (.iconst 0, 1) := by decide +kernel
theorem dX8_starts_17 : decode cX8_starts 17 = .ok (.putfield 195, 3) := by decide +kernel
theorem dX8_starts_2 : decode cX8_starts 2 = .ok (.putfield 49, 3) := by decide +kernel
theorem dX8_starts_20 : decode cX8_starts 20 = .ok (.return_, 1) := by decide +kernel
theorem dX8_starts_5 : decode cX8_starts 5 = .ok (.aload_n 0, 1) := by decide +kernel
theorem dX8_starts_6 : decode cX8_starts 6 = .ok (.iconst 0, 1) := by decide +kernel
theorem dX8_starts_7 : decode cX8_starts 7 = .ok (.putfield 65, 3) := by decide +kernel
theorem dX8_statement_0 : decode cX8_statement 0 = .ok (.aload_n 0, 1) := by decide +kernel
theorem dX8_statement_1 : decode cX8_statement 1 = .ok (.invokevirtual 140, 3) := by decide +kernel
theorem dX8_statement_102 : decode cX8_statement 102 = .ok (.ifCond .eq 10, 3) := by decide +kernel
theorem dX8_statement_105 : decode cX8_statement 105 = .ok (.aload_n 0, 1) := by decide +kernel
theorem dX8_statement_106 : decode cX8_statement 106 = .ok (.invokevirtual 187, 3) := by decide +kernel
theorem dX8_statement_109 : decode cX8_statement 109 = .ok (.goto 24, 3) := by decide +kernel
theorem dX8_statement_112 : decode cX8_statement 112 = .ok (.aload_n 0, 1) := by decide +kernel
theorem dX8_statement_113 : decode cX8_statement 113 = .ok (.ldc 190, 2) := by decide +kernel
theorem dX8_statement_115 : decode cX8_statement 115 = .ok (.invokevirtual 145, 3) := by decide +kernel
theorem dX8_statement_118 : decode cX8_statement 118 = .ok (.ifCond .eq 10, 3) := by decide +kernel
theorem dX8_statement_12 : decode cX8_statement 12 = .ok (.aload_n 0, 1) := by decide +kernel
theorem dX8_statement_121 : decode cX8_statement 121 = .ok (.aload_n 0, 1) := by decide +kernel
theorem dX8_statement_122 : decode cX8_statement 122 = .ok (.invokevirtual 192, 3) := by decide +kernel
theorem dX8_statement_125 : decode cX8_statement 125 = .ok (.goto 8, 3) := by decide +kernel
theorem dX8_statement_128 : decode cX8_statement 128 = .ok (.aload_n 0, 1) := by decide +kernel
theorem dX8_statement_129 : decode cX8_statement 129 = .ok (.iconst 1, 1) := by decide +kernel
theorem dX8_statement_13 : decode cX8_statement 13 = .ok (.ldc 169, 2) := by decide +kernel
theorem dX8_statement_130 : decode cX8_statement 130 = .ok (.invokevirtual 100, 3) := by decide +kernel
theorem dX8_statement_133 : decode cX8_statement 133 = .ok (.return_, 1) := by decide +kernel
theorem dX8_statement_15 : decode cX8_statement 15 = .ok (.invokevirtual 145, 3) := by decide +kernel
theorem dX8_statement_18 : decode cX8_statement 18 = .ok (.ifCond .eq 11, 3) := by decide +kernel
theorem dX8_statement_21 : decode cX8_statement 21 = .ok (.aload_n 0, 1) := by decide +kernel
theorem dX8_statement_22 : decode cX8_statement 22 = .ok (.iconst 0, 1) := by decide +kernel
theorem dX8_statement_23 : decode cX8_statement 23 = .ok (.invokevirtual 171, 3) := by decide +kernel
theorem dX8_statement_26 : decode cX8_statement 26 = .ok (.goto 107, 3) := by decide +kernel
theorem dX8_statement_29 : decode cX8_statement 29 = .ok (.aload_n 0, 1) := by decide +kernel
theorem dX8_statement_30 : decode cX8_statement 30 = .ok (.ldc 174, 2) := by decide +kernel
theorem dX8_statement_32 : decode cX8_statement 32 = .ok (.invokevirtual 145, 3) := by decide +kernel
theorem dX8_statement_35 : decode cX8_statement 35 = .ok (.ifCond .eq 11, 3) := by decide +kernel
theorem dX8_statement_38 : decode cX8_statement 38 = .ok (.aload_n 0, 1) := by decide +kernel
theorem dX8_statement_39 : decode cX8_statement 39 = .ok (.iconst 1, 1) := by decide +kernel
theorem dX8_statement_4 : decode cX8_statement 4 = .ok (.aload_n 0, 1) := by decide +kernel
theorem dX8_statement_40 : decode cX8_statement 40 = .ok (.invokevirtual 171, 3) := by decide +kernel
theorem dX8_statement_43 : decode cX8_statement 43 = .ok (.goto 90, 3) := by decide +kernel
theorem dX8_statement_46 : decode cX8_statement 46 = .ok (.aload_n 0, 1) := by decide +kernel
theorem dX8_statement_47 : decode cX8_statement 47 = .ok (.ldc 176, 2) := by decide +kernel
theorem dX8_statement_49 : decode cX8_statement 49 = .ok (.invokevirtual 145, 3) := by decide +kernel
theorem dX8_statement_5 : decode cX8_statement 5 = .ok (.aload_n 0, 1) := by decide +kernel
theorem dX8_statement_52 : decode cX8_statement 52 = .ok (.ifCond .eq 11, 3) := by decide +kernel
theorem dX8_statement_55 : decode cX8_statement 55 = .ok (.aload_n 0, 1) := by decide +kernel
theorem dX8_statement_56 : decode cX8_statement 56 = .ok (.iconst 2, 1) := by decide +kernel
theorem dX8_statement_57 : decode cX8_statement 57 = .ok (.invokevirtual 171, 3) := by decide +kernel
theorem dX8_statement_6 : decode cX8_statement 6 = .ok (.getfield 72, 3) := by decide +kernel
theorem dX8_statement_60 : decode cX8_statement 60 = .ok (.goto 73, 3) := by decide +kernel
theorem dX8_statement_63 : decode cX8_statement 63 = .ok (.aload_n 0, 1) := by decide +kernel
theorem dX8_statement_64 : decode cX8_statement 64 = .ok (.ldc 178, 2) := by decide +kernel
theorem dX8_statement_66 : decode cX8_statement 66 = .ok (.invokevirtual 145, 3) := by decide +kernel
theorem dX8_statement_69 : decode cX8_statement 69 = .ok (.ifCond .eq 11, 3) := by decide +kernel
theorem dX8_statement_72 : decode cX8_statement 72 = .ok (.aload_n 0, 1) := by decide +kernel
theorem dX8_statement_73 : decode cX8_statement 73 = .ok (.iconst 3, 1) := by decide +kernel
theorem dX8_statement_74 : decode cX8_statement 74 = .ok (.invokevirtual 171, 3) := by decide +kernel
theorem dX8_statement_77 : decode cX8_statement 77 = .ok (.goto 56, 3) := by decide +kernel
theorem dX8_statement_80 : decode cX8_statement 80 = .ok (.aload_n 0, 1) := by decide +kernel
theorem dX8_statement_81 : decode cX8_statement 81 = .ok (.ldc 180, 2) := by decide +kernel
theorem dX8_statement_83 : decode cX8_statement 83 = .ok (.invokevirtual 145, 3) := by decide +kernel
theorem dX8_statement_86 : decode cX8_statement 86 = .ok (.ifCond .eq 10, 3) := by decide +kernel
theorem dX8_statement_89 : decode cX8_statement 89 = .ok (.aload_n 0, 1) := by decide +kernel
theorem dX8_statement_9 : decode cX8_statement 9 = .ok (.putfield 137, 3) := by decide +kernel
theorem dX8_statement_90 : decode cX8_statement 90 = .ok (.invokevirtual 182, 3) := by decide +kernel
theorem dX8_statement_93 : decode cX8_statement 93 = .ok (.goto 40, 3) := by decide +kernel
theorem dX8_statement_96 : decode cX8_statement 96 = .ok (.aload_n 0, 1) := by decide +kernel
theorem dX8_statement_97 : decode cX8_statement 97 = .ok (.ldc 185, 2) := by decide +kernel
theorem dX8_statement_99 : decode cX8_statement 99 = .ok (.invokevirtual 145, 3) := by decide +kernel
theorem dX8_stationPart_0 : decode cX8_stationPart 0 = .ok (.aload_n 0, 1) := by decide +kernel
theorem dX8_stationPart_1 : decode cX8_stationPart 1 = .ok (.aload_n 0, 1) := by decide +kernel
theorem dX8_stationPart_10 : decode cX8_stationPart 10 = .ok (.if_icmp .ne 7, 3) := by decide +kernel
theorem dX8_stationPart_13 : decode cX8_stationPart 13 = .ok (.iconst 1, 1) := by decide +kernel
theorem dX8_stationPart_14 : decode cX8_stationPart 14 = .ok (.goto 4, 3) := by decide +kernel
theorem dX8_stationPart_17 : decode cX8_stationPart 17 = .ok (.iconst 0, 1) := by decide +kernel
theorem dX8_stationPart_18 : decode cX8_stationPart 18 = .ok (.invokevirtual 152, 3) := by decide +kernel
theorem dX8_stationPart_2 : decode cX8_stationPart 2 = .ok (.getfield 9, 3) := by decide +kernel
theorem dX8_stationPart_21 : decode cX8_stationPart 21 = .ok (.aload_n 0, 1) := by decide +kernel
theorem dX8_stationPart_22 : decode cX8_stationPart 22 = .ok (.getfield 75, 3) := by decide +kernel
theorem dX8_stationPart_25 : decode cX8_stationPart 25 = .ok (.ifCond .eq 4, 3) := by decide +kernel
theorem dX8_stationPart_28 : decode cX8_stationPart 28 = .ok (.return_, 1) := by decide +kernel
theorem dX8_stationPart_29 : decode cX8_stationPart 29 = .ok (.aload_n 0, 1) := by decide +kernel
theorem dX8_stationPart_30 : decode cX8_stationPart 30 = .ok (.getfield 9, 3) := by decide +kernel
theorem dX8_stationPart_33 : decode cX8_stationPart 33 = .ok (.bipush 7, 2) := by decide +kernel
theorem dX8_stationPart_35 : decode cX8_stationPart 35 = .ok (.iaload, 1) := by decide +kernel
theorem dX8_stationPart_36 : decode cX8_stationPart 36 = .ok (.istore_n 2, 1) := by decide +kernel
theorem dX8_stationPart_37 : decode cX8_stationPart 37 = .ok (.aload_n 0, 1) := by decide +kernel
theorem dX8_stationPart_38 : decode cX8_stationPart 38 = .ok (.iload_n 2, 1) := by decide +kernel
theorem dX8_stationPart_39 : decode cX8_stationPart 39 = .ok (.iconst 0, 1) := by decide +kernel
theorem dX8_stationPart_40 : decode cX8_stationPart 40 = .ok (.iload_n 1, 1) := by decide +kernel
theorem dX8_stationPart_41 : decode cX8_stationPart 41 = .ok (.invokevirtual 149, 3) := by decide +kernel
theorem dX8_stationPart_44 : decode cX8_stationPart 44 = .ok (.aload_n 0, 1) := by decide +kernel
theorem dX8_stationPart_45 : decode cX8_stationPart 45 = .ok (.iload_n 2, 1) := by decide +kernel
theorem dX8_stationPart_46 : decode cX8_stationPart 46 = .ok (.iconst 1, 1) := by decide +kernel
theorem dX8_stationPart_47 : decode cX8_stationPart 47 = .ok (.aload_n 0, 1) := by decide +kernel
theorem dX8_stationPart_48 : decode cX8_stationPart 48 = .ok (.iconst 1, 1) := by decide +kernel
theorem dX8_stationPart_49 : decode cX8_stationPart 49 = .ok (.iload_n 1, 1) := by decide +kernel
theorem dX8_stationPart_5 : decode cX8_stationPart 5 = .ok (.bipush 7, 2) := by decide +kernel
theorem dX8_stationPart_50 : decode cX8_stationPart 50 = .ok (.invokestatic 156, 3) := by decide +kernel
theorem dX8_stationPart_53 : decode cX8_stationPart 53 = .ok (.invokevirtual 121, 3) := by decide +kernel
theorem dX8_stationPart_56 : decode cX8_stationPart 56 = .ok (.invokevirtual 149, 3) := by decide +kernel
theorem dX8_stationPart_59 : decode cX8_stationPart 59 = .ok (.aload_n 0, 1) := by decide +kernel
theorem dX8_stationPart_60 : decode cX8_stationPart 60 = .ok (.iload_n 2, 1) := by decide +kernel
theorem dX8_stationPart_61 : decode cX8_stationPart 61 = .ok (.iconst 2, 1) := by decide +kernel
theorem dX8_stationPart_62 : decode cX8_stationPart 62 = .ok (.iconst (-1), 1) := by decide +kernel
theorem dX8_stationPart_63 : decode cX8_stationPart 63 = .ok (.invokevirtual 149, 3) := by decide +kernel
theorem dX8_stationPart_66 : decode cX8_stationPart 66 = .ok (.aload_n 0, 1) := by decide +kernel
theorem dX8_stationPart_67 : decode cX8_stationPart 67 = .ok (.iload_n 2, 1) := by decide +kernel
theorem dX8_stationPart_68 : decode cX8_stationPart 68 = .ok (.bipush 8, 2) := by decide +kernel
theorem dX8_stationPart_7 : decode cX8_stationPart 7 = .ok (.iaload, 1) := by decide +kernel
theorem dX8_stationPart_70 : decode cX8_stationPart 70 = .ok (.iload_n 1, 1) := by decide +kernel
theorem dX8_stationPart_71 : decode cX8_stationPart 71 = .ok (.iconst 3, 1) := by decide +kernel
theorem dX8_stationPart_72 : decode cX8_stationPart 72 = .ok (.if_icmp .ne 7, 3) := by decide +kernel
theorem dX8_stationPart_75 : decode cX8_stationPart 75 = .ok (.iconst 0, 1) := by decide +kernel
theorem dX8_stationPart_76 : decode cX8_stationPart 76 = .ok (.goto 4, 3) := by decide +kernel
theorem dX8_stationPart_79 : decode cX8_stationPart 79 = .ok (.iconst (-1), 1) := by decide +kernel
theorem dX8_stationPart_8 : decode cX8_stationPart 8 = .ok (.bipush 6, 2) := by decide +kernel
theorem dX8_stationPart_80 : decode cX8_stationPart 80 = .ok (.invokevirtual 149, 3) := by decide +kernel
theorem dX8_stationPart_83 : decode cX8_stationPart 83 = .ok (.aload_n 0, 1) := by decide +kernel
theorem dX8_stationPart_84 : decode cX8_stationPart 84 = .ok (.iload_n 2, 1) := by decide +kernel
theorem dX8_stationPart_85 : decode cX8_stationPart 85 = .ok (.invokevirtual 160, 3) := by decide +kernel
theorem dX8_stationPart_88 : decode cX8_stationPart 88 = .ok (.aload_n 0, 1) := by decide +kernel
theorem dX8_stationPart_89 : decode cX8_stationPart 89 = .ok (.getfield 9, 3) := by decide +kernel
theorem dX8_stationPart_92 : decode cX8_stationPart 92 = .ok (.bipush 7, 2) := by decide +kernel
theorem dX8_stationPart_94 : decode cX8_stationPart 94 = .ok (.dup2, 1) := by decide +kernel
theorem dX8_stationPart_95 : decode cX8_stationPart 95 = .ok (.iaload, 1) := by decide +kernel
theorem dX8_stationPart_96 : decode cX8_stationPart 96 = .ok (.iconst 1, 1) := by decide +kernel
theorem dX8_stationPart_97 : decode cX8_stationPart 97 = .ok (.iadd, 1) := by decide +kernel
theorem dX8_stationPart_98 : decode cX8_stationPart 98 = .ok (.iastore, 1) := by decide +kernel
theorem dX8_stationPart_99 : decode cX8_stationPart 99 = .ok (.return_, 1) := by decide +kernel
theorem dX8_stationPasses_0 : decode cX8_stationPasses 0 = .ok (.aload_n 0, 1) := by decide +kernel
theorem dX8_stationPasses_1 : decode cX8_stationPasses 1 = .ok (.iload_n 1, 1) := by decide +kernel
theorem dX8_stationPasses_10 : decode cX8_stationPasses 10 = .ok (.aload_n 0, 1) := by decide +kernel
theorem dX8_stationPasses_11 : decode cX8_stationPasses 11 = .ok (.iload_n 1, 1) := by decide +kernel
theorem dX8_stationPasses_12 : decode cX8_stationPasses 12 = .ok (.bipush 11, 2) := by decide +kernel
theorem dX8_stationPasses_14 : decode cX8_stationPasses 14 = .ok (.iconst (-1), 1) := by decide +kernel
theorem dX8_stationPasses_15 : decode cX8_stationPasses 15 = .ok (.invokevirtual 302, 3) := by decide +kernel
theorem dX8_stationPasses_18 : decode cX8_stationPasses 18 = .ok (.goto 37, 3) := by decide +kernel
theorem dX8_stationPasses_2 : decode cX8_stationPasses 2 = .ok (.bipush 11, 2) := by decide +kernel
theorem dX8_stationPasses_21 : decode cX8_stationPasses 21 = .ok (.aload_n 0, 1) := by decide +kernel
theorem dX8_stationPasses_22 : decode cX8_stationPasses 22 = .ok (.iload_n 1, 1) := by decide +kernel
theorem dX8_stationPasses_23 : decode cX8_stationPasses 23 = .ok (.iconst 2, 1) := by decide +kernel
theorem dX8_stationPasses_24 : decode cX8_stationPasses 24 = .ok (.invokevirtual 248, 3) := by decide +kernel
theorem dX8_stationPasses_27 : decode cX8_stationPasses 27 = .ok (.iconst (-1), 1) := by decide +kernel
theorem dX8_stationPasses_28 : decode cX8_stationPasses 28 = .ok (.if_icmp .eq 27, 3) := by decide +kernel
theorem dX8_stationPasses_31 : decode cX8_stationPasses 31 = .ok (.aload_n 0, 1) := by decide +kernel
theorem dX8_stationPasses_32 : decode cX8_stationPasses 32 = .ok (.iload_n 1, 1) := by decide +kernel
theorem dX8_stationPasses_33 : decode cX8_stationPasses 33 = .ok (.iconst 3, 1) := by decide +kernel
theorem dX8_stationPasses_34 : decode cX8_stationPasses 34 = .ok (.invokevirtual 248, 3) := by decide +kernel
theorem dX8_stationPasses_37 : decode cX8_stationPasses 37 = .ok (.ifCond .le 18, 3) := by decide +kernel
theorem dX8_stationPasses_4 : decode cX8_stationPasses 4 = .ok (.invokevirtual 248, 3) := by decide +kernel
theorem dX8_stationPasses_40 : decode cX8_stationPasses 40 = .ok (.aload_n 0, 1) := by decide +kernel
theorem dX8_stationPasses_41 : decode cX8_stationPasses 41 = .ok (.iload_n 1, 1) := by decide +kernel
theorem dX8_stationPasses_42 : decode cX8_stationPasses 42 = .ok (.bipush 7, 2) := by decide +kernel
theorem dX8_stationPasses_44 : decode cX8_stationPasses 44 = .ok (.invokevirtual 248, 3) := by decide +kernel
theorem dX8_stationPasses_47 : decode cX8_stationPasses 47 = .ok (.ifCond .ne 8, 3) := by decide +kernel
theorem dX8_stationPasses_50 : decode cX8_stationPasses 50 = .ok (.aload_n 0, 1) := by decide +kernel
theorem dX8_stationPasses_51 : decode cX8_stationPasses 51 = .ok (.iload_n 1, 1) := by decide +kernel
theorem dX8_stationPasses_52 : decode cX8_stationPasses 52 = .ok (.invokevirtual 317, 3) := by decide +kernel
theorem dX8_stationPasses_55 : decode cX8_stationPasses 55 = .ok (.aload_n 0, 1) := by decide +kernel
theorem dX8_stationPasses_56 : decode cX8_stationPasses 56 = .ok (.iload_n 1, 1) := by decide +kernel
theorem dX8_stationPasses_57 : decode cX8_stationPasses 57 = .ok (.invokevirtual 320, 3) := by decide +kernel
theorem dX8_stationPasses_60 : decode cX8_stationPasses 60 = .ok (.ifCond .eq 8, 3) := by decide +kernel
theorem dX8_stationPasses_63 : decode cX8_stationPasses 63 = .ok (.aload_n 0, 1) := by decide +kernel
theorem dX8_stationPasses_64 : decode cX8_stationPasses 64 = .ok (.iload_n 1, 1) := by decide +kernel
theorem dX8_stationPasses_65 : decode cX8_stationPasses 65 = .ok (.invokevirtual 323, 3) := by decide +kernel
theorem dX8_stationPasses_68 : decode cX8_stationPasses 68 = .ok (.return_, 1) := by decide +kernel
theorem dX8_stationPasses_7 : decode cX8_stationPasses 7 = .ok (.ifCond .le 14, 3) := by decide +kernel
theorem dX8_station_0 : decode cX8_station 0 = .ok (.aload_n 0, 1) := by decide +kernel
theorem dX8_station_1 : decode cX8_station 1 = .ok (.aload_n 0, 1) := by decide +kernel
theorem dX8_station_10 : decode cX8_station 10 = .ok (.ifCond .ne 20, 3) := by decide +kernel
theorem dX8_station_13 : decode cX8_station 13 = .ok (.aload_n 0, 1) := by decide +kernel
theorem dX8_station_14 : decode cX8_station 14 = .ok (.iload_n 2, 1) := by decide +kernel
theorem dX8_station_15 : decode cX8_station 15 = .ok (.i2l, 1) := by decide +kernel
theorem dX8_station_16 : decode cX8_station 16 = .ok (.lconst 0, 1) := by decide +kernel
theorem dX8_station_17 : decode cX8_station 17 = .ok (.ldc2_w 246, 3) := by decide +kernel
theorem dX8_station_2 : decode cX8_station 2 = .ok (.iload_n 1, 1) := by decide +kernel
theorem dX8_station_20 : decode cX8_station 20 = .ok (.invokestatic 52, 3) := by decide +kernel
theorem dX8_station_23 : decode cX8_station 23 = .ok (.iconst 2, 1) := by decide +kernel
theorem dX8_station_24 : decode cX8_station 24 = .ok (.invokevirtual 226, 3) := by decide +kernel
theorem dX8_station_27 : decode cX8_station 27 = .ok (.ifCond .eq 5, 3) := by decide +kernel
theorem dX8_station_3 : decode cX8_station 3 = .ok (.invokevirtual 243, 3) := by decide +kernel
theorem dX8_station_30 : decode cX8_station 30 = .ok (.iconst 0, 1) := by decide +kernel
theorem dX8_station_31 : decode cX8_station 31 = .ok (.ireturn, 1) := by decide +kernel
theorem dX8_station_32 : decode cX8_station 32 = .ok (.aload_n 0, 1) := by decide +kernel
theorem dX8_station_33 : decode cX8_station 33 = .ok (.iload_n 1, 1) := by decide +kernel
theorem dX8_station_34 : decode cX8_station 34 = .ok (.iload_n 2, 1) := by decide +kernel
theorem dX8_station_35 : decode cX8_station 35 = .ok (.invokevirtual 248, 3) := by decide +kernel
theorem dX8_station_38 : decode cX8_station 38 = .ok (.ireturn, 1) := by decide +kernel
theorem dX8_station_6 : decode cX8_station 6 = .ok (.iconst 1, 1) := by decide +kernel
theorem dX8_station_7 : decode cX8_station 7 = .ok (.invokevirtual 226, 3) := by decide +kernel
theorem dX8_stepsOf_0 : decode cX8_stepsOf 0 = .ok (.iload_n 2, 1) := by decide +kernel
theorem dX8_stepsOf_1 : decode cX8_stepsOf 1 = .ok (.istore_n 3, 1) := by decide +kernel
theorem dX8_stepsOf_10 : decode cX8_stepsOf 10 = .ok (.aload_n 0, 1) := by decide +kernel
theorem dX8_stepsOf_11 : decode cX8_stepsOf 11 = .ok (.iload_n 1, 1) := by decide +kernel
theorem dX8_stepsOf_12 : decode cX8_stepsOf 12 = .ok (.iconst 2, 1) := by decide +kernel
theorem dX8_stepsOf_13 : decode cX8_stepsOf 13 = .ok (.invokevirtual 233, 3) := by decide +kernel
theorem dX8_stepsOf_16 : decode cX8_stepsOf 16 = .ok (.if_icmp .ge 39, 3) := by decide +kernel
theorem dX8_stepsOf_19 : decode cX8_stepsOf 19 = .ok (.iload 4, 2) := by decide +kernel
theorem dX8_stepsOf_2 : decode cX8_stepsOf 2 = .ok (.iconst 0, 1) := by decide +kernel
theorem dX8_stepsOf_21 : decode cX8_stepsOf 21 = .ok (.iload_n 3, 1) := by decide +kernel
theorem dX8_stepsOf_22 : decode cX8_stepsOf 22 = .ok (.aload_n 0, 1) := by decide +kernel
theorem dX8_stepsOf_23 : decode cX8_stepsOf 23 = .ok (.iload_n 1, 1) := by decide +kernel
theorem dX8_stepsOf_24 : decode cX8_stepsOf 24 = .ok (.bipush 9, 2) := by decide +kernel
theorem dX8_stepsOf_26 : decode cX8_stepsOf 26 = .ok (.iload 5, 2) := by decide +kernel
theorem dX8_stepsOf_28 : decode cX8_stepsOf 28 = .ok (.iadd, 1) := by decide +kernel
theorem dX8_stepsOf_29 : decode cX8_stepsOf 29 = .ok (.invokevirtual 233, 3) := by decide +kernel
theorem dX8_stepsOf_3 : decode cX8_stepsOf 3 = .ok (.istore 4, 2) := by decide +kernel
theorem dX8_stepsOf_32 : decode cX8_stepsOf 32 = .ok (.invokestatic 288, 3) := by decide +kernel
theorem dX8_stepsOf_35 : decode cX8_stepsOf 35 = .ok (.iadd, 1) := by decide +kernel
theorem dX8_stepsOf_36 : decode cX8_stepsOf 36 = .ok (.istore 4, 2) := by decide +kernel
theorem dX8_stepsOf_38 : decode cX8_stepsOf 38 = .ok (.aload_n 0, 1) := by decide +kernel
theorem dX8_stepsOf_39 : decode cX8_stepsOf 39 = .ok (.iload_n 1, 1) := by decide +kernel
theorem dX8_stepsOf_40 : decode cX8_stepsOf 40 = .ok (.bipush 9, 2) := by decide +kernel
theorem dX8_stepsOf_42 : decode cX8_stepsOf 42 = .ok (.iload 5, 2) := by decide +kernel
theorem dX8_stepsOf_44 : decode cX8_stepsOf 44 = .ok (.iadd, 1) := by decide +kernel
theorem dX8_stepsOf_45 : decode cX8_stepsOf 45 = .ok (.invokevirtual 233, 3) := by decide +kernel
theorem dX8_stepsOf_48 : decode cX8_stepsOf 48 = .ok (.istore_n 3, 1) := by decide +kernel
theorem dX8_stepsOf_49 : decode cX8_stepsOf 49 = .ok (.iinc 5 1, 3) := by decide +kernel
theorem dX8_stepsOf_5 : decode cX8_stepsOf 5 = .ok (.iconst 0, 1) := by decide +kernel
theorem dX8_stepsOf_52 : decode cX8_stepsOf 52 = .ok (.goto (-44), 3) := by decide +kernel
theorem dX8_stepsOf_55 : decode cX8_stepsOf 55 = .ok (.iload 4, 2) := by decide +kernel
theorem dX8_stepsOf_57 : decode cX8_stepsOf 57 = .ok (.ireturn, 1) := by decide +kernel
theorem dX8_stepsOf_6 : decode cX8_stepsOf 6 = .ok (.istore 5, 2) := by decide +kernel
theorem dX8_stepsOf_8 : decode cX8_stepsOf 8 = .ok (.iload 5, 2) := by decide +kernel
theorem dX8_steps_0 : decode cX8_steps 0 = .ok (.aload_n 0, 1) := by decide +kernel
theorem dX8_steps_1 : decode cX8_steps 1 = .ok (.aload_n 0, 1) := by decide +kernel
theorem dX8_steps_10 : decode cX8_steps 10 = .ok (.ifCond .ne 20, 3) := by decide +kernel
theorem dX8_steps_13 : decode cX8_steps 13 = .ok (.aload_n 0, 1) := by decide +kernel
theorem dX8_steps_14 : decode cX8_steps 14 = .ok (.iload_n 2, 1) := by decide +kernel
theorem dX8_steps_15 : decode cX8_steps 15 = .ok (.i2l, 1) := by decide +kernel
theorem dX8_steps_16 : decode cX8_steps 16 = .ok (.lconst 0, 1) := by decide +kernel
theorem dX8_steps_17 : decode cX8_steps 17 = .ok (.ldc2_w 291, 3) := by decide +kernel
theorem dX8_steps_2 : decode cX8_steps 2 = .ok (.iload_n 1, 1) := by decide +kernel
theorem dX8_steps_20 : decode cX8_steps 20 = .ok (.invokestatic 52, 3) := by decide +kernel
theorem dX8_steps_23 : decode cX8_steps 23 = .ok (.iconst 2, 1) := by decide +kernel
theorem dX8_steps_24 : decode cX8_steps 24 = .ok (.invokevirtual 226, 3) := by decide +kernel
theorem dX8_steps_27 : decode cX8_steps 27 = .ok (.ifCond .eq 5, 3) := by decide +kernel
theorem dX8_steps_3 : decode cX8_steps 3 = .ok (.invokevirtual 251, 3) := by decide +kernel
theorem dX8_steps_30 : decode cX8_steps 30 = .ok (.iconst 0, 1) := by decide +kernel
theorem dX8_steps_31 : decode cX8_steps 31 = .ok (.ireturn, 1) := by decide +kernel
theorem dX8_steps_32 : decode cX8_steps 32 = .ok (.aload_n 0, 1) := by decide +kernel
theorem dX8_steps_33 : decode cX8_steps 33 = .ok (.iload_n 1, 1) := by decide +kernel
theorem dX8_steps_34 : decode cX8_steps 34 = .ok (.iload_n 2, 1) := by decide +kernel
theorem dX8_steps_35 : decode cX8_steps 35 = .ok (.invokevirtual 293, 3) := by decide +kernel
theorem dX8_steps_38 : decode cX8_steps 38 = .ok (.ireturn, 1) := by decide +kernel
theorem dX8_steps_6 : decode cX8_steps 6 = .ok (.iconst 1, 1) := by decide +kernel
theorem dX8_steps_7 : decode cX8_steps 7 = .ok (.invokevirtual 226, 3) := by decide +kernel
theorem dX8_stop_0 : decode cX8_stop 0 = .ok (.aload_n 0, 1) := by decide +kernel
theorem dX8_stop_1 : decode cX8_stop 1 = .ok (.aload_n 0, 1) := by decide +kernel
theorem dX8_stop_10 : decode cX8_stop 10 = .ok (.ifCond .eq 5, 3) := by decide +kernel
theorem dX8_stop_13 : decode cX8_stop 13 = .ok (.iconst 0, 1) := by decide +kernel
theorem dX8_stop_14 : decode cX8_stop 14 = .ok (.ireturn, 1) := by decide +kernel
theorem dX8_stop_15 : decode cX8_stop 15 = .ok (.aload_n 0, 1) := by decide +kernel
theorem dX8_stop_16 : decode cX8_stop 16 = .ok (.invokevirtual 230, 3) := by decide +kernel
theorem dX8_stop_19 : decode cX8_stop 19 = .ok (.aload_n 0, 1) := by decide +kernel
theorem dX8_stop_2 : decode cX8_stop 2 = .ok (.iload_n 1, 1) := by decide +kernel
theorem dX8_stop_20 : decode cX8_stop 20 = .ok (.iload_n 1, 1) := by decide +kernel
theorem dX8_stop_21 : decode cX8_stop 21 = .ok (.bipush 7, 2) := by decide +kernel
theorem dX8_stop_23 : decode cX8_stop 23 = .ok (.iload_n 2, 1) := by decide +kernel
theorem dX8_stop_24 : decode cX8_stop 24 = .ok (.ifCond .eq 7, 3) := by decide +kernel
theorem dX8_stop_27 : decode cX8_stop 27 = .ok (.iconst 1, 1) := by decide +kernel
theorem dX8_stop_28 : decode cX8_stop 28 = .ok (.goto 4, 3) := by decide +kernel
theorem dX8_stop_3 : decode cX8_stop 3 = .ok (.invokevirtual 243, 3) := by decide +kernel
theorem dX8_stop_31 : decode cX8_stop 31 = .ok (.iconst 0, 1) := by decide +kernel
theorem dX8_stop_32 : decode cX8_stop 32 = .ok (.invokevirtual 149, 3) := by decide +kernel
theorem dX8_stop_35 : decode cX8_stop 35 = .ok (.iconst 0, 1) := by decide +kernel
theorem dX8_stop_36 : decode cX8_stop 36 = .ok (.istore_n 3, 1) := by decide +kernel
theorem dX8_stop_37 : decode cX8_stop 37 = .ok (.iconst 0, 1) := by decide +kernel
theorem dX8_stop_38 : decode cX8_stop 38 = .ok (.istore 4, 2) := by decide +kernel
theorem dX8_stop_40 : decode cX8_stop 40 = .ok (.iload 4, 2) := by decide +kernel
theorem dX8_stop_42 : decode cX8_stop 42 = .ok (.aload_n 0, 1) := by decide +kernel
theorem dX8_stop_43 : decode cX8_stop 43 = .ok (.getfield 9, 3) := by decide +kernel
theorem dX8_stop_46 : decode cX8_stop 46 = .ok (.bipush 7, 2) := by decide +kernel
theorem dX8_stop_48 : decode cX8_stop 48 = .ok (.iaload, 1) := by decide +kernel
theorem dX8_stop_49 : decode cX8_stop 49 = .ok (.if_icmp .ge 20, 3) := by decide +kernel
theorem dX8_stop_52 : decode cX8_stop 52 = .ok (.iload_n 3, 1) := by decide +kernel
theorem dX8_stop_53 : decode cX8_stop 53 = .ok (.aload_n 0, 1) := by decide +kernel
theorem dX8_stop_54 : decode cX8_stop 54 = .ok (.iload 4, 2) := by decide +kernel
theorem dX8_stop_56 : decode cX8_stop 56 = .ok (.bipush 7, 2) := by decide +kernel
theorem dX8_stop_58 : decode cX8_stop 58 = .ok (.invokevirtual 248, 3) := by decide +kernel
theorem dX8_stop_6 : decode cX8_stop 6 = .ok (.iconst 1, 1) := by decide +kernel
theorem dX8_stop_61 : decode cX8_stop 61 = .ok (.iadd, 1) := by decide +kernel
theorem dX8_stop_62 : decode cX8_stop 62 = .ok (.istore_n 3, 1) := by decide +kernel
theorem dX8_stop_63 : decode cX8_stop 63 = .ok (.iinc 4 1, 3) := by decide +kernel
theorem dX8_stop_66 : decode cX8_stop 66 = .ok (.goto (-26), 3) := by decide +kernel
theorem dX8_stop_69 : decode cX8_stop 69 = .ok (.iload_n 3, 1) := by decide +kernel
theorem dX8_stop_7 : decode cX8_stop 7 = .ok (.invokevirtual 226, 3) := by decide +kernel
theorem dX8_stop_70 : decode cX8_stop 70 = .ok (.ireturn, 1) := by decide +kernel
theorem dX8_sumOf_0 : decode cX8_sumOf 0 = .ok (.iconst 0, 1) := by decide +kernel
theorem dX8_sumOf_1 : decode cX8_sumOf 1 = .ok (.istore_n 3, 1) := by decide +kernel
theorem dX8_sumOf_11 : decode cX8_sumOf 11 = .ok (.bipush 9, 2) := by decide +kernel
theorem dX8_sumOf_13 : decode cX8_sumOf 13 = .ok (.iaload, 1) := by decide +kernel
theorem dX8_sumOf_14 : decode cX8_sumOf 14 = .ok (.if_icmp .ge 34, 3) := by decide +kernel
theorem dX8_sumOf_17 : decode cX8_sumOf 17 = .ok (.iload_n 3, 1) := by decide +kernel
theorem dX8_sumOf_18 : decode cX8_sumOf 18 = .ok (.aload_n 0, 1) := by decide +kernel
theorem dX8_sumOf_19 : decode cX8_sumOf 19 = .ok (.iload 4, 2) := by decide +kernel
theorem dX8_sumOf_2 : decode cX8_sumOf 2 = .ok (.iconst 0, 1) := by decide +kernel
theorem dX8_sumOf_21 : decode cX8_sumOf 21 = .ok (.iconst 0, 1) := by decide +kernel
theorem dX8_sumOf_22 : decode cX8_sumOf 22 = .ok (.invokevirtual 233, 3) := by decide +kernel
theorem dX8_sumOf_25 : decode cX8_sumOf 25 = .ok (.iload_n 1, 1) := by decide +kernel
theorem dX8_sumOf_26 : decode cX8_sumOf 26 = .ok (.if_icmp .ne 13, 3) := by decide +kernel
theorem dX8_sumOf_29 : decode cX8_sumOf 29 = .ok (.aload_n 0, 1) := by decide +kernel
theorem dX8_sumOf_3 : decode cX8_sumOf 3 = .ok (.istore 4, 2) := by decide +kernel
theorem dX8_sumOf_30 : decode cX8_sumOf 30 = .ok (.iload 4, 2) := by decide +kernel
theorem dX8_sumOf_32 : decode cX8_sumOf 32 = .ok (.iload_n 2, 1) := by decide +kernel
theorem dX8_sumOf_33 : decode cX8_sumOf 33 = .ok (.invokevirtual 233, 3) := by decide +kernel
theorem dX8_sumOf_36 : decode cX8_sumOf 36 = .ok (.goto 4, 3) := by decide +kernel
theorem dX8_sumOf_39 : decode cX8_sumOf 39 = .ok (.iconst 0, 1) := by decide +kernel
theorem dX8_sumOf_40 : decode cX8_sumOf 40 = .ok (.iadd, 1) := by decide +kernel
theorem dX8_sumOf_41 : decode cX8_sumOf 41 = .ok (.istore_n 3, 1) := by decide +kernel
theorem dX8_sumOf_42 : decode cX8_sumOf 42 = .ok (.iinc 4 1, 3) := by decide +kernel
theorem dX8_sumOf_45 : decode cX8_sumOf 45 = .ok (.goto (-40), 3) := by decide +kernel
theorem dX8_sumOf_48 : decode cX8_sumOf 48 = .ok (.iload_n 3, 1) := by decide +kernel
theorem dX8_sumOf_49 : decode cX8_sumOf 49 = .ok (.ireturn, 1) := by decide +kernel
theorem dX8_sumOf_5 : decode cX8_sumOf 5 = .ok (.iload 4, 2) := by decide +kernel
theorem dX8_sumOf_7 : decode cX8_sumOf 7 = .ok (.aload_n 0, 1) := by decide +kernel
theorem dX8_sumOf_8 : decode cX8_sumOf 8 = .ok (.getfield 9, 3) := by decide +kernel
theorem dX8_swap_0 : decode cX8_swap 0 = .ok (.aload_n 0, 1) := by decide +kernel
theorem dX8_swap_1 : decode cX8_swap 1 = .ok (.aload_n 0, 1) := by decide +kernel
theorem dX8_swap_10 : decode cX8_swap 10 = .ok (.iload_n 2, 1) := by decide +kernel
theorem dX8_swap_100 : decode cX8_swap 100 = .ok (.iload_n 2, 1) := by decide +kernel
theorem dX8_swap_101 : decode cX8_swap 101 = .ok (.iconst 1, 1) := by decide +kernel
theorem dX8_swap_102 : decode cX8_swap 102 = .ok (.invokevirtual 233, 3) := by decide +kernel
theorem dX8_swap_105 : decode cX8_swap 105 = .ok (.invokevirtual 130, 3) := by decide +kernel
theorem dX8_swap_108 : decode cX8_swap 108 = .ok (.aload_n 0, 1) := by decide +kernel
theorem dX8_swap_109 : decode cX8_swap 109 = .ok (.iload_n 2, 1) := by decide +kernel
theorem dX8_swap_11 : decode cX8_swap 11 = .ok (.invokevirtual 251, 3) := by decide +kernel
theorem dX8_swap_110 : decode cX8_swap 110 = .ok (.iconst 1, 1) := by decide +kernel
theorem dX8_swap_111 : decode cX8_swap 111 = .ok (.iload_n 3, 1) := by decide +kernel
theorem dX8_swap_112 : decode cX8_swap 112 = .ok (.invokevirtual 130, 3) := by decide +kernel
theorem dX8_swap_115 : decode cX8_swap 115 = .ok (.aload_n 0, 1) := by decide +kernel
theorem dX8_swap_116 : decode cX8_swap 116 = .ok (.iload_n 1, 1) := by decide +kernel
theorem dX8_swap_117 : decode cX8_swap 117 = .ok (.iconst 1, 1) := by decide +kernel
theorem dX8_swap_118 : decode cX8_swap 118 = .ok (.invokevirtual 233, 3) := by decide +kernel
theorem dX8_swap_121 : decode cX8_swap 121 = .ok (.ireturn, 1) := by decide +kernel
theorem dX8_swap_14 : decode cX8_swap 14 = .ok (.ifCond .eq 7, 3) := by decide +kernel
theorem dX8_swap_17 : decode cX8_swap 17 = .ok (.iconst 1, 1) := by decide +kernel
theorem dX8_swap_18 : decode cX8_swap 18 = .ok (.goto 4, 3) := by decide +kernel
theorem dX8_swap_2 : decode cX8_swap 2 = .ok (.iload_n 1, 1) := by decide +kernel
theorem dX8_swap_21 : decode cX8_swap 21 = .ok (.iconst 0, 1) := by decide +kernel
theorem dX8_swap_22 : decode cX8_swap 22 = .ok (.iconst 1, 1) := by decide +kernel
theorem dX8_swap_23 : decode cX8_swap 23 = .ok (.invokevirtual 226, 3) := by decide +kernel
theorem dX8_swap_26 : decode cX8_swap 26 = .ok (.ifCond .ne 36, 3) := by decide +kernel
theorem dX8_swap_29 : decode cX8_swap 29 = .ok (.aload_n 0, 1) := by decide +kernel
theorem dX8_swap_3 : decode cX8_swap 3 = .ok (.invokevirtual 251, 3) := by decide +kernel
theorem dX8_swap_30 : decode cX8_swap 30 = .ok (.iload_n 1, 1) := by decide +kernel
theorem dX8_swap_31 : decode cX8_swap 31 = .ok (.iload_n 2, 1) := by decide +kernel
theorem dX8_swap_32 : decode cX8_swap 32 = .ok (.if_icmp .eq 22, 3) := by decide +kernel
theorem dX8_swap_35 : decode cX8_swap 35 = .ok (.aload_n 0, 1) := by decide +kernel
theorem dX8_swap_36 : decode cX8_swap 36 = .ok (.iload_n 1, 1) := by decide +kernel
theorem dX8_swap_37 : decode cX8_swap 37 = .ok (.iconst 0, 1) := by decide +kernel
theorem dX8_swap_38 : decode cX8_swap 38 = .ok (.invokevirtual 233, 3) := by decide +kernel
theorem dX8_swap_41 : decode cX8_swap 41 = .ok (.aload_n 0, 1) := by decide +kernel
theorem dX8_swap_42 : decode cX8_swap 42 = .ok (.iload_n 2, 1) := by decide +kernel
theorem dX8_swap_43 : decode cX8_swap 43 = .ok (.iconst 0, 1) := by decide +kernel
theorem dX8_swap_44 : decode cX8_swap 44 = .ok (.invokevirtual 233, 3) := by decide +kernel
theorem dX8_swap_47 : decode cX8_swap 47 = .ok (.if_icmp .ne 7, 3) := by decide +kernel
theorem dX8_swap_50 : decode cX8_swap 50 = .ok (.iconst 1, 1) := by decide +kernel
theorem dX8_swap_51 : decode cX8_swap 51 = .ok (.goto 4, 3) := by decide +kernel
theorem dX8_swap_54 : decode cX8_swap 54 = .ok (.iconst 0, 1) := by decide +kernel
theorem dX8_swap_55 : decode cX8_swap 55 = .ok (.iconst 2, 1) := by decide +kernel
theorem dX8_swap_56 : decode cX8_swap 56 = .ok (.invokevirtual 226, 3) := by decide +kernel
theorem dX8_swap_59 : decode cX8_swap 59 = .ok (.ifCond .eq 5, 3) := by decide +kernel
theorem dX8_swap_6 : decode cX8_swap 6 = .ok (.ifCond .eq 15, 3) := by decide +kernel
theorem dX8_swap_62 : decode cX8_swap 62 = .ok (.iconst 0, 1) := by decide +kernel
theorem dX8_swap_63 : decode cX8_swap 63 = .ok (.ireturn, 1) := by decide +kernel
theorem dX8_swap_64 : decode cX8_swap 64 = .ok (.aload_n 0, 1) := by decide +kernel
theorem dX8_swap_65 : decode cX8_swap 65 = .ok (.iload_n 1, 1) := by decide +kernel
theorem dX8_swap_66 : decode cX8_swap 66 = .ok (.iconst 3, 1) := by decide +kernel
theorem dX8_swap_67 : decode cX8_swap 67 = .ok (.invokevirtual 233, 3) := by decide +kernel
theorem dX8_swap_70 : decode cX8_swap 70 = .ok (.ifCond .ne 12, 3) := by decide +kernel
theorem dX8_swap_73 : decode cX8_swap 73 = .ok (.aload_n 0, 1) := by decide +kernel
theorem dX8_swap_74 : decode cX8_swap 74 = .ok (.iload_n 2, 1) := by decide +kernel
theorem dX8_swap_75 : decode cX8_swap 75 = .ok (.iconst 3, 1) := by decide +kernel
theorem dX8_swap_76 : decode cX8_swap 76 = .ok (.invokevirtual 233, 3) := by decide +kernel
theorem dX8_swap_79 : decode cX8_swap 79 = .ok (.ifCond .eq 6, 3) := by decide +kernel
theorem dX8_swap_82 : decode cX8_swap 82 = .ok (.bipush (-3), 2) := by decide +kernel
theorem dX8_swap_84 : decode cX8_swap 84 = .ok (.ireturn, 1) := by decide +kernel
theorem dX8_swap_85 : decode cX8_swap 85 = .ok (.aload_n 0, 1) := by decide +kernel
theorem dX8_swap_86 : decode cX8_swap 86 = .ok (.invokevirtual 230, 3) := by decide +kernel
theorem dX8_swap_89 : decode cX8_swap 89 = .ok (.aload_n 0, 1) := by decide +kernel
theorem dX8_swap_9 : decode cX8_swap 9 = .ok (.aload_n 0, 1) := by decide +kernel
theorem dX8_swap_90 : decode cX8_swap 90 = .ok (.iload_n 1, 1) := by decide +kernel
theorem dX8_swap_91 : decode cX8_swap 91 = .ok (.iconst 1, 1) := by decide +kernel
theorem dX8_swap_92 : decode cX8_swap 92 = .ok (.invokevirtual 233, 3) := by decide +kernel
theorem dX8_swap_95 : decode cX8_swap 95 = .ok (.istore_n 3, 1) := by decide +kernel
theorem dX8_swap_96 : decode cX8_swap 96 = .ok (.aload_n 0, 1) := by decide +kernel
theorem dX8_swap_97 : decode cX8_swap 97 = .ok (.iload_n 1, 1) := by decide +kernel
theorem dX8_swap_98 : decode cX8_swap 98 = .ok (.iconst 1, 1) := by decide +kernel
theorem dX8_swap_99 : decode cX8_swap 99 = .ok (.aload_n 0, 1) := by decide +kernel
theorem dX8_takes_0 : decode cX8_takes 0 = .ok (.aload_n 0, 1) := by decide +kernel
theorem dX8_takes_1 : decode cX8_takes 1 = .ok (.getfield 111, 3) := by decide +kernel
theorem dX8_takes_10 : decode cX8_takes 10 = .ok (.isub, 1) := by decide +kernel
theorem dX8_takes_11 : decode cX8_takes 11 = .ok (.bipush 16, 2) := by decide +kernel
theorem dX8_takes_13 : decode cX8_takes 13 = .ok (.if_icmp .ne 9, 3) := by decide +kernel
theorem dX8_takes_16 : decode cX8_takes 16 = .ok (.aload_n 0, 1) := by decide +kernel
theorem dX8_takes_17 : decode cX8_takes 17 = .ok (.iconst 3, 1) := by decide +kernel
theorem dX8_takes_18 : decode cX8_takes 18 = .ok (.invokevirtual 100, 3) := by decide +kernel
theorem dX8_takes_21 : decode cX8_takes 21 = .ok (.return_, 1) := by decide +kernel
theorem dX8_takes_22 : decode cX8_takes 22 = .ok (.aload_n 0, 1) := by decide +kernel
theorem dX8_takes_23 : decode cX8_takes 23 = .ok (.getfield 34, 3) := by decide +kernel
theorem dX8_takes_26 : decode cX8_takes 26 = .ok (.aload_n 0, 1) := by decide +kernel
theorem dX8_takes_27 : decode cX8_takes 27 = .ok (.getfield 111, 3) := by decide +kernel
theorem dX8_takes_30 : decode cX8_takes 30 = .ok (.iload_n 2, 1) := by decide +kernel
theorem dX8_takes_31 : decode cX8_takes 31 = .ok (.iastore, 1) := by decide +kernel
theorem dX8_takes_32 : decode cX8_takes 32 = .ok (.aload_n 0, 1) := by decide +kernel
theorem dX8_takes_33 : decode cX8_takes 33 = .ok (.dup, 1) := by decide +kernel
theorem dX8_takes_34 : decode cX8_takes 34 = .ok (.getfield 111, 3) := by decide +kernel
theorem dX8_takes_37 : decode cX8_takes 37 = .ok (.iconst 1, 1) := by decide +kernel
theorem dX8_takes_38 : decode cX8_takes 38 = .ok (.iadd, 1) := by decide +kernel
theorem dX8_takes_39 : decode cX8_takes 39 = .ok (.putfield 111, 3) := by decide +kernel
theorem dX8_takes_4 : decode cX8_takes 4 = .ok (.aload_n 0, 1) := by decide +kernel
theorem dX8_takes_42 : decode cX8_takes 42 = .ok (.aload_n 0, 1) := by decide +kernel
theorem dX8_takes_43 : decode cX8_takes 43 = .ok (.dup, 1) := by decide +kernel
theorem dX8_takes_44 : decode cX8_takes 44 = .ok (.getfield 65, 3) := by decide +kernel
theorem dX8_takes_47 : decode cX8_takes 47 = .ok (.iconst 1, 1) := by decide +kernel
theorem dX8_takes_48 : decode cX8_takes 48 = .ok (.iadd, 1) := by decide +kernel
theorem dX8_takes_49 : decode cX8_takes 49 = .ok (.putfield 65, 3) := by decide +kernel
theorem dX8_takes_5 : decode cX8_takes 5 = .ok (.getfield 37, 3) := by decide +kernel
theorem dX8_takes_52 : decode cX8_takes 52 = .ok (.return_, 1) := by decide +kernel
theorem dX8_takes_8 : decode cX8_takes 8 = .ok (.iload_n 1, 1) := by decide +kernel
theorem dX8_takes_9 : decode cX8_takes 9 = .ok (.iaload, 1) := by decide +kernel
theorem dX8_text_0 : decode cX8_text 0 = .ok (.aload_n 0, 1) := by decide +kernel
theorem dX8_text_1 : decode cX8_text 1 = .ok (.iconst 0, 1) := by decide +kernel
theorem dX8_text_10 : decode cX8_text 10 = .ok (.return_, 1) := by decide +kernel
theorem dX8_text_2 : decode cX8_text 2 = .ok (.putfield 111, 3) := by decide +kernel
theorem dX8_text_5 : decode cX8_text 5 = .ok (.aload_n 0, 1) := by decide +kernel
theorem dX8_text_6 : decode cX8_text 6 = .ok (.iconst 0, 1) := by decide +kernel
theorem dX8_text_7 : decode cX8_text 7 = .ok (.invokevirtual 124, 3) := by decide +kernel
theorem dX8_then_0 : decode cX8_then 0 = .ok (.aload_n 0, 1) := by decide +kernel
theorem dX8_then_1 : decode cX8_then 1 = .ok (.getfield 9, 3) := by decide +kernel
theorem dX8_then_10 : decode cX8_then 10 = .ok (.invokestatic 204, 3) := by decide +kernel
theorem dX8_then_13 : decode cX8_then 13 = .ok (.iconst 0, 1) := by decide +kernel
theorem dX8_then_14 : decode cX8_then 14 = .ok (.istore_n 3, 1) := by decide +kernel
theorem dX8_then_15 : decode cX8_then 15 = .ok (.iload_n 3, 1) := by decide +kernel
theorem dX8_then_16 : decode cX8_then 16 = .ok (.iload_n 2, 1) := by decide +kernel
theorem dX8_then_17 : decode cX8_then 17 = .ok (.if_icmp .ge 13, 3) := by decide +kernel
theorem dX8_then_20 : decode cX8_then 20 = .ok (.aload_n 0, 1) := by decide +kernel
theorem dX8_then_21 : decode cX8_then 21 = .ok (.invokevirtual 349, 3) := by decide +kernel
theorem dX8_then_24 : decode cX8_then 24 = .ok (.iinc 3 1, 3) := by decide +kernel
theorem dX8_then_27 : decode cX8_then 27 = .ok (.goto (-12), 3) := by decide +kernel
theorem dX8_then_30 : decode cX8_then 30 = .ok (.aload_n 0, 1) := by decide +kernel
theorem dX8_then_31 : decode cX8_then 31 = .ok (.getfield 9, 3) := by decide +kernel
theorem dX8_then_34 : decode cX8_then 34 = .ok (.iload_n 1, 1) := by decide +kernel
theorem dX8_then_35 : decode cX8_then 35 = .ok (.iaload, 1) := by decide +kernel
theorem dX8_then_36 : decode cX8_then 36 = .ok (.istore_n 3, 1) := by decide +kernel
theorem dX8_then_37 : decode cX8_then 37 = .ok (.aload_n 0, 1) := by decide +kernel
theorem dX8_then_38 : decode cX8_then 38 = .ok (.getfield 13, 3) := by decide +kernel
theorem dX8_then_4 : decode cX8_then 4 = .ok (.iconst 0, 1) := by decide +kernel
theorem dX8_then_41 : decode cX8_then 41 = .ok (.iconst 0, 1) := by decide +kernel
theorem dX8_then_42 : decode cX8_then 42 = .ok (.aload_n 0, 1) := by decide +kernel
theorem dX8_then_43 : decode cX8_then 43 = .ok (.getfield 9, 3) := by decide +kernel
theorem dX8_then_46 : decode cX8_then 46 = .ok (.iconst 0, 1) := by decide +kernel
theorem dX8_then_47 : decode cX8_then 47 = .ok (.invokestatic 204, 3) := by decide +kernel
theorem dX8_then_5 : decode cX8_then 5 = .ok (.aload_n 0, 1) := by decide +kernel
theorem dX8_then_50 : decode cX8_then 50 = .ok (.iload_n 3, 1) := by decide +kernel
theorem dX8_then_51 : decode cX8_then 51 = .ok (.ireturn, 1) := by decide +kernel
theorem dX8_then_6 : decode cX8_then 6 = .ok (.getfield 13, 3) := by decide +kernel
theorem dX8_then_9 : decode cX8_then 9 = .ok (.iconst 0, 1) := by decide +kernel
theorem dX8_ticksFor_0 : decode cX8_ticksFor 0 = .ok (.aload_n 0, 1) := by decide +kernel
theorem dX8_ticksFor_1 : decode cX8_ticksFor 1 = .ok (.aload_n 0, 1) := by decide +kernel
theorem dX8_ticksFor_10 : decode cX8_ticksFor 10 = .ok (.iload_n 2, 1) := by decide +kernel
theorem dX8_ticksFor_11 : decode cX8_ticksFor 11 = .ok (.invokevirtual 251, 3) := by decide +kernel
theorem dX8_ticksFor_14 : decode cX8_ticksFor 14 = .ok (.ifCond .eq 7, 3) := by decide +kernel
theorem dX8_ticksFor_17 : decode cX8_ticksFor 17 = .ok (.iconst 1, 1) := by decide +kernel
theorem dX8_ticksFor_18 : decode cX8_ticksFor 18 = .ok (.goto 4, 3) := by decide +kernel
theorem dX8_ticksFor_2 : decode cX8_ticksFor 2 = .ok (.iload_n 1, 1) := by decide +kernel
theorem dX8_ticksFor_21 : decode cX8_ticksFor 21 = .ok (.iconst 0, 1) := by decide +kernel
theorem dX8_ticksFor_22 : decode cX8_ticksFor 22 = .ok (.iconst 1, 1) := by decide +kernel
theorem dX8_ticksFor_23 : decode cX8_ticksFor 23 = .ok (.invokevirtual 226, 3) := by decide +kernel
theorem dX8_ticksFor_26 : decode cX8_ticksFor 26 = .ok (.ifCond .eq 7, 3) := by decide +kernel
theorem dX8_ticksFor_29 : decode cX8_ticksFor 29 = .ok (.iconst 0, 1) := by decide +kernel
theorem dX8_ticksFor_3 : decode cX8_ticksFor 3 = .ok (.invokevirtual 243, 3) := by decide +kernel
theorem dX8_ticksFor_30 : decode cX8_ticksFor 30 = .ok (.goto 9, 3) := by decide +kernel
theorem dX8_ticksFor_33 : decode cX8_ticksFor 33 = .ok (.aload_n 0, 1) := by decide +kernel
theorem dX8_ticksFor_34 : decode cX8_ticksFor 34 = .ok (.iload_n 1, 1) := by decide +kernel
theorem dX8_ticksFor_35 : decode cX8_ticksFor 35 = .ok (.iload_n 2, 1) := by decide +kernel
theorem dX8_ticksFor_36 : decode cX8_ticksFor 36 = .ok (.invokevirtual 296, 3) := by decide +kernel
theorem dX8_ticksFor_39 : decode cX8_ticksFor 39 = .ok (.ireturn, 1) := by decide +kernel
theorem dX8_ticksFor_6 : decode cX8_ticksFor 6 = .ok (.ifCond .eq 15, 3) := by decide +kernel
theorem dX8_ticksFor_9 : decode cX8_ticksFor 9 = .ok (.aload_n 0, 1) := by decide +kernel
theorem dX8_ticksOf_0 : decode cX8_ticksOf 0 = .ok (.aload_n 0, 1) := by decide +kernel
theorem dX8_ticksOf_1 : decode cX8_ticksOf 1 = .ok (.iload_n 1, 1) := by decide +kernel
theorem dX8_ticksOf_10 : decode cX8_ticksOf 10 = .ok (.invokevirtual 248, 3) := by decide +kernel
theorem dX8_ticksOf_13 : decode cX8_ticksOf 13 = .ok (.iconst 3, 1) := by decide +kernel
theorem dX8_ticksOf_14 : decode cX8_ticksOf 14 = .ok (.if_icmp .eq 5, 3) := by decide +kernel
theorem dX8_ticksOf_17 : decode cX8_ticksOf 17 = .ok (.iload_n 3, 1) := by decide +kernel
theorem dX8_ticksOf_18 : decode cX8_ticksOf 18 = .ok (.ireturn, 1) := by decide +kernel
theorem dX8_ticksOf_19 : decode cX8_ticksOf 19 = .ok (.aload_n 0, 1) := by decide +kernel
theorem dX8_ticksOf_2 : decode cX8_ticksOf 2 = .ok (.iconst 1, 1) := by decide +kernel
theorem dX8_ticksOf_20 : decode cX8_ticksOf 20 = .ok (.iload_n 2, 1) := by decide +kernel
theorem dX8_ticksOf_21 : decode cX8_ticksOf 21 = .ok (.iconst 2, 1) := by decide +kernel
theorem dX8_ticksOf_22 : decode cX8_ticksOf 22 = .ok (.invokevirtual 233, 3) := by decide +kernel
theorem dX8_ticksOf_25 : decode cX8_ticksOf 25 = .ok (.aload_n 0, 1) := by decide +kernel
theorem dX8_ticksOf_26 : decode cX8_ticksOf 26 = .ok (.iload_n 2, 1) := by decide +kernel
theorem dX8_ticksOf_27 : decode cX8_ticksOf 27 = .ok (.aload_n 0, 1) := by decide +kernel
theorem dX8_ticksOf_28 : decode cX8_ticksOf 28 = .ok (.iload_n 1, 1) := by decide +kernel
theorem dX8_ticksOf_29 : decode cX8_ticksOf 29 = .ok (.bipush 8, 2) := by decide +kernel
theorem dX8_ticksOf_3 : decode cX8_ticksOf 3 = .ok (.invokevirtual 248, 3) := by decide +kernel
theorem dX8_ticksOf_31 : decode cX8_ticksOf 31 = .ok (.invokevirtual 248, 3) := by decide +kernel
theorem dX8_ticksOf_34 : decode cX8_ticksOf 34 = .ok (.invokevirtual 293, 3) := by decide +kernel
theorem dX8_ticksOf_37 : decode cX8_ticksOf 37 = .ok (.iload_n 3, 1) := by decide +kernel
theorem dX8_ticksOf_38 : decode cX8_ticksOf 38 = .ok (.iadd, 1) := by decide +kernel
theorem dX8_ticksOf_39 : decode cX8_ticksOf 39 = .ok (.iconst 1, 1) := by decide +kernel
theorem dX8_ticksOf_40 : decode cX8_ticksOf 40 = .ok (.isub, 1) := by decide +kernel
theorem dX8_ticksOf_41 : decode cX8_ticksOf 41 = .ok (.iload_n 3, 1) := by decide +kernel
theorem dX8_ticksOf_42 : decode cX8_ticksOf 42 = .ok (.idiv, 1) := by decide +kernel
theorem dX8_ticksOf_43 : decode cX8_ticksOf 43 = .ok (.iadd, 1) := by decide +kernel
theorem dX8_ticksOf_44 : decode cX8_ticksOf 44 = .ok (.ireturn, 1) := by decide +kernel
theorem dX8_ticksOf_6 : decode cX8_ticksOf 6 = .ok (.istore_n 3, 1) := by decide +kernel
theorem dX8_ticksOf_7 : decode cX8_ticksOf 7 = .ok (.aload_n 0, 1) := by decide +kernel
theorem dX8_ticksOf_8 : decode cX8_ticksOf 8 = .ok (.iload_n 1, 1) := by decide +kernel
theorem dX8_ticksOf_9 : decode cX8_ticksOf 9 = .ok (.iconst 0, 1) := by decide +kernel
theorem dX8_toFeed_0 : decode cX8_toFeed 0 = .ok (.iconst (-1), 1) := by decide +kernel
theorem dX8_toFeed_1 : decode cX8_toFeed 1 = .ok (.istore_n 1, 1) := by decide +kernel
theorem dX8_toFeed_11 : decode cX8_toFeed 11 = .ok (.iaload, 1) := by decide +kernel
theorem dX8_toFeed_12 : decode cX8_toFeed 12 = .ok (.if_icmp .ge 34, 3) := by decide +kernel
theorem dX8_toFeed_15 : decode cX8_toFeed 15 = .ok (.aload_n 0, 1) := by decide +kernel
theorem dX8_toFeed_16 : decode cX8_toFeed 16 = .ok (.iload_n 2, 1) := by decide +kernel
theorem dX8_toFeed_17 : decode cX8_toFeed 17 = .ok (.iconst 3, 1) := by decide +kernel
theorem dX8_toFeed_18 : decode cX8_toFeed 18 = .ok (.invokevirtual 233, 3) := by decide +kernel
theorem dX8_toFeed_2 : decode cX8_toFeed 2 = .ok (.iconst 0, 1) := by decide +kernel
theorem dX8_toFeed_21 : decode cX8_toFeed 21 = .ok (.ifCond .ne 19, 3) := by decide +kernel
theorem dX8_toFeed_24 : decode cX8_toFeed 24 = .ok (.iload_n 1, 1) := by decide +kernel
theorem dX8_toFeed_25 : decode cX8_toFeed 25 = .ok (.iconst (-1), 1) := by decide +kernel
theorem dX8_toFeed_26 : decode cX8_toFeed 26 = .ok (.if_icmp .eq 12, 3) := by decide +kernel
theorem dX8_toFeed_29 : decode cX8_toFeed 29 = .ok (.aload_n 0, 1) := by decide +kernel
theorem dX8_toFeed_3 : decode cX8_toFeed 3 = .ok (.istore_n 2, 1) := by decide +kernel
theorem dX8_toFeed_30 : decode cX8_toFeed 30 = .ok (.iload_n 2, 1) := by decide +kernel
theorem dX8_toFeed_31 : decode cX8_toFeed 31 = .ok (.iload_n 1, 1) := by decide +kernel
theorem dX8_toFeed_32 : decode cX8_toFeed 32 = .ok (.invokevirtual 278, 3) := by decide +kernel
theorem dX8_toFeed_35 : decode cX8_toFeed 35 = .ok (.ifCond .eq 5, 3) := by decide +kernel
theorem dX8_toFeed_38 : decode cX8_toFeed 38 = .ok (.iload_n 2, 1) := by decide +kernel
theorem dX8_toFeed_39 : decode cX8_toFeed 39 = .ok (.istore_n 1, 1) := by decide +kernel
theorem dX8_toFeed_4 : decode cX8_toFeed 4 = .ok (.iload_n 2, 1) := by decide +kernel
theorem dX8_toFeed_40 : decode cX8_toFeed 40 = .ok (.iinc 2 1, 3) := by decide +kernel
theorem dX8_toFeed_43 : decode cX8_toFeed 43 = .ok (.goto (-39), 3) := by decide +kernel
theorem dX8_toFeed_46 : decode cX8_toFeed 46 = .ok (.iload_n 1, 1) := by decide +kernel
theorem dX8_toFeed_47 : decode cX8_toFeed 47 = .ok (.ireturn, 1) := by decide +kernel
theorem dX8_toFeed_5 : decode cX8_toFeed 5 = .ok (.aload_n 0, 1) := by decide +kernel
theorem dX8_toFeed_6 : decode cX8_toFeed 6 = .ok (.getfield 9, 3) := by decide +kernel
theorem dX8_toFeed_9 : decode cX8_toFeed 9 = .ok (.bipush 9, 2) := by decide +kernel
theorem dX8_today_0 : decode cX8_today 0 = .ok (.aload_n 0, 1) := by decide +kernel
theorem dX8_today_1 : decode cX8_today 1 = .ok (.aload_n 0, 1) := by decide +kernel
theorem dX8_today_10 : decode cX8_today 10 = .ok (.ifCond .ne 18, 3) := by decide +kernel
theorem dX8_today_13 : decode cX8_today 13 = .ok (.aload_n 0, 1) := by decide +kernel
theorem dX8_today_14 : decode cX8_today 14 = .ok (.iload_n 2, 1) := by decide +kernel
theorem dX8_today_15 : decode cX8_today 15 = .ok (.i2l, 1) := by decide +kernel
theorem dX8_today_16 : decode cX8_today 16 = .ok (.lconst 0, 1) := by decide +kernel
theorem dX8_today_17 : decode cX8_today 17 = .ok (.lconst 1, 1) := by decide +kernel
theorem dX8_today_18 : decode cX8_today 18 = .ok (.invokestatic 52, 3) := by decide +kernel
theorem dX8_today_2 : decode cX8_today 2 = .ok (.iload_n 1, 1) := by decide +kernel
theorem dX8_today_21 : decode cX8_today 21 = .ok (.iconst 2, 1) := by decide +kernel
theorem dX8_today_22 : decode cX8_today 22 = .ok (.invokevirtual 226, 3) := by decide +kernel
theorem dX8_today_25 : decode cX8_today 25 = .ok (.ifCond .eq 5, 3) := by decide +kernel
theorem dX8_today_28 : decode cX8_today 28 = .ok (.iconst 0, 1) := by decide +kernel
theorem dX8_today_29 : decode cX8_today 29 = .ok (.ireturn, 1) := by decide +kernel
theorem dX8_today_3 : decode cX8_today 3 = .ok (.invokevirtual 222, 3) := by decide +kernel
theorem dX8_today_30 : decode cX8_today 30 = .ok (.aload_n 0, 1) := by decide +kernel
theorem dX8_today_31 : decode cX8_today 31 = .ok (.iload_n 1, 1) := by decide +kernel
theorem dX8_today_32 : decode cX8_today 32 = .ok (.iconst 2, 1) := by decide +kernel
theorem dX8_today_33 : decode cX8_today 33 = .ok (.iload_n 2, 1) := by decide +kernel
theorem dX8_today_34 : decode cX8_today 34 = .ok (.iadd, 1) := by decide +kernel
theorem dX8_today_35 : decode cX8_today 35 = .ok (.invokevirtual 134, 3) := by decide +kernel
theorem dX8_today_38 : decode cX8_today 38 = .ok (.ireturn, 1) := by decide +kernel
theorem dX8_today_6 : decode cX8_today 6 = .ok (.iconst 1, 1) := by decide +kernel
theorem dX8_today_7 : decode cX8_today 7 = .ok (.invokevirtual 226, 3) := by decide +kernel
theorem dX8_tooMany_0 : decode cX8_tooMany 0 = .ok (.iload_n 1, 1) := by decide +kernel
theorem dX8_tooMany_1 : decode cX8_tooMany 1 = .ok (.ifCond .eq 16, 3) := by decide +kernel
theorem dX8_tooMany_12 : decode cX8_tooMany 12 = .ok (.aload_n 0, 1) := by decide +kernel
theorem dX8_tooMany_13 : decode cX8_tooMany 13 = .ok (.iconst 4, 1) := by decide +kernel
theorem dX8_tooMany_14 : decode cX8_tooMany 14 = .ok (.invokevirtual 100, 3) := by decide +kernel
theorem dX8_tooMany_17 : decode cX8_tooMany 17 = .ok (.return_, 1) := by decide +kernel
theorem dX8_tooMany_4 : decode cX8_tooMany 4 = .ok (.aload_n 0, 1) := by decide +kernel
theorem dX8_tooMany_5 : decode cX8_tooMany 5 = .ok (.aload_n 0, 1) := by decide +kernel
theorem dX8_tooMany_6 : decode cX8_tooMany 6 = .ok (.getfield 137, 3) := by decide +kernel
theorem dX8_tooMany_9 : decode cX8_tooMany 9 = .ok (.putfield 72, 3) := by decide +kernel
theorem dX8_total_0 : decode cX8_total 0 = .ok (.aload_n 0, 1) := by decide +kernel
theorem dX8_total_1 : decode cX8_total 1 = .ok (.iload_n 1, 1) := by decide +kernel
theorem dX8_total_10 : decode cX8_total 10 = .ok (.iconst 1, 1) := by decide +kernel
theorem dX8_total_11 : decode cX8_total 11 = .ok (.invokevirtual 226, 3) := by decide +kernel
theorem dX8_total_14 : decode cX8_total 14 = .ok (.ifCond .eq 7, 3) := by decide +kernel
theorem dX8_total_17 : decode cX8_total 17 = .ok (.iconst 0, 1) := by decide +kernel
theorem dX8_total_18 : decode cX8_total 18 = .ok (.goto 12, 3) := by decide +kernel
theorem dX8_total_2 : decode cX8_total 2 = .ok (.i2l, 1) := by decide +kernel
theorem dX8_total_21 : decode cX8_total 21 = .ok (.aload_n 0, 1) := by decide +kernel
theorem dX8_total_22 : decode cX8_total 22 = .ok (.getfield 9, 3) := by decide +kernel
theorem dX8_total_25 : decode cX8_total 25 = .ok (.bipush 12, 2) := by decide +kernel
theorem dX8_total_27 : decode cX8_total 27 = .ok (.iload_n 1, 1) := by decide +kernel
theorem dX8_total_28 : decode cX8_total 28 = .ok (.iadd, 1) := by decide +kernel
theorem dX8_total_29 : decode cX8_total 29 = .ok (.iaload, 1) := by decide +kernel
theorem dX8_total_3 : decode cX8_total 3 = .ok (.lconst 0, 1) := by decide +kernel
theorem dX8_total_30 : decode cX8_total 30 = .ok (.ireturn, 1) := by decide +kernel
theorem dX8_total_4 : decode cX8_total 4 = .ok (.ldc2_w 241, 3) := by decide +kernel
theorem dX8_total_7 : decode cX8_total 7 = .ok (.invokestatic 52, 3) := by decide +kernel
theorem dX8_trayAt_0 : decode cX8_trayAt 0 = .ok (.aload_n 0, 1) := by decide +kernel
theorem dX8_trayAt_1 : decode cX8_trayAt 1 = .ok (.iconst 0, 1) := by decide +kernel
theorem dX8_trayAt_10 : decode cX8_trayAt 10 = .ok (.aload_n 0, 1) := by decide +kernel
theorem dX8_trayAt_11 : decode cX8_trayAt 11 = .ok (.getfield 9, 3) := by decide +kernel
theorem dX8_trayAt_14 : decode cX8_trayAt 14 = .ok (.bipush 9, 2) := by decide +kernel
theorem dX8_trayAt_16 : decode cX8_trayAt 16 = .ok (.iaload, 1) := by decide +kernel
theorem dX8_trayAt_17 : decode cX8_trayAt 17 = .ok (.if_icmp .ge 32, 3) := by decide +kernel
theorem dX8_trayAt_2 : decode cX8_trayAt 2 = .ok (.putfield 49, 3) := by decide +kernel
theorem dX8_trayAt_20 : decode cX8_trayAt 20 = .ok (.iload_n 2, 1) := by decide +kernel
theorem dX8_trayAt_21 : decode cX8_trayAt 21 = .ok (.ifCond .lt 28, 3) := by decide +kernel
theorem dX8_trayAt_24 : decode cX8_trayAt 24 = .ok (.aload_n 0, 1) := by decide +kernel
theorem dX8_trayAt_25 : decode cX8_trayAt 25 = .ok (.iload_n 3, 1) := by decide +kernel
theorem dX8_trayAt_26 : decode cX8_trayAt 26 = .ok (.iconst 3, 1) := by decide +kernel
theorem dX8_trayAt_27 : decode cX8_trayAt 27 = .ok (.invokevirtual 233, 3) := by decide +kernel
theorem dX8_trayAt_30 : decode cX8_trayAt 30 = .ok (.iconst 2, 1) := by decide +kernel
theorem dX8_trayAt_31 : decode cX8_trayAt 31 = .ok (.if_icmp .ne 12, 3) := by decide +kernel
theorem dX8_trayAt_34 : decode cX8_trayAt 34 = .ok (.iload_n 2, 1) := by decide +kernel
theorem dX8_trayAt_35 : decode cX8_trayAt 35 = .ok (.ifCond .ne 5, 3) := by decide +kernel
theorem dX8_trayAt_38 : decode cX8_trayAt 38 = .ok (.iload_n 3, 1) := by decide +kernel
theorem dX8_trayAt_39 : decode cX8_trayAt 39 = .ok (.ireturn, 1) := by decide +kernel
theorem dX8_trayAt_40 : decode cX8_trayAt 40 = .ok (.iinc 2 (-1), 3) := by decide +kernel
theorem dX8_trayAt_43 : decode cX8_trayAt 43 = .ok (.iinc 3 1, 3) := by decide +kernel
theorem dX8_trayAt_46 : decode cX8_trayAt 46 = .ok (.goto (-37), 3) := by decide +kernel
theorem dX8_trayAt_49 : decode cX8_trayAt 49 = .ok (.iconst (-1), 1) := by decide +kernel
theorem dX8_trayAt_5 : decode cX8_trayAt 5 = .ok (.iload_n 1, 1) := by decide +kernel
theorem dX8_trayAt_50 : decode cX8_trayAt 50 = .ok (.ireturn, 1) := by decide +kernel
theorem dX8_trayAt_6 : decode cX8_trayAt 6 = .ok (.istore_n 2, 1) := by decide +kernel
theorem dX8_trayAt_7 : decode cX8_trayAt 7 = .ok (.iconst 0, 1) := by decide +kernel
theorem dX8_trayAt_8 : decode cX8_trayAt 8 = .ok (.istore_n 3, 1) := by decide +kernel
theorem dX8_trayAt_9 : decode cX8_trayAt 9 = .ok (.iload_n 3, 1) := by decide +kernel
theorem dX8_turn_0 : decode cX8_turn 0 = .ok (.iload_n 0, 1) := by decide +kernel
theorem dX8_turn_1 : decode cX8_turn 1 = .ok (.iload_n 1, 1) := by decide +kernel
theorem dX8_turn_10 : decode cX8_turn 10 = .ok (.iload_n 2, 1) := by decide +kernel
theorem dX8_turn_11 : decode cX8_turn 11 = .ok (.isub, 1) := by decide +kernel
theorem dX8_turn_12 : decode cX8_turn 12 = .ok (.invokestatic 105, 3) := by decide +kernel
theorem dX8_turn_15 : decode cX8_turn 15 = .ok (.ireturn, 1) := by decide +kernel
theorem dX8_turn_2 : decode cX8_turn 2 = .ok (.isub, 1) := by decide +kernel
theorem dX8_turn_3 : decode cX8_turn 3 = .ok (.invokestatic 285, 3) := by decide +kernel
theorem dX8_turn_6 : decode cX8_turn 6 = .ok (.istore_n 2, 1) := by decide +kernel
theorem dX8_turn_7 : decode cX8_turn 7 = .ok (.iload_n 2, 1) := by decide +kernel
theorem dX8_turn_8 : decode cX8_turn 8 = .ok (.bipush 26, 2) := by decide +kernel
theorem dX8_undo_0 : decode cX8_undo 0 = .ok (.aload_n 0, 1) := by decide +kernel
theorem dX8_undo_1 : decode cX8_undo 1 = .ok (.iconst 0, 1) := by decide +kernel
theorem dX8_undo_12 : decode cX8_undo 12 = .ok (.iconst (-1), 1) := by decide +kernel
theorem dX8_undo_13 : decode cX8_undo 13 = .ok (.ireturn, 1) := by decide +kernel
theorem dX8_undo_14 : decode cX8_undo 14 = .ok (.aload_n 0, 1) := by decide +kernel
theorem dX8_undo_15 : decode cX8_undo 15 = .ok (.dup, 1) := by decide +kernel
theorem dX8_undo_16 : decode cX8_undo 16 = .ok (.getfield 219, 3) := by decide +kernel
theorem dX8_undo_19 : decode cX8_undo 19 = .ok (.iconst 1, 1) := by decide +kernel
theorem dX8_undo_2 : decode cX8_undo 2 = .ok (.putfield 49, 3) := by decide +kernel
theorem dX8_undo_20 : decode cX8_undo 20 = .ok (.isub, 1) := by decide +kernel
theorem dX8_undo_21 : decode cX8_undo 21 = .ok (.putfield 219, 3) := by decide +kernel
theorem dX8_undo_24 : decode cX8_undo 24 = .ok (.aload_n 0, 1) := by decide +kernel
theorem dX8_undo_25 : decode cX8_undo 25 = .ok (.getfield 16, 3) := by decide +kernel
theorem dX8_undo_28 : decode cX8_undo 28 = .ok (.aload_n 0, 1) := by decide +kernel
theorem dX8_undo_29 : decode cX8_undo 29 = .ok (.getfield 219, 3) := by decide +kernel
theorem dX8_undo_32 : decode cX8_undo 32 = .ok (.aload_n 0, 1) := by decide +kernel
theorem dX8_undo_33 : decode cX8_undo 33 = .ok (.getfield 9, 3) := by decide +kernel
theorem dX8_undo_36 : decode cX8_undo 36 = .ok (.iconst 0, 1) := by decide +kernel
theorem dX8_undo_37 : decode cX8_undo 37 = .ok (.invokestatic 204, 3) := by decide +kernel
theorem dX8_undo_40 : decode cX8_undo 40 = .ok (.aload_n 0, 1) := by decide +kernel
theorem dX8_undo_41 : decode cX8_undo 41 = .ok (.getfield 219, 3) := by decide +kernel
theorem dX8_undo_44 : decode cX8_undo 44 = .ok (.ireturn, 1) := by decide +kernel
theorem dX8_undo_5 : decode cX8_undo 5 = .ok (.aload_n 0, 1) := by decide +kernel
theorem dX8_undo_6 : decode cX8_undo 6 = .ok (.getfield 219, 3) := by decide +kernel
theorem dX8_undo_9 : decode cX8_undo 9 = .ok (.ifCond .ne 5, 3) := by decide +kernel
theorem dX8_works_0 : decode cX8_works 0 = .ok (.aload_n 0, 1) := by decide +kernel
theorem dX8_works_1 : decode cX8_works 1 = .ok (.iload_n 1, 1) := by decide +kernel
theorem dX8_works_10 : decode cX8_works 10 = .ok (.iconst 3, 1) := by decide +kernel
theorem dX8_works_11 : decode cX8_works 11 = .ok (.iconst (-1), 1) := by decide +kernel
theorem dX8_works_12 : decode cX8_works 12 = .ok (.invokevirtual 302, 3) := by decide +kernel
theorem dX8_works_15 : decode cX8_works 15 = .ok (.aload_n 0, 1) := by decide +kernel
theorem dX8_works_16 : decode cX8_works 16 = .ok (.iload_n 1, 1) := by decide +kernel
theorem dX8_works_17 : decode cX8_works 17 = .ok (.iconst 3, 1) := by decide +kernel
theorem dX8_works_18 : decode cX8_works 18 = .ok (.invokevirtual 248, 3) := by decide +kernel
theorem dX8_works_2 : decode cX8_works 2 = .ok (.bipush 12, 2) := by decide +kernel
theorem dX8_works_21 : decode cX8_works 21 = .ok (.ifCond .ne 22, 3) := by decide +kernel
theorem dX8_works_24 : decode cX8_works 24 = .ok (.aload_n 0, 1) := by decide +kernel
theorem dX8_works_25 : decode cX8_works 25 = .ok (.iload_n 1, 1) := by decide +kernel
theorem dX8_works_26 : decode cX8_works 26 = .ok (.invokevirtual 305, 3) := by decide +kernel
theorem dX8_works_29 : decode cX8_works 29 = .ok (.ifCond .eq 14, 3) := by decide +kernel
theorem dX8_works_32 : decode cX8_works 32 = .ok (.aload_n 0, 1) := by decide +kernel
theorem dX8_works_33 : decode cX8_works 33 = .ok (.iload_n 1, 1) := by decide +kernel
theorem dX8_works_34 : decode cX8_works 34 = .ok (.aload_n 0, 1) := by decide +kernel
theorem dX8_works_35 : decode cX8_works 35 = .ok (.iload_n 1, 1) := by decide +kernel
theorem dX8_works_36 : decode cX8_works 36 = .ok (.iconst 2, 1) := by decide +kernel
theorem dX8_works_37 : decode cX8_works 37 = .ok (.invokevirtual 248, 3) := by decide +kernel
theorem dX8_works_4 : decode cX8_works 4 = .ok (.iconst 1, 1) := by decide +kernel
theorem dX8_works_40 : decode cX8_works 40 = .ok (.invokevirtual 308, 3) := by decide +kernel
theorem dX8_works_43 : decode cX8_works 43 = .ok (.return_, 1) := by decide +kernel
theorem dX8_works_5 : decode cX8_works 5 = .ok (.invokevirtual 302, 3) := by decide +kernel
theorem dX8_works_8 : decode cX8_works 8 = .ok (.aload_n 0, 1) := by decide +kernel
theorem dX8_works_9 : decode cX8_works 9 = .ok (.iload_n 1, 1) := by decide +kernel
theorem dX8_writeCard_0 : decode cX8_writeCard 0 = .ok (.aload_n 0, 1) := by decide +kernel
theorem dX8_writeCard_1 : decode cX8_writeCard 1 = .ok (.aload_n 0, 1) := by decide +kernel
theorem dX8_writeCard_10 : decode cX8_writeCard 10 = .ok (.ifCond .eq 5, 3) := by decide +kernel
theorem dX8_writeCard_13 : decode cX8_writeCard 13 = .ok (.iconst 0, 1) := by decide +kernel
theorem dX8_writeCard_14 : decode cX8_writeCard 14 = .ok (.ireturn, 1) := by decide +kernel
theorem dX8_writeCard_15 : decode cX8_writeCard 15 = .ok (.aload_n 0, 1) := by decide +kernel
theorem dX8_writeCard_16 : decode cX8_writeCard 16 = .ok (.aload_n 0, 1) := by decide +kernel
theorem dX8_writeCard_17 : decode cX8_writeCard 17 = .ok (.iload_n 1, 1) := by decide +kernel
theorem dX8_writeCard_18 : decode cX8_writeCard 18 = .ok (.iconst 2, 1) := by decide +kernel
theorem dX8_writeCard_19 : decode cX8_writeCard 19 = .ok (.invokevirtual 233, 3) := by decide +kernel
theorem dX8_writeCard_2 : decode cX8_writeCard 2 = .ok (.iload_n 1, 1) := by decide +kernel
theorem dX8_writeCard_22 : decode cX8_writeCard 22 = .ok (.putfield 372, 3) := by decide +kernel
theorem dX8_writeCard_25 : decode cX8_writeCard 25 = .ok (.iconst 0, 1) := by decide +kernel
theorem dX8_writeCard_26 : decode cX8_writeCard 26 = .ok (.istore_n 2, 1) := by decide +kernel
theorem dX8_writeCard_27 : decode cX8_writeCard 27 = .ok (.iload_n 2, 1) := by decide +kernel
theorem dX8_writeCard_28 : decode cX8_writeCard 28 = .ok (.aload_n 0, 1) := by decide +kernel
theorem dX8_writeCard_29 : decode cX8_writeCard 29 = .ok (.getfield 372, 3) := by decide +kernel
theorem dX8_writeCard_3 : decode cX8_writeCard 3 = .ok (.invokevirtual 251, 3) := by decide +kernel
theorem dX8_writeCard_32 : decode cX8_writeCard 32 = .ok (.if_icmp .ge 28, 3) := by decide +kernel
theorem dX8_writeCard_35 : decode cX8_writeCard 35 = .ok (.aload_n 0, 1) := by decide +kernel
theorem dX8_writeCard_36 : decode cX8_writeCard 36 = .ok (.getfield 43, 3) := by decide +kernel
theorem dX8_writeCard_39 : decode cX8_writeCard 39 = .ok (.iload_n 2, 1) := by decide +kernel
theorem dX8_writeCard_40 : decode cX8_writeCard 40 = .ok (.bipush 97, 2) := by decide +kernel
theorem dX8_writeCard_42 : decode cX8_writeCard 42 = .ok (.aload_n 0, 1) := by decide +kernel
theorem dX8_writeCard_43 : decode cX8_writeCard 43 = .ok (.iload_n 1, 1) := by decide +kernel
theorem dX8_writeCard_44 : decode cX8_writeCard 44 = .ok (.bipush 9, 2) := by decide +kernel
theorem dX8_writeCard_46 : decode cX8_writeCard 46 = .ok (.iload_n 2, 1) := by decide +kernel
theorem dX8_writeCard_47 : decode cX8_writeCard 47 = .ok (.iadd, 1) := by decide +kernel
theorem dX8_writeCard_48 : decode cX8_writeCard 48 = .ok (.invokevirtual 233, 3) := by decide +kernel
theorem dX8_writeCard_51 : decode cX8_writeCard 51 = .ok (.iadd, 1) := by decide +kernel
theorem dX8_writeCard_52 : decode cX8_writeCard 52 = .ok (.i2b, 1) := by decide +kernel
theorem dX8_writeCard_53 : decode cX8_writeCard 53 = .ok (.bastore, 1) := by decide +kernel
theorem dX8_writeCard_54 : decode cX8_writeCard 54 = .ok (.iinc 2 1, 3) := by decide +kernel
theorem dX8_writeCard_57 : decode cX8_writeCard 57 = .ok (.goto (-30), 3) := by decide +kernel
theorem dX8_writeCard_6 : decode cX8_writeCard 6 = .ok (.iconst 1, 1) := by decide +kernel
theorem dX8_writeCard_60 : decode cX8_writeCard 60 = .ok (.aload_n 0, 1) := by decide +kernel
theorem dX8_writeCard_61 : decode cX8_writeCard 61 = .ok (.getfield 372, 3) := by decide +kernel
theorem dX8_writeCard_64 : decode cX8_writeCard 64 = .ok (.ireturn, 1) := by decide +kernel
theorem dX8_writeCard_7 : decode cX8_writeCard 7 = .ok (.invokevirtual 226, 3) := by decide +kernel
theorem dX8_yieldPart_0 : decode cX8_yieldPart 0 = .ok (.aload_n 0, 1) := by decide +kernel
theorem dX8_yieldPart_1 : decode cX8_yieldPart 1 = .ok (.iconst 0, 1) := by decide +kernel
theorem dX8_yieldPart_11 : decode cX8_yieldPart 11 = .ok (.iaload, 1) := by decide +kernel
theorem dX8_yieldPart_12 : decode cX8_yieldPart 12 = .ok (.istore_n 1, 1) := by decide +kernel
theorem dX8_yieldPart_13 : decode cX8_yieldPart 13 = .ok (.iload_n 1, 1) := by decide +kernel
theorem dX8_yieldPart_14 : decode cX8_yieldPart 14 = .ok (.ifCond .ne 7, 3) := by decide +kernel
theorem dX8_yieldPart_17 : decode cX8_yieldPart 17 = .ok (.dconst 0, 1) := by decide +kernel
theorem dX8_yieldPart_18 : decode cX8_yieldPart 18 = .ok (.goto 14, 3) := by decide +kernel
theorem dX8_yieldPart_2 : decode cX8_yieldPart 2 = .ok (.putfield 49, 3) := by decide +kernel
theorem dX8_yieldPart_21 : decode cX8_yieldPart 21 = .ok (.aload_n 0, 1) := by decide +kernel
theorem dX8_yieldPart_22 : decode cX8_yieldPart 22 = .ok (.getfield 9, 3) := by decide +kernel
theorem dX8_yieldPart_25 : decode cX8_yieldPart 25 = .ok (.bipush 10, 2) := by decide +kernel
theorem dX8_yieldPart_27 : decode cX8_yieldPart 27 = .ok (.iaload, 1) := by decide +kernel
theorem dX8_yieldPart_28 : decode cX8_yieldPart 28 = .ok (.i2d, 1) := by decide +kernel
theorem dX8_yieldPart_29 : decode cX8_yieldPart 29 = .ok (.iload_n 1, 1) := by decide +kernel
theorem dX8_yieldPart_30 : decode cX8_yieldPart 30 = .ok (.i2d, 1) := by decide +kernel
theorem dX8_yieldPart_31 : decode cX8_yieldPart 31 = .ok (.ddiv, 1) := by decide +kernel
theorem dX8_yieldPart_32 : decode cX8_yieldPart 32 = .ok (.dreturn, 1) := by decide +kernel
theorem dX8_yieldPart_5 : decode cX8_yieldPart 5 = .ok (.aload_n 0, 1) := by decide +kernel
theorem dX8_yieldPart_6 : decode cX8_yieldPart 6 = .ok (.getfield 9, 3) := by decide +kernel
theorem dX8_yieldPart_9 : decode cX8_yieldPart 9 = .ok (.bipush 12, 2) := by decide +kernel
