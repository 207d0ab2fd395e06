/-! names -/
theorem dL_bestRank_0 : decode cL_bestRank 0 = .ok (.aload_n 2, 1) := by decide +kernel
theorem dL_bestRank_1 : decode cL_bestRank 1 = .ok (.iconst 0, 1) := by decide +kernel
theorem dL_bestRank_12 : decode cL_bestRank 12 = .ok (.astore_n 3, 1) := by decide +kernel
theorem dL_bestRank_13 : decode cL_bestRank 13 = .ok (.iconst 1, 1) := by decide +kernel
theorem dL_bestRank_14 : decode cL_bestRank 14 = .ok (.ireturn, 1) := by decide +kernel
theorem dL_bestRank_15 : decode cL_bestRank 15 = .ok (.iconst 0, 1) := by decide +kernel
theorem dL_bestRank_16 : decode cL_bestRank 16 = .ok (.ireturn, 1) := by decide +kernel
theorem dL_bestRank_2 : decode cL_bestRank 2 = .ok (.aload_n 0, 1) := by decide +kernel
theorem dL_bestRank_3 : decode cL_bestRank 3 = .ok (.iload_n 1, 1) := by decide +kernel
theorem dL_bestRank_4 : decode cL_bestRank 4 = .ok (.invokevirtual 114, 3) := by decide +kernel
theorem dL_bestRank_7 : decode cL_bestRank 7 = .ok (.i2l, 1) := by decide +kernel
theorem dL_bestRank_8 : decode cL_bestRank 8 = .ok (.lastore, 1) := by decide +kernel
theorem dL_bestRank_9 : decode cL_bestRank 9 = .ok (.goto 6, 3) := by decide +kernel
theorem dL_blanksIn_0 : decode cL_blanksIn 0 = .ok (.aload_n 2, 1) := by decide +kernel
theorem dL_blanksIn_1 : decode cL_blanksIn 1 = .ok (.iconst 0, 1) := by decide +kernel
theorem dL_blanksIn_12 : decode cL_blanksIn 12 = .ok (.astore_n 3, 1) := by decide +kernel
theorem dL_blanksIn_13 : decode cL_blanksIn 13 = .ok (.iconst 1, 1) := by decide +kernel
theorem dL_blanksIn_14 : decode cL_blanksIn 14 = .ok (.ireturn, 1) := by decide +kernel
theorem dL_blanksIn_15 : decode cL_blanksIn 15 = .ok (.iconst 0, 1) := by decide +kernel
theorem dL_blanksIn_16 : decode cL_blanksIn 16 = .ok (.ireturn, 1) := by decide +kernel
theorem dL_blanksIn_2 : decode cL_blanksIn 2 = .ok (.aload_n 0, 1) := by decide +kernel
theorem dL_blanksIn_3 : decode cL_blanksIn 3 = .ok (.iload_n 1, 1) := by decide +kernel
theorem dL_blanksIn_4 : decode cL_blanksIn 4 = .ok (.invokevirtual 108, 3) := by decide +kernel
theorem dL_blanksIn_7 : decode cL_blanksIn 7 = .ok (.i2l, 1) := by decide +kernel
theorem dL_blanksIn_8 : decode cL_blanksIn 8 = .ok (.lastore, 1) := by decide +kernel
theorem dL_blanksIn_9 : decode cL_blanksIn 9 = .ok (.goto 6, 3) := by decide +kernel
theorem dL_busyPart_0 : decode cL_busyPart 0 = .ok (.aload_n 2, 1) := by decide +kernel
theorem dL_busyPart_1 : decode cL_busyPart 1 = .ok (.iconst 0, 1) := by decide +kernel
theorem dL_busyPart_12 : decode cL_busyPart 12 = .ok (.astore_n 3, 1) := by decide +kernel
theorem dL_busyPart_13 : decode cL_busyPart 13 = .ok (.iconst 1, 1) := by decide +kernel
theorem dL_busyPart_14 : decode cL_busyPart 14 = .ok (.ireturn, 1) := by decide +kernel
theorem dL_busyPart_15 : decode cL_busyPart 15 = .ok (.iconst 0, 1) := by decide +kernel
theorem dL_busyPart_16 : decode cL_busyPart 16 = .ok (.ireturn, 1) := by decide +kernel
theorem dL_busyPart_2 : decode cL_busyPart 2 = .ok (.aload_n 0, 1) := by decide +kernel
theorem dL_busyPart_3 : decode cL_busyPart 3 = .ok (.iload_n 1, 1) := by decide +kernel
theorem dL_busyPart_4 : decode cL_busyPart 4 = .ok (.invokevirtual 52, 3) := by decide +kernel
theorem dL_busyPart_7 : decode cL_busyPart 7 = .ok (.f2d, 1) := by decide +kernel
theorem dL_busyPart_8 : decode cL_busyPart 8 = .ok (.dastore, 1) := by decide +kernel
theorem dL_busyPart_9 : decode cL_busyPart 9 = .ok (.goto 6, 3) := by decide +kernel
theorem dL_cardOf_0 : decode cL_cardOf 0 = .ok (.aload_n 3, 1) := by decide +kernel
theorem dL_cardOf_1 : decode cL_cardOf 1 = .ok (.iconst 0, 1) := by decide +kernel
theorem dL_cardOf_10 : decode cL_cardOf 10 = .ok (.goto 7, 3) := by decide +kernel
theorem dL_cardOf_13 : decode cL_cardOf 13 = .ok (.astore 4, 2) := by decide +kernel
theorem dL_cardOf_15 : decode cL_cardOf 15 = .ok (.iconst 1, 1) := by decide +kernel
theorem dL_cardOf_16 : decode cL_cardOf 16 = .ok (.ireturn, 1) := by decide +kernel
theorem dL_cardOf_17 : decode cL_cardOf 17 = .ok (.iconst 0, 1) := by decide +kernel
theorem dL_cardOf_18 : decode cL_cardOf 18 = .ok (.ireturn, 1) := by decide +kernel
theorem dL_cardOf_2 : decode cL_cardOf 2 = .ok (.aload_n 0, 1) := by decide +kernel
theorem dL_cardOf_3 : decode cL_cardOf 3 = .ok (.iload_n 1, 1) := by decide +kernel
theorem dL_cardOf_4 : decode cL_cardOf 4 = .ok (.iload_n 2, 1) := by decide +kernel
theorem dL_cardOf_5 : decode cL_cardOf 5 = .ok (.invokevirtual 33, 3) := by decide +kernel
theorem dL_cardOf_8 : decode cL_cardOf 8 = .ok (.i2l, 1) := by decide +kernel
theorem dL_cardOf_9 : decode cL_cardOf 9 = .ok (.lastore, 1) := by decide +kernel
theorem dL_card_0 : decode cL_card 0 = .ok (.aload_n 3, 1) := by decide +kernel
theorem dL_card_1 : decode cL_card 1 = .ok (.iconst 0, 1) := by decide +kernel
theorem dL_card_10 : decode cL_card 10 = .ok (.goto 11, 3) := by decide +kernel
theorem dL_card_13 : decode cL_card 13 = .ok (.astore 4, 2) := by decide +kernel
theorem dL_card_15 : decode cL_card 15 = .ok (.iconst 1, 1) := by decide +kernel
theorem dL_card_16 : decode cL_card 16 = .ok (.ireturn, 1) := by decide +kernel
theorem dL_card_17 : decode cL_card 17 = .ok (.astore 4, 2) := by decide +kernel
theorem dL_card_19 : decode cL_card 19 = .ok (.iconst 2, 1) := by decide +kernel
theorem dL_card_2 : decode cL_card 2 = .ok (.aload_n 0, 1) := by decide +kernel
theorem dL_card_20 : decode cL_card 20 = .ok (.ireturn, 1) := by decide +kernel
theorem dL_card_21 : decode cL_card 21 = .ok (.iconst 0, 1) := by decide +kernel
theorem dL_card_22 : decode cL_card 22 = .ok (.ireturn, 1) := by decide +kernel
theorem dL_card_3 : decode cL_card 3 = .ok (.iload_n 1, 1) := by decide +kernel
theorem dL_card_4 : decode cL_card 4 = .ok (.iload_n 2, 1) := by decide +kernel
theorem dL_card_5 : decode cL_card 5 = .ok (.invokevirtual 24, 3) := by decide +kernel
theorem dL_card_8 : decode cL_card 8 = .ok (.i2l, 1) := by decide +kernel
theorem dL_card_9 : decode cL_card 9 = .ok (.lastore, 1) := by decide +kernel
theorem dL_count_0 : decode cL_count 0 = .ok (.aload_n 2, 1) := by decide +kernel
theorem dL_count_1 : decode cL_count 1 = .ok (.iconst 0, 1) := by decide +kernel
theorem dL_count_12 : decode cL_count 12 = .ok (.astore_n 3, 1) := by decide +kernel
theorem dL_count_13 : decode cL_count 13 = .ok (.iconst 1, 1) := by decide +kernel
theorem dL_count_14 : decode cL_count 14 = .ok (.ireturn, 1) := by decide +kernel
theorem dL_count_15 : decode cL_count 15 = .ok (.iconst 0, 1) := by decide +kernel
theorem dL_count_16 : decode cL_count 16 = .ok (.ireturn, 1) := by decide +kernel
theorem dL_count_2 : decode cL_count 2 = .ok (.aload_n 0, 1) := by decide +kernel
theorem dL_count_3 : decode cL_count 3 = .ok (.iload_n 1, 1) := by decide +kernel
theorem dL_count_4 : decode cL_count 4 = .ok (.invokevirtual 7, 3) := by decide +kernel
theorem dL_count_7 : decode cL_count 7 = .ok (.i2l, 1) := by decide +kernel
theorem dL_count_8 : decode cL_count 8 = .ok (.lastore, 1) := by decide +kernel
theorem dL_count_9 : decode cL_count 9 = .ok (.goto 6, 3) := by decide +kernel
theorem dL_day_0 : decode cL_day 0 = .ok (.aload 4, 2) := by decide +kernel
theorem dL_day_10 : decode cL_day 10 = .ok (.i2l, 1) := by decide +kernel
theorem dL_day_11 : decode cL_day 11 = .ok (.lastore, 1) := by decide +kernel
theorem dL_day_12 : decode cL_day 12 = .ok (.goto 11, 3) := by decide +kernel
theorem dL_day_15 : decode cL_day 15 = .ok (.astore 5, 2) := by decide +kernel
theorem dL_day_17 : decode cL_day 17 = .ok (.iconst 1, 1) := by decide +kernel
theorem dL_day_18 : decode cL_day 18 = .ok (.ireturn, 1) := by decide +kernel
theorem dL_day_19 : decode cL_day 19 = .ok (.astore 5, 2) := by decide +kernel
theorem dL_day_2 : decode cL_day 2 = .ok (.iconst 0, 1) := by decide +kernel
theorem dL_day_21 : decode cL_day 21 = .ok (.iconst 2, 1) := by decide +kernel
theorem dL_day_22 : decode cL_day 22 = .ok (.ireturn, 1) := by decide +kernel
theorem dL_day_23 : decode cL_day 23 = .ok (.iconst 0, 1) := by decide +kernel
theorem dL_day_24 : decode cL_day 24 = .ok (.ireturn, 1) := by decide +kernel
theorem dL_day_3 : decode cL_day 3 = .ok (.aload_n 0, 1) := by decide +kernel
theorem dL_day_4 : decode cL_day 4 = .ok (.iload_n 1, 1) := by decide +kernel
theorem dL_day_5 : decode cL_day 5 = .ok (.iload_n 2, 1) := by decide +kernel
theorem dL_day_6 : decode cL_day 6 = .ok (.iload_n 3, 1) := by decide +kernel
theorem dL_day_7 : decode cL_day 7 = .ok (.invokevirtual 42, 3) := by decide +kernel
theorem dL_failIn_0 : decode cL_failIn 0 = .ok (.aload_n 2, 1) := by decide +kernel
theorem dL_failIn_1 : decode cL_failIn 1 = .ok (.iconst 0, 1) := by decide +kernel
theorem dL_failIn_12 : decode cL_failIn 12 = .ok (.astore_n 3, 1) := by decide +kernel
theorem dL_failIn_13 : decode cL_failIn 13 = .ok (.iconst 1, 1) := by decide +kernel
theorem dL_failIn_14 : decode cL_failIn 14 = .ok (.ireturn, 1) := by decide +kernel
theorem dL_failIn_15 : decode cL_failIn 15 = .ok (.iconst 0, 1) := by decide +kernel
theorem dL_failIn_16 : decode cL_failIn 16 = .ok (.ireturn, 1) := by decide +kernel
theorem dL_failIn_2 : decode cL_failIn 2 = .ok (.aload_n 0, 1) := by decide +kernel
theorem dL_failIn_3 : decode cL_failIn 3 = .ok (.iload_n 1, 1) := by decide +kernel
theorem dL_failIn_4 : decode cL_failIn 4 = .ok (.invokevirtual 105, 3) := by decide +kernel
theorem dL_failIn_7 : decode cL_failIn 7 = .ok (.i2l, 1) := by decide +kernel
theorem dL_failIn_8 : decode cL_failIn 8 = .ok (.lastore, 1) := by decide +kernel
theorem dL_failIn_9 : decode cL_failIn 9 = .ok (.goto 6, 3) := by decide +kernel
theorem dL_giveUp_0 : decode cL_giveUp 0 = .ok (.aload_n 2, 1) := by decide +kernel
theorem dL_giveUp_1 : decode cL_giveUp 1 = .ok (.iconst 0, 1) := by decide +kernel
theorem dL_giveUp_12 : decode cL_giveUp 12 = .ok (.astore_n 3, 1) := by decide +kernel
theorem dL_giveUp_13 : decode cL_giveUp 13 = .ok (.iconst 1, 1) := by decide +kernel
theorem dL_giveUp_14 : decode cL_giveUp 14 = .ok (.ireturn, 1) := by decide +kernel
theorem dL_giveUp_15 : decode cL_giveUp 15 = .ok (.iconst 0, 1) := by decide +kernel
theorem dL_giveUp_16 : decode cL_giveUp 16 = .ok (.ireturn, 1) := by decide +kernel
theorem dL_giveUp_2 : decode cL_giveUp 2 = .ok (.aload_n 0, 1) := by decide +kernel
theorem dL_giveUp_3 : decode cL_giveUp 3 = .ok (.iload_n 1, 1) := by decide +kernel
theorem dL_giveUp_4 : decode cL_giveUp 4 = .ok (.invokevirtual 59, 3) := by decide +kernel
theorem dL_giveUp_7 : decode cL_giveUp 7 = .ok (.i2l, 1) := by decide +kernel
theorem dL_giveUp_8 : decode cL_giveUp 8 = .ok (.lastore, 1) := by decide +kernel
theorem dL_giveUp_9 : decode cL_giveUp 9 = .ok (.goto 6, 3) := by decide +kernel
theorem dL_law_1000 : decode cL_law 1000 = .ok (.iload 5, 2) := by decide +kernel
theorem dL_law_1002 : decode cL_law 1002 = .ok (.iconst 1, 1) := by decide +kernel
theorem dL_law_1003 : decode cL_law 1003 = .ok (.iadd, 1) := by decide +kernel
theorem dL_law_1004 : decode cL_law 1004 = .ok (.iaload, 1) := by decide +kernel
theorem dL_law_1005 : decode cL_law 1005 = .ok (.aload_n 3, 1) := by decide +kernel
theorem dL_law_1006 : decode cL_law 1006 = .ok (.invokestatic 228, 3) := by decide +kernel
theorem dL_law_1009 : decode cL_law 1009 = .ok (.istore 6, 2) := by decide +kernel
theorem dL_law_1011 : decode cL_law 1011 = .ok (.aload_n 2, 1) := by decide +kernel
theorem dL_law_1012 : decode cL_law 1012 = .ok (.aload_n 0, 1) := by decide +kernel
theorem dL_law_1013 : decode cL_law 1013 = .ok (.iload 5, 2) := by decide +kernel
theorem dL_law_1015 : decode cL_law 1015 = .ok (.iconst 1, 1) := by decide +kernel
theorem dL_law_1016 : decode cL_law 1016 = .ok (.iadd, 1) := by decide +kernel
theorem dL_law_1017 : decode cL_law 1017 = .ok (.iaload, 1) := by decide +kernel
theorem dL_law_1018 : decode cL_law 1018 = .ok (.invokevirtual 230, 3) := by decide +kernel
theorem dL_law_1021 : decode cL_law 1021 = .ok (.istore 7, 2) := by decide +kernel
theorem dL_law_1023 : decode cL_law 1023 = .ok (.goto 796, 3) := by decide +kernel
theorem dL_law_1026 : decode cL_law 1026 = .ok (.aload_n 1, 1) := by decide +kernel
theorem dL_law_1027 : decode cL_law 1027 = .ok (.aload_n 0, 1) := by decide +kernel
theorem dL_law_1028 : decode cL_law 1028 = .ok (.iload 5, 2) := by decide +kernel
theorem dL_law_1030 : decode cL_law 1030 = .ok (.iconst 1, 1) := by decide +kernel
theorem dL_law_1031 : decode cL_law 1031 = .ok (.iadd, 1) := by decide +kernel
theorem dL_law_1032 : decode cL_law 1032 = .ok (.iaload, 1) := by decide +kernel
theorem dL_law_1033 : decode cL_law 1033 = .ok (.aload_n 3, 1) := by decide +kernel
theorem dL_law_1034 : decode cL_law 1034 = .ok (.invokestatic 231, 3) := by decide +kernel
theorem dL_law_1037 : decode cL_law 1037 = .ok (.istore 6, 2) := by decide +kernel
theorem dL_law_1039 : decode cL_law 1039 = .ok (.aload_n 2, 1) := by decide +kernel
theorem dL_law_1040 : decode cL_law 1040 = .ok (.aload_n 0, 1) := by decide +kernel
theorem dL_law_1041 : decode cL_law 1041 = .ok (.iload 5, 2) := by decide +kernel
theorem dL_law_1043 : decode cL_law 1043 = .ok (.iconst 1, 1) := by decide +kernel
theorem dL_law_1044 : decode cL_law 1044 = .ok (.iadd, 1) := by decide +kernel
theorem dL_law_1045 : decode cL_law 1045 = .ok (.iaload, 1) := by decide +kernel
theorem dL_law_1046 : decode cL_law 1046 = .ok (.invokevirtual 233, 3) := by decide +kernel
theorem dL_law_1049 : decode cL_law 1049 = .ok (.istore 7, 2) := by decide +kernel
theorem dL_law_1051 : decode cL_law 1051 = .ok (.goto 768, 3) := by decide +kernel
theorem dL_law_1054 : decode cL_law 1054 = .ok (.aload_n 1, 1) := by decide +kernel
theorem dL_law_1055 : decode cL_law 1055 = .ok (.aload_n 0, 1) := by decide +kernel
theorem dL_law_1056 : decode cL_law 1056 = .ok (.iload 5, 2) := by decide +kernel
theorem dL_law_1058 : decode cL_law 1058 = .ok (.iconst 1, 1) := by decide +kernel
theorem dL_law_1059 : decode cL_law 1059 = .ok (.iadd, 1) := by decide +kernel
theorem dL_law_1060 : decode cL_law 1060 = .ok (.iaload, 1) := by decide +kernel
theorem dL_law_1061 : decode cL_law 1061 = .ok (.aload_n 0, 1) := by decide +kernel
theorem dL_law_1062 : decode cL_law 1062 = .ok (.iload 5, 2) := by decide +kernel
theorem dL_law_1064 : decode cL_law 1064 = .ok (.iconst 2, 1) := by decide +kernel
theorem dL_law_1065 : decode cL_law 1065 = .ok (.iadd, 1) := by decide +kernel
theorem dL_law_1066 : decode cL_law 1066 = .ok (.iaload, 1) := by decide +kernel
theorem dL_law_1067 : decode cL_law 1067 = .ok (.aload_n 3, 1) := by decide +kernel
theorem dL_law_1068 : decode cL_law 1068 = .ok (.invokestatic 234, 3) := by decide +kernel
theorem dL_law_1071 : decode cL_law 1071 = .ok (.istore 6, 2) := by decide +kernel
theorem dL_law_1073 : decode cL_law 1073 = .ok (.aload_n 2, 1) := by decide +kernel
theorem dL_law_1074 : decode cL_law 1074 = .ok (.aload_n 0, 1) := by decide +kernel
theorem dL_law_1075 : decode cL_law 1075 = .ok (.iload 5, 2) := by decide +kernel
theorem dL_law_1077 : decode cL_law 1077 = .ok (.iconst 1, 1) := by decide +kernel
theorem dL_law_1078 : decode cL_law 1078 = .ok (.iadd, 1) := by decide +kernel
theorem dL_law_1079 : decode cL_law 1079 = .ok (.iaload, 1) := by decide +kernel
theorem dL_law_1080 : decode cL_law 1080 = .ok (.aload_n 0, 1) := by decide +kernel
theorem dL_law_1081 : decode cL_law 1081 = .ok (.iload 5, 2) := by decide +kernel
theorem dL_law_1083 : decode cL_law 1083 = .ok (.iconst 2, 1) := by decide +kernel
theorem dL_law_1084 : decode cL_law 1084 = .ok (.iadd, 1) := by decide +kernel
theorem dL_law_1085 : decode cL_law 1085 = .ok (.iaload, 1) := by decide +kernel
theorem dL_law_1086 : decode cL_law 1086 = .ok (.invokevirtual 236, 3) := by decide +kernel
theorem dL_law_1089 : decode cL_law 1089 = .ok (.istore 7, 2) := by decide +kernel
theorem dL_law_1091 : decode cL_law 1091 = .ok (.goto 728, 3) := by decide +kernel
theorem dL_law_1094 : decode cL_law 1094 = .ok (.aload_n 1, 1) := by decide +kernel
theorem dL_law_1095 : decode cL_law 1095 = .ok (.aload_n 0, 1) := by decide +kernel
theorem dL_law_1096 : decode cL_law 1096 = .ok (.iload 5, 2) := by decide +kernel
theorem dL_law_1098 : decode cL_law 1098 = .ok (.iconst 1, 1) := by decide +kernel
theorem dL_law_1099 : decode cL_law 1099 = .ok (.iadd, 1) := by decide +kernel
theorem dL_law_1100 : decode cL_law 1100 = .ok (.iaload, 1) := by decide +kernel
theorem dL_law_1101 : decode cL_law 1101 = .ok (.aload_n 3, 1) := by decide +kernel
theorem dL_law_1102 : decode cL_law 1102 = .ok (.invokestatic 237, 3) := by decide +kernel
theorem dL_law_1105 : decode cL_law 1105 = .ok (.istore 6, 2) := by decide +kernel
theorem dL_law_1107 : decode cL_law 1107 = .ok (.aload_n 2, 1) := by decide +kernel
theorem dL_law_1108 : decode cL_law 1108 = .ok (.aload_n 0, 1) := by decide +kernel
theorem dL_law_1109 : decode cL_law 1109 = .ok (.iload 5, 2) := by decide +kernel
theorem dL_law_1111 : decode cL_law 1111 = .ok (.iconst 1, 1) := by decide +kernel
theorem dL_law_1112 : decode cL_law 1112 = .ok (.iadd, 1) := by decide +kernel
theorem dL_law_1113 : decode cL_law 1113 = .ok (.iaload, 1) := by decide +kernel
theorem dL_law_1114 : decode cL_law 1114 = .ok (.invokevirtual 239, 3) := by decide +kernel
theorem dL_law_1117 : decode cL_law 1117 = .ok (.istore 7, 2) := by decide +kernel
theorem dL_law_1119 : decode cL_law 1119 = .ok (.goto 700, 3) := by decide +kernel
theorem dL_law_1122 : decode cL_law 1122 = .ok (.aload_n 1, 1) := by decide +kernel
theorem dL_law_1123 : decode cL_law 1123 = .ok (.aload_n 0, 1) := by decide +kernel
theorem dL_law_1124 : decode cL_law 1124 = .ok (.iload 5, 2) := by decide +kernel
theorem dL_law_1126 : decode cL_law 1126 = .ok (.iconst 1, 1) := by decide +kernel
theorem dL_law_1127 : decode cL_law 1127 = .ok (.iadd, 1) := by decide +kernel
theorem dL_law_1128 : decode cL_law 1128 = .ok (.iaload, 1) := by decide +kernel
theorem dL_law_1129 : decode cL_law 1129 = .ok (.aload_n 0, 1) := by decide +kernel
theorem dL_law_1130 : decode cL_law 1130 = .ok (.iload 5, 2) := by decide +kernel
theorem dL_law_1132 : decode cL_law 1132 = .ok (.iconst 2, 1) := by decide +kernel
theorem dL_law_1133 : decode cL_law 1133 = .ok (.iadd, 1) := by decide +kernel
theorem dL_law_1134 : decode cL_law 1134 = .ok (.iaload, 1) := by decide +kernel
theorem dL_law_1135 : decode cL_law 1135 = .ok (.aload_n 3, 1) := by decide +kernel
theorem dL_law_1136 : decode cL_law 1136 = .ok (.invokestatic 240, 3) := by decide +kernel
theorem dL_law_1139 : decode cL_law 1139 = .ok (.istore 6, 2) := by decide +kernel
theorem dL_law_1141 : decode cL_law 1141 = .ok (.aload_n 2, 1) := by decide +kernel
theorem dL_law_1142 : decode cL_law 1142 = .ok (.aload_n 0, 1) := by decide +kernel
theorem dL_law_1143 : decode cL_law 1143 = .ok (.iload 5, 2) := by decide +kernel
theorem dL_law_1145 : decode cL_law 1145 = .ok (.iconst 1, 1) := by decide +kernel
theorem dL_law_1146 : decode cL_law 1146 = .ok (.iadd, 1) := by decide +kernel
theorem dL_law_1147 : decode cL_law 1147 = .ok (.iaload, 1) := by decide +kernel
theorem dL_law_1148 : decode cL_law 1148 = .ok (.aload_n 0, 1) := by decide +kernel
theorem dL_law_1149 : decode cL_law 1149 = .ok (.iload 5, 2) := by decide +kernel
theorem dL_law_1151 : decode cL_law 1151 = .ok (.iconst 2, 1) := by decide +kernel
theorem dL_law_1152 : decode cL_law 1152 = .ok (.iadd, 1) := by decide +kernel
theorem dL_law_1153 : decode cL_law 1153 = .ok (.iaload, 1) := by decide +kernel
theorem dL_law_1154 : decode cL_law 1154 = .ok (.invokevirtual 242, 3) := by decide +kernel
theorem dL_law_1157 : decode cL_law 1157 = .ok (.istore 7, 2) := by decide +kernel
theorem dL_law_1159 : decode cL_law 1159 = .ok (.goto 660, 3) := by decide +kernel
theorem dL_law_1162 : decode cL_law 1162 = .ok (.aload_n 1, 1) := by decide +kernel
theorem dL_law_1163 : decode cL_law 1163 = .ok (.aload_n 0, 1) := by decide +kernel
theorem dL_law_1164 : decode cL_law 1164 = .ok (.iload 5, 2) := by decide +kernel
theorem dL_law_1166 : decode cL_law 1166 = .ok (.iconst 1, 1) := by decide +kernel
theorem dL_law_1167 : decode cL_law 1167 = .ok (.iadd, 1) := by decide +kernel
theorem dL_law_1168 : decode cL_law 1168 = .ok (.iaload, 1) := by decide +kernel
theorem dL_law_1169 : decode cL_law 1169 = .ok (.aload_n 0, 1) := by decide +kernel
theorem dL_law_1170 : decode cL_law 1170 = .ok (.iload 5, 2) := by decide +kernel
theorem dL_law_1172 : decode cL_law 1172 = .ok (.iconst 2, 1) := by decide +kernel
theorem dL_law_1173 : decode cL_law 1173 = .ok (.iadd, 1) := by decide +kernel
theorem dL_law_1174 : decode cL_law 1174 = .ok (.iaload, 1) := by decide +kernel
theorem dL_law_1175 : decode cL_law 1175 = .ok (.ifCond .eq 7, 3) := by decide +kernel
theorem dL_law_1178 : decode cL_law 1178 = .ok (.iconst 1, 1) := by decide +kernel
theorem dL_law_1179 : decode cL_law 1179 = .ok (.goto 4, 3) := by decide +kernel
theorem dL_law_1182 : decode cL_law 1182 = .ok (.iconst 0, 1) := by decide +kernel
theorem dL_law_1183 : decode cL_law 1183 = .ok (.aload_n 3, 1) := by decide +kernel
theorem dL_law_1184 : decode cL_law 1184 = .ok (.invokestatic 243, 3) := by decide +kernel
theorem dL_law_1187 : decode cL_law 1187 = .ok (.istore 6, 2) := by decide +kernel
theorem dL_law_1189 : decode cL_law 1189 = .ok (.aload_n 2, 1) := by decide +kernel
theorem dL_law_1190 : decode cL_law 1190 = .ok (.aload_n 0, 1) := by decide +kernel
theorem dL_law_1191 : decode cL_law 1191 = .ok (.iload 5, 2) := by decide +kernel
theorem dL_law_1193 : decode cL_law 1193 = .ok (.iconst 1, 1) := by decide +kernel
theorem dL_law_1194 : decode cL_law 1194 = .ok (.iadd, 1) := by decide +kernel
theorem dL_law_1195 : decode cL_law 1195 = .ok (.iaload, 1) := by decide +kernel
theorem dL_law_1196 : decode cL_law 1196 = .ok (.aload_n 0, 1) := by decide +kernel
theorem dL_law_1197 : decode cL_law 1197 = .ok (.iload 5, 2) := by decide +kernel
theorem dL_law_1199 : decode cL_law 1199 = .ok (.iconst 2, 1) := by decide +kernel
theorem dL_law_1200 : decode cL_law 1200 = .ok (.iadd, 1) := by decide +kernel
theorem dL_law_1201 : decode cL_law 1201 = .ok (.iaload, 1) := by decide +kernel
theorem dL_law_1202 : decode cL_law 1202 = .ok (.ifCond .eq 7, 3) := by decide +kernel
theorem dL_law_1205 : decode cL_law 1205 = .ok (.iconst 1, 1) := by decide +kernel
theorem dL_law_1206 : decode cL_law 1206 = .ok (.goto 4, 3) := by decide +kernel
theorem dL_law_1209 : decode cL_law 1209 = .ok (.iconst 0, 1) := by decide +kernel
theorem dL_law_1210 : decode cL_law 1210 = .ok (.invokevirtual 246, 3) := by decide +kernel
theorem dL_law_1213 : decode cL_law 1213 = .ok (.istore 7, 2) := by decide +kernel
theorem dL_law_1215 : decode cL_law 1215 = .ok (.goto 604, 3) := by decide +kernel
theorem dL_law_1218 : decode cL_law 1218 = .ok (.aload_n 1, 1) := by decide +kernel
theorem dL_law_1219 : decode cL_law 1219 = .ok (.aload_n 0, 1) := by decide +kernel
theorem dL_law_1220 : decode cL_law 1220 = .ok (.iload 5, 2) := by decide +kernel
theorem dL_law_1222 : decode cL_law 1222 = .ok (.iconst 1, 1) := by decide +kernel
theorem dL_law_1223 : decode cL_law 1223 = .ok (.iadd, 1) := by decide +kernel
theorem dL_law_1224 : decode cL_law 1224 = .ok (.iaload, 1) := by decide +kernel
theorem dL_law_1225 : decode cL_law 1225 = .ok (.aload_n 0, 1) := by decide +kernel
theorem dL_law_1226 : decode cL_law 1226 = .ok (.iload 5, 2) := by decide +kernel
theorem dL_law_1228 : decode cL_law 1228 = .ok (.iconst 2, 1) := by decide +kernel
theorem dL_law_1229 : decode cL_law 1229 = .ok (.iadd, 1) := by decide +kernel
theorem dL_law_1230 : decode cL_law 1230 = .ok (.iaload, 1) := by decide +kernel
theorem dL_law_1231 : decode cL_law 1231 = .ok (.aload_n 0, 1) := by decide +kernel
theorem dL_law_1232 : decode cL_law 1232 = .ok (.iload 5, 2) := by decide +kernel
theorem dL_law_1234 : decode cL_law 1234 = .ok (.iconst 3, 1) := by decide +kernel
theorem dL_law_1235 : decode cL_law 1235 = .ok (.iadd, 1) := by decide +kernel
theorem dL_law_1236 : decode cL_law 1236 = .ok (.iaload, 1) := by decide +kernel
theorem dL_law_1237 : decode cL_law 1237 = .ok (.aload_n 3, 1) := by decide +kernel
theorem dL_law_1238 : decode cL_law 1238 = .ok (.invokestatic 247, 3) := by decide +kernel
theorem dL_law_1241 : decode cL_law 1241 = .ok (.istore 6, 2) := by decide +kernel
theorem dL_law_1243 : decode cL_law 1243 = .ok (.aload_n 2, 1) := by decide +kernel
theorem dL_law_1244 : decode cL_law 1244 = .ok (.aload_n 0, 1) := by decide +kernel
theorem dL_law_1245 : decode cL_law 1245 = .ok (.iload 5, 2) := by decide +kernel
theorem dL_law_1247 : decode cL_law 1247 = .ok (.iconst 1, 1) := by decide +kernel
theorem dL_law_1248 : decode cL_law 1248 = .ok (.iadd, 1) := by decide +kernel
theorem dL_law_1249 : decode cL_law 1249 = .ok (.iaload, 1) := by decide +kernel
theorem dL_law_1250 : decode cL_law 1250 = .ok (.aload_n 0, 1) := by decide +kernel
theorem dL_law_1251 : decode cL_law 1251 = .ok (.iload 5, 2) := by decide +kernel
theorem dL_law_1253 : decode cL_law 1253 = .ok (.iconst 2, 1) := by decide +kernel
theorem dL_law_1254 : decode cL_law 1254 = .ok (.iadd, 1) := by decide +kernel
theorem dL_law_1255 : decode cL_law 1255 = .ok (.iaload, 1) := by decide +kernel
theorem dL_law_1256 : decode cL_law 1256 = .ok (.aload_n 0, 1) := by decide +kernel
theorem dL_law_1257 : decode cL_law 1257 = .ok (.iload 5, 2) := by decide +kernel
theorem dL_law_1259 : decode cL_law 1259 = .ok (.iconst 3, 1) := by decide +kernel
theorem dL_law_1260 : decode cL_law 1260 = .ok (.iadd, 1) := by decide +kernel
theorem dL_law_1261 : decode cL_law 1261 = .ok (.iaload, 1) := by decide +kernel
theorem dL_law_1262 : decode cL_law 1262 = .ok (.invokevirtual 249, 3) := by decide +kernel
theorem dL_law_1265 : decode cL_law 1265 = .ok (.istore 7, 2) := by decide +kernel
theorem dL_law_1267 : decode cL_law 1267 = .ok (.goto 552, 3) := by decide +kernel
theorem dL_law_1270 : decode cL_law 1270 = .ok (.aload_n 1, 1) := by decide +kernel
theorem dL_law_1271 : decode cL_law 1271 = .ok (.aload_n 0, 1) := by decide +kernel
theorem dL_law_1272 : decode cL_law 1272 = .ok (.iload 5, 2) := by decide +kernel
theorem dL_law_1274 : decode cL_law 1274 = .ok (.iconst 1, 1) := by decide +kernel
theorem dL_law_1275 : decode cL_law 1275 = .ok (.iadd, 1) := by decide +kernel
theorem dL_law_1276 : decode cL_law 1276 = .ok (.iaload, 1) := by decide +kernel
theorem dL_law_1277 : decode cL_law 1277 = .ok (.aload_n 3, 1) := by decide +kernel
theorem dL_law_1278 : decode cL_law 1278 = .ok (.invokestatic 250, 3) := by decide +kernel
theorem dL_law_1281 : decode cL_law 1281 = .ok (.istore 6, 2) := by decide +kernel
theorem dL_law_1283 : decode cL_law 1283 = .ok (.aload_n 2, 1) := by decide +kernel
theorem dL_law_1284 : decode cL_law 1284 = .ok (.aload_n 0, 1) := by decide +kernel
theorem dL_law_1285 : decode cL_law 1285 = .ok (.iload 5, 2) := by decide +kernel
theorem dL_law_1287 : decode cL_law 1287 = .ok (.iconst 1, 1) := by decide +kernel
theorem dL_law_1288 : decode cL_law 1288 = .ok (.iadd, 1) := by decide +kernel
theorem dL_law_1289 : decode cL_law 1289 = .ok (.iaload, 1) := by decide +kernel
theorem dL_law_1290 : decode cL_law 1290 = .ok (.invokevirtual 252, 3) := by decide +kernel
theorem dL_law_1293 : decode cL_law 1293 = .ok (.istore 7, 2) := by decide +kernel
theorem dL_law_1295 : decode cL_law 1295 = .ok (.goto 524, 3) := by decide +kernel
theorem dL_law_1298 : decode cL_law 1298 = .ok (.aload_n 1, 1) := by decide +kernel
theorem dL_law_1299 : decode cL_law 1299 = .ok (.aload_n 0, 1) := by decide +kernel
theorem dL_law_1300 : decode cL_law 1300 = .ok (.iload 5, 2) := by decide +kernel
theorem dL_law_1302 : decode cL_law 1302 = .ok (.iconst 1, 1) := by decide +kernel
theorem dL_law_1303 : decode cL_law 1303 = .ok (.iadd, 1) := by decide +kernel
theorem dL_law_1304 : decode cL_law 1304 = .ok (.iaload, 1) := by decide +kernel
theorem dL_law_1305 : decode cL_law 1305 = .ok (.aload_n 0, 1) := by decide +kernel
theorem dL_law_1306 : decode cL_law 1306 = .ok (.iload 5, 2) := by decide +kernel
theorem dL_law_1308 : decode cL_law 1308 = .ok (.iconst 2, 1) := by decide +kernel
theorem dL_law_1309 : decode cL_law 1309 = .ok (.iadd, 1) := by decide +kernel
theorem dL_law_1310 : decode cL_law 1310 = .ok (.iaload, 1) := by decide +kernel
theorem dL_law_1311 : decode cL_law 1311 = .ok (.aload_n 3, 1) := by decide +kernel
theorem dL_law_1312 : decode cL_law 1312 = .ok (.invokestatic 253, 3) := by decide +kernel
theorem dL_law_1315 : decode cL_law 1315 = .ok (.istore 6, 2) := by decide +kernel
theorem dL_law_1317 : decode cL_law 1317 = .ok (.aload_n 2, 1) := by decide +kernel
theorem dL_law_1318 : decode cL_law 1318 = .ok (.aload_n 0, 1) := by decide +kernel
theorem dL_law_1319 : decode cL_law 1319 = .ok (.iload 5, 2) := by decide +kernel
theorem dL_law_1321 : decode cL_law 1321 = .ok (.iconst 1, 1) := by decide +kernel
theorem dL_law_1322 : decode cL_law 1322 = .ok (.iadd, 1) := by decide +kernel
theorem dL_law_1323 : decode cL_law 1323 = .ok (.iaload, 1) := by decide +kernel
theorem dL_law_1324 : decode cL_law 1324 = .ok (.aload_n 0, 1) := by decide +kernel
theorem dL_law_1325 : decode cL_law 1325 = .ok (.iload 5, 2) := by decide +kernel
theorem dL_law_1327 : decode cL_law 1327 = .ok (.iconst 2, 1) := by decide +kernel
theorem dL_law_1328 : decode cL_law 1328 = .ok (.iadd, 1) := by decide +kernel
theorem dL_law_1329 : decode cL_law 1329 = .ok (.iaload, 1) := by decide +kernel
theorem dL_law_1330 : decode cL_law 1330 = .ok (.invokevirtual 255, 3) := by decide +kernel
theorem dL_law_1333 : decode cL_law 1333 = .ok (.istore 7, 2) := by decide +kernel
theorem dL_law_1335 : decode cL_law 1335 = .ok (.goto 484, 3) := by decide +kernel
theorem dL_law_1338 : decode cL_law 1338 = .ok (.aload_n 1, 1) := by decide +kernel
theorem dL_law_1339 : decode cL_law 1339 = .ok (.aload_n 0, 1) := by decide +kernel
theorem dL_law_1340 : decode cL_law 1340 = .ok (.iload 5, 2) := by decide +kernel
theorem dL_law_1342 : decode cL_law 1342 = .ok (.iconst 1, 1) := by decide +kernel
theorem dL_law_1343 : decode cL_law 1343 = .ok (.iadd, 1) := by decide +kernel
theorem dL_law_1344 : decode cL_law 1344 = .ok (.iaload, 1) := by decide +kernel
theorem dL_law_1345 : decode cL_law 1345 = .ok (.aload_n 3, 1) := by decide +kernel
theorem dL_law_1346 : decode cL_law 1346 = .ok (.invokestatic 256, 3) := by decide +kernel
theorem dL_law_1349 : decode cL_law 1349 = .ok (.istore 6, 2) := by decide +kernel
theorem dL_law_1351 : decode cL_law 1351 = .ok (.aload_n 2, 1) := by decide +kernel
theorem dL_law_1352 : decode cL_law 1352 = .ok (.aload_n 0, 1) := by decide +kernel
theorem dL_law_1353 : decode cL_law 1353 = .ok (.iload 5, 2) := by decide +kernel
theorem dL_law_1355 : decode cL_law 1355 = .ok (.iconst 1, 1) := by decide +kernel
theorem dL_law_1356 : decode cL_law 1356 = .ok (.iadd, 1) := by decide +kernel
theorem dL_law_1357 : decode cL_law 1357 = .ok (.iaload, 1) := by decide +kernel
theorem dL_law_1358 : decode cL_law 1358 = .ok (.invokevirtual 258, 3) := by decide +kernel
theorem dL_law_1361 : decode cL_law 1361 = .ok (.istore 7, 2) := by decide +kernel
theorem dL_law_1363 : decode cL_law 1363 = .ok (.goto 456, 3) := by decide +kernel
theorem dL_law_1366 : decode cL_law 1366 = .ok (.aload_n 1, 1) := by decide +kernel
theorem dL_law_1367 : decode cL_law 1367 = .ok (.aload_n 0, 1) := by decide +kernel
theorem dL_law_1368 : decode cL_law 1368 = .ok (.iload 5, 2) := by decide +kernel
theorem dL_law_1370 : decode cL_law 1370 = .ok (.iconst 1, 1) := by decide +kernel
theorem dL_law_1371 : decode cL_law 1371 = .ok (.iadd, 1) := by decide +kernel
theorem dL_law_1372 : decode cL_law 1372 = .ok (.iaload, 1) := by decide +kernel
theorem dL_law_1373 : decode cL_law 1373 = .ok (.aload_n 3, 1) := by decide +kernel
theorem dL_law_1374 : decode cL_law 1374 = .ok (.invokestatic 259, 3) := by decide +kernel
theorem dL_law_1377 : decode cL_law 1377 = .ok (.istore 6, 2) := by decide +kernel
theorem dL_law_1379 : decode cL_law 1379 = .ok (.aload_n 2, 1) := by decide +kernel
theorem dL_law_1380 : decode cL_law 1380 = .ok (.aload_n 0, 1) := by decide +kernel
theorem dL_law_1381 : decode cL_law 1381 = .ok (.iload 5, 2) := by decide +kernel
theorem dL_law_1383 : decode cL_law 1383 = .ok (.iconst 1, 1) := by decide +kernel
theorem dL_law_1384 : decode cL_law 1384 = .ok (.iadd, 1) := by decide +kernel
theorem dL_law_1385 : decode cL_law 1385 = .ok (.iaload, 1) := by decide +kernel
theorem dL_law_1386 : decode cL_law 1386 = .ok (.invokevirtual 261, 3) := by decide +kernel
theorem dL_law_1389 : decode cL_law 1389 = .ok (.istore 7, 2) := by decide +kernel
theorem dL_law_1391 : decode cL_law 1391 = .ok (.goto 428, 3) := by decide +kernel
theorem dL_law_1394 : decode cL_law 1394 = .ok (.aload_n 1, 1) := by decide +kernel
theorem dL_law_1395 : decode cL_law 1395 = .ok (.aload_n 0, 1) := by decide +kernel
theorem dL_law_1396 : decode cL_law 1396 = .ok (.iload 5, 2) := by decide +kernel
theorem dL_law_1398 : decode cL_law 1398 = .ok (.iconst 1, 1) := by decide +kernel
theorem dL_law_1399 : decode cL_law 1399 = .ok (.iadd, 1) := by decide +kernel
theorem dL_law_1400 : decode cL_law 1400 = .ok (.iaload, 1) := by decide +kernel
theorem dL_law_1401 : decode cL_law 1401 = .ok (.aload_n 3, 1) := by decide +kernel
theorem dL_law_1402 : decode cL_law 1402 = .ok (.invokestatic 262, 3) := by decide +kernel
theorem dL_law_1405 : decode cL_law 1405 = .ok (.istore 6, 2) := by decide +kernel
theorem dL_law_1407 : decode cL_law 1407 = .ok (.aload_n 2, 1) := by decide +kernel
theorem dL_law_1408 : decode cL_law 1408 = .ok (.aload_n 0, 1) := by decide +kernel
theorem dL_law_1409 : decode cL_law 1409 = .ok (.iload 5, 2) := by decide +kernel
theorem dL_law_1411 : decode cL_law 1411 = .ok (.iconst 1, 1) := by decide +kernel
theorem dL_law_1412 : decode cL_law 1412 = .ok (.iadd, 1) := by decide +kernel
theorem dL_law_1413 : decode cL_law 1413 = .ok (.iaload, 1) := by decide +kernel
theorem dL_law_1414 : decode cL_law 1414 = .ok (.invokevirtual 264, 3) := by decide +kernel
theorem dL_law_1417 : decode cL_law 1417 = .ok (.istore 7, 2) := by decide +kernel
theorem dL_law_1419 : decode cL_law 1419 = .ok (.goto 400, 3) := by decide +kernel
theorem dL_law_1422 : decode cL_law 1422 = .ok (.aload_n 1, 1) := by decide +kernel
theorem dL_law_1423 : decode cL_law 1423 = .ok (.aload_n 0, 1) := by decide +kernel
theorem dL_law_1424 : decode cL_law 1424 = .ok (.iload 5, 2) := by decide +kernel
theorem dL_law_1426 : decode cL_law 1426 = .ok (.iconst 1, 1) := by decide +kernel
theorem dL_law_1427 : decode cL_law 1427 = .ok (.iadd, 1) := by decide +kernel
theorem dL_law_1428 : decode cL_law 1428 = .ok (.iaload, 1) := by decide +kernel
theorem dL_law_1429 : decode cL_law 1429 = .ok (.aload_n 3, 1) := by decide +kernel
theorem dL_law_1430 : decode cL_law 1430 = .ok (.invokestatic 265, 3) := by decide +kernel
theorem dL_law_1433 : decode cL_law 1433 = .ok (.istore 6, 2) := by decide +kernel
theorem dL_law_1435 : decode cL_law 1435 = .ok (.aload_n 2, 1) := by decide +kernel
theorem dL_law_1436 : decode cL_law 1436 = .ok (.aload_n 0, 1) := by decide +kernel
theorem dL_law_1437 : decode cL_law 1437 = .ok (.iload 5, 2) := by decide +kernel
theorem dL_law_1439 : decode cL_law 1439 = .ok (.iconst 1, 1) := by decide +kernel
theorem dL_law_1440 : decode cL_law 1440 = .ok (.iadd, 1) := by decide +kernel
theorem dL_law_1441 : decode cL_law 1441 = .ok (.iaload, 1) := by decide +kernel
theorem dL_law_1442 : decode cL_law 1442 = .ok (.invokevirtual 267, 3) := by decide +kernel
theorem dL_law_1445 : decode cL_law 1445 = .ok (.istore 7, 2) := by decide +kernel
theorem dL_law_1447 : decode cL_law 1447 = .ok (.goto 372, 3) := by decide +kernel
theorem dL_law_1450 : decode cL_law 1450 = .ok (.aload_n 1, 1) := by decide +kernel
theorem dL_law_1451 : decode cL_law 1451 = .ok (.aload_n 0, 1) := by decide +kernel
theorem dL_law_1452 : decode cL_law 1452 = .ok (.iload 5, 2) := by decide +kernel
theorem dL_law_1454 : decode cL_law 1454 = .ok (.iconst 1, 1) := by decide +kernel
theorem dL_law_1455 : decode cL_law 1455 = .ok (.iadd, 1) := by decide +kernel
theorem dL_law_1456 : decode cL_law 1456 = .ok (.iaload, 1) := by decide +kernel
theorem dL_law_1457 : decode cL_law 1457 = .ok (.aload_n 3, 1) := by decide +kernel
theorem dL_law_1458 : decode cL_law 1458 = .ok (.invokestatic 268, 3) := by decide +kernel
theorem dL_law_1461 : decode cL_law 1461 = .ok (.istore 6, 2) := by decide +kernel
theorem dL_law_1463 : decode cL_law 1463 = .ok (.aload_n 2, 1) := by decide +kernel
theorem dL_law_1464 : decode cL_law 1464 = .ok (.aload_n 0, 1) := by decide +kernel
theorem dL_law_1465 : decode cL_law 1465 = .ok (.iload 5, 2) := by decide +kernel
theorem dL_law_1467 : decode cL_law 1467 = .ok (.iconst 1, 1) := by decide +kernel
theorem dL_law_1468 : decode cL_law 1468 = .ok (.iadd, 1) := by decide +kernel
theorem dL_law_1469 : decode cL_law 1469 = .ok (.iaload, 1) := by decide +kernel
theorem dL_law_1470 : decode cL_law 1470 = .ok (.invokevirtual 270, 3) := by decide +kernel
theorem dL_law_1473 : decode cL_law 1473 = .ok (.istore 7, 2) := by decide +kernel
theorem dL_law_1475 : decode cL_law 1475 = .ok (.goto 344, 3) := by decide +kernel
theorem dL_law_1478 : decode cL_law 1478 = .ok (.aload_n 1, 1) := by decide +kernel
theorem dL_law_1479 : decode cL_law 1479 = .ok (.aload_n 0, 1) := by decide +kernel
theorem dL_law_1480 : decode cL_law 1480 = .ok (.iload 5, 2) := by decide +kernel
theorem dL_law_1482 : decode cL_law 1482 = .ok (.iconst 1, 1) := by decide +kernel
theorem dL_law_1483 : decode cL_law 1483 = .ok (.iadd, 1) := by decide +kernel
theorem dL_law_1484 : decode cL_law 1484 = .ok (.iaload, 1) := by decide +kernel
theorem dL_law_1485 : decode cL_law 1485 = .ok (.aload_n 3, 1) := by decide +kernel
theorem dL_law_1486 : decode cL_law 1486 = .ok (.invokestatic 271, 3) := by decide +kernel
theorem dL_law_1489 : decode cL_law 1489 = .ok (.istore 6, 2) := by decide +kernel
theorem dL_law_1491 : decode cL_law 1491 = .ok (.aload_n 2, 1) := by decide +kernel
theorem dL_law_1492 : decode cL_law 1492 = .ok (.aload_n 0, 1) := by decide +kernel
theorem dL_law_1493 : decode cL_law 1493 = .ok (.iload 5, 2) := by decide +kernel
theorem dL_law_1495 : decode cL_law 1495 = .ok (.iconst 1, 1) := by decide +kernel
theorem dL_law_1496 : decode cL_law 1496 = .ok (.iadd, 1) := by decide +kernel
theorem dL_law_1497 : decode cL_law 1497 = .ok (.iaload, 1) := by decide +kernel
theorem dL_law_1498 : decode cL_law 1498 = .ok (.invokevirtual 273, 3) := by decide +kernel
theorem dL_law_1501 : decode cL_law 1501 = .ok (.istore 7, 2) := by decide +kernel
theorem dL_law_1503 : decode cL_law 1503 = .ok (.goto 316, 3) := by decide +kernel
theorem dL_law_1506 : decode cL_law 1506 = .ok (.aload_n 1, 1) := by decide +kernel
theorem dL_law_1507 : decode cL_law 1507 = .ok (.invokevirtual 274, 3) := by decide +kernel
theorem dL_law_1510 : decode cL_law 1510 = .ok (.pop, 1) := by decide +kernel
theorem dL_law_1511 : decode cL_law 1511 = .ok (.aload_n 2, 1) := by decide +kernel
theorem dL_law_1512 : decode cL_law 1512 = .ok (.invokevirtual 277, 3) := by decide +kernel
theorem dL_law_1515 : decode cL_law 1515 = .ok (.pop, 1) := by decide +kernel
theorem dL_law_1516 : decode cL_law 1516 = .ok (.goto 303, 3) := by decide +kernel
theorem dL_law_1519 : decode cL_law 1519 = .ok (.aload_n 1, 1) := by decide +kernel
theorem dL_law_1520 : decode cL_law 1520 = .ok (.aload_n 0, 1) := by decide +kernel
theorem dL_law_1521 : decode cL_law 1521 = .ok (.iload 5, 2) := by decide +kernel
theorem dL_law_1523 : decode cL_law 1523 = .ok (.iconst 1, 1) := by decide +kernel
theorem dL_law_1524 : decode cL_law 1524 = .ok (.iadd, 1) := by decide +kernel
theorem dL_law_1525 : decode cL_law 1525 = .ok (.iaload, 1) := by decide +kernel
theorem dL_law_1526 : decode cL_law 1526 = .ok (.aload_n 3, 1) := by decide +kernel
theorem dL_law_1527 : decode cL_law 1527 = .ok (.invokestatic 278, 3) := by decide +kernel
theorem dL_law_1530 : decode cL_law 1530 = .ok (.istore 6, 2) := by decide +kernel
theorem dL_law_1532 : decode cL_law 1532 = .ok (.aload_n 2, 1) := by decide +kernel
theorem dL_law_1533 : decode cL_law 1533 = .ok (.aload_n 0, 1) := by decide +kernel
theorem dL_law_1534 : decode cL_law 1534 = .ok (.iload 5, 2) := by decide +kernel
theorem dL_law_1536 : decode cL_law 1536 = .ok (.iconst 1, 1) := by decide +kernel
theorem dL_law_1537 : decode cL_law 1537 = .ok (.iadd, 1) := by decide +kernel
theorem dL_law_1538 : decode cL_law 1538 = .ok (.iaload, 1) := by decide +kernel
theorem dL_law_1539 : decode cL_law 1539 = .ok (.invokevirtual 280, 3) := by decide +kernel
theorem dL_law_1542 : decode cL_law 1542 = .ok (.istore 7, 2) := by decide +kernel
theorem dL_law_1544 : decode cL_law 1544 = .ok (.goto 275, 3) := by decide +kernel
theorem dL_law_1547 : decode cL_law 1547 = .ok (.aload_n 1, 1) := by decide +kernel
theorem dL_law_1548 : decode cL_law 1548 = .ok (.aload_n 0, 1) := by decide +kernel
theorem dL_law_1549 : decode cL_law 1549 = .ok (.iload 5, 2) := by decide +kernel
theorem dL_law_1551 : decode cL_law 1551 = .ok (.iconst 1, 1) := by decide +kernel
theorem dL_law_1552 : decode cL_law 1552 = .ok (.iadd, 1) := by decide +kernel
theorem dL_law_1553 : decode cL_law 1553 = .ok (.iaload, 1) := by decide +kernel
theorem dL_law_1554 : decode cL_law 1554 = .ok (.aload_n 3, 1) := by decide +kernel
theorem dL_law_1555 : decode cL_law 1555 = .ok (.invokestatic 281, 3) := by decide +kernel
theorem dL_law_1558 : decode cL_law 1558 = .ok (.istore 6, 2) := by decide +kernel
theorem dL_law_1560 : decode cL_law 1560 = .ok (.aload_n 2, 1) := by decide +kernel
theorem dL_law_1561 : decode cL_law 1561 = .ok (.aload_n 0, 1) := by decide +kernel
theorem dL_law_1562 : decode cL_law 1562 = .ok (.iload 5, 2) := by decide +kernel
theorem dL_law_1564 : decode cL_law 1564 = .ok (.iconst 1, 1) := by decide +kernel
theorem dL_law_1565 : decode cL_law 1565 = .ok (.iadd, 1) := by decide +kernel
theorem dL_law_1566 : decode cL_law 1566 = .ok (.iaload, 1) := by decide +kernel
theorem dL_law_1567 : decode cL_law 1567 = .ok (.invokevirtual 283, 3) := by decide +kernel
theorem dL_law_1570 : decode cL_law 1570 = .ok (.istore 7, 2) := by decide +kernel
theorem dL_law_1572 : decode cL_law 1572 = .ok (.goto 247, 3) := by decide +kernel
theorem dL_law_1575 : decode cL_law 1575 = .ok (.aload_n 1, 1) := by decide +kernel
theorem dL_law_1576 : decode cL_law 1576 = .ok (.aload_n 0, 1) := by decide +kernel
theorem dL_law_1577 : decode cL_law 1577 = .ok (.iload 5, 2) := by decide +kernel
theorem dL_law_1579 : decode cL_law 1579 = .ok (.iconst 1, 1) := by decide +kernel
theorem dL_law_1580 : decode cL_law 1580 = .ok (.iadd, 1) := by decide +kernel
theorem dL_law_1581 : decode cL_law 1581 = .ok (.iaload, 1) := by decide +kernel
theorem dL_law_1582 : decode cL_law 1582 = .ok (.aload_n 3, 1) := by decide +kernel
theorem dL_law_1583 : decode cL_law 1583 = .ok (.invokestatic 284, 3) := by decide +kernel
theorem dL_law_1586 : decode cL_law 1586 = .ok (.istore 6, 2) := by decide +kernel
theorem dL_law_1588 : decode cL_law 1588 = .ok (.aload_n 2, 1) := by decide +kernel
theorem dL_law_1589 : decode cL_law 1589 = .ok (.aload_n 0, 1) := by decide +kernel
theorem dL_law_1590 : decode cL_law 1590 = .ok (.iload 5, 2) := by decide +kernel
theorem dL_law_1592 : decode cL_law 1592 = .ok (.iconst 1, 1) := by decide +kernel
theorem dL_law_1593 : decode cL_law 1593 = .ok (.iadd, 1) := by decide +kernel
theorem dL_law_1594 : decode cL_law 1594 = .ok (.iaload, 1) := by decide +kernel
theorem dL_law_1595 : decode cL_law 1595 = .ok (.invokevirtual 286, 3) := by decide +kernel
theorem dL_law_1598 : decode cL_law 1598 = .ok (.istore 7, 2) := by decide +kernel
theorem dL_law_1600 : decode cL_law 1600 = .ok (.goto 219, 3) := by decide +kernel
theorem dL_law_1603 : decode cL_law 1603 = .ok (.aload_n 1, 1) := by decide +kernel
theorem dL_law_1604 : decode cL_law 1604 = .ok (.aload_n 0, 1) := by decide +kernel
theorem dL_law_1605 : decode cL_law 1605 = .ok (.iload 5, 2) := by decide +kernel
theorem dL_law_1607 : decode cL_law 1607 = .ok (.iconst 1, 1) := by decide +kernel
theorem dL_law_1608 : decode cL_law 1608 = .ok (.iadd, 1) := by decide +kernel
theorem dL_law_1609 : decode cL_law 1609 = .ok (.iaload, 1) := by decide +kernel
theorem dL_law_1610 : decode cL_law 1610 = .ok (.aload_n 3, 1) := by decide +kernel
theorem dL_law_1611 : decode cL_law 1611 = .ok (.invokestatic 287, 3) := by decide +kernel
theorem dL_law_1614 : decode cL_law 1614 = .ok (.istore 6, 2) := by decide +kernel
theorem dL_law_1616 : decode cL_law 1616 = .ok (.aload_n 2, 1) := by decide +kernel
theorem dL_law_1617 : decode cL_law 1617 = .ok (.aload_n 0, 1) := by decide +kernel
theorem dL_law_1618 : decode cL_law 1618 = .ok (.iload 5, 2) := by decide +kernel
theorem dL_law_1620 : decode cL_law 1620 = .ok (.iconst 1, 1) := by decide +kernel
theorem dL_law_1621 : decode cL_law 1621 = .ok (.iadd, 1) := by decide +kernel
theorem dL_law_1622 : decode cL_law 1622 = .ok (.iaload, 1) := by decide +kernel
theorem dL_law_1623 : decode cL_law 1623 = .ok (.invokevirtual 289, 3) := by decide +kernel
theorem dL_law_1626 : decode cL_law 1626 = .ok (.istore 7, 2) := by decide +kernel
theorem dL_law_1628 : decode cL_law 1628 = .ok (.goto 191, 3) := by decide +kernel
theorem dL_law_1631 : decode cL_law 1631 = .ok (.aload_n 1, 1) := by decide +kernel
theorem dL_law_1632 : decode cL_law 1632 = .ok (.aload_n 0, 1) := by decide +kernel
theorem dL_law_1633 : decode cL_law 1633 = .ok (.iload 5, 2) := by decide +kernel
theorem dL_law_1635 : decode cL_law 1635 = .ok (.iconst 1, 1) := by decide +kernel
theorem dL_law_1636 : decode cL_law 1636 = .ok (.iadd, 1) := by decide +kernel
theorem dL_law_1637 : decode cL_law 1637 = .ok (.iaload, 1) := by decide +kernel
theorem dL_law_1638 : decode cL_law 1638 = .ok (.invokevirtual 290, 3) := by decide +kernel
theorem dL_law_1641 : decode cL_law 1641 = .ok (.pop, 1) := by decide +kernel
theorem dL_law_1642 : decode cL_law 1642 = .ok (.aload_n 2, 1) := by decide +kernel
theorem dL_law_1643 : decode cL_law 1643 = .ok (.aload_n 0, 1) := by decide +kernel
theorem dL_law_1644 : decode cL_law 1644 = .ok (.iload 5, 2) := by decide +kernel
theorem dL_law_1646 : decode cL_law 1646 = .ok (.iconst 1, 1) := by decide +kernel
theorem dL_law_1647 : decode cL_law 1647 = .ok (.iadd, 1) := by decide +kernel
theorem dL_law_1648 : decode cL_law 1648 = .ok (.iaload, 1) := by decide +kernel
theorem dL_law_1649 : decode cL_law 1649 = .ok (.invokevirtual 293, 3) := by decide +kernel
theorem dL_law_1652 : decode cL_law 1652 = .ok (.pop, 1) := by decide +kernel
theorem dL_law_1653 : decode cL_law 1653 = .ok (.goto 166, 3) := by decide +kernel
theorem dL_law_1656 : decode cL_law 1656 = .ok (.aload_n 1, 1) := by decide +kernel
theorem dL_law_1657 : decode cL_law 1657 = .ok (.aload_n 0, 1) := by decide +kernel
theorem dL_law_1658 : decode cL_law 1658 = .ok (.iload 5, 2) := by decide +kernel
theorem dL_law_1660 : decode cL_law 1660 = .ok (.iconst 1, 1) := by decide +kernel
theorem dL_law_1661 : decode cL_law 1661 = .ok (.iadd, 1) := by decide +kernel
theorem dL_law_1662 : decode cL_law 1662 = .ok (.iaload, 1) := by decide +kernel
theorem dL_law_1663 : decode cL_law 1663 = .ok (.aload_n 3, 1) := by decide +kernel
theorem dL_law_1664 : decode cL_law 1664 = .ok (.invokestatic 294, 3) := by decide +kernel
theorem dL_law_1667 : decode cL_law 1667 = .ok (.istore 6, 2) := by decide +kernel
theorem dL_law_1669 : decode cL_law 1669 = .ok (.aload_n 2, 1) := by decide +kernel
theorem dL_law_1670 : decode cL_law 1670 = .ok (.aload_n 0, 1) := by decide +kernel
theorem dL_law_1671 : decode cL_law 1671 = .ok (.iload 5, 2) := by decide +kernel
theorem dL_law_1673 : decode cL_law 1673 = .ok (.iconst 1, 1) := by decide +kernel
theorem dL_law_1674 : decode cL_law 1674 = .ok (.iadd, 1) := by decide +kernel
theorem dL_law_1675 : decode cL_law 1675 = .ok (.iaload, 1) := by decide +kernel
theorem dL_law_1676 : decode cL_law 1676 = .ok (.invokevirtual 296, 3) := by decide +kernel
theorem dL_law_1679 : decode cL_law 1679 = .ok (.istore 7, 2) := by decide +kernel
theorem dL_law_1681 : decode cL_law 1681 = .ok (.goto 138, 3) := by decide +kernel
theorem dL_law_1684 : decode cL_law 1684 = .ok (.aload_n 1, 1) := by decide +kernel
theorem dL_law_1685 : decode cL_law 1685 = .ok (.invokevirtual 297, 3) := by decide +kernel
theorem dL_law_1688 : decode cL_law 1688 = .ok (.pop, 1) := by decide +kernel
theorem dL_law_1689 : decode cL_law 1689 = .ok (.aload_n 2, 1) := by decide +kernel
theorem dL_law_1690 : decode cL_law 1690 = .ok (.invokevirtual 300, 3) := by decide +kernel
theorem dL_law_1693 : decode cL_law 1693 = .ok (.pop, 1) := by decide +kernel
theorem dL_law_1694 : decode cL_law 1694 = .ok (.goto 125, 3) := by decide +kernel
theorem dL_law_1697 : decode cL_law 1697 = .ok (.aload_n 1, 1) := by decide +kernel
theorem dL_law_1698 : decode cL_law 1698 = .ok (.aload_n 0, 1) := by decide +kernel
theorem dL_law_1699 : decode cL_law 1699 = .ok (.iload 5, 2) := by decide +kernel
theorem dL_law_1701 : decode cL_law 1701 = .ok (.iconst 1, 1) := by decide +kernel
theorem dL_law_1702 : decode cL_law 1702 = .ok (.iadd, 1) := by decide +kernel
theorem dL_law_1703 : decode cL_law 1703 = .ok (.iaload, 1) := by decide +kernel
theorem dL_law_1704 : decode cL_law 1704 = .ok (.aload_n 3, 1) := by decide +kernel
theorem dL_law_1705 : decode cL_law 1705 = .ok (.invokestatic 301, 3) := by decide +kernel
theorem dL_law_1708 : decode cL_law 1708 = .ok (.istore 6, 2) := by decide +kernel
theorem dL_law_1710 : decode cL_law 1710 = .ok (.aload_n 2, 1) := by decide +kernel
theorem dL_law_1711 : decode cL_law 1711 = .ok (.aload_n 0, 1) := by decide +kernel
theorem dL_law_1712 : decode cL_law 1712 = .ok (.iload 5, 2) := by decide +kernel
theorem dL_law_1714 : decode cL_law 1714 = .ok (.iconst 1, 1) := by decide +kernel
theorem dL_law_1715 : decode cL_law 1715 = .ok (.iadd, 1) := by decide +kernel
theorem dL_law_1716 : decode cL_law 1716 = .ok (.iaload, 1) := by decide +kernel
theorem dL_law_1717 : decode cL_law 1717 = .ok (.invokevirtual 303, 3) := by decide +kernel
theorem dL_law_1720 : decode cL_law 1720 = .ok (.istore 7, 2) := by decide +kernel
theorem dL_law_1722 : decode cL_law 1722 = .ok (.goto 97, 3) := by decide +kernel
theorem dL_law_1725 : decode cL_law 1725 = .ok (.aload_n 1, 1) := by decide +kernel
theorem dL_law_1726 : decode cL_law 1726 = .ok (.aload_n 0, 1) := by decide +kernel
theorem dL_law_1727 : decode cL_law 1727 = .ok (.iload 5, 2) := by decide +kernel
theorem dL_law_1729 : decode cL_law 1729 = .ok (.iconst 1, 1) := by decide +kernel
theorem dL_law_1730 : decode cL_law 1730 = .ok (.iadd, 1) := by decide +kernel
theorem dL_law_1731 : decode cL_law 1731 = .ok (.iaload, 1) := by decide +kernel
theorem dL_law_1732 : decode cL_law 1732 = .ok (.invokevirtual 304, 3) := by decide +kernel
theorem dL_law_1735 : decode cL_law 1735 = .ok (.pop, 1) := by decide +kernel
theorem dL_law_1736 : decode cL_law 1736 = .ok (.aload_n 2, 1) := by decide +kernel
theorem dL_law_1737 : decode cL_law 1737 = .ok (.aload_n 0, 1) := by decide +kernel
theorem dL_law_1738 : decode cL_law 1738 = .ok (.iload 5, 2) := by decide +kernel
theorem dL_law_1740 : decode cL_law 1740 = .ok (.iconst 1, 1) := by decide +kernel
theorem dL_law_1741 : decode cL_law 1741 = .ok (.iadd, 1) := by decide +kernel
theorem dL_law_1742 : decode cL_law 1742 = .ok (.iaload, 1) := by decide +kernel
theorem dL_law_1743 : decode cL_law 1743 = .ok (.invokevirtual 307, 3) := by decide +kernel
theorem dL_law_1746 : decode cL_law 1746 = .ok (.pop, 1) := by decide +kernel
theorem dL_law_1747 : decode cL_law 1747 = .ok (.goto 72, 3) := by decide +kernel
theorem dL_law_1750 : decode cL_law 1750 = .ok (.aload_n 1, 1) := by decide +kernel
theorem dL_law_1751 : decode cL_law 1751 = .ok (.invokevirtual 308, 3) := by decide +kernel
theorem dL_law_1754 : decode cL_law 1754 = .ok (.pop, 1) := by decide +kernel
theorem dL_law_1755 : decode cL_law 1755 = .ok (.aload_n 2, 1) := by decide +kernel
theorem dL_law_1756 : decode cL_law 1756 = .ok (.invokevirtual 311, 3) := by decide +kernel
theorem dL_law_1759 : decode cL_law 1759 = .ok (.pop, 1) := by decide +kernel
theorem dL_law_1760 : decode cL_law 1760 = .ok (.goto 59, 3) := by decide +kernel
theorem dL_law_1763 : decode cL_law 1763 = .ok (.aload_n 1, 1) := by decide +kernel
theorem dL_law_1764 : decode cL_law 1764 = .ok (.aload_n 0, 1) := by decide +kernel
theorem dL_law_1765 : decode cL_law 1765 = .ok (.iload 5, 2) := by decide +kernel
theorem dL_law_1767 : decode cL_law 1767 = .ok (.iconst 1, 1) := by decide +kernel
theorem dL_law_1768 : decode cL_law 1768 = .ok (.iadd, 1) := by decide +kernel
theorem dL_law_1769 : decode cL_law 1769 = .ok (.iaload, 1) := by decide +kernel
theorem dL_law_1770 : decode cL_law 1770 = .ok (.aload_n 3, 1) := by decide +kernel
theorem dL_law_1771 : decode cL_law 1771 = .ok (.invokestatic 312, 3) := by decide +kernel
theorem dL_law_1774 : decode cL_law 1774 = .ok (.istore 6, 2) := by decide +kernel
theorem dL_law_1776 : decode cL_law 1776 = .ok (.aload_n 2, 1) := by decide +kernel
theorem dL_law_1777 : decode cL_law 1777 = .ok (.aload_n 0, 1) := by decide +kernel
theorem dL_law_1778 : decode cL_law 1778 = .ok (.iload 5, 2) := by decide +kernel
theorem dL_law_1780 : decode cL_law 1780 = .ok (.iconst 1, 1) := by decide +kernel
theorem dL_law_1781 : decode cL_law 1781 = .ok (.iadd, 1) := by decide +kernel
theorem dL_law_1782 : decode cL_law 1782 = .ok (.iaload, 1) := by decide +kernel
theorem dL_law_1783 : decode cL_law 1783 = .ok (.invokevirtual 314, 3) := by decide +kernel
theorem dL_law_1786 : decode cL_law 1786 = .ok (.istore 7, 2) := by decide +kernel
theorem dL_law_1788 : decode cL_law 1788 = .ok (.goto 31, 3) := by decide +kernel
theorem dL_law_1791 : decode cL_law 1791 = .ok (.aload_n 1, 1) := by decide +kernel
theorem dL_law_1792 : decode cL_law 1792 = .ok (.aload_n 0, 1) := by decide +kernel
theorem dL_law_1793 : decode cL_law 1793 = .ok (.iload 5, 2) := by decide +kernel
theorem dL_law_1795 : decode cL_law 1795 = .ok (.iconst 1, 1) := by decide +kernel
theorem dL_law_1796 : decode cL_law 1796 = .ok (.iadd, 1) := by decide +kernel
theorem dL_law_1797 : decode cL_law 1797 = .ok (.iaload, 1) := by decide +kernel
theorem dL_law_1798 : decode cL_law 1798 = .ok (.aload_n 3, 1) := by decide +kernel
theorem dL_law_1799 : decode cL_law 1799 = .ok (.invokestatic 315, 3) := by decide +kernel
theorem dL_law_1802 : decode cL_law 1802 = .ok (.istore 6, 2) := by decide +kernel
theorem dL_law_1804 : decode cL_law 1804 = .ok (.aload_n 2, 1) := by decide +kernel
theorem dL_law_1805 : decode cL_law 1805 = .ok (.aload_n 0, 1) := by decide +kernel
theorem dL_law_1806 : decode cL_law 1806 = .ok (.iload 5, 2) := by decide +kernel
theorem dL_law_1808 : decode cL_law 1808 = .ok (.iconst 1, 1) := by decide +kernel
theorem dL_law_1809 : decode cL_law 1809 = .ok (.iadd, 1) := by decide +kernel
theorem dL_law_1810 : decode cL_law 1810 = .ok (.iaload, 1) := by decide +kernel
theorem dL_law_1811 : decode cL_law 1811 = .ok (.invokevirtual 317, 3) := by decide +kernel
theorem dL_law_1814 : decode cL_law 1814 = .ok (.istore 7, 2) := by decide +kernel
theorem dL_law_1816 : decode cL_law 1816 = .ok (.goto 3, 3) := by decide +kernel
theorem dL_law_268 : decode cL_law 268 = .ok (.aload_n 1, 1) := by decide +kernel
theorem dL_law_269 : decode cL_law 269 = .ok (.aload_n 0, 1) := by decide +kernel
theorem dL_law_270 : decode cL_law 270 = .ok (.iload 5, 2) := by decide +kernel
theorem dL_law_272 : decode cL_law 272 = .ok (.iconst 1, 1) := by decide +kernel
theorem dL_law_273 : decode cL_law 273 = .ok (.iadd, 1) := by decide +kernel
theorem dL_law_274 : decode cL_law 274 = .ok (.iaload, 1) := by decide +kernel
theorem dL_law_275 : decode cL_law 275 = .ok (.i2l, 1) := by decide +kernel
theorem dL_law_276 : decode cL_law 276 = .ok (.bipush 32, 2) := by decide +kernel
theorem dL_law_278 : decode cL_law 278 = .ok (.lshl, 1) := by decide +kernel
theorem dL_law_279 : decode cL_law 279 = .ok (.aload_n 0, 1) := by decide +kernel
theorem dL_law_280 : decode cL_law 280 = .ok (.iload 5, 2) := by decide +kernel
theorem dL_law_282 : decode cL_law 282 = .ok (.iconst 2, 1) := by decide +kernel
theorem dL_law_283 : decode cL_law 283 = .ok (.iadd, 1) := by decide +kernel
theorem dL_law_284 : decode cL_law 284 = .ok (.iaload, 1) := by decide +kernel
theorem dL_law_285 : decode cL_law 285 = .ok (.i2l, 1) := by decide +kernel
theorem dL_law_286 : decode cL_law 286 = .ok (.ldc2_w 130, 3) := by decide +kernel
theorem dL_law_289 : decode cL_law 289 = .ok (.land, 1) := by decide +kernel
theorem dL_law_290 : decode cL_law 290 = .ok (.lor, 1) := by decide +kernel
theorem dL_law_291 : decode cL_law 291 = .ok (.invokevirtual 132, 3) := by decide +kernel
theorem dL_law_294 : decode cL_law 294 = .ok (.pop, 1) := by decide +kernel
theorem dL_law_295 : decode cL_law 295 = .ok (.aload_n 2, 1) := by decide +kernel
theorem dL_law_296 : decode cL_law 296 = .ok (.aload_n 0, 1) := by decide +kernel
theorem dL_law_297 : decode cL_law 297 = .ok (.iload 5, 2) := by decide +kernel
theorem dL_law_299 : decode cL_law 299 = .ok (.iconst 1, 1) := by decide +kernel
theorem dL_law_300 : decode cL_law 300 = .ok (.iadd, 1) := by decide +kernel
theorem dL_law_301 : decode cL_law 301 = .ok (.iaload, 1) := by decide +kernel
theorem dL_law_302 : decode cL_law 302 = .ok (.i2l, 1) := by decide +kernel
theorem dL_law_303 : decode cL_law 303 = .ok (.bipush 32, 2) := by decide +kernel
theorem dL_law_305 : decode cL_law 305 = .ok (.lshl, 1) := by decide +kernel
theorem dL_law_306 : decode cL_law 306 = .ok (.aload_n 0, 1) := by decide +kernel
theorem dL_law_307 : decode cL_law 307 = .ok (.iload 5, 2) := by decide +kernel
theorem dL_law_309 : decode cL_law 309 = .ok (.iconst 2, 1) := by decide +kernel
theorem dL_law_310 : decode cL_law 310 = .ok (.iadd, 1) := by decide +kernel
theorem dL_law_311 : decode cL_law 311 = .ok (.iaload, 1) := by decide +kernel
theorem dL_law_312 : decode cL_law 312 = .ok (.i2l, 1) := by decide +kernel
theorem dL_law_313 : decode cL_law 313 = .ok (.ldc2_w 130, 3) := by decide +kernel
theorem dL_law_316 : decode cL_law 316 = .ok (.land, 1) := by decide +kernel
theorem dL_law_317 : decode cL_law 317 = .ok (.lor, 1) := by decide +kernel
theorem dL_law_318 : decode cL_law 318 = .ok (.invokevirtual 136, 3) := by decide +kernel
theorem dL_law_321 : decode cL_law 321 = .ok (.pop, 1) := by decide +kernel
theorem dL_law_322 : decode cL_law 322 = .ok (.goto 1497, 3) := by decide +kernel
theorem dL_law_325 : decode cL_law 325 = .ok (.aload_n 1, 1) := by decide +kernel
theorem dL_law_326 : decode cL_law 326 = .ok (.invokevirtual 137, 3) := by decide +kernel
theorem dL_law_329 : decode cL_law 329 = .ok (.pop, 1) := by decide +kernel
theorem dL_law_330 : decode cL_law 330 = .ok (.aload_n 2, 1) := by decide +kernel
theorem dL_law_331 : decode cL_law 331 = .ok (.invokevirtual 141, 3) := by decide +kernel
theorem dL_law_334 : decode cL_law 334 = .ok (.pop, 1) := by decide +kernel
theorem dL_law_335 : decode cL_law 335 = .ok (.goto 1484, 3) := by decide +kernel
theorem dL_law_338 : decode cL_law 338 = .ok (.aload_n 1, 1) := by decide +kernel
theorem dL_law_339 : decode cL_law 339 = .ok (.invokevirtual 142, 3) := by decide +kernel
theorem dL_law_342 : decode cL_law 342 = .ok (.pop, 1) := by decide +kernel
theorem dL_law_343 : decode cL_law 343 = .ok (.aload_n 2, 1) := by decide +kernel
theorem dL_law_344 : decode cL_law 344 = .ok (.invokevirtual 145, 3) := by decide +kernel
theorem dL_law_347 : decode cL_law 347 = .ok (.pop, 1) := by decide +kernel
theorem dL_law_348 : decode cL_law 348 = .ok (.goto 1471, 3) := by decide +kernel
theorem dL_law_351 : decode cL_law 351 = .ok (.aload_n 1, 1) := by decide +kernel
theorem dL_law_352 : decode cL_law 352 = .ok (.invokevirtual 146, 3) := by decide +kernel
theorem dL_law_355 : decode cL_law 355 = .ok (.pop, 1) := by decide +kernel
theorem dL_law_356 : decode cL_law 356 = .ok (.aload_n 2, 1) := by decide +kernel
theorem dL_law_357 : decode cL_law 357 = .ok (.invokevirtual 149, 3) := by decide +kernel
theorem dL_law_360 : decode cL_law 360 = .ok (.pop, 1) := by decide +kernel
theorem dL_law_361 : decode cL_law 361 = .ok (.goto 1458, 3) := by decide +kernel
theorem dL_law_364 : decode cL_law 364 = .ok (.aload_n 1, 1) := by decide +kernel
theorem dL_law_365 : decode cL_law 365 = .ok (.aload_n 0, 1) := by decide +kernel
theorem dL_law_366 : decode cL_law 366 = .ok (.iload 5, 2) := by decide +kernel
theorem dL_law_368 : decode cL_law 368 = .ok (.iconst 1, 1) := by decide +kernel
theorem dL_law_369 : decode cL_law 369 = .ok (.iadd, 1) := by decide +kernel
theorem dL_law_370 : decode cL_law 370 = .ok (.iaload, 1) := by decide +kernel
theorem dL_law_371 : decode cL_law 371 = .ok (.aload_n 3, 1) := by decide +kernel
theorem dL_law_372 : decode cL_law 372 = .ok (.invokestatic 150, 3) := by decide +kernel
theorem dL_law_375 : decode cL_law 375 = .ok (.istore 6, 2) := by decide +kernel
theorem dL_law_377 : decode cL_law 377 = .ok (.aload_n 2, 1) := by decide +kernel
theorem dL_law_378 : decode cL_law 378 = .ok (.aload_n 0, 1) := by decide +kernel
theorem dL_law_379 : decode cL_law 379 = .ok (.iload 5, 2) := by decide +kernel
theorem dL_law_381 : decode cL_law 381 = .ok (.iconst 1, 1) := by decide +kernel
theorem dL_law_382 : decode cL_law 382 = .ok (.iadd, 1) := by decide +kernel
theorem dL_law_383 : decode cL_law 383 = .ok (.iaload, 1) := by decide +kernel
theorem dL_law_384 : decode cL_law 384 = .ok (.invokevirtual 155, 3) := by decide +kernel
theorem dL_law_387 : decode cL_law 387 = .ok (.istore 7, 2) := by decide +kernel
theorem dL_law_389 : decode cL_law 389 = .ok (.aload_n 2, 1) := by decide +kernel
theorem dL_law_390 : decode cL_law 390 = .ok (.invokevirtual 156, 3) := by decide +kernel
theorem dL_law_393 : decode cL_law 393 = .ok (.iload 6, 2) := by decide +kernel
theorem dL_law_395 : decode cL_law 395 = .ok (.if_icmp .eq 5, 3) := by decide +kernel
theorem dL_law_400 : decode cL_law 400 = .ok (.iload 6, 2) := by decide +kernel
theorem dL_law_402 : decode cL_law 402 = .ok (.ifCond .ne 15, 3) := by decide +kernel
theorem dL_law_405 : decode cL_law 405 = .ok (.aload_n 3, 1) := by decide +kernel
theorem dL_law_406 : decode cL_law 406 = .ok (.iconst 0, 1) := by decide +kernel
theorem dL_law_407 : decode cL_law 407 = .ok (.laload, 1) := by decide +kernel
theorem dL_law_408 : decode cL_law 408 = .ok (.iload 7, 2) := by decide +kernel
theorem dL_law_410 : decode cL_law 410 = .ok (.i2l, 1) := by decide +kernel
theorem dL_law_411 : decode cL_law 411 = .ok (.lcmp, 1) := by decide +kernel
theorem dL_law_412 : decode cL_law 412 = .ok (.ifCond .eq 5, 3) := by decide +kernel
theorem dL_law_417 : decode cL_law 417 = .ok (.goto 1402, 3) := by decide +kernel
theorem dL_law_420 : decode cL_law 420 = .ok (.aload_n 1, 1) := by decide +kernel
theorem dL_law_421 : decode cL_law 421 = .ok (.aload_n 0, 1) := by decide +kernel
theorem dL_law_422 : decode cL_law 422 = .ok (.iload 5, 2) := by decide +kernel
theorem dL_law_424 : decode cL_law 424 = .ok (.iconst 1, 1) := by decide +kernel
theorem dL_law_425 : decode cL_law 425 = .ok (.iadd, 1) := by decide +kernel
theorem dL_law_426 : decode cL_law 426 = .ok (.iaload, 1) := by decide +kernel
theorem dL_law_427 : decode cL_law 427 = .ok (.aload_n 3, 1) := by decide +kernel
theorem dL_law_428 : decode cL_law 428 = .ok (.invokestatic 159, 3) := by decide +kernel
theorem dL_law_431 : decode cL_law 431 = .ok (.istore 6, 2) := by decide +kernel
theorem dL_law_433 : decode cL_law 433 = .ok (.aload_n 2, 1) := by decide +kernel
theorem dL_law_434 : decode cL_law 434 = .ok (.aload_n 0, 1) := by decide +kernel
theorem dL_law_435 : decode cL_law 435 = .ok (.iload 5, 2) := by decide +kernel
theorem dL_law_437 : decode cL_law 437 = .ok (.iconst 1, 1) := by decide +kernel
theorem dL_law_438 : decode cL_law 438 = .ok (.iadd, 1) := by decide +kernel
theorem dL_law_439 : decode cL_law 439 = .ok (.iaload, 1) := by decide +kernel
theorem dL_law_440 : decode cL_law 440 = .ok (.invokevirtual 161, 3) := by decide +kernel
theorem dL_law_443 : decode cL_law 443 = .ok (.istore 7, 2) := by decide +kernel
theorem dL_law_445 : decode cL_law 445 = .ok (.goto 1374, 3) := by decide +kernel
theorem dL_law_448 : decode cL_law 448 = .ok (.aload_n 1, 1) := by decide +kernel
theorem dL_law_449 : decode cL_law 449 = .ok (.aload_n 0, 1) := by decide +kernel
theorem dL_law_450 : decode cL_law 450 = .ok (.iload 5, 2) := by decide +kernel
theorem dL_law_452 : decode cL_law 452 = .ok (.iconst 1, 1) := by decide +kernel
theorem dL_law_453 : decode cL_law 453 = .ok (.iadd, 1) := by decide +kernel
theorem dL_law_454 : decode cL_law 454 = .ok (.iaload, 1) := by decide +kernel
theorem dL_law_455 : decode cL_law 455 = .ok (.aload_n 0, 1) := by decide +kernel
theorem dL_law_456 : decode cL_law 456 = .ok (.iload 5, 2) := by decide +kernel
theorem dL_law_458 : decode cL_law 458 = .ok (.iconst 2, 1) := by decide +kernel
theorem dL_law_459 : decode cL_law 459 = .ok (.iadd, 1) := by decide +kernel
theorem dL_law_460 : decode cL_law 460 = .ok (.iaload, 1) := by decide +kernel
theorem dL_law_461 : decode cL_law 461 = .ok (.aload_n 3, 1) := by decide +kernel
theorem dL_law_462 : decode cL_law 462 = .ok (.invokestatic 162, 3) := by decide +kernel
theorem dL_law_465 : decode cL_law 465 = .ok (.istore 6, 2) := by decide +kernel
theorem dL_law_467 : decode cL_law 467 = .ok (.aload_n 2, 1) := by decide +kernel
theorem dL_law_468 : decode cL_law 468 = .ok (.aload_n 0, 1) := by decide +kernel
theorem dL_law_469 : decode cL_law 469 = .ok (.iload 5, 2) := by decide +kernel
theorem dL_law_471 : decode cL_law 471 = .ok (.iconst 1, 1) := by decide +kernel
theorem dL_law_472 : decode cL_law 472 = .ok (.iadd, 1) := by decide +kernel
theorem dL_law_473 : decode cL_law 473 = .ok (.iaload, 1) := by decide +kernel
theorem dL_law_474 : decode cL_law 474 = .ok (.aload_n 0, 1) := by decide +kernel
theorem dL_law_475 : decode cL_law 475 = .ok (.iload 5, 2) := by decide +kernel
theorem dL_law_477 : decode cL_law 477 = .ok (.iconst 2, 1) := by decide +kernel
theorem dL_law_478 : decode cL_law 478 = .ok (.iadd, 1) := by decide +kernel
theorem dL_law_479 : decode cL_law 479 = .ok (.iaload, 1) := by decide +kernel
theorem dL_law_480 : decode cL_law 480 = .ok (.invokevirtual 165, 3) := by decide +kernel
theorem dL_law_483 : decode cL_law 483 = .ok (.istore 7, 2) := by decide +kernel
theorem dL_law_485 : decode cL_law 485 = .ok (.goto 1334, 3) := by decide +kernel
theorem dL_law_488 : decode cL_law 488 = .ok (.aload_n 1, 1) := by decide +kernel
theorem dL_law_489 : decode cL_law 489 = .ok (.aload_n 0, 1) := by decide +kernel
theorem dL_law_490 : decode cL_law 490 = .ok (.iload 5, 2) := by decide +kernel
theorem dL_law_492 : decode cL_law 492 = .ok (.iconst 1, 1) := by decide +kernel
theorem dL_law_493 : decode cL_law 493 = .ok (.iadd, 1) := by decide +kernel
theorem dL_law_494 : decode cL_law 494 = .ok (.iaload, 1) := by decide +kernel
theorem dL_law_495 : decode cL_law 495 = .ok (.aload_n 0, 1) := by decide +kernel
theorem dL_law_496 : decode cL_law 496 = .ok (.iload 5, 2) := by decide +kernel
theorem dL_law_498 : decode cL_law 498 = .ok (.iconst 2, 1) := by decide +kernel
theorem dL_law_499 : decode cL_law 499 = .ok (.iadd, 1) := by decide +kernel
theorem dL_law_500 : decode cL_law 500 = .ok (.iaload, 1) := by decide +kernel
theorem dL_law_501 : decode cL_law 501 = .ok (.aload_n 3, 1) := by decide +kernel
theorem dL_law_502 : decode cL_law 502 = .ok (.invokestatic 166, 3) := by decide +kernel
theorem dL_law_505 : decode cL_law 505 = .ok (.istore 6, 2) := by decide +kernel
theorem dL_law_507 : decode cL_law 507 = .ok (.aload_n 2, 1) := by decide +kernel
theorem dL_law_508 : decode cL_law 508 = .ok (.aload_n 0, 1) := by decide +kernel
theorem dL_law_509 : decode cL_law 509 = .ok (.iload 5, 2) := by decide +kernel
theorem dL_law_511 : decode cL_law 511 = .ok (.iconst 1, 1) := by decide +kernel
theorem dL_law_512 : decode cL_law 512 = .ok (.iadd, 1) := by decide +kernel
theorem dL_law_513 : decode cL_law 513 = .ok (.iaload, 1) := by decide +kernel
theorem dL_law_514 : decode cL_law 514 = .ok (.aload_n 0, 1) := by decide +kernel
theorem dL_law_515 : decode cL_law 515 = .ok (.iload 5, 2) := by decide +kernel
theorem dL_law_517 : decode cL_law 517 = .ok (.iconst 2, 1) := by decide +kernel
theorem dL_law_518 : decode cL_law 518 = .ok (.iadd, 1) := by decide +kernel
theorem dL_law_519 : decode cL_law 519 = .ok (.iaload, 1) := by decide +kernel
theorem dL_law_520 : decode cL_law 520 = .ok (.invokevirtual 168, 3) := by decide +kernel
theorem dL_law_523 : decode cL_law 523 = .ok (.istore 7, 2) := by decide +kernel
theorem dL_law_525 : decode cL_law 525 = .ok (.goto 1294, 3) := by decide +kernel
theorem dL_law_528 : decode cL_law 528 = .ok (.aload_n 1, 1) := by decide +kernel
theorem dL_law_529 : decode cL_law 529 = .ok (.aload_n 0, 1) := by decide +kernel
theorem dL_law_530 : decode cL_law 530 = .ok (.iload 5, 2) := by decide +kernel
theorem dL_law_532 : decode cL_law 532 = .ok (.iconst 1, 1) := by decide +kernel
theorem dL_law_533 : decode cL_law 533 = .ok (.iadd, 1) := by decide +kernel
theorem dL_law_534 : decode cL_law 534 = .ok (.iaload, 1) := by decide +kernel
theorem dL_law_535 : decode cL_law 535 = .ok (.aload_n 0, 1) := by decide +kernel
theorem dL_law_536 : decode cL_law 536 = .ok (.iload 5, 2) := by decide +kernel
theorem dL_law_538 : decode cL_law 538 = .ok (.iconst 2, 1) := by decide +kernel
theorem dL_law_539 : decode cL_law 539 = .ok (.iadd, 1) := by decide +kernel
theorem dL_law_540 : decode cL_law 540 = .ok (.iaload, 1) := by decide +kernel
theorem dL_law_541 : decode cL_law 541 = .ok (.aload_n 3, 1) := by decide +kernel
theorem dL_law_542 : decode cL_law 542 = .ok (.invokestatic 169, 3) := by decide +kernel
theorem dL_law_545 : decode cL_law 545 = .ok (.istore 6, 2) := by decide +kernel
theorem dL_law_547 : decode cL_law 547 = .ok (.aload_n 2, 1) := by decide +kernel
theorem dL_law_548 : decode cL_law 548 = .ok (.aload_n 0, 1) := by decide +kernel
theorem dL_law_549 : decode cL_law 549 = .ok (.iload 5, 2) := by decide +kernel
theorem dL_law_551 : decode cL_law 551 = .ok (.iconst 1, 1) := by decide +kernel
theorem dL_law_552 : decode cL_law 552 = .ok (.iadd, 1) := by decide +kernel
theorem dL_law_553 : decode cL_law 553 = .ok (.iaload, 1) := by decide +kernel
theorem dL_law_554 : decode cL_law 554 = .ok (.aload_n 0, 1) := by decide +kernel
theorem dL_law_555 : decode cL_law 555 = .ok (.iload 5, 2) := by decide +kernel
theorem dL_law_557 : decode cL_law 557 = .ok (.iconst 2, 1) := by decide +kernel
theorem dL_law_558 : decode cL_law 558 = .ok (.iadd, 1) := by decide +kernel
theorem dL_law_559 : decode cL_law 559 = .ok (.iaload, 1) := by decide +kernel
theorem dL_law_560 : decode cL_law 560 = .ok (.invokevirtual 171, 3) := by decide +kernel
theorem dL_law_563 : decode cL_law 563 = .ok (.istore 7, 2) := by decide +kernel
theorem dL_law_565 : decode cL_law 565 = .ok (.goto 1254, 3) := by decide +kernel
theorem dL_law_568 : decode cL_law 568 = .ok (.aload_n 1, 1) := by decide +kernel
theorem dL_law_569 : decode cL_law 569 = .ok (.aload_n 0, 1) := by decide +kernel
theorem dL_law_570 : decode cL_law 570 = .ok (.iload 5, 2) := by decide +kernel
theorem dL_law_572 : decode cL_law 572 = .ok (.iconst 1, 1) := by decide +kernel
theorem dL_law_573 : decode cL_law 573 = .ok (.iadd, 1) := by decide +kernel
theorem dL_law_574 : decode cL_law 574 = .ok (.iaload, 1) := by decide +kernel
theorem dL_law_575 : decode cL_law 575 = .ok (.aload_n 0, 1) := by decide +kernel
theorem dL_law_576 : decode cL_law 576 = .ok (.iload 5, 2) := by decide +kernel
theorem dL_law_578 : decode cL_law 578 = .ok (.iconst 2, 1) := by decide +kernel
theorem dL_law_579 : decode cL_law 579 = .ok (.iadd, 1) := by decide +kernel
theorem dL_law_580 : decode cL_law 580 = .ok (.iaload, 1) := by decide +kernel
theorem dL_law_581 : decode cL_law 581 = .ok (.aload_n 3, 1) := by decide +kernel
theorem dL_law_582 : decode cL_law 582 = .ok (.invokestatic 172, 3) := by decide +kernel
theorem dL_law_585 : decode cL_law 585 = .ok (.istore 6, 2) := by decide +kernel
theorem dL_law_587 : decode cL_law 587 = .ok (.aload_n 2, 1) := by decide +kernel
theorem dL_law_588 : decode cL_law 588 = .ok (.aload_n 0, 1) := by decide +kernel
theorem dL_law_589 : decode cL_law 589 = .ok (.iload 5, 2) := by decide +kernel
theorem dL_law_591 : decode cL_law 591 = .ok (.iconst 1, 1) := by decide +kernel
theorem dL_law_592 : decode cL_law 592 = .ok (.iadd, 1) := by decide +kernel
theorem dL_law_593 : decode cL_law 593 = .ok (.iaload, 1) := by decide +kernel
theorem dL_law_594 : decode cL_law 594 = .ok (.aload_n 0, 1) := by decide +kernel
theorem dL_law_595 : decode cL_law 595 = .ok (.iload 5, 2) := by decide +kernel
theorem dL_law_597 : decode cL_law 597 = .ok (.iconst 2, 1) := by decide +kernel
theorem dL_law_598 : decode cL_law 598 = .ok (.iadd, 1) := by decide +kernel
theorem dL_law_599 : decode cL_law 599 = .ok (.iaload, 1) := by decide +kernel
theorem dL_law_600 : decode cL_law 600 = .ok (.invokevirtual 174, 3) := by decide +kernel
theorem dL_law_603 : decode cL_law 603 = .ok (.istore 7, 2) := by decide +kernel
theorem dL_law_605 : decode cL_law 605 = .ok (.goto 1214, 3) := by decide +kernel
theorem dL_law_608 : decode cL_law 608 = .ok (.aload_n 1, 1) := by decide +kernel
theorem dL_law_609 : decode cL_law 609 = .ok (.aload_n 0, 1) := by decide +kernel
theorem dL_law_610 : decode cL_law 610 = .ok (.iload 5, 2) := by decide +kernel
theorem dL_law_612 : decode cL_law 612 = .ok (.iconst 1, 1) := by decide +kernel
theorem dL_law_613 : decode cL_law 613 = .ok (.iadd, 1) := by decide +kernel
theorem dL_law_614 : decode cL_law 614 = .ok (.iaload, 1) := by decide +kernel
theorem dL_law_615 : decode cL_law 615 = .ok (.aload_n 0, 1) := by decide +kernel
theorem dL_law_616 : decode cL_law 616 = .ok (.iload 5, 2) := by decide +kernel
theorem dL_law_618 : decode cL_law 618 = .ok (.iconst 2, 1) := by decide +kernel
theorem dL_law_619 : decode cL_law 619 = .ok (.iadd, 1) := by decide +kernel
theorem dL_law_620 : decode cL_law 620 = .ok (.iaload, 1) := by decide +kernel
theorem dL_law_621 : decode cL_law 621 = .ok (.aload_n 3, 1) := by decide +kernel
theorem dL_law_622 : decode cL_law 622 = .ok (.invokestatic 175, 3) := by decide +kernel
theorem dL_law_625 : decode cL_law 625 = .ok (.istore 6, 2) := by decide +kernel
theorem dL_law_627 : decode cL_law 627 = .ok (.aload_n 2, 1) := by decide +kernel
theorem dL_law_628 : decode cL_law 628 = .ok (.aload_n 0, 1) := by decide +kernel
theorem dL_law_629 : decode cL_law 629 = .ok (.iload 5, 2) := by decide +kernel
theorem dL_law_631 : decode cL_law 631 = .ok (.iconst 1, 1) := by decide +kernel
theorem dL_law_632 : decode cL_law 632 = .ok (.iadd, 1) := by decide +kernel
theorem dL_law_633 : decode cL_law 633 = .ok (.iaload, 1) := by decide +kernel
theorem dL_law_634 : decode cL_law 634 = .ok (.aload_n 0, 1) := by decide +kernel
theorem dL_law_635 : decode cL_law 635 = .ok (.iload 5, 2) := by decide +kernel
theorem dL_law_637 : decode cL_law 637 = .ok (.iconst 2, 1) := by decide +kernel
theorem dL_law_638 : decode cL_law 638 = .ok (.iadd, 1) := by decide +kernel
theorem dL_law_639 : decode cL_law 639 = .ok (.iaload, 1) := by decide +kernel
theorem dL_law_640 : decode cL_law 640 = .ok (.invokevirtual 177, 3) := by decide +kernel
theorem dL_law_643 : decode cL_law 643 = .ok (.istore 7, 2) := by decide +kernel
theorem dL_law_645 : decode cL_law 645 = .ok (.goto 1174, 3) := by decide +kernel
theorem dL_law_648 : decode cL_law 648 = .ok (.aload_n 1, 1) := by decide +kernel
theorem dL_law_649 : decode cL_law 649 = .ok (.aload_n 0, 1) := by decide +kernel
theorem dL_law_650 : decode cL_law 650 = .ok (.iload 5, 2) := by decide +kernel
theorem dL_law_652 : decode cL_law 652 = .ok (.iconst 1, 1) := by decide +kernel
theorem dL_law_653 : decode cL_law 653 = .ok (.iadd, 1) := by decide +kernel
theorem dL_law_654 : decode cL_law 654 = .ok (.iaload, 1) := by decide +kernel
theorem dL_law_655 : decode cL_law 655 = .ok (.invokevirtual 178, 3) := by decide +kernel
theorem dL_law_658 : decode cL_law 658 = .ok (.pop, 1) := by decide +kernel
theorem dL_law_659 : decode cL_law 659 = .ok (.aload_n 2, 1) := by decide +kernel
theorem dL_law_660 : decode cL_law 660 = .ok (.aload_n 0, 1) := by decide +kernel
theorem dL_law_661 : decode cL_law 661 = .ok (.iload 5, 2) := by decide +kernel
theorem dL_law_663 : decode cL_law 663 = .ok (.iconst 1, 1) := by decide +kernel
theorem dL_law_664 : decode cL_law 664 = .ok (.iadd, 1) := by decide +kernel
theorem dL_law_665 : decode cL_law 665 = .ok (.iaload, 1) := by decide +kernel
theorem dL_law_666 : decode cL_law 666 = .ok (.invokevirtual 181, 3) := by decide +kernel
theorem dL_law_669 : decode cL_law 669 = .ok (.pop, 1) := by decide +kernel
theorem dL_law_670 : decode cL_law 670 = .ok (.goto 1149, 3) := by decide +kernel
theorem dL_law_673 : decode cL_law 673 = .ok (.aload_n 1, 1) := by decide +kernel
theorem dL_law_674 : decode cL_law 674 = .ok (.aload_n 0, 1) := by decide +kernel
theorem dL_law_675 : decode cL_law 675 = .ok (.iload 5, 2) := by decide +kernel
theorem dL_law_677 : decode cL_law 677 = .ok (.iconst 1, 1) := by decide +kernel
theorem dL_law_678 : decode cL_law 678 = .ok (.iadd, 1) := by decide +kernel
theorem dL_law_679 : decode cL_law 679 = .ok (.iaload, 1) := by decide +kernel
theorem dL_law_680 : decode cL_law 680 = .ok (.invokevirtual 182, 3) := by decide +kernel
theorem dL_law_683 : decode cL_law 683 = .ok (.pop, 1) := by decide +kernel
theorem dL_law_684 : decode cL_law 684 = .ok (.aload_n 2, 1) := by decide +kernel
theorem dL_law_685 : decode cL_law 685 = .ok (.aload_n 0, 1) := by decide +kernel
theorem dL_law_686 : decode cL_law 686 = .ok (.iload 5, 2) := by decide +kernel
theorem dL_law_688 : decode cL_law 688 = .ok (.iconst 1, 1) := by decide +kernel
theorem dL_law_689 : decode cL_law 689 = .ok (.iadd, 1) := by decide +kernel
theorem dL_law_690 : decode cL_law 690 = .ok (.iaload, 1) := by decide +kernel
theorem dL_law_691 : decode cL_law 691 = .ok (.invokevirtual 185, 3) := by decide +kernel
theorem dL_law_694 : decode cL_law 694 = .ok (.pop, 1) := by decide +kernel
theorem dL_law_695 : decode cL_law 695 = .ok (.goto 1124, 3) := by decide +kernel
theorem dL_law_698 : decode cL_law 698 = .ok (.aload_n 1, 1) := by decide +kernel
theorem dL_law_699 : decode cL_law 699 = .ok (.invokevirtual 186, 3) := by decide +kernel
theorem dL_law_702 : decode cL_law 702 = .ok (.pop, 1) := by decide +kernel
theorem dL_law_703 : decode cL_law 703 = .ok (.aload_n 2, 1) := by decide +kernel
theorem dL_law_704 : decode cL_law 704 = .ok (.invokevirtual 189, 3) := by decide +kernel
theorem dL_law_707 : decode cL_law 707 = .ok (.pop, 1) := by decide +kernel
theorem dL_law_708 : decode cL_law 708 = .ok (.goto 1111, 3) := by decide +kernel
theorem dL_law_711 : decode cL_law 711 = .ok (.aload_n 1, 1) := by decide +kernel
theorem dL_law_712 : decode cL_law 712 = .ok (.aload_n 0, 1) := by decide +kernel
theorem dL_law_713 : decode cL_law 713 = .ok (.iload 5, 2) := by decide +kernel
theorem dL_law_715 : decode cL_law 715 = .ok (.iconst 1, 1) := by decide +kernel
theorem dL_law_716 : decode cL_law 716 = .ok (.iadd, 1) := by decide +kernel
theorem dL_law_717 : decode cL_law 717 = .ok (.iaload, 1) := by decide +kernel
theorem dL_law_718 : decode cL_law 718 = .ok (.aload_n 0, 1) := by decide +kernel
theorem dL_law_719 : decode cL_law 719 = .ok (.iload 5, 2) := by decide +kernel
theorem dL_law_721 : decode cL_law 721 = .ok (.iconst 2, 1) := by decide +kernel
theorem dL_law_722 : decode cL_law 722 = .ok (.iadd, 1) := by decide +kernel
theorem dL_law_723 : decode cL_law 723 = .ok (.iaload, 1) := by decide +kernel
theorem dL_law_724 : decode cL_law 724 = .ok (.aload_n 3, 1) := by decide +kernel
theorem dL_law_725 : decode cL_law 725 = .ok (.invokestatic 190, 3) := by decide +kernel
theorem dL_law_728 : decode cL_law 728 = .ok (.istore 6, 2) := by decide +kernel
theorem dL_law_730 : decode cL_law 730 = .ok (.aload_n 2, 1) := by decide +kernel
theorem dL_law_731 : decode cL_law 731 = .ok (.aload_n 0, 1) := by decide +kernel
theorem dL_law_732 : decode cL_law 732 = .ok (.iload 5, 2) := by decide +kernel
theorem dL_law_734 : decode cL_law 734 = .ok (.iconst 1, 1) := by decide +kernel
theorem dL_law_735 : decode cL_law 735 = .ok (.iadd, 1) := by decide +kernel
theorem dL_law_736 : decode cL_law 736 = .ok (.iaload, 1) := by decide +kernel
theorem dL_law_737 : decode cL_law 737 = .ok (.aload_n 0, 1) := by decide +kernel
theorem dL_law_738 : decode cL_law 738 = .ok (.iload 5, 2) := by decide +kernel
theorem dL_law_740 : decode cL_law 740 = .ok (.iconst 2, 1) := by decide +kernel
theorem dL_law_741 : decode cL_law 741 = .ok (.iadd, 1) := by decide +kernel
theorem dL_law_742 : decode cL_law 742 = .ok (.iaload, 1) := by decide +kernel
theorem dL_law_743 : decode cL_law 743 = .ok (.invokevirtual 192, 3) := by decide +kernel
theorem dL_law_746 : decode cL_law 746 = .ok (.istore 7, 2) := by decide +kernel
theorem dL_law_748 : decode cL_law 748 = .ok (.goto 1071, 3) := by decide +kernel
theorem dL_law_751 : decode cL_law 751 = .ok (.aload_n 1, 1) := by decide +kernel
theorem dL_law_752 : decode cL_law 752 = .ok (.aload_n 0, 1) := by decide +kernel
theorem dL_law_753 : decode cL_law 753 = .ok (.iload 5, 2) := by decide +kernel
theorem dL_law_755 : decode cL_law 755 = .ok (.iconst 1, 1) := by decide +kernel
theorem dL_law_756 : decode cL_law 756 = .ok (.iadd, 1) := by decide +kernel
theorem dL_law_757 : decode cL_law 757 = .ok (.iaload, 1) := by decide +kernel
theorem dL_law_758 : decode cL_law 758 = .ok (.aload_n 0, 1) := by decide +kernel
theorem dL_law_759 : decode cL_law 759 = .ok (.iload 5, 2) := by decide +kernel
theorem dL_law_761 : decode cL_law 761 = .ok (.iconst 2, 1) := by decide +kernel
theorem dL_law_762 : decode cL_law 762 = .ok (.iadd, 1) := by decide +kernel
theorem dL_law_763 : decode cL_law 763 = .ok (.iaload, 1) := by decide +kernel
theorem dL_law_764 : decode cL_law 764 = .ok (.aload_n 3, 1) := by decide +kernel
theorem dL_law_765 : decode cL_law 765 = .ok (.invokestatic 193, 3) := by decide +kernel
theorem dL_law_768 : decode cL_law 768 = .ok (.istore 6, 2) := by decide +kernel
theorem dL_law_770 : decode cL_law 770 = .ok (.aload_n 2, 1) := by decide +kernel
theorem dL_law_771 : decode cL_law 771 = .ok (.aload_n 0, 1) := by decide +kernel
theorem dL_law_772 : decode cL_law 772 = .ok (.iload 5, 2) := by decide +kernel
theorem dL_law_774 : decode cL_law 774 = .ok (.iconst 1, 1) := by decide +kernel
theorem dL_law_775 : decode cL_law 775 = .ok (.iadd, 1) := by decide +kernel
theorem dL_law_776 : decode cL_law 776 = .ok (.iaload, 1) := by decide +kernel
theorem dL_law_777 : decode cL_law 777 = .ok (.aload_n 0, 1) := by decide +kernel
theorem dL_law_778 : decode cL_law 778 = .ok (.iload 5, 2) := by decide +kernel
theorem dL_law_780 : decode cL_law 780 = .ok (.iconst 2, 1) := by decide +kernel
theorem dL_law_781 : decode cL_law 781 = .ok (.iadd, 1) := by decide +kernel
theorem dL_law_782 : decode cL_law 782 = .ok (.iaload, 1) := by decide +kernel
theorem dL_law_783 : decode cL_law 783 = .ok (.invokevirtual 195, 3) := by decide +kernel
theorem dL_law_786 : decode cL_law 786 = .ok (.istore 7, 2) := by decide +kernel
theorem dL_law_788 : decode cL_law 788 = .ok (.goto 1031, 3) := by decide +kernel
theorem dL_law_791 : decode cL_law 791 = .ok (.aload_n 1, 1) := by decide +kernel
theorem dL_law_792 : decode cL_law 792 = .ok (.invokevirtual 196, 3) := by decide +kernel
theorem dL_law_795 : decode cL_law 795 = .ok (.pop, 1) := by decide +kernel
theorem dL_law_796 : decode cL_law 796 = .ok (.aload_n 2, 1) := by decide +kernel
theorem dL_law_797 : decode cL_law 797 = .ok (.invokevirtual 199, 3) := by decide +kernel
theorem dL_law_800 : decode cL_law 800 = .ok (.pop, 1) := by decide +kernel
theorem dL_law_801 : decode cL_law 801 = .ok (.goto 1018, 3) := by decide +kernel
theorem dL_law_804 : decode cL_law 804 = .ok (.aload_n 1, 1) := by decide +kernel
theorem dL_law_805 : decode cL_law 805 = .ok (.aload_n 0, 1) := by decide +kernel
theorem dL_law_806 : decode cL_law 806 = .ok (.iload 5, 2) := by decide +kernel
theorem dL_law_808 : decode cL_law 808 = .ok (.iconst 1, 1) := by decide +kernel
theorem dL_law_809 : decode cL_law 809 = .ok (.iadd, 1) := by decide +kernel
theorem dL_law_810 : decode cL_law 810 = .ok (.iaload, 1) := by decide +kernel
theorem dL_law_811 : decode cL_law 811 = .ok (.aload_n 0, 1) := by decide +kernel
theorem dL_law_812 : decode cL_law 812 = .ok (.iload 5, 2) := by decide +kernel
theorem dL_law_814 : decode cL_law 814 = .ok (.iconst 2, 1) := by decide +kernel
theorem dL_law_815 : decode cL_law 815 = .ok (.iadd, 1) := by decide +kernel
theorem dL_law_816 : decode cL_law 816 = .ok (.iaload, 1) := by decide +kernel
theorem dL_law_817 : decode cL_law 817 = .ok (.aload_n 0, 1) := by decide +kernel
theorem dL_law_818 : decode cL_law 818 = .ok (.iload 5, 2) := by decide +kernel
theorem dL_law_820 : decode cL_law 820 = .ok (.iconst 3, 1) := by decide +kernel
theorem dL_law_821 : decode cL_law 821 = .ok (.iadd, 1) := by decide +kernel
theorem dL_law_822 : decode cL_law 822 = .ok (.iaload, 1) := by decide +kernel
theorem dL_law_823 : decode cL_law 823 = .ok (.aload_n 3, 1) := by decide +kernel
theorem dL_law_824 : decode cL_law 824 = .ok (.invokestatic 200, 3) := by decide +kernel
theorem dL_law_827 : decode cL_law 827 = .ok (.istore 6, 2) := by decide +kernel
theorem dL_law_829 : decode cL_law 829 = .ok (.aload_n 2, 1) := by decide +kernel
theorem dL_law_830 : decode cL_law 830 = .ok (.aload_n 0, 1) := by decide +kernel
theorem dL_law_831 : decode cL_law 831 = .ok (.iload 5, 2) := by decide +kernel
theorem dL_law_833 : decode cL_law 833 = .ok (.iconst 1, 1) := by decide +kernel
theorem dL_law_834 : decode cL_law 834 = .ok (.iadd, 1) := by decide +kernel
theorem dL_law_835 : decode cL_law 835 = .ok (.iaload, 1) := by decide +kernel
theorem dL_law_836 : decode cL_law 836 = .ok (.aload_n 0, 1) := by decide +kernel
theorem dL_law_837 : decode cL_law 837 = .ok (.iload 5, 2) := by decide +kernel
theorem dL_law_839 : decode cL_law 839 = .ok (.iconst 2, 1) := by decide +kernel
theorem dL_law_840 : decode cL_law 840 = .ok (.iadd, 1) := by decide +kernel
theorem dL_law_841 : decode cL_law 841 = .ok (.iaload, 1) := by decide +kernel
theorem dL_law_842 : decode cL_law 842 = .ok (.aload_n 0, 1) := by decide +kernel
theorem dL_law_843 : decode cL_law 843 = .ok (.iload 5, 2) := by decide +kernel
theorem dL_law_845 : decode cL_law 845 = .ok (.iconst 3, 1) := by decide +kernel
theorem dL_law_846 : decode cL_law 846 = .ok (.iadd, 1) := by decide +kernel
theorem dL_law_847 : decode cL_law 847 = .ok (.iaload, 1) := by decide +kernel
theorem dL_law_848 : decode cL_law 848 = .ok (.invokevirtual 203, 3) := by decide +kernel
theorem dL_law_851 : decode cL_law 851 = .ok (.istore 7, 2) := by decide +kernel
theorem dL_law_853 : decode cL_law 853 = .ok (.goto 966, 3) := by decide +kernel
theorem dL_law_856 : decode cL_law 856 = .ok (.aload_n 1, 1) := by decide +kernel
theorem dL_law_857 : decode cL_law 857 = .ok (.aload_n 0, 1) := by decide +kernel
theorem dL_law_858 : decode cL_law 858 = .ok (.iload 5, 2) := by decide +kernel
theorem dL_law_860 : decode cL_law 860 = .ok (.iconst 1, 1) := by decide +kernel
theorem dL_law_861 : decode cL_law 861 = .ok (.iadd, 1) := by decide +kernel
theorem dL_law_862 : decode cL_law 862 = .ok (.iaload, 1) := by decide +kernel
theorem dL_law_863 : decode cL_law 863 = .ok (.aload_n 0, 1) := by decide +kernel
theorem dL_law_864 : decode cL_law 864 = .ok (.iload 5, 2) := by decide +kernel
theorem dL_law_866 : decode cL_law 866 = .ok (.iconst 2, 1) := by decide +kernel
theorem dL_law_867 : decode cL_law 867 = .ok (.iadd, 1) := by decide +kernel
theorem dL_law_868 : decode cL_law 868 = .ok (.iaload, 1) := by decide +kernel
theorem dL_law_869 : decode cL_law 869 = .ok (.aload_n 3, 1) := by decide +kernel
theorem dL_law_870 : decode cL_law 870 = .ok (.invokestatic 204, 3) := by decide +kernel
theorem dL_law_873 : decode cL_law 873 = .ok (.istore 6, 2) := by decide +kernel
theorem dL_law_875 : decode cL_law 875 = .ok (.aload_n 2, 1) := by decide +kernel
theorem dL_law_876 : decode cL_law 876 = .ok (.aload_n 0, 1) := by decide +kernel
theorem dL_law_877 : decode cL_law 877 = .ok (.iload 5, 2) := by decide +kernel
theorem dL_law_879 : decode cL_law 879 = .ok (.iconst 1, 1) := by decide +kernel
theorem dL_law_880 : decode cL_law 880 = .ok (.iadd, 1) := by decide +kernel
theorem dL_law_881 : decode cL_law 881 = .ok (.iaload, 1) := by decide +kernel
theorem dL_law_882 : decode cL_law 882 = .ok (.aload_n 0, 1) := by decide +kernel
theorem dL_law_883 : decode cL_law 883 = .ok (.iload 5, 2) := by decide +kernel
theorem dL_law_885 : decode cL_law 885 = .ok (.iconst 2, 1) := by decide +kernel
theorem dL_law_886 : decode cL_law 886 = .ok (.iadd, 1) := by decide +kernel
theorem dL_law_887 : decode cL_law 887 = .ok (.iaload, 1) := by decide +kernel
theorem dL_law_888 : decode cL_law 888 = .ok (.invokevirtual 206, 3) := by decide +kernel
theorem dL_law_891 : decode cL_law 891 = .ok (.istore 7, 2) := by decide +kernel
theorem dL_law_893 : decode cL_law 893 = .ok (.goto 926, 3) := by decide +kernel
theorem dL_law_896 : decode cL_law 896 = .ok (.aload_n 1, 1) := by decide +kernel
theorem dL_law_897 : decode cL_law 897 = .ok (.aload_n 0, 1) := by decide +kernel
theorem dL_law_898 : decode cL_law 898 = .ok (.iload 5, 2) := by decide +kernel
theorem dL_law_900 : decode cL_law 900 = .ok (.iconst 1, 1) := by decide +kernel
theorem dL_law_901 : decode cL_law 901 = .ok (.iadd, 1) := by decide +kernel
theorem dL_law_902 : decode cL_law 902 = .ok (.iaload, 1) := by decide +kernel
theorem dL_law_903 : decode cL_law 903 = .ok (.aload_n 3, 1) := by decide +kernel
theorem dL_law_904 : decode cL_law 904 = .ok (.invokestatic 207, 3) := by decide +kernel
theorem dL_law_907 : decode cL_law 907 = .ok (.istore 6, 2) := by decide +kernel
theorem dL_law_909 : decode cL_law 909 = .ok (.aload_n 2, 1) := by decide +kernel
theorem dL_law_910 : decode cL_law 910 = .ok (.aload_n 0, 1) := by decide +kernel
theorem dL_law_911 : decode cL_law 911 = .ok (.iload 5, 2) := by decide +kernel
theorem dL_law_913 : decode cL_law 913 = .ok (.iconst 1, 1) := by decide +kernel
theorem dL_law_914 : decode cL_law 914 = .ok (.iadd, 1) := by decide +kernel
theorem dL_law_915 : decode cL_law 915 = .ok (.iaload, 1) := by decide +kernel
theorem dL_law_916 : decode cL_law 916 = .ok (.invokevirtual 209, 3) := by decide +kernel
theorem dL_law_919 : decode cL_law 919 = .ok (.istore 7, 2) := by decide +kernel
theorem dL_law_921 : decode cL_law 921 = .ok (.goto 898, 3) := by decide +kernel
theorem dL_law_924 : decode cL_law 924 = .ok (.aload_n 1, 1) := by decide +kernel
theorem dL_law_925 : decode cL_law 925 = .ok (.invokevirtual 210, 3) := by decide +kernel
theorem dL_law_928 : decode cL_law 928 = .ok (.dstore 6, 2) := by decide +kernel
theorem dL_law_930 : decode cL_law 930 = .ok (.aload_n 2, 1) := by decide +kernel
theorem dL_law_931 : decode cL_law 931 = .ok (.invokevirtual 214, 3) := by decide +kernel
theorem dL_law_934 : decode cL_law 934 = .ok (.dstore 8, 2) := by decide +kernel
theorem dL_law_936 : decode cL_law 936 = .ok (.goto 883, 3) := by decide +kernel
theorem dL_law_939 : decode cL_law 939 = .ok (.aload_n 1, 1) := by decide +kernel
theorem dL_law_940 : decode cL_law 940 = .ok (.invokevirtual 215, 3) := by decide +kernel
theorem dL_law_943 : decode cL_law 943 = .ok (.f2d, 1) := by decide +kernel
theorem dL_law_944 : decode cL_law 944 = .ok (.dstore 6, 2) := by decide +kernel
theorem dL_law_946 : decode cL_law 946 = .ok (.aload_n 2, 1) := by decide +kernel
theorem dL_law_947 : decode cL_law 947 = .ok (.invokevirtual 219, 3) := by decide +kernel
theorem dL_law_950 : decode cL_law 950 = .ok (.f2d, 1) := by decide +kernel
theorem dL_law_951 : decode cL_law 951 = .ok (.dstore 8, 2) := by decide +kernel
theorem dL_law_953 : decode cL_law 953 = .ok (.goto 866, 3) := by decide +kernel
theorem dL_law_956 : decode cL_law 956 = .ok (.aload_n 1, 1) := by decide +kernel
theorem dL_law_957 : decode cL_law 957 = .ok (.aload_n 0, 1) := by decide +kernel
theorem dL_law_958 : decode cL_law 958 = .ok (.iload 5, 2) := by decide +kernel
theorem dL_law_960 : decode cL_law 960 = .ok (.iconst 1, 1) := by decide +kernel
theorem dL_law_961 : decode cL_law 961 = .ok (.iadd, 1) := by decide +kernel
theorem dL_law_962 : decode cL_law 962 = .ok (.iaload, 1) := by decide +kernel
theorem dL_law_963 : decode cL_law 963 = .ok (.aload 4, 2) := by decide +kernel
theorem dL_law_965 : decode cL_law 965 = .ok (.invokestatic 220, 3) := by decide +kernel
theorem dL_law_968 : decode cL_law 968 = .ok (.istore 6, 2) := by decide +kernel
theorem dL_law_970 : decode cL_law 970 = .ok (.aload_n 2, 1) := by decide +kernel
theorem dL_law_971 : decode cL_law 971 = .ok (.aload_n 0, 1) := by decide +kernel
theorem dL_law_972 : decode cL_law 972 = .ok (.iload 5, 2) := by decide +kernel
theorem dL_law_974 : decode cL_law 974 = .ok (.iconst 1, 1) := by decide +kernel
theorem dL_law_975 : decode cL_law 975 = .ok (.iadd, 1) := by decide +kernel
theorem dL_law_976 : decode cL_law 976 = .ok (.iaload, 1) := by decide +kernel
theorem dL_law_977 : decode cL_law 977 = .ok (.invokevirtual 223, 3) := by decide +kernel
theorem dL_law_980 : decode cL_law 980 = .ok (.fstore 7, 2) := by decide +kernel
theorem dL_law_982 : decode cL_law 982 = .ok (.goto 837, 3) := by decide +kernel
theorem dL_law_985 : decode cL_law 985 = .ok (.aload_n 1, 1) := by decide +kernel
theorem dL_law_986 : decode cL_law 986 = .ok (.invokevirtual 224, 3) := by decide +kernel
theorem dL_law_989 : decode cL_law 989 = .ok (.pop, 1) := by decide +kernel
theorem dL_law_990 : decode cL_law 990 = .ok (.aload_n 2, 1) := by decide +kernel
theorem dL_law_991 : decode cL_law 991 = .ok (.invokevirtual 227, 3) := by decide +kernel
theorem dL_law_994 : decode cL_law 994 = .ok (.pop, 1) := by decide +kernel
theorem dL_law_995 : decode cL_law 995 = .ok (.goto 824, 3) := by decide +kernel
theorem dL_law_998 : decode cL_law 998 = .ok (.aload_n 1, 1) := by decide +kernel
theorem dL_law_999 : decode cL_law 999 = .ok (.aload_n 0, 1) := by decide +kernel
theorem dL_leavesIn_0 : decode cL_leavesIn 0 = .ok (.aload_n 2, 1) := by decide +kernel
theorem dL_leavesIn_1 : decode cL_leavesIn 1 = .ok (.iconst 0, 1) := by decide +kernel
theorem dL_leavesIn_12 : decode cL_leavesIn 12 = .ok (.astore_n 3, 1) := by decide +kernel
theorem dL_leavesIn_13 : decode cL_leavesIn 13 = .ok (.iconst 1, 1) := by decide +kernel
theorem dL_leavesIn_14 : decode cL_leavesIn 14 = .ok (.ireturn, 1) := by decide +kernel
theorem dL_leavesIn_15 : decode cL_leavesIn 15 = .ok (.iconst 0, 1) := by decide +kernel
theorem dL_leavesIn_16 : decode cL_leavesIn 16 = .ok (.ireturn, 1) := by decide +kernel
theorem dL_leavesIn_2 : decode cL_leavesIn 2 = .ok (.aload_n 0, 1) := by decide +kernel
theorem dL_leavesIn_3 : decode cL_leavesIn 3 = .ok (.iload_n 1, 1) := by decide +kernel
theorem dL_leavesIn_4 : decode cL_leavesIn 4 = .ok (.invokevirtual 96, 3) := by decide +kernel
theorem dL_leavesIn_7 : decode cL_leavesIn 7 = .ok (.i2l, 1) := by decide +kernel
theorem dL_leavesIn_8 : decode cL_leavesIn 8 = .ok (.lastore, 1) := by decide +kernel
theorem dL_leavesIn_9 : decode cL_leavesIn 9 = .ok (.goto 6, 3) := by decide +kernel
theorem dL_leftIn_0 : decode cL_leftIn 0 = .ok (.aload_n 2, 1) := by decide +kernel
theorem dL_leftIn_1 : decode cL_leftIn 1 = .ok (.iconst 0, 1) := by decide +kernel
theorem dL_leftIn_12 : decode cL_leftIn 12 = .ok (.astore_n 3, 1) := by decide +kernel
theorem dL_leftIn_13 : decode cL_leftIn 13 = .ok (.iconst 1, 1) := by decide +kernel
theorem dL_leftIn_14 : decode cL_leftIn 14 = .ok (.ireturn, 1) := by decide +kernel
theorem dL_leftIn_15 : decode cL_leftIn 15 = .ok (.iconst 0, 1) := by decide +kernel
theorem dL_leftIn_16 : decode cL_leftIn 16 = .ok (.ireturn, 1) := by decide +kernel
theorem dL_leftIn_2 : decode cL_leftIn 2 = .ok (.aload_n 0, 1) := by decide +kernel
theorem dL_leftIn_3 : decode cL_leftIn 3 = .ok (.iload_n 1, 1) := by decide +kernel
theorem dL_leftIn_4 : decode cL_leftIn 4 = .ok (.invokevirtual 102, 3) := by decide +kernel
theorem dL_leftIn_7 : decode cL_leftIn 7 = .ok (.i2l, 1) := by decide +kernel
theorem dL_leftIn_8 : decode cL_leftIn 8 = .ok (.lastore, 1) := by decide +kernel
theorem dL_leftIn_9 : decode cL_leftIn 9 = .ok (.goto 6, 3) := by decide +kernel
theorem dL_letter_0 : decode cL_letter 0 = .ok (.aload_n 3, 1) := by decide +kernel
theorem dL_letter_1 : decode cL_letter 1 = .ok (.iconst 0, 1) := by decide +kernel
theorem dL_letter_10 : decode cL_letter 10 = .ok (.goto 7, 3) := by decide +kernel
theorem dL_letter_13 : decode cL_letter 13 = .ok (.astore 4, 2) := by decide +kernel
theorem dL_letter_15 : decode cL_letter 15 = .ok (.iconst 1, 1) := by decide +kernel
theorem dL_letter_16 : decode cL_letter 16 = .ok (.ireturn, 1) := by decide +kernel
theorem dL_letter_17 : decode cL_letter 17 = .ok (.iconst 0, 1) := by decide +kernel
theorem dL_letter_18 : decode cL_letter 18 = .ok (.ireturn, 1) := by decide +kernel
theorem dL_letter_2 : decode cL_letter 2 = .ok (.aload_n 0, 1) := by decide +kernel
theorem dL_letter_3 : decode cL_letter 3 = .ok (.iload_n 1, 1) := by decide +kernel
theorem dL_letter_4 : decode cL_letter 4 = .ok (.iload_n 2, 1) := by decide +kernel
theorem dL_letter_5 : decode cL_letter 5 = .ok (.invokevirtual 27, 3) := by decide +kernel
theorem dL_letter_8 : decode cL_letter 8 = .ok (.i2l, 1) := by decide +kernel
theorem dL_letter_9 : decode cL_letter 9 = .ok (.lastore, 1) := by decide +kernel
theorem dL_lotIn_0 : decode cL_lotIn 0 = .ok (.aload_n 2, 1) := by decide +kernel
theorem dL_lotIn_1 : decode cL_lotIn 1 = .ok (.iconst 0, 1) := by decide +kernel
theorem dL_lotIn_12 : decode cL_lotIn 12 = .ok (.astore_n 3, 1) := by decide +kernel
theorem dL_lotIn_13 : decode cL_lotIn 13 = .ok (.iconst 1, 1) := by decide +kernel
theorem dL_lotIn_14 : decode cL_lotIn 14 = .ok (.ireturn, 1) := by decide +kernel
theorem dL_lotIn_15 : decode cL_lotIn 15 = .ok (.iconst 0, 1) := by decide +kernel
theorem dL_lotIn_16 : decode cL_lotIn 16 = .ok (.ireturn, 1) := by decide +kernel
theorem dL_lotIn_2 : decode cL_lotIn 2 = .ok (.aload_n 0, 1) := by decide +kernel
theorem dL_lotIn_3 : decode cL_lotIn 3 = .ok (.iload_n 1, 1) := by decide +kernel
theorem dL_lotIn_4 : decode cL_lotIn 4 = .ok (.invokevirtual 99, 3) := by decide +kernel
theorem dL_lotIn_7 : decode cL_lotIn 7 = .ok (.i2l, 1) := by decide +kernel
theorem dL_lotIn_8 : decode cL_lotIn 8 = .ok (.lastore, 1) := by decide +kernel
theorem dL_lotIn_9 : decode cL_lotIn 9 = .ok (.goto 6, 3) := by decide +kernel
theorem dL_lot_0 : decode cL_lot 0 = .ok (.aload_n 3, 1) := by decide +kernel
theorem dL_lot_1 : decode cL_lot 1 = .ok (.iconst 0, 1) := by decide +kernel
theorem dL_lot_10 : decode cL_lot 10 = .ok (.goto 11, 3) := by decide +kernel
theorem dL_lot_13 : decode cL_lot 13 = .ok (.astore 4, 2) := by decide +kernel
theorem dL_lot_15 : decode cL_lot 15 = .ok (.iconst 1, 1) := by decide +kernel
theorem dL_lot_16 : decode cL_lot 16 = .ok (.ireturn, 1) := by decide +kernel
theorem dL_lot_17 : decode cL_lot 17 = .ok (.astore 4, 2) := by decide +kernel
theorem dL_lot_19 : decode cL_lot 19 = .ok (.iconst 2, 1) := by decide +kernel
theorem dL_lot_2 : decode cL_lot 2 = .ok (.aload_n 0, 1) := by decide +kernel
theorem dL_lot_20 : decode cL_lot 20 = .ok (.ireturn, 1) := by decide +kernel
theorem dL_lot_21 : decode cL_lot 21 = .ok (.iconst 0, 1) := by decide +kernel
theorem dL_lot_22 : decode cL_lot 22 = .ok (.ireturn, 1) := by decide +kernel
theorem dL_lot_3 : decode cL_lot 3 = .ok (.iload_n 1, 1) := by decide +kernel
theorem dL_lot_4 : decode cL_lot 4 = .ok (.iload_n 2, 1) := by decide +kernel
theorem dL_lot_5 : decode cL_lot 5 = .ok (.invokevirtual 30, 3) := by decide +kernel
theorem dL_lot_8 : decode cL_lot 8 = .ok (.i2l, 1) := by decide +kernel
theorem dL_lot_9 : decode cL_lot 9 = .ok (.lastore, 1) := by decide +kernel
theorem dL_order_0 : decode cL_order 0 = .ok (.aload_n 2, 1) := by decide +kernel
theorem dL_order_1 : decode cL_order 1 = .ok (.iconst 0, 1) := by decide +kernel
theorem dL_order_12 : decode cL_order 12 = .ok (.astore_n 3, 1) := by decide +kernel
theorem dL_order_13 : decode cL_order 13 = .ok (.iconst 1, 1) := by decide +kernel
theorem dL_order_14 : decode cL_order 14 = .ok (.ireturn, 1) := by decide +kernel
theorem dL_order_15 : decode cL_order 15 = .ok (.iconst 0, 1) := by decide +kernel
theorem dL_order_16 : decode cL_order 16 = .ok (.ireturn, 1) := by decide +kernel
theorem dL_order_2 : decode cL_order 2 = .ok (.aload_n 0, 1) := by decide +kernel
theorem dL_order_3 : decode cL_order 3 = .ok (.iload_n 1, 1) := by decide +kernel
theorem dL_order_4 : decode cL_order 4 = .ok (.invokevirtual 56, 3) := by decide +kernel
theorem dL_order_7 : decode cL_order 7 = .ok (.i2l, 1) := by decide +kernel
theorem dL_order_8 : decode cL_order 8 = .ok (.lastore, 1) := by decide +kernel
theorem dL_order_9 : decode cL_order 9 = .ok (.goto 6, 3) := by decide +kernel
theorem dL_refill_0 : decode cL_refill 0 = .ok (.aload_n 2, 1) := by decide +kernel
theorem dL_refill_1 : decode cL_refill 1 = .ok (.iconst 0, 1) := by decide +kernel
theorem dL_refill_12 : decode cL_refill 12 = .ok (.astore_n 3, 1) := by decide +kernel
theorem dL_refill_13 : decode cL_refill 13 = .ok (.iconst 1, 1) := by decide +kernel
theorem dL_refill_14 : decode cL_refill 14 = .ok (.ireturn, 1) := by decide +kernel
theorem dL_refill_15 : decode cL_refill 15 = .ok (.iconst 0, 1) := by decide +kernel
theorem dL_refill_16 : decode cL_refill 16 = .ok (.ireturn, 1) := by decide +kernel
theorem dL_refill_2 : decode cL_refill 2 = .ok (.aload_n 0, 1) := by decide +kernel
theorem dL_refill_3 : decode cL_refill 3 = .ok (.iload_n 1, 1) := by decide +kernel
theorem dL_refill_4 : decode cL_refill 4 = .ok (.invokevirtual 65, 3) := by decide +kernel
theorem dL_refill_7 : decode cL_refill 7 = .ok (.i2l, 1) := by decide +kernel
theorem dL_refill_8 : decode cL_refill 8 = .ok (.lastore, 1) := by decide +kernel
theorem dL_refill_9 : decode cL_refill 9 = .ok (.goto 6, 3) := by decide +kernel
theorem dL_restIn_0 : decode cL_restIn 0 = .ok (.aload_n 2, 1) := by decide +kernel
theorem dL_restIn_1 : decode cL_restIn 1 = .ok (.iconst 0, 1) := by decide +kernel
theorem dL_restIn_12 : decode cL_restIn 12 = .ok (.astore_n 3, 1) := by decide +kernel
theorem dL_restIn_13 : decode cL_restIn 13 = .ok (.iconst 1, 1) := by decide +kernel
theorem dL_restIn_14 : decode cL_restIn 14 = .ok (.ireturn, 1) := by decide +kernel
theorem dL_restIn_15 : decode cL_restIn 15 = .ok (.iconst 0, 1) := by decide +kernel
theorem dL_restIn_16 : decode cL_restIn 16 = .ok (.ireturn, 1) := by decide +kernel
theorem dL_restIn_2 : decode cL_restIn 2 = .ok (.aload_n 0, 1) := by decide +kernel
theorem dL_restIn_3 : decode cL_restIn 3 = .ok (.iload_n 1, 1) := by decide +kernel
theorem dL_restIn_4 : decode cL_restIn 4 = .ok (.invokevirtual 111, 3) := by decide +kernel
theorem dL_restIn_7 : decode cL_restIn 7 = .ok (.i2l, 1) := by decide +kernel
theorem dL_restIn_8 : decode cL_restIn 8 = .ok (.lastore, 1) := by decide +kernel
theorem dL_restIn_9 : decode cL_restIn 9 = .ok (.goto 6, 3) := by decide +kernel
theorem dL_restoreSnapshot_0 : decode cL_restoreSnapshot 0 = .ok (.aload_n 2, 1) := by decide +kernel
theorem dL_restoreSnapshot_1 : decode cL_restoreSnapshot 1 = .ok (.iconst 0, 1) := by decide +kernel
theorem dL_restoreSnapshot_12 : decode cL_restoreSnapshot 12 = .ok (.astore_n 3, 1) := by decide +kernel
theorem dL_restoreSnapshot_13 : decode cL_restoreSnapshot 13 = .ok (.iconst 1, 1) := by decide +kernel
theorem dL_restoreSnapshot_14 : decode cL_restoreSnapshot 14 = .ok (.ireturn, 1) := by decide +kernel
theorem dL_restoreSnapshot_15 : decode cL_restoreSnapshot 15 = .ok (.iconst 0, 1) := by decide +kernel
theorem dL_restoreSnapshot_16 : decode cL_restoreSnapshot 16 = .ok (.ireturn, 1) := by decide +kernel
theorem dL_restoreSnapshot_2 : decode cL_restoreSnapshot 2 = .ok (.aload_n 0, 1) := by decide +kernel
theorem dL_restoreSnapshot_3 : decode cL_restoreSnapshot 3 = .ok (.iload_n 1, 1) := by decide +kernel
theorem dL_restoreSnapshot_4 : decode cL_restoreSnapshot 4 = .ok (.invokevirtual 123, 3) := by decide +kernel
theorem dL_restoreSnapshot_7 : decode cL_restoreSnapshot 7 = .ok (.i2l, 1) := by decide +kernel
theorem dL_restoreSnapshot_8 : decode cL_restoreSnapshot 8 = .ok (.lastore, 1) := by decide +kernel
theorem dL_restoreSnapshot_9 : decode cL_restoreSnapshot 9 = .ok (.goto 6, 3) := by decide +kernel
theorem dL_runToLeave_0 : decode cL_runToLeave 0 = .ok (.aload_n 2, 1) := by decide +kernel
theorem dL_runToLeave_1 : decode cL_runToLeave 1 = .ok (.iconst 0, 1) := by decide +kernel
theorem dL_runToLeave_12 : decode cL_runToLeave 12 = .ok (.astore_n 3, 1) := by decide +kernel
theorem dL_runToLeave_13 : decode cL_runToLeave 13 = .ok (.iconst 1, 1) := by decide +kernel
theorem dL_runToLeave_14 : decode cL_runToLeave 14 = .ok (.ireturn, 1) := by decide +kernel
theorem dL_runToLeave_15 : decode cL_runToLeave 15 = .ok (.iconst 0, 1) := by decide +kernel
theorem dL_runToLeave_16 : decode cL_runToLeave 16 = .ok (.ireturn, 1) := by decide +kernel
theorem dL_runToLeave_2 : decode cL_runToLeave 2 = .ok (.aload_n 0, 1) := by decide +kernel
theorem dL_runToLeave_3 : decode cL_runToLeave 3 = .ok (.iload_n 1, 1) := by decide +kernel
theorem dL_runToLeave_4 : decode cL_runToLeave 4 = .ok (.invokevirtual 93, 3) := by decide +kernel
theorem dL_runToLeave_7 : decode cL_runToLeave 7 = .ok (.i2l, 1) := by decide +kernel
theorem dL_runToLeave_8 : decode cL_runToLeave 8 = .ok (.lastore, 1) := by decide +kernel
theorem dL_runToLeave_9 : decode cL_runToLeave 9 = .ok (.goto 6, 3) := by decide +kernel
theorem dL_run_0 : decode cL_run 0 = .ok (.aload_n 2, 1) := by decide +kernel
theorem dL_run_1 : decode cL_run 1 = .ok (.iconst 0, 1) := by decide +kernel
theorem dL_run_12 : decode cL_run 12 = .ok (.astore_n 3, 1) := by decide +kernel
theorem dL_run_13 : decode cL_run 13 = .ok (.iconst 1, 1) := by decide +kernel
theorem dL_run_14 : decode cL_run 14 = .ok (.ireturn, 1) := by decide +kernel
theorem dL_run_15 : decode cL_run 15 = .ok (.iconst 0, 1) := by decide +kernel
theorem dL_run_16 : decode cL_run 16 = .ok (.ireturn, 1) := by decide +kernel
theorem dL_run_2 : decode cL_run 2 = .ok (.aload_n 0, 1) := by decide +kernel
theorem dL_run_3 : decode cL_run 3 = .ok (.iload_n 1, 1) := by decide +kernel
theorem dL_run_4 : decode cL_run 4 = .ok (.invokevirtual 90, 3) := by decide +kernel
theorem dL_run_7 : decode cL_run 7 = .ok (.i2l, 1) := by decide +kernel
theorem dL_run_8 : decode cL_run 8 = .ok (.lastore, 1) := by decide +kernel
theorem dL_run_9 : decode cL_run 9 = .ok (.goto 6, 3) := by decide +kernel
theorem dL_rush_0 : decode cL_rush 0 = .ok (.aload_n 2, 1) := by decide +kernel
theorem dL_rush_1 : decode cL_rush 1 = .ok (.iconst 0, 1) := by decide +kernel
theorem dL_rush_12 : decode cL_rush 12 = .ok (.astore_n 3, 1) := by decide +kernel
theorem dL_rush_13 : decode cL_rush 13 = .ok (.iconst 1, 1) := by decide +kernel
theorem dL_rush_14 : decode cL_rush 14 = .ok (.ireturn, 1) := by decide +kernel
theorem dL_rush_15 : decode cL_rush 15 = .ok (.iconst 0, 1) := by decide +kernel
theorem dL_rush_16 : decode cL_rush 16 = .ok (.ireturn, 1) := by decide +kernel
theorem dL_rush_2 : decode cL_rush 2 = .ok (.aload_n 0, 1) := by decide +kernel
theorem dL_rush_3 : decode cL_rush 3 = .ok (.iload_n 1, 1) := by decide +kernel
theorem dL_rush_4 : decode cL_rush 4 = .ok (.invokevirtual 78, 3) := by decide +kernel
theorem dL_rush_7 : decode cL_rush 7 = .ok (.i2l, 1) := by decide +kernel
theorem dL_rush_8 : decode cL_rush 8 = .ok (.lastore, 1) := by decide +kernel
theorem dL_rush_9 : decode cL_rush 9 = .ok (.goto 6, 3) := by decide +kernel
theorem dL_saveSnapshot_0 : decode cL_saveSnapshot 0 = .ok (.aload_n 2, 1) := by decide +kernel
theorem dL_saveSnapshot_1 : decode cL_saveSnapshot 1 = .ok (.iconst 0, 1) := by decide +kernel
theorem dL_saveSnapshot_12 : decode cL_saveSnapshot 12 = .ok (.astore_n 3, 1) := by decide +kernel
theorem dL_saveSnapshot_13 : decode cL_saveSnapshot 13 = .ok (.iconst 1, 1) := by decide +kernel
theorem dL_saveSnapshot_14 : decode cL_saveSnapshot 14 = .ok (.ireturn, 1) := by decide +kernel
theorem dL_saveSnapshot_15 : decode cL_saveSnapshot 15 = .ok (.iconst 0, 1) := by decide +kernel
theorem dL_saveSnapshot_16 : decode cL_saveSnapshot 16 = .ok (.ireturn, 1) := by decide +kernel
theorem dL_saveSnapshot_2 : decode cL_saveSnapshot 2 = .ok (.aload_n 0, 1) := by decide +kernel
theorem dL_saveSnapshot_3 : decode cL_saveSnapshot 3 = .ok (.iload_n 1, 1) := by decide +kernel
theorem dL_saveSnapshot_4 : decode cL_saveSnapshot 4 = .ok (.invokevirtual 120, 3) := by decide +kernel
theorem dL_saveSnapshot_7 : decode cL_saveSnapshot 7 = .ok (.i2l, 1) := by decide +kernel
theorem dL_saveSnapshot_8 : decode cL_saveSnapshot 8 = .ok (.lastore, 1) := by decide +kernel
theorem dL_saveSnapshot_9 : decode cL_saveSnapshot 9 = .ok (.goto 6, 3) := by decide +kernel
theorem dL_setPace_0 : decode cL_setPace 0 = .ok (.aload_n 3, 1) := by decide +kernel
theorem dL_setPace_1 : decode cL_setPace 1 = .ok (.iconst 0, 1) := by decide +kernel
theorem dL_setPace_10 : decode cL_setPace 10 = .ok (.goto 11, 3) := by decide +kernel
theorem dL_setPace_13 : decode cL_setPace 13 = .ok (.astore 4, 2) := by decide +kernel
theorem dL_setPace_15 : decode cL_setPace 15 = .ok (.iconst 1, 1) := by decide +kernel
theorem dL_setPace_16 : decode cL_setPace 16 = .ok (.ireturn, 1) := by decide +kernel
theorem dL_setPace_17 : decode cL_setPace 17 = .ok (.astore 4, 2) := by decide +kernel
theorem dL_setPace_19 : decode cL_setPace 19 = .ok (.iconst 2, 1) := by decide +kernel
theorem dL_setPace_2 : decode cL_setPace 2 = .ok (.aload_n 0, 1) := by decide +kernel
theorem dL_setPace_20 : decode cL_setPace 20 = .ok (.ireturn, 1) := by decide +kernel
theorem dL_setPace_21 : decode cL_setPace 21 = .ok (.iconst 0, 1) := by decide +kernel
theorem dL_setPace_22 : decode cL_setPace 22 = .ok (.ireturn, 1) := by decide +kernel
theorem dL_setPace_3 : decode cL_setPace 3 = .ok (.iload_n 1, 1) := by decide +kernel
theorem dL_setPace_4 : decode cL_setPace 4 = .ok (.iload_n 2, 1) := by decide +kernel
theorem dL_setPace_5 : decode cL_setPace 5 = .ok (.invokevirtual 68, 3) := by decide +kernel
theorem dL_setPace_8 : decode cL_setPace 8 = .ok (.i2l, 1) := by decide +kernel
theorem dL_setPace_9 : decode cL_setPace 9 = .ok (.lastore, 1) := by decide +kernel
theorem dL_setRank_0 : decode cL_setRank 0 = .ok (.aload_n 3, 1) := by decide +kernel
theorem dL_setRank_1 : decode cL_setRank 1 = .ok (.iconst 0, 1) := by decide +kernel
theorem dL_setRank_10 : decode cL_setRank 10 = .ok (.goto 11, 3) := by decide +kernel
theorem dL_setRank_13 : decode cL_setRank 13 = .ok (.astore 4, 2) := by decide +kernel
theorem dL_setRank_15 : decode cL_setRank 15 = .ok (.iconst 1, 1) := by decide +kernel
theorem dL_setRank_16 : decode cL_setRank 16 = .ok (.ireturn, 1) := by decide +kernel
theorem dL_setRank_17 : decode cL_setRank 17 = .ok (.astore 4, 2) := by decide +kernel
theorem dL_setRank_19 : decode cL_setRank 19 = .ok (.iconst 2, 1) := by decide +kernel
theorem dL_setRank_2 : decode cL_setRank 2 = .ok (.aload_n 0, 1) := by decide +kernel
theorem dL_setRank_20 : decode cL_setRank 20 = .ok (.ireturn, 1) := by decide +kernel
theorem dL_setRank_21 : decode cL_setRank 21 = .ok (.iconst 0, 1) := by decide +kernel
theorem dL_setRank_22 : decode cL_setRank 22 = .ok (.ireturn, 1) := by decide +kernel
theorem dL_setRank_3 : decode cL_setRank 3 = .ok (.iload_n 1, 1) := by decide +kernel
theorem dL_setRank_4 : decode cL_setRank 4 = .ok (.iload_n 2, 1) := by decide +kernel
theorem dL_setRank_5 : decode cL_setRank 5 = .ok (.invokevirtual 62, 3) := by decide +kernel
theorem dL_setRank_8 : decode cL_setRank 8 = .ok (.i2l, 1) := by decide +kernel
theorem dL_setRank_9 : decode cL_setRank 9 = .ok (.lastore, 1) := by decide +kernel
theorem dL_setRest_0 : decode cL_setRest 0 = .ok (.aload 4, 2) := by decide +kernel
theorem dL_setRest_10 : decode cL_setRest 10 = .ok (.i2l, 1) := by decide +kernel
theorem dL_setRest_11 : decode cL_setRest 11 = .ok (.lastore, 1) := by decide +kernel
theorem dL_setRest_12 : decode cL_setRest 12 = .ok (.goto 11, 3) := by decide +kernel
theorem dL_setRest_15 : decode cL_setRest 15 = .ok (.astore 5, 2) := by decide +kernel
theorem dL_setRest_17 : decode cL_setRest 17 = .ok (.iconst 1, 1) := by decide +kernel
theorem dL_setRest_18 : decode cL_setRest 18 = .ok (.ireturn, 1) := by decide +kernel
theorem dL_setRest_19 : decode cL_setRest 19 = .ok (.astore 5, 2) := by decide +kernel
theorem dL_setRest_2 : decode cL_setRest 2 = .ok (.iconst 0, 1) := by decide +kernel
theorem dL_setRest_21 : decode cL_setRest 21 = .ok (.iconst 2, 1) := by decide +kernel
theorem dL_setRest_22 : decode cL_setRest 22 = .ok (.ireturn, 1) := by decide +kernel
theorem dL_setRest_23 : decode cL_setRest 23 = .ok (.iconst 0, 1) := by decide +kernel
theorem dL_setRest_24 : decode cL_setRest 24 = .ok (.ireturn, 1) := by decide +kernel
theorem dL_setRest_3 : decode cL_setRest 3 = .ok (.aload_n 0, 1) := by decide +kernel
theorem dL_setRest_4 : decode cL_setRest 4 = .ok (.iload_n 1, 1) := by decide +kernel
theorem dL_setRest_5 : decode cL_setRest 5 = .ok (.iload_n 2, 1) := by decide +kernel
theorem dL_setRest_6 : decode cL_setRest 6 = .ok (.iload_n 3, 1) := by decide +kernel
theorem dL_setRest_7 : decode cL_setRest 7 = .ok (.invokevirtual 75, 3) := by decide +kernel
theorem dL_setTray_0 : decode cL_setTray 0 = .ok (.aload_n 2, 1) := by decide +kernel
theorem dL_setTray_1 : decode cL_setTray 1 = .ok (.iconst 0, 1) := by decide +kernel
theorem dL_setTray_12 : decode cL_setTray 12 = .ok (.astore_n 3, 1) := by decide +kernel
theorem dL_setTray_13 : decode cL_setTray 13 = .ok (.iconst 1, 1) := by decide +kernel
theorem dL_setTray_14 : decode cL_setTray 14 = .ok (.ireturn, 1) := by decide +kernel
theorem dL_setTray_15 : decode cL_setTray 15 = .ok (.iconst 0, 1) := by decide +kernel
theorem dL_setTray_16 : decode cL_setTray 16 = .ok (.ireturn, 1) := by decide +kernel
theorem dL_setTray_2 : decode cL_setTray 2 = .ok (.aload_n 0, 1) := by decide +kernel
theorem dL_setTray_3 : decode cL_setTray 3 = .ok (.iload_n 1, 1) := by decide +kernel
theorem dL_setTray_4 : decode cL_setTray 4 = .ok (.invokevirtual 87, 3) := by decide +kernel
theorem dL_setTray_7 : decode cL_setTray 7 = .ok (.i2l, 1) := by decide +kernel
theorem dL_setTray_8 : decode cL_setTray 8 = .ok (.lastore, 1) := by decide +kernel
theorem dL_setTray_9 : decode cL_setTray 9 = .ok (.goto 6, 3) := by decide +kernel
theorem dL_setTries_0 : decode cL_setTries 0 = .ok (.aload_n 2, 1) := by decide +kernel
theorem dL_setTries_1 : decode cL_setTries 1 = .ok (.iconst 0, 1) := by decide +kernel
theorem dL_setTries_12 : decode cL_setTries 12 = .ok (.astore_n 3, 1) := by decide +kernel
theorem dL_setTries_13 : decode cL_setTries 13 = .ok (.iconst 1, 1) := by decide +kernel
theorem dL_setTries_14 : decode cL_setTries 14 = .ok (.ireturn, 1) := by decide +kernel
theorem dL_setTries_15 : decode cL_setTries 15 = .ok (.iconst 0, 1) := by decide +kernel
theorem dL_setTries_16 : decode cL_setTries 16 = .ok (.ireturn, 1) := by decide +kernel
theorem dL_setTries_2 : decode cL_setTries 2 = .ok (.aload_n 0, 1) := by decide +kernel
theorem dL_setTries_3 : decode cL_setTries 3 = .ok (.iload_n 1, 1) := by decide +kernel
theorem dL_setTries_4 : decode cL_setTries 4 = .ok (.invokevirtual 84, 3) := by decide +kernel
theorem dL_setTries_7 : decode cL_setTries 7 = .ok (.i2l, 1) := by decide +kernel
theorem dL_setTries_8 : decode cL_setTries 8 = .ok (.lastore, 1) := by decide +kernel
theorem dL_setTries_9 : decode cL_setTries 9 = .ok (.goto 6, 3) := by decide +kernel
theorem dL_setting_0 : decode cL_setting 0 = .ok (.aload_n 2, 1) := by decide +kernel
theorem dL_setting_1 : decode cL_setting 1 = .ok (.iconst 0, 1) := by decide +kernel
theorem dL_setting_12 : decode cL_setting 12 = .ok (.astore_n 3, 1) := by decide +kernel
theorem dL_setting_13 : decode cL_setting 13 = .ok (.iconst 1, 1) := by decide +kernel
theorem dL_setting_14 : decode cL_setting 14 = .ok (.ireturn, 1) := by decide +kernel
theorem dL_setting_15 : decode cL_setting 15 = .ok (.iconst 0, 1) := by decide +kernel
theorem dL_setting_16 : decode cL_setting 16 = .ok (.ireturn, 1) := by decide +kernel
theorem dL_setting_2 : decode cL_setting 2 = .ok (.aload_n 0, 1) := by decide +kernel
theorem dL_setting_3 : decode cL_setting 3 = .ok (.iload_n 1, 1) := by decide +kernel
theorem dL_setting_4 : decode cL_setting 4 = .ok (.invokevirtual 15, 3) := by decide +kernel
theorem dL_setting_7 : decode cL_setting 7 = .ok (.i2l, 1) := by decide +kernel
theorem dL_setting_8 : decode cL_setting 8 = .ok (.lastore, 1) := by decide +kernel
theorem dL_setting_9 : decode cL_setting 9 = .ok (.goto 6, 3) := by decide +kernel
theorem dL_station_0 : decode cL_station 0 = .ok (.aload_n 3, 1) := by decide +kernel
theorem dL_station_1 : decode cL_station 1 = .ok (.iconst 0, 1) := by decide +kernel
theorem dL_station_10 : decode cL_station 10 = .ok (.goto 11, 3) := by decide +kernel
theorem dL_station_13 : decode cL_station 13 = .ok (.astore 4, 2) := by decide +kernel
theorem dL_station_15 : decode cL_station 15 = .ok (.iconst 1, 1) := by decide +kernel
theorem dL_station_16 : decode cL_station 16 = .ok (.ireturn, 1) := by decide +kernel
theorem dL_station_17 : decode cL_station 17 = .ok (.astore 4, 2) := by decide +kernel
theorem dL_station_19 : decode cL_station 19 = .ok (.iconst 2, 1) := by decide +kernel
theorem dL_station_2 : decode cL_station 2 = .ok (.aload_n 0, 1) := by decide +kernel
theorem dL_station_20 : decode cL_station 20 = .ok (.ireturn, 1) := by decide +kernel
theorem dL_station_21 : decode cL_station 21 = .ok (.iconst 0, 1) := by decide +kernel
theorem dL_station_22 : decode cL_station 22 = .ok (.ireturn, 1) := by decide +kernel
theorem dL_station_3 : decode cL_station 3 = .ok (.iload_n 1, 1) := by decide +kernel
theorem dL_station_4 : decode cL_station 4 = .ok (.iload_n 2, 1) := by decide +kernel
theorem dL_station_5 : decode cL_station 5 = .ok (.invokevirtual 18, 3) := by decide +kernel
theorem dL_station_8 : decode cL_station 8 = .ok (.i2l, 1) := by decide +kernel
theorem dL_station_9 : decode cL_station 9 = .ok (.lastore, 1) := by decide +kernel
theorem dL_steps_0 : decode cL_steps 0 = .ok (.aload_n 3, 1) := by decide +kernel
theorem dL_steps_1 : decode cL_steps 1 = .ok (.iconst 0, 1) := by decide +kernel
theorem dL_steps_10 : decode cL_steps 10 = .ok (.goto 11, 3) := by decide +kernel
theorem dL_steps_13 : decode cL_steps 13 = .ok (.astore 4, 2) := by decide +kernel
theorem dL_steps_15 : decode cL_steps 15 = .ok (.iconst 1, 1) := by decide +kernel
theorem dL_steps_16 : decode cL_steps 16 = .ok (.ireturn, 1) := by decide +kernel
theorem dL_steps_17 : decode cL_steps 17 = .ok (.astore 4, 2) := by decide +kernel
theorem dL_steps_19 : decode cL_steps 19 = .ok (.iconst 2, 1) := by decide +kernel
theorem dL_steps_2 : decode cL_steps 2 = .ok (.aload_n 0, 1) := by decide +kernel
theorem dL_steps_20 : decode cL_steps 20 = .ok (.ireturn, 1) := by decide +kernel
theorem dL_steps_21 : decode cL_steps 21 = .ok (.iconst 0, 1) := by decide +kernel
theorem dL_steps_22 : decode cL_steps 22 = .ok (.ireturn, 1) := by decide +kernel
theorem dL_steps_3 : decode cL_steps 3 = .ok (.iload_n 1, 1) := by decide +kernel
theorem dL_steps_4 : decode cL_steps 4 = .ok (.iload_n 2, 1) := by decide +kernel
theorem dL_steps_5 : decode cL_steps 5 = .ok (.invokevirtual 36, 3) := by decide +kernel
theorem dL_steps_8 : decode cL_steps 8 = .ok (.i2l, 1) := by decide +kernel
theorem dL_steps_9 : decode cL_steps 9 = .ok (.lastore, 1) := by decide +kernel
theorem dL_stop_0 : decode cL_stop 0 = .ok (.aload_n 3, 1) := by decide +kernel
theorem dL_stop_1 : decode cL_stop 1 = .ok (.iconst 0, 1) := by decide +kernel
theorem dL_stop_10 : decode cL_stop 10 = .ok (.goto 7, 3) := by decide +kernel
theorem dL_stop_13 : decode cL_stop 13 = .ok (.astore 4, 2) := by decide +kernel
theorem dL_stop_15 : decode cL_stop 15 = .ok (.iconst 1, 1) := by decide +kernel
theorem dL_stop_16 : decode cL_stop 16 = .ok (.ireturn, 1) := by decide +kernel
theorem dL_stop_17 : decode cL_stop 17 = .ok (.iconst 0, 1) := by decide +kernel
theorem dL_stop_18 : decode cL_stop 18 = .ok (.ireturn, 1) := by decide +kernel
theorem dL_stop_2 : decode cL_stop 2 = .ok (.aload_n 0, 1) := by decide +kernel
theorem dL_stop_3 : decode cL_stop 3 = .ok (.iload_n 1, 1) := by decide +kernel
theorem dL_stop_4 : decode cL_stop 4 = .ok (.iload_n 2, 1) := by decide +kernel
theorem dL_stop_5 : decode cL_stop 5 = .ok (.invokevirtual 71, 3) := by decide +kernel
theorem dL_stop_8 : decode cL_stop 8 = .ok (.i2l, 1) := by decide +kernel
theorem dL_stop_9 : decode cL_stop 9 = .ok (.lastore, 1) := by decide +kernel
theorem dL_swap_0 : decode cL_swap 0 = .ok (.aload_n 3, 1) := by decide +kernel
theorem dL_swap_1 : decode cL_swap 1 = .ok (.iconst 0, 1) := by decide +kernel
theorem dL_swap_10 : decode cL_swap 10 = .ok (.goto 11, 3) := by decide +kernel
theorem dL_swap_13 : decode cL_swap 13 = .ok (.astore 4, 2) := by decide +kernel
theorem dL_swap_15 : decode cL_swap 15 = .ok (.iconst 1, 1) := by decide +kernel
theorem dL_swap_16 : decode cL_swap 16 = .ok (.ireturn, 1) := by decide +kernel
theorem dL_swap_17 : decode cL_swap 17 = .ok (.astore 4, 2) := by decide +kernel
theorem dL_swap_19 : decode cL_swap 19 = .ok (.iconst 2, 1) := by decide +kernel
theorem dL_swap_2 : decode cL_swap 2 = .ok (.aload_n 0, 1) := by decide +kernel
theorem dL_swap_20 : decode cL_swap 20 = .ok (.ireturn, 1) := by decide +kernel
theorem dL_swap_21 : decode cL_swap 21 = .ok (.iconst 0, 1) := by decide +kernel
theorem dL_swap_22 : decode cL_swap 22 = .ok (.ireturn, 1) := by decide +kernel
theorem dL_swap_3 : decode cL_swap 3 = .ok (.iload_n 1, 1) := by decide +kernel
theorem dL_swap_4 : decode cL_swap 4 = .ok (.iload_n 2, 1) := by decide +kernel
theorem dL_swap_5 : decode cL_swap 5 = .ok (.invokevirtual 81, 3) := by decide +kernel
theorem dL_swap_8 : decode cL_swap 8 = .ok (.i2l, 1) := by decide +kernel
theorem dL_swap_9 : decode cL_swap 9 = .ok (.lastore, 1) := by decide +kernel
theorem dL_ticksFor_0 : decode cL_ticksFor 0 = .ok (.aload_n 3, 1) := by decide +kernel
theorem dL_ticksFor_1 : decode cL_ticksFor 1 = .ok (.iconst 0, 1) := by decide +kernel
theorem dL_ticksFor_10 : decode cL_ticksFor 10 = .ok (.goto 7, 3) := by decide +kernel
theorem dL_ticksFor_13 : decode cL_ticksFor 13 = .ok (.astore 4, 2) := by decide +kernel
theorem dL_ticksFor_15 : decode cL_ticksFor 15 = .ok (.iconst 1, 1) := by decide +kernel
theorem dL_ticksFor_16 : decode cL_ticksFor 16 = .ok (.ireturn, 1) := by decide +kernel
theorem dL_ticksFor_17 : decode cL_ticksFor 17 = .ok (.iconst 0, 1) := by decide +kernel
theorem dL_ticksFor_18 : decode cL_ticksFor 18 = .ok (.ireturn, 1) := by decide +kernel
theorem dL_ticksFor_2 : decode cL_ticksFor 2 = .ok (.aload_n 0, 1) := by decide +kernel
theorem dL_ticksFor_3 : decode cL_ticksFor 3 = .ok (.iload_n 1, 1) := by decide +kernel
theorem dL_ticksFor_4 : decode cL_ticksFor 4 = .ok (.iload_n 2, 1) := by decide +kernel
theorem dL_ticksFor_5 : decode cL_ticksFor 5 = .ok (.invokevirtual 39, 3) := by decide +kernel
theorem dL_ticksFor_8 : decode cL_ticksFor 8 = .ok (.i2l, 1) := by decide +kernel
theorem dL_ticksFor_9 : decode cL_ticksFor 9 = .ok (.lastore, 1) := by decide +kernel
theorem dL_today_0 : decode cL_today 0 = .ok (.aload_n 3, 1) := by decide +kernel
theorem dL_today_1 : decode cL_today 1 = .ok (.iconst 0, 1) := by decide +kernel
theorem dL_today_10 : decode cL_today 10 = .ok (.goto 11, 3) := by decide +kernel
theorem dL_today_13 : decode cL_today 13 = .ok (.astore 4, 2) := by decide +kernel
theorem dL_today_15 : decode cL_today 15 = .ok (.iconst 1, 1) := by decide +kernel
theorem dL_today_16 : decode cL_today 16 = .ok (.ireturn, 1) := by decide +kernel
theorem dL_today_17 : decode cL_today 17 = .ok (.astore 4, 2) := by decide +kernel
theorem dL_today_19 : decode cL_today 19 = .ok (.iconst 2, 1) := by decide +kernel
theorem dL_today_2 : decode cL_today 2 = .ok (.aload_n 0, 1) := by decide +kernel
theorem dL_today_20 : decode cL_today 20 = .ok (.ireturn, 1) := by decide +kernel
theorem dL_today_21 : decode cL_today 21 = .ok (.iconst 0, 1) := by decide +kernel
theorem dL_today_22 : decode cL_today 22 = .ok (.ireturn, 1) := by decide +kernel
theorem dL_today_3 : decode cL_today 3 = .ok (.iload_n 1, 1) := by decide +kernel
theorem dL_today_4 : decode cL_today 4 = .ok (.iload_n 2, 1) := by decide +kernel
theorem dL_today_5 : decode cL_today 5 = .ok (.invokevirtual 46, 3) := by decide +kernel
theorem dL_today_8 : decode cL_today 8 = .ok (.i2l, 1) := by decide +kernel
theorem dL_today_9 : decode cL_today 9 = .ok (.lastore, 1) := by decide +kernel
theorem dL_total_0 : decode cL_total 0 = .ok (.aload_n 2, 1) := by decide +kernel
theorem dL_total_1 : decode cL_total 1 = .ok (.iconst 0, 1) := by decide +kernel
theorem dL_total_12 : decode cL_total 12 = .ok (.astore_n 3, 1) := by decide +kernel
theorem dL_total_13 : decode cL_total 13 = .ok (.iconst 1, 1) := by decide +kernel
theorem dL_total_14 : decode cL_total 14 = .ok (.ireturn, 1) := by decide +kernel
theorem dL_total_15 : decode cL_total 15 = .ok (.iconst 0, 1) := by decide +kernel
theorem dL_total_16 : decode cL_total 16 = .ok (.ireturn, 1) := by decide +kernel
theorem dL_total_2 : decode cL_total 2 = .ok (.aload_n 0, 1) := by decide +kernel
theorem dL_total_3 : decode cL_total 3 = .ok (.iload_n 1, 1) := by decide +kernel
theorem dL_total_4 : decode cL_total 4 = .ok (.invokevirtual 49, 3) := by decide +kernel
theorem dL_total_7 : decode cL_total 7 = .ok (.i2l, 1) := by decide +kernel
theorem dL_total_8 : decode cL_total 8 = .ok (.lastore, 1) := by decide +kernel
theorem dL_total_9 : decode cL_total 9 = .ok (.goto 6, 3) := by decide +kernel
theorem dL_writeCard_0 : decode cL_writeCard 0 = .ok (.aload_n 2, 1) := by decide +kernel
theorem dL_writeCard_1 : decode cL_writeCard 1 = .ok (.iconst 0, 1) := by decide +kernel
theorem dL_writeCard_12 : decode cL_writeCard 12 = .ok (.astore_n 3, 1) := by decide +kernel
theorem dL_writeCard_13 : decode cL_writeCard 13 = .ok (.iconst 1, 1) := by decide +kernel
theorem dL_writeCard_14 : decode cL_writeCard 14 = .ok (.ireturn, 1) := by decide +kernel
theorem dL_writeCard_15 : decode cL_writeCard 15 = .ok (.iconst 0, 1) := by decide +kernel
theorem dL_writeCard_16 : decode cL_writeCard 16 = .ok (.ireturn, 1) := by decide +kernel
theorem dL_writeCard_2 : decode cL_writeCard 2 = .ok (.aload_n 0, 1) := by decide +kernel
theorem dL_writeCard_3 : decode cL_writeCard 3 = .ok (.iload_n 1, 1) := by decide +kernel
theorem dL_writeCard_4 : decode cL_writeCard 4 = .ok (.invokevirtual 117, 3) := by decide +kernel
theorem dL_writeCard_7 : decode cL_writeCard 7 = .ok (.i2l, 1) := by decide +kernel
theorem dL_writeCard_8 : decode cL_writeCard 8 = .ok (.lastore, 1) := by decide +kernel
theorem dL_writeCard_9 : decode cL_writeCard 9 = .ok (.goto 6, 3) := by decide +kernel

