/-! names -/
theorem dL_bestRank_0 : decode cL_bestRank 0 = .ok (.aload_n 2, 1) := by decide +kernel
theorem dL_bestRank_1 : decode cL_bestRank 1 = .ok (.iconst 0, 1) := by decide +kernel
theorem dL_bestRank_12 : decode cL_bestRank 12 = .ok (.astore_n 3, 1) := by decide +kernel
theorem dL_bestRank_13 : decode cL_bestRank 13 = .ok (.iconst 1, 1) := by decide +kernel
theorem dL_bestRank_14 : decode cL_bestRank 14 = .ok (.ireturn, 1) := by decide +kernel
theorem dL_bestRank_15 : decode cL_bestRank 15 = .ok (.iconst 0, 1) := by decide +kernel
theorem dL_bestRank_16 : decode cL_bestRank 16 = .ok (.ireturn, 1) := by decide +kernel
theorem dL_bestRank_2 : decode cL_bestRank 2 = .ok (.aload_n 0, 1) := by decide +kernel
theorem dL_bestRank_3 : decode cL_bestRank 3 = .ok (.iload_n 1, 1) := by decide +kernel
theorem dL_bestRank_4 : decode cL_bestRank 4 = .ok (.invokevirtual 114, 3) := by decide +kernel
theorem dL_bestRank_7 : decode cL_bestRank 7 = .ok (.i2l, 1) := by decide +kernel
theorem dL_bestRank_8 : decode cL_bestRank 8 = .ok (.lastore, 1) := by decide +kernel
theorem dL_bestRank_9 : decode cL_bestRank 9 = .ok (.goto 6, 3) := by decide +kernel
theorem dL_blanksIn_0 : decode cL_blanksIn 0 = .ok (.aload_n 2, 1) := by decide +kernel
theorem dL_blanksIn_1 : decode cL_blanksIn 1 = .ok (.iconst 0, 1) := by decide +kernel
theorem dL_blanksIn_12 : decode cL_blanksIn 12 = .ok (.astore_n 3, 1) := by decide +kernel
theorem dL_blanksIn_13 : decode cL_blanksIn 13 = .ok (.iconst 1, 1) := by decide +kernel
theorem dL_blanksIn_14 : decode cL_blanksIn 14 = .ok (.ireturn, 1) := by decide +kernel
theorem dL_blanksIn_15 : decode cL_blanksIn 15 = .ok (.iconst 0, 1) := by decide +kernel
theorem dL_blanksIn_16 : decode cL_blanksIn 16 = .ok (.ireturn, 1) := by decide +kernel
theorem dL_blanksIn_2 : decode cL_blanksIn 2 = .ok (.aload_n 0, 1) := by decide +kernel
theorem dL_blanksIn_3 : decode cL_blanksIn 3 = .ok (.iload_n 1, 1) := by decide +kernel
theorem dL_blanksIn_4 : decode cL_blanksIn 4 = .ok (.invokevirtual 108, 3) := by decide +kernel
theorem dL_blanksIn_7 : decode cL_blanksIn 7 = .ok (.i2l, 1) := by decide +kernel
theorem dL_blanksIn_8 : decode cL_blanksIn 8 = .ok (.lastore, 1) := by decide +kernel
theorem dL_blanksIn_9 : decode cL_blanksIn 9 = .ok (.goto 6, 3) := by decide +kernel
theorem dL_busyPart_0 : decode cL_busyPart 0 = .ok (.aload_n 2, 1) := by decide +kernel
theorem dL_busyPart_1 : decode cL_busyPart 1 = .ok (.iconst 0, 1) := by decide +kernel
theorem dL_busyPart_12 : decode cL_busyPart 12 = .ok (.astore_n 3, 1) := by decide +kernel
theorem dL_busyPart_13 : decode cL_busyPart 13 = .ok (.iconst 1, 1) := by decide +kernel
theorem dL_busyPart_14 : decode cL_busyPart 14 = .ok (.ireturn, 1) := by decide +kernel
theorem dL_busyPart_15 : decode cL_busyPart 15 = .ok (.iconst 0, 1) := by decide +kernel
theorem dL_busyPart_16 : decode cL_busyPart 16 = .ok (.ireturn, 1) := by decide +kernel
theorem dL_busyPart_2 : decode cL_busyPart 2 = .ok (.aload_n 0, 1) := by decide +kernel
theorem dL_busyPart_3 : decode cL_busyPart 3 = .ok (.iload_n 1, 1) := by decide +kernel
theorem dL_busyPart_4 : decode cL_busyPart 4 = .ok (.invokevirtual 52, 3) := by decide +kernel
theorem dL_busyPart_7 : decode cL_busyPart 7 = .ok (.f2d, 1) := by decide +kernel
theorem dL_busyPart_8 : decode cL_busyPart 8 = .ok (.dastore, 1) := by decide +kernel
theorem dL_busyPart_9 : decode cL_busyPart 9 = .ok (.goto 6, 3) := by decide +kernel
theorem dL_cardOf_0 : decode cL_cardOf 0 = .ok (.aload_n 3, 1) := by decide +kernel
theorem dL_cardOf_1 : decode cL_cardOf 1 = .ok (.iconst 0, 1) := by decide +kernel
theorem dL_cardOf_10 : decode cL_cardOf 10 = .ok (.goto 7, 3) := by decide +kernel
theorem dL_cardOf_13 : decode cL_cardOf 13 = .ok (.astore 4, 2) := by decide +kernel
theorem dL_cardOf_15 : decode cL_cardOf 15 = .ok (.iconst 1, 1) := by decide +kernel
theorem dL_cardOf_16 : decode cL_cardOf 16 = .ok (.ireturn, 1) := by decide +kernel
theorem dL_cardOf_17 : decode cL_cardOf 17 = .ok (.iconst 0, 1) := by decide +kernel
theorem dL_cardOf_18 : decode cL_cardOf 18 = .ok (.ireturn, 1) := by decide +kernel
theorem dL_cardOf_2 : decode cL_cardOf 2 = .ok (.aload_n 0, 1) := by decide +kernel
theorem dL_cardOf_3 : decode cL_cardOf 3 = .ok (.iload_n 1, 1) := by decide +kernel
theorem dL_cardOf_4 : decode cL_cardOf 4 = .ok (.iload_n 2, 1) := by decide +kernel
theorem dL_cardOf_5 : decode cL_cardOf 5 = .ok (.invokevirtual 33, 3) := by decide +kernel
theorem dL_cardOf_8 : decode cL_cardOf 8 = .ok (.i2l, 1) := by decide +kernel
theorem dL_cardOf_9 : decode cL_cardOf 9 = .ok (.lastore, 1) := by decide +kernel
theorem dL_card_0 : decode cL_card 0 = .ok (.aload_n 3, 1) := by decide +kernel
theorem dL_card_1 : decode cL_card 1 = .ok (.iconst 0, 1) := by decide +kernel
theorem dL_card_10 : decode cL_card 10 = .ok (.goto 11, 3) := by decide +kernel
theorem dL_card_13 : decode cL_card 13 = .ok (.astore 4, 2) := by decide +kernel
theorem dL_card_15 : decode cL_card 15 = .ok (.iconst 1, 1) := by decide +kernel
theorem dL_card_16 : decode cL_card 16 = .ok (.ireturn, 1) := by decide +kernel
theorem dL_card_17 : decode cL_card 17 = .ok (.astore 4, 2) := by decide +kernel
theorem dL_card_19 : decode cL_card 19 = .ok (.iconst 2, 1) := by decide +kernel
theorem dL_card_2 : decode cL_card 2 = .ok (.aload_n 0, 1) := by decide +kernel
theorem dL_card_20 : decode cL_card 20 = .ok (.ireturn, 1) := by decide +kernel
theorem dL_card_21 : decode cL_card 21 = .ok (.iconst 0, 1) := by decide +kernel
theorem dL_card_22 : decode cL_card 22 = .ok (.ireturn, 1) := by decide +kernel
theorem dL_card_3 : decode cL_card 3 = .ok (.iload_n 1, 1) := by decide +kernel
theorem dL_card_4 : decode cL_card 4 = .ok (.iload_n 2, 1) := by decide +kernel
theorem dL_card_5 : decode cL_card 5 = .ok (.invokevirtual 24, 3) := by decide +kernel
theorem dL_card_8 : decode cL_card 8 = .ok (.i2l, 1) := by decide +kernel
theorem dL_card_9 : decode cL_card 9 = .ok (.lastore, 1) := by decide +kernel
theorem dL_count_0 : decode cL_count 0 = .ok (.aload_n 2, 1) := by decide +kernel
theorem dL_count_1 : decode cL_count 1 = .ok (.iconst 0, 1) := by decide +kernel
theorem dL_count_12 : decode cL_count 12 = .ok (.astore_n 3, 1) := by decide +kernel
theorem dL_count_13 : decode cL_count 13 = .ok (.iconst 1, 1) := by decide +kernel
theorem dL_count_14 : decode cL_count 14 = .ok (.ireturn, 1) := by decide +kernel
theorem dL_count_15 : decode cL_count 15 = .ok (.iconst 0, 1) := by decide +kernel
theorem dL_count_16 : decode cL_count 16 = .ok (.ireturn, 1) := by decide +kernel
theorem dL_count_2 : decode cL_count 2 = .ok (.aload_n 0, 1) := by decide +kernel
theorem dL_count_3 : decode cL_count 3 = .ok (.iload_n 1, 1) := by decide +kernel
theorem dL_count_4 : decode cL_count 4 = .ok (.invokevirtual 7, 3) := by decide +kernel
theorem dL_count_7 : decode cL_count 7 = .ok (.i2l, 1) := by decide +kernel
theorem dL_count_8 : decode cL_count 8 = .ok (.lastore, 1) := by decide +kernel
theorem dL_count_9 : decode cL_count 9 = .ok (.goto 6, 3) := by decide +kernel
theorem dL_day_0 : decode cL_day 0 = .ok (.aload 4, 2) := by decide +kernel
theorem dL_day_10 : decode cL_day 10 = .ok (.i2l, 1) := by decide +kernel
theorem dL_day_11 : decode cL_day 11 = .ok (.lastore, 1) := by decide +kernel
theorem dL_day_12 : decode cL_day 12 = .ok (.goto 11, 3) := by decide +kernel
theorem dL_day_15 : decode cL_day 15 = .ok (.astore 5, 2) := by decide +kernel
theorem dL_day_17 : decode cL_day 17 = .ok (.iconst 1, 1) := by decide +kernel
theorem dL_day_18 : decode cL_day 18 = .ok (.ireturn, 1) := by decide +kernel
theorem dL_day_19 : decode cL_day 19 = .ok (.astore 5, 2) := by decide +kernel
theorem dL_day_2 : decode cL_day 2 = .ok (.iconst 0, 1) := by decide +kernel
theorem dL_day_21 : decode cL_day 21 = .ok (.iconst 2, 1) := by decide +kernel
theorem dL_day_22 : decode cL_day 22 = .ok (.ireturn, 1) := by decide +kernel
theorem dL_day_23 : decode cL_day 23 = .ok (.iconst 0, 1) := by decide +kernel
theorem dL_day_24 : decode cL_day 24 = .ok (.ireturn, 1) := by decide +kernel
theorem dL_day_3 : decode cL_day 3 = .ok (.aload_n 0, 1) := by decide +kernel
theorem dL_day_4 : decode cL_day 4 = .ok (.iload_n 1, 1) := by decide +kernel
theorem dL_day_5 : decode cL_day 5 = .ok (.iload_n 2, 1) := by decide +kernel
theorem dL_day_6 : decode cL_day 6 = .ok (.iload_n 3, 1) := by decide +kernel
theorem dL_day_7 : decode cL_day 7 = .ok (.invokevirtual 42, 3) := by decide +kernel
theorem dL_failIn_0 : decode cL_failIn 0 = .ok (.aload_n 2, 1) := by decide +kernel
theorem dL_failIn_1 : decode cL_failIn 1 = .ok (.iconst 0, 1) := by decide +kernel
theorem dL_failIn_12 : decode cL_failIn 12 = .ok (.astore_n 3, 1) := by decide +kernel
theorem dL_failIn_13 : decode cL_failIn 13 = .ok (.iconst 1, 1) := by decide +kernel
theorem dL_failIn_14 : decode cL_failIn 14 = .ok (.ireturn, 1) := by decide +kernel
theorem dL_failIn_15 : decode cL_failIn 15 = .ok (.iconst 0, 1) := by decide +kernel
theorem dL_failIn_16 : decode cL_failIn 16 = .ok (.ireturn, 1) := by decide +kernel
theorem dL_failIn_2 : decode cL_failIn 2 = .ok (.aload_n 0, 1) := by decide +kernel
theorem dL_failIn_3 : decode cL_failIn 3 = .ok (.iload_n 1, 1) := by decide +kernel
theorem dL_failIn_4 : decode cL_failIn 4 = .ok (.invokevirtual 105, 3) := by decide +kernel
theorem dL_failIn_7 : decode cL_failIn 7 = .ok (.i2l, 1) := by decide +kernel
theorem dL_failIn_8 : decode cL_failIn 8 = .ok (.lastore, 1) := by decide +kernel
theorem dL_failIn_9 : decode cL_failIn 9 = .ok (.goto 6, 3) := by decide +kernel
theorem dL_giveUp_0 : decode cL_giveUp 0 = .ok (.aload_n 2, 1) := by decide +kernel
theorem dL_giveUp_1 : decode cL_giveUp 1 = .ok (.iconst 0, 1) := by decide +kernel
theorem dL_giveUp_12 : decode cL_giveUp 12 = .ok (.astore_n 3, 1) := by decide +kernel
theorem dL_giveUp_13 : decode cL_giveUp 13 = .ok (.iconst 1, 1) := by decide +kernel
theorem dL_giveUp_14 : decode cL_giveUp 14 = .ok (.ireturn, 1) := by decide +kernel
theorem dL_giveUp_15 : decode cL_giveUp 15 = .ok (.iconst 0, 1) := by decide +kernel
theorem dL_giveUp_16 : decode cL_giveUp 16 = .ok (.ireturn, 1) := by decide +kernel
theorem dL_giveUp_2 : decode cL_giveUp 2 = .ok (.aload_n 0, 1) := by decide +kernel
theorem dL_giveUp_3 : decode cL_giveUp 3 = .ok (.iload_n 1, 1) := by decide +kernel
theorem dL_giveUp_4 : decode cL_giveUp 4 = .ok (.invokevirtual 59, 3) := by decide +kernel
theorem dL_giveUp_7 : decode cL_giveUp 7 = .ok (.i2l, 1) := by decide +kernel
theorem dL_giveUp_8 : decode cL_giveUp 8 = .ok (.lastore, 1) := by decide +kernel
theorem dL_giveUp_9 : decode cL_giveUp 9 = .ok (.goto 6, 3) := by decide +kernel
theorem dL_law_1000 : decode cL_law 1000 = .ok (.iload 5, 2) := by decide +kernel
theorem dL_law_1002 : decode cL_law 1002 = .ok (.iconst 1, 1) := by decide +kernel
theorem dL_law_1003 : decode cL_law 1003 = .ok (.iadd, 1) := by decide +kernel
theorem dL_law_1004 : decode cL_law 1004 = .ok (.iaload, 1) := by decide +kernel
theorem dL_law_1005 : decode cL_law 1005 = .ok (.aload_n 3, 1) := by decide +kernel
theorem dL_law_1006 : decode cL_law 1006 = .ok (.invokestatic 228, 3) := by decide +kernel
theorem dL_law_1009 : decode cL_law 1009 = .ok (.istore 6, 2) := by decide +kernel
theorem dL_law_1011 : decode cL_law 1011 = .ok (.aload_n 2, 1) := by decide +kernel
theorem dL_law_1012 : decode cL_law 1012 = .ok (.aload_n 0, 1) := by decide +kernel
theorem dL_law_1013 : decode cL_law 1013 = .ok (.iload 5, 2) := by decide +kernel
theorem dL_law_1015 : decode cL_law 1015 = .ok (.iconst 1, 1) := by decide +kernel
theorem dL_law_1016 : decode cL_law 1016 = .ok (.iadd, 1) := by decide +kernel
theorem dL_law_1017 : decode cL_law 1017 = .ok (.iaload, 1) := by decide +kernel
theorem dL_law_1018 : decode cL_law 1018 = .ok (.invokevirtual 230, 3) := by decide +kernel
theorem dL_law_1021 : decode cL_law 1021 = .ok (.istore 7, 2) := by decide +kernel
theorem dL_law_1023 : decode cL_law 1023 = .ok (.goto 768, 3) := by decide +kernel
theorem dL_law_1026 : decode cL_law 1026 = .ok (.aload_n 1, 1) := by decide +kernel
theorem dL_law_1027 : decode cL_law 1027 = .ok (.aload_n 0, 1) := by decide +kernel
theorem dL_law_1028 : decode cL_law 1028 = .ok (.iload 5, 2) := by decide +kernel
theorem dL_law_1030 : decode cL_law 1030 = .ok (.iconst 1, 1) := by decide +kernel
theorem dL_law_1031 : decode cL_law 1031 = .ok (.iadd, 1) := by decide +kernel
theorem dL_law_1032 : decode cL_law 1032 = .ok (.iaload, 1) := by decide +kernel
theorem dL_law_1033 : decode cL_law 1033 = .ok (.aload_n 0, 1) := by decide +kernel
theorem dL_law_1034 : decode cL_law 1034 = .ok (.iload 5, 2) := by decide +kernel
theorem dL_law_1036 : decode cL_law 1036 = .ok (.iconst 2, 1) := by decide +kernel
theorem dL_law_1037 : decode cL_law 1037 = .ok (.iadd, 1) := by decide +kernel
theorem dL_law_1038 : decode cL_law 1038 = .ok (.iaload, 1) := by decide +kernel
theorem dL_law_1039 : decode cL_law 1039 = .ok (.aload_n 3, 1) := by decide +kernel
theorem dL_law_1040 : decode cL_law 1040 = .ok (.invokestatic 231, 3) := by decide +kernel
theorem dL_law_1043 : decode cL_law 1043 = .ok (.istore 6, 2) := by decide +kernel
theorem dL_law_1045 : decode cL_law 1045 = .ok (.aload_n 2, 1) := by decide +kernel
theorem dL_law_1046 : decode cL_law 1046 = .ok (.aload_n 0, 1) := by decide +kernel
theorem dL_law_1047 : decode cL_law 1047 = .ok (.iload 5, 2) := by decide +kernel
theorem dL_law_1049 : decode cL_law 1049 = .ok (.iconst 1, 1) := by decide +kernel
theorem dL_law_1050 : decode cL_law 1050 = .ok (.iadd, 1) := by decide +kernel
theorem dL_law_1051 : decode cL_law 1051 = .ok (.iaload, 1) := by decide +kernel
theorem dL_law_1052 : decode cL_law 1052 = .ok (.aload_n 0, 1) := by decide +kernel
theorem dL_law_1053 : decode cL_law 1053 = .ok (.iload 5, 2) := by decide +kernel
theorem dL_law_1055 : decode cL_law 1055 = .ok (.iconst 2, 1) := by decide +kernel
theorem dL_law_1056 : decode cL_law 1056 = .ok (.iadd, 1) := by decide +kernel
theorem dL_law_1057 : decode cL_law 1057 = .ok (.iaload, 1) := by decide +kernel
theorem dL_law_1058 : decode cL_law 1058 = .ok (.invokevirtual 233, 3) := by decide +kernel
theorem dL_law_1061 : decode cL_law 1061 = .ok (.istore 7, 2) := by decide +kernel
theorem dL_law_1063 : decode cL_law 1063 = .ok (.goto 728, 3) := by decide +kernel
theorem dL_law_1066 : decode cL_law 1066 = .ok (.aload_n 1, 1) := by decide +kernel
theorem dL_law_1067 : decode cL_law 1067 = .ok (.aload_n 0, 1) := by decide +kernel
theorem dL_law_1068 : decode cL_law 1068 = .ok (.iload 5, 2) := by decide +kernel
theorem dL_law_1070 : decode cL_law 1070 = .ok (.iconst 1, 1) := by decide +kernel
theorem dL_law_1071 : decode cL_law 1071 = .ok (.iadd, 1) := by decide +kernel
theorem dL_law_1072 : decode cL_law 1072 = .ok (.iaload, 1) := by decide +kernel
theorem dL_law_1073 : decode cL_law 1073 = .ok (.aload_n 3, 1) := by decide +kernel
theorem dL_law_1074 : decode cL_law 1074 = .ok (.invokestatic 234, 3) := by decide +kernel
theorem dL_law_1077 : decode cL_law 1077 = .ok (.istore 6, 2) := by decide +kernel
theorem dL_law_1079 : decode cL_law 1079 = .ok (.aload_n 2, 1) := by decide +kernel
theorem dL_law_1080 : decode cL_law 1080 = .ok (.aload_n 0, 1) := by decide +kernel
theorem dL_law_1081 : decode cL_law 1081 = .ok (.iload 5, 2) := by decide +kernel
theorem dL_law_1083 : decode cL_law 1083 = .ok (.iconst 1, 1) := by decide +kernel
theorem dL_law_1084 : decode cL_law 1084 = .ok (.iadd, 1) := by decide +kernel
theorem dL_law_1085 : decode cL_law 1085 = .ok (.iaload, 1) := by decide +kernel
theorem dL_law_1086 : decode cL_law 1086 = .ok (.invokevirtual 236, 3) := by decide +kernel
theorem dL_law_1089 : decode cL_law 1089 = .ok (.istore 7, 2) := by decide +kernel
theorem dL_law_1091 : decode cL_law 1091 = .ok (.goto 700, 3) := by decide +kernel
theorem dL_law_1094 : decode cL_law 1094 = .ok (.aload_n 1, 1) := by decide +kernel
theorem dL_law_1095 : decode cL_law 1095 = .ok (.aload_n 0, 1) := by decide +kernel
theorem dL_law_1096 : decode cL_law 1096 = .ok (.iload 5, 2) := by decide +kernel
theorem dL_law_1098 : decode cL_law 1098 = .ok (.iconst 1, 1) := by decide +kernel
theorem dL_law_1099 : decode cL_law 1099 = .ok (.iadd, 1) := by decide +kernel
theorem dL_law_1100 : decode cL_law 1100 = .ok (.iaload, 1) := by decide +kernel
theorem dL_law_1101 : decode cL_law 1101 = .ok (.aload_n 0, 1) := by decide +kernel
theorem dL_law_1102 : decode cL_law 1102 = .ok (.iload 5, 2) := by decide +kernel
theorem dL_law_1104 : decode cL_law 1104 = .ok (.iconst 2, 1) := by decide +kernel
theorem dL_law_1105 : decode cL_law 1105 = .ok (.iadd, 1) := by decide +kernel
theorem dL_law_1106 : decode cL_law 1106 = .ok (.iaload, 1) := by decide +kernel
theorem dL_law_1107 : decode cL_law 1107 = .ok (.aload_n 3, 1) := by decide +kernel
theorem dL_law_1108 : decode cL_law 1108 = .ok (.invokestatic 237, 3) := by decide +kernel
theorem dL_law_1111 : decode cL_law 1111 = .ok (.istore 6, 2) := by decide +kernel
theorem dL_law_1113 : decode cL_law 1113 = .ok (.aload_n 2, 1) := by decide +kernel
theorem dL_law_1114 : decode cL_law 1114 = .ok (.aload_n 0, 1) := by decide +kernel
theorem dL_law_1115 : decode cL_law 1115 = .ok (.iload 5, 2) := by decide +kernel
theorem dL_law_1117 : decode cL_law 1117 = .ok (.iconst 1, 1) := by decide +kernel
theorem dL_law_1118 : decode cL_law 1118 = .ok (.iadd, 1) := by decide +kernel
theorem dL_law_1119 : decode cL_law 1119 = .ok (.iaload, 1) := by decide +kernel
theorem dL_law_1120 : decode cL_law 1120 = .ok (.aload_n 0, 1) := by decide +kernel
theorem dL_law_1121 : decode cL_law 1121 = .ok (.iload 5, 2) := by decide +kernel
theorem dL_law_1123 : decode cL_law 1123 = .ok (.iconst 2, 1) := by decide +kernel
theorem dL_law_1124 : decode cL_law 1124 = .ok (.iadd, 1) := by decide +kernel
theorem dL_law_1125 : decode cL_law 1125 = .ok (.iaload, 1) := by decide +kernel
theorem dL_law_1126 : decode cL_law 1126 = .ok (.invokevirtual 239, 3) := by decide +kernel
theorem dL_law_1129 : decode cL_law 1129 = .ok (.istore 7, 2) := by decide +kernel
theorem dL_law_1131 : decode cL_law 1131 = .ok (.goto 660, 3) := by decide +kernel
theorem dL_law_1134 : decode cL_law 1134 = .ok (.aload_n 1, 1) := by decide +kernel
theorem dL_law_1135 : decode cL_law 1135 = .ok (.aload_n 0, 1) := by decide +kernel
theorem dL_law_1136 : decode cL_law 1136 = .ok (.iload 5, 2) := by decide +kernel
theorem dL_law_1138 : decode cL_law 1138 = .ok (.iconst 1, 1) := by decide +kernel
theorem dL_law_1139 : decode cL_law 1139 = .ok (.iadd, 1) := by decide +kernel
theorem dL_law_1140 : decode cL_law 1140 = .ok (.iaload, 1) := by decide +kernel
theorem dL_law_1141 : decode cL_law 1141 = .ok (.aload_n 0, 1) := by decide +kernel
theorem dL_law_1142 : decode cL_law 1142 = .ok (.iload 5, 2) := by decide +kernel
theorem dL_law_1144 : decode cL_law 1144 = .ok (.iconst 2, 1) := by decide +kernel
theorem dL_law_1145 : decode cL_law 1145 = .ok (.iadd, 1) := by decide +kernel
theorem dL_law_1146 : decode cL_law 1146 = .ok (.iaload, 1) := by decide +kernel
theorem dL_law_1147 : decode cL_law 1147 = .ok (.ifCond .eq 7, 3) := by decide +kernel
theorem dL_law_1150 : decode cL_law 1150 = .ok (.iconst 1, 1) := by decide +kernel
theorem dL_law_1151 : decode cL_law 1151 = .ok (.goto 4, 3) := by decide +kernel
theorem dL_law_1154 : decode cL_law 1154 = .ok (.iconst 0, 1) := by decide +kernel
theorem dL_law_1155 : decode cL_law 1155 = .ok (.aload_n 3, 1) := by decide +kernel
theorem dL_law_1156 : decode cL_law 1156 = .ok (.invokestatic 240, 3) := by decide +kernel
theorem dL_law_1159 : decode cL_law 1159 = .ok (.istore 6, 2) := by decide +kernel
theorem dL_law_1161 : decode cL_law 1161 = .ok (.aload_n 2, 1) := by decide +kernel
theorem dL_law_1162 : decode cL_law 1162 = .ok (.aload_n 0, 1) := by decide +kernel
theorem dL_law_1163 : decode cL_law 1163 = .ok (.iload 5, 2) := by decide +kernel
theorem dL_law_1165 : decode cL_law 1165 = .ok (.iconst 1, 1) := by decide +kernel
theorem dL_law_1166 : decode cL_law 1166 = .ok (.iadd, 1) := by decide +kernel
theorem dL_law_1167 : decode cL_law 1167 = .ok (.iaload, 1) := by decide +kernel
theorem dL_law_1168 : decode cL_law 1168 = .ok (.aload_n 0, 1) := by decide +kernel
theorem dL_law_1169 : decode cL_law 1169 = .ok (.iload 5, 2) := by decide +kernel
theorem dL_law_1171 : decode cL_law 1171 = .ok (.iconst 2, 1) := by decide +kernel
theorem dL_law_1172 : decode cL_law 1172 = .ok (.iadd, 1) := by decide +kernel
theorem dL_law_1173 : decode cL_law 1173 = .ok (.iaload, 1) := by decide +kernel
theorem dL_law_1174 : decode cL_law 1174 = .ok (.ifCond .eq 7, 3) := by decide +kernel
theorem dL_law_1177 : decode cL_law 1177 = .ok (.iconst 1, 1) := by decide +kernel
theorem dL_law_1178 : decode cL_law 1178 = .ok (.goto 4, 3) := by decide +kernel
theorem dL_law_1181 : decode cL_law 1181 = .ok (.iconst 0, 1) := by decide +kernel
theorem dL_law_1182 : decode cL_law 1182 = .ok (.invokevirtual 243, 3) := by decide +kernel
theorem dL_law_1185 : decode cL_law 1185 = .ok (.istore 7, 2) := by decide +kernel
theorem dL_law_1187 : decode cL_law 1187 = .ok (.goto 604, 3) := by decide +kernel
theorem dL_law_1190 : decode cL_law 1190 = .ok (.aload_n 1, 1) := by decide +kernel
theorem dL_law_1191 : decode cL_law 1191 = .ok (.aload_n 0, 1) := by decide +kernel
theorem dL_law_1192 : decode cL_law 1192 = .ok (.iload 5, 2) := by decide +kernel
theorem dL_law_1194 : decode cL_law 1194 = .ok (.iconst 1, 1) := by decide +kernel
theorem dL_law_1195 : decode cL_law 1195 = .ok (.iadd, 1) := by decide +kernel
theorem dL_law_1196 : decode cL_law 1196 = .ok (.iaload, 1) := by decide +kernel
theorem dL_law_1197 : decode cL_law 1197 = .ok (.aload_n 0, 1) := by decide +kernel
theorem dL_law_1198 : decode cL_law 1198 = .ok (.iload 5, 2) := by decide +kernel
theorem dL_law_1200 : decode cL_law 1200 = .ok (.iconst 2, 1) := by decide +kernel
theorem dL_law_1201 : decode cL_law 1201 = .ok (.iadd, 1) := by decide +kernel
theorem dL_law_1202 : decode cL_law 1202 = .ok (.iaload, 1) := by decide +kernel
theorem dL_law_1203 : decode cL_law 1203 = .ok (.aload_n 0, 1) := by decide +kernel
theorem dL_law_1204 : decode cL_law 1204 = .ok (.iload 5, 2) := by decide +kernel
theorem dL_law_1206 : decode cL_law 1206 = .ok (.iconst 3, 1) := by decide +kernel
theorem dL_law_1207 : decode cL_law 1207 = .ok (.iadd, 1) := by decide +kernel
theorem dL_law_1208 : decode cL_law 1208 = .ok (.iaload, 1) := by decide +kernel
theorem dL_law_1209 : decode cL_law 1209 = .ok (.aload_n 3, 1) := by decide +kernel
theorem dL_law_1210 : decode cL_law 1210 = .ok (.invokestatic 244, 3) := by decide +kernel
theorem dL_law_1213 : decode cL_law 1213 = .ok (.istore 6, 2) := by decide +kernel
theorem dL_law_1215 : decode cL_law 1215 = .ok (.aload_n 2, 1) := by decide +kernel
theorem dL_law_1216 : decode cL_law 1216 = .ok (.aload_n 0, 1) := by decide +kernel
theorem dL_law_1217 : decode cL_law 1217 = .ok (.iload 5, 2) := by decide +kernel
theorem dL_law_1219 : decode cL_law 1219 = .ok (.iconst 1, 1) := by decide +kernel
theorem dL_law_1220 : decode cL_law 1220 = .ok (.iadd, 1) := by decide +kernel
theorem dL_law_1221 : decode cL_law 1221 = .ok (.iaload, 1) := by decide +kernel
theorem dL_law_1222 : decode cL_law 1222 = .ok (.aload_n 0, 1) := by decide +kernel
theorem dL_law_1223 : decode cL_law 1223 = .ok (.iload 5, 2) := by decide +kernel
theorem dL_law_1225 : decode cL_law 1225 = .ok (.iconst 2, 1) := by decide +kernel
theorem dL_law_1226 : decode cL_law 1226 = .ok (.iadd, 1) := by decide +kernel
theorem dL_law_1227 : decode cL_law 1227 = .ok (.iaload, 1) := by decide +kernel
theorem dL_law_1228 : decode cL_law 1228 = .ok (.aload_n 0, 1) := by decide +kernel
theorem dL_law_1229 : decode cL_law 1229 = .ok (.iload 5, 2) := by decide +kernel
theorem dL_law_1231 : decode cL_law 1231 = .ok (.iconst 3, 1) := by decide +kernel
theorem dL_law_1232 : decode cL_law 1232 = .ok (.iadd, 1) := by decide +kernel
theorem dL_law_1233 : decode cL_law 1233 = .ok (.iaload, 1) := by decide +kernel
theorem dL_law_1234 : decode cL_law 1234 = .ok (.invokevirtual 246, 3) := by decide +kernel
theorem dL_law_1237 : decode cL_law 1237 = .ok (.istore 7, 2) := by decide +kernel
theorem dL_law_1239 : decode cL_law 1239 = .ok (.goto 552, 3) := by decide +kernel
theorem dL_law_1242 : decode cL_law 1242 = .ok (.aload_n 1, 1) := by decide +kernel
theorem dL_law_1243 : decode cL_law 1243 = .ok (.aload_n 0, 1) := by decide +kernel
theorem dL_law_1244 : decode cL_law 1244 = .ok (.iload 5, 2) := by decide +kernel
theorem dL_law_1246 : decode cL_law 1246 = .ok (.iconst 1, 1) := by decide +kernel
theorem dL_law_1247 : decode cL_law 1247 = .ok (.iadd, 1) := by decide +kernel
theorem dL_law_1248 : decode cL_law 1248 = .ok (.iaload, 1) := by decide +kernel
theorem dL_law_1249 : decode cL_law 1249 = .ok (.aload_n 3, 1) := by decide +kernel
theorem dL_law_1250 : decode cL_law 1250 = .ok (.invokestatic 247, 3) := by decide +kernel
theorem dL_law_1253 : decode cL_law 1253 = .ok (.istore 6, 2) := by decide +kernel
theorem dL_law_1255 : decode cL_law 1255 = .ok (.aload_n 2, 1) := by decide +kernel
theorem dL_law_1256 : decode cL_law 1256 = .ok (.aload_n 0, 1) := by decide +kernel
theorem dL_law_1257 : decode cL_law 1257 = .ok (.iload 5, 2) := by decide +kernel
theorem dL_law_1259 : decode cL_law 1259 = .ok (.iconst 1, 1) := by decide +kernel
theorem dL_law_1260 : decode cL_law 1260 = .ok (.iadd, 1) := by decide +kernel
theorem dL_law_1261 : decode cL_law 1261 = .ok (.iaload, 1) := by decide +kernel
theorem dL_law_1262 : decode cL_law 1262 = .ok (.invokevirtual 249, 3) := by decide +kernel
theorem dL_law_1265 : decode cL_law 1265 = .ok (.istore 7, 2) := by decide +kernel
theorem dL_law_1267 : decode cL_law 1267 = .ok (.goto 524, 3) := by decide +kernel
theorem dL_law_1270 : decode cL_law 1270 = .ok (.aload_n 1, 1) := by decide +kernel
theorem dL_law_1271 : decode cL_law 1271 = .ok (.aload_n 0, 1) := by decide +kernel
theorem dL_law_1272 : decode cL_law 1272 = .ok (.iload 5, 2) := by decide +kernel
theorem dL_law_1274 : decode cL_law 1274 = .ok (.iconst 1, 1) := by decide +kernel
theorem dL_law_1275 : decode cL_law 1275 = .ok (.iadd, 1) := by decide +kernel
theorem dL_law_1276 : decode cL_law 1276 = .ok (.iaload, 1) := by decide +kernel
theorem dL_law_1277 : decode cL_law 1277 = .ok (.aload_n 0, 1) := by decide +kernel
theorem dL_law_1278 : decode cL_law 1278 = .ok (.iload 5, 2) := by decide +kernel
theorem dL_law_1280 : decode cL_law 1280 = .ok (.iconst 2, 1) := by decide +kernel
theorem dL_law_1281 : decode cL_law 1281 = .ok (.iadd, 1) := by decide +kernel
theorem dL_law_1282 : decode cL_law 1282 = .ok (.iaload, 1) := by decide +kernel
theorem dL_law_1283 : decode cL_law 1283 = .ok (.aload_n 3, 1) := by decide +kernel
theorem dL_law_1284 : decode cL_law 1284 = .ok (.invokestatic 250, 3) := by decide +kernel
theorem dL_law_1287 : decode cL_law 1287 = .ok (.istore 6, 2) := by decide +kernel
theorem dL_law_1289 : decode cL_law 1289 = .ok (.aload_n 2, 1) := by decide +kernel
theorem dL_law_1290 : decode cL_law 1290 = .ok (.aload_n 0, 1) := by decide +kernel
theorem dL_law_1291 : decode cL_law 1291 = .ok (.iload 5, 2) := by decide +kernel
theorem dL_law_1293 : decode cL_law 1293 = .ok (.iconst 1, 1) := by decide +kernel
theorem dL_law_1294 : decode cL_law 1294 = .ok (.iadd, 1) := by decide +kernel
theorem dL_law_1295 : decode cL_law 1295 = .ok (.iaload, 1) := by decide +kernel
theorem dL_law_1296 : decode cL_law 1296 = .ok (.aload_n 0, 1) := by decide +kernel
theorem dL_law_1297 : decode cL_law 1297 = .ok (.iload 5, 2) := by decide +kernel
theorem dL_law_1299 : decode cL_law 1299 = .ok (.iconst 2, 1) := by decide +kernel
theorem dL_law_1300 : decode cL_law 1300 = .ok (.iadd, 1) := by decide +kernel
theorem dL_law_1301 : decode cL_law 1301 = .ok (.iaload, 1) := by decide +kernel
theorem dL_law_1302 : decode cL_law 1302 = .ok (.invokevirtual 252, 3) := by decide +kernel
theorem dL_law_1305 : decode cL_law 1305 = .ok (.istore 7, 2) := by decide +kernel
theorem dL_law_1307 : decode cL_law 1307 = .ok (.goto 484, 3) := by decide +kernel
theorem dL_law_1310 : decode cL_law 1310 = .ok (.aload_n 1, 1) := by decide +kernel
theorem dL_law_1311 : decode cL_law 1311 = .ok (.aload_n 0, 1) := by decide +kernel
theorem dL_law_1312 : decode cL_law 1312 = .ok (.iload 5, 2) := by decide +kernel
theorem dL_law_1314 : decode cL_law 1314 = .ok (.iconst 1, 1) := by decide +kernel
theorem dL_law_1315 : decode cL_law 1315 = .ok (.iadd, 1) := by decide +kernel
theorem dL_law_1316 : decode cL_law 1316 = .ok (.iaload, 1) := by decide +kernel
theorem dL_law_1317 : decode cL_law 1317 = .ok (.aload_n 3, 1) := by decide +kernel
theorem dL_law_1318 : decode cL_law 1318 = .ok (.invokestatic 253, 3) := by decide +kernel
theorem dL_law_1321 : decode cL_law 1321 = .ok (.istore 6, 2) := by decide +kernel
theorem dL_law_1323 : decode cL_law 1323 = .ok (.aload_n 2, 1) := by decide +kernel
theorem dL_law_1324 : decode cL_law 1324 = .ok (.aload_n 0, 1) := by decide +kernel
theorem dL_law_1325 : decode cL_law 1325 = .ok (.iload 5, 2) := by decide +kernel
theorem dL_law_1327 : decode cL_law 1327 = .ok (.iconst 1, 1) := by decide +kernel
theorem dL_law_1328 : decode cL_law 1328 = .ok (.iadd, 1) := by decide +kernel
theorem dL_law_1329 : decode cL_law 1329 = .ok (.iaload, 1) := by decide +kernel
theorem dL_law_1330 : decode cL_law 1330 = .ok (.invokevirtual 255, 3) := by decide +kernel
theorem dL_law_1333 : decode cL_law 1333 = .ok (.istore 7, 2) := by decide +kernel
theorem dL_law_1335 : decode cL_law 1335 = .ok (.goto 456, 3) := by decide +kernel
theorem dL_law_1338 : decode cL_law 1338 = .ok (.aload_n 1, 1) := by decide +kernel
theorem dL_law_1339 : decode cL_law 1339 = .ok (.aload_n 0, 1) := by decide +kernel
theorem dL_law_1340 : decode cL_law 1340 = .ok (.iload 5, 2) := by decide +kernel
theorem dL_law_1342 : decode cL_law 1342 = .ok (.iconst 1, 1) := by decide +kernel
theorem dL_law_1343 : decode cL_law 1343 = .ok (.iadd, 1) := by decide +kernel
theorem dL_law_1344 : decode cL_law 1344 = .ok (.iaload, 1) := by decide +kernel
theorem dL_law_1345 : decode cL_law 1345 = .ok (.aload_n 3, 1) := by decide +kernel
theorem dL_law_1346 : decode cL_law 1346 = .ok (.invokestatic 256, 3) := by decide +kernel
theorem dL_law_1349 : decode cL_law 1349 = .ok (.istore 6, 2) := by decide +kernel
theorem dL_law_1351 : decode cL_law 1351 = .ok (.aload_n 2, 1) := by decide +kernel
theorem dL_law_1352 : decode cL_law 1352 = .ok (.aload_n 0, 1) := by decide +kernel
theorem dL_law_1353 : decode cL_law 1353 = .ok (.iload 5, 2) := by decide +kernel
theorem dL_law_1355 : decode cL_law 1355 = .ok (.iconst 1, 1) := by decide +kernel
theorem dL_law_1356 : decode cL_law 1356 = .ok (.iadd, 1) := by decide +kernel
theorem dL_law_1357 : decode cL_law 1357 = .ok (.iaload, 1) := by decide +kernel
theorem dL_law_1358 : decode cL_law 1358 = .ok (.invokevirtual 258, 3) := by decide +kernel
theorem dL_law_1361 : decode cL_law 1361 = .ok (.istore 7, 2) := by decide +kernel
theorem dL_law_1363 : decode cL_law 1363 = .ok (.goto 428, 3) := by decide +kernel
theorem dL_law_1366 : decode cL_law 1366 = .ok (.aload_n 1, 1) := by decide +kernel
theorem dL_law_1367 : decode cL_law 1367 = .ok (.aload_n 0, 1) := by decide +kernel
theorem dL_law_1368 : decode cL_law 1368 = .ok (.iload 5, 2) := by decide +kernel
theorem dL_law_1370 : decode cL_law 1370 = .ok (.iconst 1, 1) := by decide +kernel
theorem dL_law_1371 : decode cL_law 1371 = .ok (.iadd, 1) := by decide +kernel
theorem dL_law_1372 : decode cL_law 1372 = .ok (.iaload, 1) := by decide +kernel
theorem dL_law_1373 : decode cL_law 1373 = .ok (.aload_n 3, 1) := by decide +kernel
theorem dL_law_1374 : decode cL_law 1374 = .ok (.invokestatic 259, 3) := by decide +kernel
theorem dL_law_1377 : decode cL_law 1377 = .ok (.istore 6, 2) := by decide +kernel
theorem dL_law_1379 : decode cL_law 1379 = .ok (.aload_n 2, 1) := by decide +kernel
theorem dL_law_1380 : decode cL_law 1380 = .ok (.aload_n 0, 1) := by decide +kernel
theorem dL_law_1381 : decode cL_law 1381 = .ok (.iload 5, 2) := by decide +kernel
theorem dL_law_1383 : decode cL_law 1383 = .ok (.iconst 1, 1) := by decide +kernel
theorem dL_law_1384 : decode cL_law 1384 = .ok (.iadd, 1) := by decide +kernel
theorem dL_law_1385 : decode cL_law 1385 = .ok (.iaload, 1) := by decide +kernel
theorem dL_law_1386 : decode cL_law 1386 = .ok (.invokevirtual 261, 3) := by decide +kernel
theorem dL_law_1389 : decode cL_law 1389 = .ok (.istore 7, 2) := by decide +kernel
theorem dL_law_1391 : decode cL_law 1391 = .ok (.goto 400, 3) := by decide +kernel
theorem dL_law_1394 : decode cL_law 1394 = .ok (.aload_n 1, 1) := by decide +kernel
theorem dL_law_1395 : decode cL_law 1395 = .ok (.aload_n 0, 1) := by decide +kernel
theorem dL_law_1396 : decode cL_law 1396 = .ok (.iload 5, 2) := by decide +kernel
theorem dL_law_1398 : decode cL_law 1398 = .ok (.iconst 1, 1) := by decide +kernel
theorem dL_law_1399 : decode cL_law 1399 = .ok (.iadd, 1) := by decide +kernel
theorem dL_law_1400 : decode cL_law 1400 = .ok (.iaload, 1) := by decide +kernel
theorem dL_law_1401 : decode cL_law 1401 = .ok (.aload_n 3, 1) := by decide +kernel
theorem dL_law_1402 : decode cL_law 1402 = .ok (.invokestatic 262, 3) := by decide +kernel
theorem dL_law_1405 : decode cL_law 1405 = .ok (.istore 6, 2) := by decide +kernel
theorem dL_law_1407 : decode cL_law 1407 = .ok (.aload_n 2, 1) := by decide +kernel
theorem dL_law_1408 : decode cL_law 1408 = .ok (.aload_n 0, 1) := by decide +kernel
theorem dL_law_1409 : decode cL_law 1409 = .ok (.iload 5, 2) := by decide +kernel
theorem dL_law_1411 : decode cL_law 1411 = .ok (.iconst 1, 1) := by decide +kernel
theorem dL_law_1412 : decode cL_law 1412 = .ok (.iadd, 1) := by decide +kernel
theorem dL_law_1413 : decode cL_law 1413 = .ok (.iaload, 1) := by decide +kernel
theorem dL_law_1414 : decode cL_law 1414 = .ok (.invokevirtual 264, 3) := by decide +kernel
theorem dL_law_1417 : decode cL_law 1417 = .ok (.istore 7, 2) := by decide +kernel
theorem dL_law_1419 : decode cL_law 1419 = .ok (.goto 372, 3) := by decide +kernel
theorem dL_law_1422 : decode cL_law 1422 = .ok (.aload_n 1, 1) := by decide +kernel
theorem dL_law_1423 : decode cL_law 1423 = .ok (.aload_n 0, 1) := by decide +kernel
theorem dL_law_1424 : decode cL_law 1424 = .ok (.iload 5, 2) := by decide +kernel
theorem dL_law_1426 : decode cL_law 1426 = .ok (.iconst 1, 1) := by decide +kernel
theorem dL_law_1427 : decode cL_law 1427 = .ok (.iadd, 1) := by decide +kernel
theorem dL_law_1428 : decode cL_law 1428 = .ok (.iaload, 1) := by decide +kernel
theorem dL_law_1429 : decode cL_law 1429 = .ok (.aload_n 3, 1) := by decide +kernel
theorem dL_law_1430 : decode cL_law 1430 = .ok (.invokestatic 265, 3) := by decide +kernel
theorem dL_law_1433 : decode cL_law 1433 = .ok (.istore 6, 2) := by decide +kernel
theorem dL_law_1435 : decode cL_law 1435 = .ok (.aload_n 2, 1) := by decide +kernel
theorem dL_law_1436 : decode cL_law 1436 = .ok (.aload_n 0, 1) := by decide +kernel
theorem dL_law_1437 : decode cL_law 1437 = .ok (.iload 5, 2) := by decide +kernel
theorem dL_law_1439 : decode cL_law 1439 = .ok (.iconst 1, 1) := by decide +kernel
theorem dL_law_1440 : decode cL_law 1440 = .ok (.iadd, 1) := by decide +kernel
theorem dL_law_1441 : decode cL_law 1441 = .ok (.iaload, 1) := by decide +kernel
theorem dL_law_1442 : decode cL_law 1442 = .ok (.invokevirtual 267, 3) := by decide +kernel
theorem dL_law_1445 : decode cL_law 1445 = .ok (.istore 7, 2) := by decide +kernel
theorem dL_law_1447 : decode cL_law 1447 = .ok (.goto 344, 3) := by decide +kernel
theorem dL_law_1450 : decode cL_law 1450 = .ok (.aload_n 1, 1) := by decide +kernel
theorem dL_law_1451 : decode cL_law 1451 = .ok (.aload_n 0, 1) := by decide +kernel
theorem dL_law_1452 : decode cL_law 1452 = .ok (.iload 5, 2) := by decide +kernel
theorem dL_law_1454 : decode cL_law 1454 = .ok (.iconst 1, 1) := by decide +kernel
theorem dL_law_1455 : decode cL_law 1455 = .ok (.iadd, 1) := by decide +kernel
theorem dL_law_1456 : decode cL_law 1456 = .ok (.iaload, 1) := by decide +kernel
theorem dL_law_1457 : decode cL_law 1457 = .ok (.aload_n 3, 1) := by decide +kernel
theorem dL_law_1458 : decode cL_law 1458 = .ok (.invokestatic 268, 3) := by decide +kernel
theorem dL_law_1461 : decode cL_law 1461 = .ok (.istore 6, 2) := by decide +kernel
theorem dL_law_1463 : decode cL_law 1463 = .ok (.aload_n 2, 1) := by decide +kernel
theorem dL_law_1464 : decode cL_law 1464 = .ok (.aload_n 0, 1) := by decide +kernel
theorem dL_law_1465 : decode cL_law 1465 = .ok (.iload 5, 2) := by decide +kernel
theorem dL_law_1467 : decode cL_law 1467 = .ok (.iconst 1, 1) := by decide +kernel
theorem dL_law_1468 : decode cL_law 1468 = .ok (.iadd, 1) := by decide +kernel
theorem dL_law_1469 : decode cL_law 1469 = .ok (.iaload, 1) := by decide +kernel
theorem dL_law_1470 : decode cL_law 1470 = .ok (.invokevirtual 270, 3) := by decide +kernel
theorem dL_law_1473 : decode cL_law 1473 = .ok (.istore 7, 2) := by decide +kernel
theorem dL_law_1475 : decode cL_law 1475 = .ok (.goto 316, 3) := by decide +kernel
theorem dL_law_1478 : decode cL_law 1478 = .ok (.aload_n 1, 1) := by decide +kernel
theorem dL_law_1479 : decode cL_law 1479 = .ok (.invokevirtual 271, 3) := by decide +kernel
theorem dL_law_1482 : decode cL_law 1482 = .ok (.pop, 1) := by decide +kernel
theorem dL_law_1483 : decode cL_law 1483 = .ok (.aload_n 2, 1) := by decide +kernel
theorem dL_law_1484 : decode cL_law 1484 = .ok (.invokevirtual 274, 3) := by decide +kernel
theorem dL_law_1487 : decode cL_law 1487 = .ok (.pop, 1) := by decide +kernel
theorem dL_law_1488 : decode cL_law 1488 = .ok (.goto 303, 3) := by decide +kernel
theorem dL_law_1491 : decode cL_law 1491 = .ok (.aload_n 1, 1) := by decide +kernel
theorem dL_law_1492 : decode cL_law 1492 = .ok (.aload_n 0, 1) := by decide +kernel
theorem dL_law_1493 : decode cL_law 1493 = .ok (.iload 5, 2) := by decide +kernel
theorem dL_law_1495 : decode cL_law 1495 = .ok (.iconst 1, 1) := by decide +kernel
theorem dL_law_1496 : decode cL_law 1496 = .ok (.iadd, 1) := by decide +kernel
theorem dL_law_1497 : decode cL_law 1497 = .ok (.iaload, 1) := by decide +kernel
theorem dL_law_1498 : decode cL_law 1498 = .ok (.aload_n 3, 1) := by decide +kernel
theorem dL_law_1499 : decode cL_law 1499 = .ok (.invokestatic 275, 3) := by decide +kernel
theorem dL_law_1502 : decode cL_law 1502 = .ok (.istore 6, 2) := by decide +kernel
theorem dL_law_1504 : decode cL_law 1504 = .ok (.aload_n 2, 1) := by decide +kernel
theorem dL_law_1505 : decode cL_law 1505 = .ok (.aload_n 0, 1) := by decide +kernel
theorem dL_law_1506 : decode cL_law 1506 = .ok (.iload 5, 2) := by decide +kernel
theorem dL_law_1508 : decode cL_law 1508 = .ok (.iconst 1, 1) := by decide +kernel
theorem dL_law_1509 : decode cL_law 1509 = .ok (.iadd, 1) := by decide +kernel
theorem dL_law_1510 : decode cL_law 1510 = .ok (.iaload, 1) := by decide +kernel
theorem dL_law_1511 : decode cL_law 1511 = .ok (.invokevirtual 277, 3) := by decide +kernel
theorem dL_law_1514 : decode cL_law 1514 = .ok (.istore 7, 2) := by decide +kernel
theorem dL_law_1516 : decode cL_law 1516 = .ok (.goto 275, 3) := by decide +kernel
theorem dL_law_1519 : decode cL_law 1519 = .ok (.aload_n 1, 1) := by decide +kernel
theorem dL_law_1520 : decode cL_law 1520 = .ok (.aload_n 0, 1) := by decide +kernel
theorem dL_law_1521 : decode cL_law 1521 = .ok (.iload 5, 2) := by decide +kernel
theorem dL_law_1523 : decode cL_law 1523 = .ok (.iconst 1, 1) := by decide +kernel
theorem dL_law_1524 : decode cL_law 1524 = .ok (.iadd, 1) := by decide +kernel
theorem dL_law_1525 : decode cL_law 1525 = .ok (.iaload, 1) := by decide +kernel
theorem dL_law_1526 : decode cL_law 1526 = .ok (.aload_n 3, 1) := by decide +kernel
theorem dL_law_1527 : decode cL_law 1527 = .ok (.invokestatic 278, 3) := by decide +kernel
theorem dL_law_1530 : decode cL_law 1530 = .ok (.istore 6, 2) := by decide +kernel
theorem dL_law_1532 : decode cL_law 1532 = .ok (.aload_n 2, 1) := by decide +kernel
theorem dL_law_1533 : decode cL_law 1533 = .ok (.aload_n 0, 1) := by decide +kernel
theorem dL_law_1534 : decode cL_law 1534 = .ok (.iload 5, 2) := by decide +kernel
theorem dL_law_1536 : decode cL_law 1536 = .ok (.iconst 1, 1) := by decide +kernel
theorem dL_law_1537 : decode cL_law 1537 = .ok (.iadd, 1) := by decide +kernel
theorem dL_law_1538 : decode cL_law 1538 = .ok (.iaload, 1) := by decide +kernel
theorem dL_law_1539 : decode cL_law 1539 = .ok (.invokevirtual 280, 3) := by decide +kernel
theorem dL_law_1542 : decode cL_law 1542 = .ok (.istore 7, 2) := by decide +kernel
theorem dL_law_1544 : decode cL_law 1544 = .ok (.goto 247, 3) := by decide +kernel
theorem dL_law_1547 : decode cL_law 1547 = .ok (.aload_n 1, 1) := by decide +kernel
theorem dL_law_1548 : decode cL_law 1548 = .ok (.aload_n 0, 1) := by decide +kernel
theorem dL_law_1549 : decode cL_law 1549 = .ok (.iload 5, 2) := by decide +kernel
theorem dL_law_1551 : decode cL_law 1551 = .ok (.iconst 1, 1) := by decide +kernel
theorem dL_law_1552 : decode cL_law 1552 = .ok (.iadd, 1) := by decide +kernel
theorem dL_law_1553 : decode cL_law 1553 = .ok (.iaload, 1) := by decide +kernel
theorem dL_law_1554 : decode cL_law 1554 = .ok (.aload_n 3, 1) := by decide +kernel
theorem dL_law_1555 : decode cL_law 1555 = .ok (.invokestatic 281, 3) := by decide +kernel
theorem dL_law_1558 : decode cL_law 1558 = .ok (.istore 6, 2) := by decide +kernel
theorem dL_law_1560 : decode cL_law 1560 = .ok (.aload_n 2, 1) := by decide +kernel
theorem dL_law_1561 : decode cL_law 1561 = .ok (.aload_n 0, 1) := by decide +kernel
theorem dL_law_1562 : decode cL_law 1562 = .ok (.iload 5, 2) := by decide +kernel
theorem dL_law_1564 : decode cL_law 1564 = .ok (.iconst 1, 1) := by decide +kernel
theorem dL_law_1565 : decode cL_law 1565 = .ok (.iadd, 1) := by decide +kernel
theorem dL_law_1566 : decode cL_law 1566 = .ok (.iaload, 1) := by decide +kernel
theorem dL_law_1567 : decode cL_law 1567 = .ok (.invokevirtual 283, 3) := by decide +kernel
theorem dL_law_1570 : decode cL_law 1570 = .ok (.istore 7, 2) := by decide +kernel
theorem dL_law_1572 : decode cL_law 1572 = .ok (.goto 219, 3) := by decide +kernel
theorem dL_law_1575 : decode cL_law 1575 = .ok (.aload_n 1, 1) := by decide +kernel
theorem dL_law_1576 : decode cL_law 1576 = .ok (.aload_n 0, 1) := by decide +kernel
theorem dL_law_1577 : decode cL_law 1577 = .ok (.iload 5, 2) := by decide +kernel
theorem dL_law_1579 : decode cL_law 1579 = .ok (.iconst 1, 1) := by decide +kernel
theorem dL_law_1580 : decode cL_law 1580 = .ok (.iadd, 1) := by decide +kernel
theorem dL_law_1581 : decode cL_law 1581 = .ok (.iaload, 1) := by decide +kernel
theorem dL_law_1582 : decode cL_law 1582 = .ok (.aload_n 3, 1) := by decide +kernel
theorem dL_law_1583 : decode cL_law 1583 = .ok (.invokestatic 284, 3) := by decide +kernel
theorem dL_law_1586 : decode cL_law 1586 = .ok (.istore 6, 2) := by decide +kernel
theorem dL_law_1588 : decode cL_law 1588 = .ok (.aload_n 2, 1) := by decide +kernel
theorem dL_law_1589 : decode cL_law 1589 = .ok (.aload_n 0, 1) := by decide +kernel
theorem dL_law_1590 : decode cL_law 1590 = .ok (.iload 5, 2) := by decide +kernel
theorem dL_law_1592 : decode cL_law 1592 = .ok (.iconst 1, 1) := by decide +kernel
theorem dL_law_1593 : decode cL_law 1593 = .ok (.iadd, 1) := by decide +kernel
theorem dL_law_1594 : decode cL_law 1594 = .ok (.iaload, 1) := by decide +kernel
theorem dL_law_1595 : decode cL_law 1595 = .ok (.invokevirtual 286, 3) := by decide +kernel
theorem dL_law_1598 : decode cL_law 1598 = .ok (.istore 7, 2) := by decide +kernel
theorem dL_law_1600 : decode cL_law 1600 = .ok (.goto 191, 3) := by decide +kernel
theorem dL_law_1603 : decode cL_law 1603 = .ok (.aload_n 1, 1) := by decide +kernel
theorem dL_law_1604 : decode cL_law 1604 = .ok (.aload_n 0, 1) := by decide +kernel
theorem dL_law_1605 : decode cL_law 1605 = .ok (.iload 5, 2) := by decide +kernel
theorem dL_law_1607 : decode cL_law 1607 = .ok (.iconst 1, 1) := by decide +kernel
theorem dL_law_1608 : decode cL_law 1608 = .ok (.iadd, 1) := by decide +kernel
theorem dL_law_1609 : decode cL_law 1609 = .ok (.iaload, 1) := by decide +kernel
theorem dL_law_1610 : decode cL_law 1610 = .ok (.invokevirtual 287, 3) := by decide +kernel
theorem dL_law_1613 : decode cL_law 1613 = .ok (.pop, 1) := by decide +kernel
theorem dL_law_1614 : decode cL_law 1614 = .ok (.aload_n 2, 1) := by decide +kernel
theorem dL_law_1615 : decode cL_law 1615 = .ok (.aload_n 0, 1) := by decide +kernel
theorem dL_law_1616 : decode cL_law 1616 = .ok (.iload 5, 2) := by decide +kernel
theorem dL_law_1618 : decode cL_law 1618 = .ok (.iconst 1, 1) := by decide +kernel
theorem dL_law_1619 : decode cL_law 1619 = .ok (.iadd, 1) := by decide +kernel
theorem dL_law_1620 : decode cL_law 1620 = .ok (.iaload, 1) := by decide +kernel
theorem dL_law_1621 : decode cL_law 1621 = .ok (.invokevirtual 290, 3) := by decide +kernel
theorem dL_law_1624 : decode cL_law 1624 = .ok (.pop, 1) := by decide +kernel
theorem dL_law_1625 : decode cL_law 1625 = .ok (.goto 166, 3) := by decide +kernel
theorem dL_law_1628 : decode cL_law 1628 = .ok (.aload_n 1, 1) := by decide +kernel
theorem dL_law_1629 : decode cL_law 1629 = .ok (.aload_n 0, 1) := by decide +kernel
theorem dL_law_1630 : decode cL_law 1630 = .ok (.iload 5, 2) := by decide +kernel
theorem dL_law_1632 : decode cL_law 1632 = .ok (.iconst 1, 1) := by decide +kernel
theorem dL_law_1633 : decode cL_law 1633 = .ok (.iadd, 1) := by decide +kernel
theorem dL_law_1634 : decode cL_law 1634 = .ok (.iaload, 1) := by decide +kernel
theorem dL_law_1635 : decode cL_law 1635 = .ok (.aload_n 3, 1) := by decide +kernel
theorem dL_law_1636 : decode cL_law 1636 = .ok (.invokestatic 291, 3) := by decide +kernel
theorem dL_law_1639 : decode cL_law 1639 = .ok (.istore 6, 2) := by decide +kernel
theorem dL_law_1641 : decode cL_law 1641 = .ok (.aload_n 2, 1) := by decide +kernel
theorem dL_law_1642 : decode cL_law 1642 = .ok (.aload_n 0, 1) := by decide +kernel
theorem dL_law_1643 : decode cL_law 1643 = .ok (.iload 5, 2) := by decide +kernel
theorem dL_law_1645 : decode cL_law 1645 = .ok (.iconst 1, 1) := by decide +kernel
theorem dL_law_1646 : decode cL_law 1646 = .ok (.iadd, 1) := by decide +kernel
theorem dL_law_1647 : decode cL_law 1647 = .ok (.iaload, 1) := by decide +kernel
theorem dL_law_1648 : decode cL_law 1648 = .ok (.invokevirtual 293, 3) := by decide +kernel
theorem dL_law_1651 : decode cL_law 1651 = .ok (.istore 7, 2) := by decide +kernel
theorem dL_law_1653 : decode cL_law 1653 = .ok (.goto 138, 3) := by decide +kernel
theorem dL_law_1656 : decode cL_law 1656 = .ok (.aload_n 1, 1) := by decide +kernel
theorem dL_law_1657 : decode cL_law 1657 = .ok (.invokevirtual 294, 3) := by decide +kernel
theorem dL_law_1660 : decode cL_law 1660 = .ok (.pop, 1) := by decide +kernel
theorem dL_law_1661 : decode cL_law 1661 = .ok (.aload_n 2, 1) := by decide +kernel
theorem dL_law_1662 : decode cL_law 1662 = .ok (.invokevirtual 297, 3) := by decide +kernel
theorem dL_law_1665 : decode cL_law 1665 = .ok (.pop, 1) := by decide +kernel
theorem dL_law_1666 : decode cL_law 1666 = .ok (.goto 125, 3) := by decide +kernel
theorem dL_law_1669 : decode cL_law 1669 = .ok (.aload_n 1, 1) := by decide +kernel
theorem dL_law_1670 : decode cL_law 1670 = .ok (.aload_n 0, 1) := by decide +kernel
theorem dL_law_1671 : decode cL_law 1671 = .ok (.iload 5, 2) := by decide +kernel
theorem dL_law_1673 : decode cL_law 1673 = .ok (.iconst 1, 1) := by decide +kernel
theorem dL_law_1674 : decode cL_law 1674 = .ok (.iadd, 1) := by decide +kernel
theorem dL_law_1675 : decode cL_law 1675 = .ok (.iaload, 1) := by decide +kernel
theorem dL_law_1676 : decode cL_law 1676 = .ok (.aload_n 3, 1) := by decide +kernel
theorem dL_law_1677 : decode cL_law 1677 = .ok (.invokestatic 298, 3) := by decide +kernel
theorem dL_law_1680 : decode cL_law 1680 = .ok (.istore 6, 2) := by decide +kernel
theorem dL_law_1682 : decode cL_law 1682 = .ok (.aload_n 2, 1) := by decide +kernel
theorem dL_law_1683 : decode cL_law 1683 = .ok (.aload_n 0, 1) := by decide +kernel
theorem dL_law_1684 : decode cL_law 1684 = .ok (.iload 5, 2) := by decide +kernel
theorem dL_law_1686 : decode cL_law 1686 = .ok (.iconst 1, 1) := by decide +kernel
theorem dL_law_1687 : decode cL_law 1687 = .ok (.iadd, 1) := by decide +kernel
theorem dL_law_1688 : decode cL_law 1688 = .ok (.iaload, 1) := by decide +kernel
theorem dL_law_1689 : decode cL_law 1689 = .ok (.invokevirtual 300, 3) := by decide +kernel
theorem dL_law_1692 : decode cL_law 1692 = .ok (.istore 7, 2) := by decide +kernel
theorem dL_law_1694 : decode cL_law 1694 = .ok (.goto 97, 3) := by decide +kernel
theorem dL_law_1697 : decode cL_law 1697 = .ok (.aload_n 1, 1) := by decide +kernel
theorem dL_law_1698 : decode cL_law 1698 = .ok (.aload_n 0, 1) := by decide +kernel
theorem dL_law_1699 : decode cL_law 1699 = .ok (.iload 5, 2) := by decide +kernel
theorem dL_law_1701 : decode cL_law 1701 = .ok (.iconst 1, 1) := by decide +kernel
theorem dL_law_1702 : decode cL_law 1702 = .ok (.iadd, 1) := by decide +kernel
theorem dL_law_1703 : decode cL_law 1703 = .ok (.iaload, 1) := by decide +kernel
theorem dL_law_1704 : decode cL_law 1704 = .ok (.invokevirtual 301, 3) := by decide +kernel
theorem dL_law_1707 : decode cL_law 1707 = .ok (.pop, 1) := by decide +kernel
theorem dL_law_1708 : decode cL_law 1708 = .ok (.aload_n 2, 1) := by decide +kernel
theorem dL_law_1709 : decode cL_law 1709 = .ok (.aload_n 0, 1) := by decide +kernel
theorem dL_law_1710 : decode cL_law 1710 = .ok (.iload 5, 2) := by decide +kernel
theorem dL_law_1712 : decode cL_law 1712 = .ok (.iconst 1, 1) := by decide +kernel
theorem dL_law_1713 : decode cL_law 1713 = .ok (.iadd, 1) := by decide +kernel
theorem dL_law_1714 : decode cL_law 1714 = .ok (.iaload, 1) := by decide +kernel
theorem dL_law_1715 : decode cL_law 1715 = .ok (.invokevirtual 304, 3) := by decide +kernel
theorem dL_law_1718 : decode cL_law 1718 = .ok (.pop, 1) := by decide +kernel
theorem dL_law_1719 : decode cL_law 1719 = .ok (.goto 72, 3) := by decide +kernel
theorem dL_law_1722 : decode cL_law 1722 = .ok (.aload_n 1, 1) := by decide +kernel
theorem dL_law_1723 : decode cL_law 1723 = .ok (.invokevirtual 305, 3) := by decide +kernel
theorem dL_law_1726 : decode cL_law 1726 = .ok (.pop, 1) := by decide +kernel
theorem dL_law_1727 : decode cL_law 1727 = .ok (.aload_n 2, 1) := by decide +kernel
theorem dL_law_1728 : decode cL_law 1728 = .ok (.invokevirtual 308, 3) := by decide +kernel
theorem dL_law_1731 : decode cL_law 1731 = .ok (.pop, 1) := by decide +kernel
theorem dL_law_1732 : decode cL_law 1732 = .ok (.goto 59, 3) := by decide +kernel
theorem dL_law_1735 : decode cL_law 1735 = .ok (.aload_n 1, 1) := by decide +kernel
theorem dL_law_1736 : decode cL_law 1736 = .ok (.aload_n 0, 1) := by decide +kernel
theorem dL_law_1737 : decode cL_law 1737 = .ok (.iload 5, 2) := by decide +kernel
theorem dL_law_1739 : decode cL_law 1739 = .ok (.iconst 1, 1) := by decide +kernel
theorem dL_law_1740 : decode cL_law 1740 = .ok (.iadd, 1) := by decide +kernel
theorem dL_law_1741 : decode cL_law 1741 = .ok (.iaload, 1) := by decide +kernel
theorem dL_law_1742 : decode cL_law 1742 = .ok (.aload_n 3, 1) := by decide +kernel
theorem dL_law_1743 : decode cL_law 1743 = .ok (.invokestatic 309, 3) := by decide +kernel
theorem dL_law_1746 : decode cL_law 1746 = .ok (.istore 6, 2) := by decide +kernel
theorem dL_law_1748 : decode cL_law 1748 = .ok (.aload_n 2, 1) := by decide +kernel
theorem dL_law_1749 : decode cL_law 1749 = .ok (.aload_n 0, 1) := by decide +kernel
theorem dL_law_1750 : decode cL_law 1750 = .ok (.iload 5, 2) := by decide +kernel
theorem dL_law_1752 : decode cL_law 1752 = .ok (.iconst 1, 1) := by decide +kernel
theorem dL_law_1753 : decode cL_law 1753 = .ok (.iadd, 1) := by decide +kernel
theorem dL_law_1754 : decode cL_law 1754 = .ok (.iaload, 1) := by decide +kernel
theorem dL_law_1755 : decode cL_law 1755 = .ok (.invokevirtual 311, 3) := by decide +kernel
theorem dL_law_1758 : decode cL_law 1758 = .ok (.istore 7, 2) := by decide +kernel
theorem dL_law_1760 : decode cL_law 1760 = .ok (.goto 31, 3) := by decide +kernel
theorem dL_law_1763 : decode cL_law 1763 = .ok (.aload_n 1, 1) := by decide +kernel
theorem dL_law_1764 : decode cL_law 1764 = .ok (.aload_n 0, 1) := by decide +kernel
theorem dL_law_1765 : decode cL_law 1765 = .ok (.iload 5, 2) := by decide +kernel
theorem dL_law_1767 : decode cL_law 1767 = .ok (.iconst 1, 1) := by decide +kernel
theorem dL_law_1768 : decode cL_law 1768 = .ok (.iadd, 1) := by decide +kernel
theorem dL_law_1769 : decode cL_law 1769 = .ok (.iaload, 1) := by decide +kernel
theorem dL_law_1770 : decode cL_law 1770 = .ok (.aload_n 3, 1) := by decide +kernel
theorem dL_law_1771 : decode cL_law 1771 = .ok (.invokestatic 312, 3) := by decide +kernel
theorem dL_law_1774 : decode cL_law 1774 = .ok (.istore 6, 2) := by decide +kernel
theorem dL_law_1776 : decode cL_law 1776 = .ok (.aload_n 2, 1) := by decide +kernel
theorem dL_law_1777 : decode cL_law 1777 = .ok (.aload_n 0, 1) := by decide +kernel
theorem dL_law_1778 : decode cL_law 1778 = .ok (.iload 5, 2) := by decide +kernel
theorem dL_law_1780 : decode cL_law 1780 = .ok (.iconst 1, 1) := by decide +kernel
theorem dL_law_1781 : decode cL_law 1781 = .ok (.iadd, 1) := by decide +kernel
theorem dL_law_1782 : decode cL_law 1782 = .ok (.iaload, 1) := by decide +kernel
theorem dL_law_1783 : decode cL_law 1783 = .ok (.invokevirtual 314, 3) := by decide +kernel
theorem dL_law_1786 : decode cL_law 1786 = .ok (.istore 7, 2) := by decide +kernel
theorem dL_law_1788 : decode cL_law 1788 = .ok (.goto 3, 3) := by decide +kernel
theorem dL_law_268 : decode cL_law 268 = .ok (.aload_n 1, 1) := by decide +kernel
theorem dL_law_269 : decode cL_law 269 = .ok (.aload_n 0, 1) := by decide +kernel
theorem dL_law_270 : decode cL_law 270 = .ok (.iload 5, 2) := by decide +kernel
theorem dL_law_272 : decode cL_law 272 = .ok (.iconst 1, 1) := by decide +kernel
theorem dL_law_273 : decode cL_law 273 = .ok (.iadd, 1) := by decide +kernel
theorem dL_law_274 : decode cL_law 274 = .ok (.iaload, 1) := by decide +kernel
theorem dL_law_275 : decode cL_law 275 = .ok (.i2l, 1) := by decide +kernel
theorem dL_law_276 : decode cL_law 276 = .ok (.bipush 32, 2) := by decide +kernel
theorem dL_law_278 : decode cL_law 278 = .ok (.lshl, 1) := by decide +kernel
theorem dL_law_279 : decode cL_law 279 = .ok (.aload_n 0, 1) := by decide +kernel
theorem dL_law_280 : decode cL_law 280 = .ok (.iload 5, 2) := by decide +kernel
theorem dL_law_282 : decode cL_law 282 = .ok (.iconst 2, 1) := by decide +kernel
theorem dL_law_283 : decode cL_law 283 = .ok (.iadd, 1) := by decide +kernel
theorem dL_law_284 : decode cL_law 284 = .ok (.iaload, 1) := by decide +kernel
theorem dL_law_285 : decode cL_law 285 = .ok (.i2l, 1) := by decide +kernel
theorem dL_law_286 : decode cL_law 286 = .ok (.ldc2_w 130, 3) := by decide +kernel
theorem dL_law_289 : decode cL_law 289 = .ok (.land, 1) := by decide +kernel
theorem dL_law_290 : decode cL_law 290 = .ok (.lor, 1) := by decide +kernel
theorem dL_law_291 : decode cL_law 291 = .ok (.invokevirtual 132, 3) := by decide +kernel
theorem dL_law_294 : decode cL_law 294 = .ok (.pop, 1) := by decide +kernel
theorem dL_law_295 : decode cL_law 295 = .ok (.aload_n 2, 1) := by decide +kernel
theorem dL_law_296 : decode cL_law 296 = .ok (.aload_n 0, 1) := by decide +kernel
theorem dL_law_297 : decode cL_law 297 = .ok (.iload 5, 2) := by decide +kernel
theorem dL_law_299 : decode cL_law 299 = .ok (.iconst 1, 1) := by decide +kernel
theorem dL_law_300 : decode cL_law 300 = .ok (.iadd, 1) := by decide +kernel
theorem dL_law_301 : decode cL_law 301 = .ok (.iaload, 1) := by decide +kernel
theorem dL_law_302 : decode cL_law 302 = .ok (.i2l, 1) := by decide +kernel
theorem dL_law_303 : decode cL_law 303 = .ok (.bipush 32, 2) := by decide +kernel
theorem dL_law_305 : decode cL_law 305 = .ok (.lshl, 1) := by decide +kernel
theorem dL_law_306 : decode cL_law 306 = .ok (.aload_n 0, 1) := by decide +kernel
theorem dL_law_307 : decode cL_law 307 = .ok (.iload 5, 2) := by decide +kernel
theorem dL_law_309 : decode cL_law 309 = .ok (.iconst 2, 1) := by decide +kernel
theorem dL_law_310 : decode cL_law 310 = .ok (.iadd, 1) := by decide +kernel
theorem dL_law_311 : decode cL_law 311 = .ok (.iaload, 1) := by decide +kernel
theorem dL_law_312 : decode cL_law 312 = .ok (.i2l, 1) := by decide +kernel
theorem dL_law_313 : decode cL_law 313 = .ok (.ldc2_w 130, 3) := by decide +kernel
theorem dL_law_316 : decode cL_law 316 = .ok (.land, 1) := by decide +kernel
theorem dL_law_317 : decode cL_law 317 = .ok (.lor, 1) := by decide +kernel
theorem dL_law_318 : decode cL_law 318 = .ok (.invokevirtual 136, 3) := by decide +kernel
theorem dL_law_321 : decode cL_law 321 = .ok (.pop, 1) := by decide +kernel
theorem dL_law_322 : decode cL_law 322 = .ok (.goto 1469, 3) := by decide +kernel
theorem dL_law_325 : decode cL_law 325 = .ok (.aload_n 1, 1) := by decide +kernel
theorem dL_law_326 : decode cL_law 326 = .ok (.invokevirtual 137, 3) := by decide +kernel
theorem dL_law_329 : decode cL_law 329 = .ok (.aload_n 2, 1) := by decide +kernel
theorem dL_law_330 : decode cL_law 330 = .ok (.invokevirtual 141, 3) := by decide +kernel
theorem dL_law_333 : decode cL_law 333 = .ok (.if_icmp .eq 1458, 3) := by decide +kernel
theorem dL_law_338 : decode cL_law 338 = .ok (.aload_n 1, 1) := by decide +kernel
theorem dL_law_339 : decode cL_law 339 = .ok (.invokevirtual 142, 3) := by decide +kernel
theorem dL_law_342 : decode cL_law 342 = .ok (.pop, 1) := by decide +kernel
theorem dL_law_343 : decode cL_law 343 = .ok (.aload_n 2, 1) := by decide +kernel
theorem dL_law_344 : decode cL_law 344 = .ok (.invokevirtual 145, 3) := by decide +kernel
theorem dL_law_347 : decode cL_law 347 = .ok (.pop, 1) := by decide +kernel
theorem dL_law_348 : decode cL_law 348 = .ok (.goto 1443, 3) := by decide +kernel
theorem dL_law_351 : decode cL_law 351 = .ok (.aload_n 1, 1) := by decide +kernel
theorem dL_law_352 : decode cL_law 352 = .ok (.invokevirtual 146, 3) := by decide +kernel
theorem dL_law_355 : decode cL_law 355 = .ok (.pop, 1) := by decide +kernel
theorem dL_law_356 : decode cL_law 356 = .ok (.aload_n 2, 1) := by decide +kernel
theorem dL_law_357 : decode cL_law 357 = .ok (.invokevirtual 149, 3) := by decide +kernel
theorem dL_law_360 : decode cL_law 360 = .ok (.pop, 1) := by decide +kernel
theorem dL_law_361 : decode cL_law 361 = .ok (.goto 1430, 3) := by decide +kernel
theorem dL_law_364 : decode cL_law 364 = .ok (.aload_n 1, 1) := by decide +kernel
theorem dL_law_365 : decode cL_law 365 = .ok (.aload_n 0, 1) := by decide +kernel
theorem dL_law_366 : decode cL_law 366 = .ok (.iload 5, 2) := by decide +kernel
theorem dL_law_368 : decode cL_law 368 = .ok (.iconst 1, 1) := by decide +kernel
theorem dL_law_369 : decode cL_law 369 = .ok (.iadd, 1) := by decide +kernel
theorem dL_law_370 : decode cL_law 370 = .ok (.iaload, 1) := by decide +kernel
theorem dL_law_371 : decode cL_law 371 = .ok (.aload_n 3, 1) := by decide +kernel
theorem dL_law_372 : decode cL_law 372 = .ok (.invokestatic 150, 3) := by decide +kernel
theorem dL_law_375 : decode cL_law 375 = .ok (.istore 6, 2) := by decide +kernel
theorem dL_law_377 : decode cL_law 377 = .ok (.aload_n 2, 1) := by decide +kernel
theorem dL_law_378 : decode cL_law 378 = .ok (.aload_n 0, 1) := by decide +kernel
theorem dL_law_379 : decode cL_law 379 = .ok (.iload 5, 2) := by decide +kernel
theorem dL_law_381 : decode cL_law 381 = .ok (.iconst 1, 1) := by decide +kernel
theorem dL_law_382 : decode cL_law 382 = .ok (.iadd, 1) := by decide +kernel
theorem dL_law_383 : decode cL_law 383 = .ok (.iaload, 1) := by decide +kernel
theorem dL_law_384 : decode cL_law 384 = .ok (.invokevirtual 155, 3) := by decide +kernel
theorem dL_law_387 : decode cL_law 387 = .ok (.istore 7, 2) := by decide +kernel
theorem dL_law_389 : decode cL_law 389 = .ok (.goto 1402, 3) := by decide +kernel
theorem dL_law_392 : decode cL_law 392 = .ok (.aload_n 1, 1) := by decide +kernel
theorem dL_law_393 : decode cL_law 393 = .ok (.aload_n 0, 1) := by decide +kernel
theorem dL_law_394 : decode cL_law 394 = .ok (.iload 5, 2) := by decide +kernel
theorem dL_law_396 : decode cL_law 396 = .ok (.iconst 1, 1) := by decide +kernel
theorem dL_law_397 : decode cL_law 397 = .ok (.iadd, 1) := by decide +kernel
theorem dL_law_398 : decode cL_law 398 = .ok (.iaload, 1) := by decide +kernel
theorem dL_law_399 : decode cL_law 399 = .ok (.aload_n 3, 1) := by decide +kernel
theorem dL_law_400 : decode cL_law 400 = .ok (.invokestatic 156, 3) := by decide +kernel
theorem dL_law_403 : decode cL_law 403 = .ok (.istore 6, 2) := by decide +kernel
theorem dL_law_405 : decode cL_law 405 = .ok (.aload_n 2, 1) := by decide +kernel
theorem dL_law_406 : decode cL_law 406 = .ok (.aload_n 0, 1) := by decide +kernel
theorem dL_law_407 : decode cL_law 407 = .ok (.iload 5, 2) := by decide +kernel
theorem dL_law_409 : decode cL_law 409 = .ok (.iconst 1, 1) := by decide +kernel
theorem dL_law_410 : decode cL_law 410 = .ok (.iadd, 1) := by decide +kernel
theorem dL_law_411 : decode cL_law 411 = .ok (.iaload, 1) := by decide +kernel
theorem dL_law_412 : decode cL_law 412 = .ok (.invokevirtual 158, 3) := by decide +kernel
theorem dL_law_415 : decode cL_law 415 = .ok (.istore 7, 2) := by decide +kernel
theorem dL_law_417 : decode cL_law 417 = .ok (.goto 1374, 3) := by decide +kernel
theorem dL_law_420 : decode cL_law 420 = .ok (.aload_n 1, 1) := by decide +kernel
theorem dL_law_421 : decode cL_law 421 = .ok (.aload_n 0, 1) := by decide +kernel
theorem dL_law_422 : decode cL_law 422 = .ok (.iload 5, 2) := by decide +kernel
theorem dL_law_424 : decode cL_law 424 = .ok (.iconst 1, 1) := by decide +kernel
theorem dL_law_425 : decode cL_law 425 = .ok (.iadd, 1) := by decide +kernel
theorem dL_law_426 : decode cL_law 426 = .ok (.iaload, 1) := by decide +kernel
theorem dL_law_427 : decode cL_law 427 = .ok (.aload_n 0, 1) := by decide +kernel
theorem dL_law_428 : decode cL_law 428 = .ok (.iload 5, 2) := by decide +kernel
theorem dL_law_430 : decode cL_law 430 = .ok (.iconst 2, 1) := by decide +kernel
theorem dL_law_431 : decode cL_law 431 = .ok (.iadd, 1) := by decide +kernel
theorem dL_law_432 : decode cL_law 432 = .ok (.iaload, 1) := by decide +kernel
theorem dL_law_433 : decode cL_law 433 = .ok (.aload_n 3, 1) := by decide +kernel
theorem dL_law_434 : decode cL_law 434 = .ok (.invokestatic 159, 3) := by decide +kernel
theorem dL_law_437 : decode cL_law 437 = .ok (.istore 6, 2) := by decide +kernel
theorem dL_law_439 : decode cL_law 439 = .ok (.aload_n 2, 1) := by decide +kernel
theorem dL_law_440 : decode cL_law 440 = .ok (.aload_n 0, 1) := by decide +kernel
theorem dL_law_441 : decode cL_law 441 = .ok (.iload 5, 2) := by decide +kernel
theorem dL_law_443 : decode cL_law 443 = .ok (.iconst 1, 1) := by decide +kernel
theorem dL_law_444 : decode cL_law 444 = .ok (.iadd, 1) := by decide +kernel
theorem dL_law_445 : decode cL_law 445 = .ok (.iaload, 1) := by decide +kernel
theorem dL_law_446 : decode cL_law 446 = .ok (.aload_n 0, 1) := by decide +kernel
theorem dL_law_447 : decode cL_law 447 = .ok (.iload 5, 2) := by decide +kernel
theorem dL_law_449 : decode cL_law 449 = .ok (.iconst 2, 1) := by decide +kernel
theorem dL_law_450 : decode cL_law 450 = .ok (.iadd, 1) := by decide +kernel
theorem dL_law_451 : decode cL_law 451 = .ok (.iaload, 1) := by decide +kernel
theorem dL_law_452 : decode cL_law 452 = .ok (.invokevirtual 162, 3) := by decide +kernel
theorem dL_law_455 : decode cL_law 455 = .ok (.istore 7, 2) := by decide +kernel
theorem dL_law_457 : decode cL_law 457 = .ok (.goto 1334, 3) := by decide +kernel
theorem dL_law_460 : decode cL_law 460 = .ok (.aload_n 1, 1) := by decide +kernel
theorem dL_law_461 : decode cL_law 461 = .ok (.aload_n 0, 1) := by decide +kernel
theorem dL_law_462 : decode cL_law 462 = .ok (.iload 5, 2) := by decide +kernel
theorem dL_law_464 : decode cL_law 464 = .ok (.iconst 1, 1) := by decide +kernel
theorem dL_law_465 : decode cL_law 465 = .ok (.iadd, 1) := by decide +kernel
theorem dL_law_466 : decode cL_law 466 = .ok (.iaload, 1) := by decide +kernel
theorem dL_law_467 : decode cL_law 467 = .ok (.aload_n 0, 1) := by decide +kernel
theorem dL_law_468 : decode cL_law 468 = .ok (.iload 5, 2) := by decide +kernel
theorem dL_law_470 : decode cL_law 470 = .ok (.iconst 2, 1) := by decide +kernel
theorem dL_law_471 : decode cL_law 471 = .ok (.iadd, 1) := by decide +kernel
theorem dL_law_472 : decode cL_law 472 = .ok (.iaload, 1) := by decide +kernel
theorem dL_law_473 : decode cL_law 473 = .ok (.aload_n 3, 1) := by decide +kernel
theorem dL_law_474 : decode cL_law 474 = .ok (.invokestatic 163, 3) := by decide +kernel
theorem dL_law_477 : decode cL_law 477 = .ok (.istore 6, 2) := by decide +kernel
theorem dL_law_479 : decode cL_law 479 = .ok (.aload_n 2, 1) := by decide +kernel
theorem dL_law_480 : decode cL_law 480 = .ok (.aload_n 0, 1) := by decide +kernel
theorem dL_law_481 : decode cL_law 481 = .ok (.iload 5, 2) := by decide +kernel
theorem dL_law_483 : decode cL_law 483 = .ok (.iconst 1, 1) := by decide +kernel
theorem dL_law_484 : decode cL_law 484 = .ok (.iadd, 1) := by decide +kernel
theorem dL_law_485 : decode cL_law 485 = .ok (.iaload, 1) := by decide +kernel
theorem dL_law_486 : decode cL_law 486 = .ok (.aload_n 0, 1) := by decide +kernel
theorem dL_law_487 : decode cL_law 487 = .ok (.iload 5, 2) := by decide +kernel
theorem dL_law_489 : decode cL_law 489 = .ok (.iconst 2, 1) := by decide +kernel
theorem dL_law_490 : decode cL_law 490 = .ok (.iadd, 1) := by decide +kernel
theorem dL_law_491 : decode cL_law 491 = .ok (.iaload, 1) := by decide +kernel
theorem dL_law_492 : decode cL_law 492 = .ok (.invokevirtual 165, 3) := by decide +kernel
theorem dL_law_495 : decode cL_law 495 = .ok (.istore 7, 2) := by decide +kernel
theorem dL_law_497 : decode cL_law 497 = .ok (.goto 1294, 3) := by decide +kernel
theorem dL_law_500 : decode cL_law 500 = .ok (.aload_n 1, 1) := by decide +kernel
theorem dL_law_501 : decode cL_law 501 = .ok (.aload_n 0, 1) := by decide +kernel
theorem dL_law_502 : decode cL_law 502 = .ok (.iload 5, 2) := by decide +kernel
theorem dL_law_504 : decode cL_law 504 = .ok (.iconst 1, 1) := by decide +kernel
theorem dL_law_505 : decode cL_law 505 = .ok (.iadd, 1) := by decide +kernel
theorem dL_law_506 : decode cL_law 506 = .ok (.iaload, 1) := by decide +kernel
theorem dL_law_507 : decode cL_law 507 = .ok (.aload_n 0, 1) := by decide +kernel
theorem dL_law_508 : decode cL_law 508 = .ok (.iload 5, 2) := by decide +kernel
theorem dL_law_510 : decode cL_law 510 = .ok (.iconst 2, 1) := by decide +kernel
theorem dL_law_511 : decode cL_law 511 = .ok (.iadd, 1) := by decide +kernel
theorem dL_law_512 : decode cL_law 512 = .ok (.iaload, 1) := by decide +kernel
theorem dL_law_513 : decode cL_law 513 = .ok (.aload_n 3, 1) := by decide +kernel
theorem dL_law_514 : decode cL_law 514 = .ok (.invokestatic 166, 3) := by decide +kernel
theorem dL_law_517 : decode cL_law 517 = .ok (.istore 6, 2) := by decide +kernel
theorem dL_law_519 : decode cL_law 519 = .ok (.aload_n 2, 1) := by decide +kernel
theorem dL_law_520 : decode cL_law 520 = .ok (.aload_n 0, 1) := by decide +kernel
theorem dL_law_521 : decode cL_law 521 = .ok (.iload 5, 2) := by decide +kernel
theorem dL_law_523 : decode cL_law 523 = .ok (.iconst 1, 1) := by decide +kernel
theorem dL_law_524 : decode cL_law 524 = .ok (.iadd, 1) := by decide +kernel
theorem dL_law_525 : decode cL_law 525 = .ok (.iaload, 1) := by decide +kernel
theorem dL_law_526 : decode cL_law 526 = .ok (.aload_n 0, 1) := by decide +kernel
theorem dL_law_527 : decode cL_law 527 = .ok (.iload 5, 2) := by decide +kernel
theorem dL_law_529 : decode cL_law 529 = .ok (.iconst 2, 1) := by decide +kernel
theorem dL_law_530 : decode cL_law 530 = .ok (.iadd, 1) := by decide +kernel
theorem dL_law_531 : decode cL_law 531 = .ok (.iaload, 1) := by decide +kernel
theorem dL_law_532 : decode cL_law 532 = .ok (.invokevirtual 168, 3) := by decide +kernel
theorem dL_law_535 : decode cL_law 535 = .ok (.istore 7, 2) := by decide +kernel
theorem dL_law_537 : decode cL_law 537 = .ok (.goto 1254, 3) := by decide +kernel
theorem dL_law_540 : decode cL_law 540 = .ok (.aload_n 1, 1) := by decide +kernel
theorem dL_law_541 : decode cL_law 541 = .ok (.aload_n 0, 1) := by decide +kernel
theorem dL_law_542 : decode cL_law 542 = .ok (.iload 5, 2) := by decide +kernel
theorem dL_law_544 : decode cL_law 544 = .ok (.iconst 1, 1) := by decide +kernel
theorem dL_law_545 : decode cL_law 545 = .ok (.iadd, 1) := by decide +kernel
theorem dL_law_546 : decode cL_law 546 = .ok (.iaload, 1) := by decide +kernel
theorem dL_law_547 : decode cL_law 547 = .ok (.aload_n 0, 1) := by decide +kernel
theorem dL_law_548 : decode cL_law 548 = .ok (.iload 5, 2) := by decide +kernel
theorem dL_law_550 : decode cL_law 550 = .ok (.iconst 2, 1) := by decide +kernel
theorem dL_law_551 : decode cL_law 551 = .ok (.iadd, 1) := by decide +kernel
theorem dL_law_552 : decode cL_law 552 = .ok (.iaload, 1) := by decide +kernel
theorem dL_law_553 : decode cL_law 553 = .ok (.aload_n 3, 1) := by decide +kernel
theorem dL_law_554 : decode cL_law 554 = .ok (.invokestatic 169, 3) := by decide +kernel
theorem dL_law_557 : decode cL_law 557 = .ok (.istore 6, 2) := by decide +kernel
theorem dL_law_559 : decode cL_law 559 = .ok (.aload_n 2, 1) := by decide +kernel
theorem dL_law_560 : decode cL_law 560 = .ok (.aload_n 0, 1) := by decide +kernel
theorem dL_law_561 : decode cL_law 561 = .ok (.iload 5, 2) := by decide +kernel
theorem dL_law_563 : decode cL_law 563 = .ok (.iconst 1, 1) := by decide +kernel
theorem dL_law_564 : decode cL_law 564 = .ok (.iadd, 1) := by decide +kernel
theorem dL_law_565 : decode cL_law 565 = .ok (.iaload, 1) := by decide +kernel
theorem dL_law_566 : decode cL_law 566 = .ok (.aload_n 0, 1) := by decide +kernel
theorem dL_law_567 : decode cL_law 567 = .ok (.iload 5, 2) := by decide +kernel
theorem dL_law_569 : decode cL_law 569 = .ok (.iconst 2, 1) := by decide +kernel
theorem dL_law_570 : decode cL_law 570 = .ok (.iadd, 1) := by decide +kernel
theorem dL_law_571 : decode cL_law 571 = .ok (.iaload, 1) := by decide +kernel
theorem dL_law_572 : decode cL_law 572 = .ok (.invokevirtual 171, 3) := by decide +kernel
theorem dL_law_575 : decode cL_law 575 = .ok (.istore 7, 2) := by decide +kernel
theorem dL_law_577 : decode cL_law 577 = .ok (.goto 1214, 3) := by decide +kernel
theorem dL_law_580 : decode cL_law 580 = .ok (.aload_n 1, 1) := by decide +kernel
theorem dL_law_581 : decode cL_law 581 = .ok (.aload_n 0, 1) := by decide +kernel
theorem dL_law_582 : decode cL_law 582 = .ok (.iload 5, 2) := by decide +kernel
theorem dL_law_584 : decode cL_law 584 = .ok (.iconst 1, 1) := by decide +kernel
theorem dL_law_585 : decode cL_law 585 = .ok (.iadd, 1) := by decide +kernel
theorem dL_law_586 : decode cL_law 586 = .ok (.iaload, 1) := by decide +kernel
theorem dL_law_587 : decode cL_law 587 = .ok (.aload_n 0, 1) := by decide +kernel
theorem dL_law_588 : decode cL_law 588 = .ok (.iload 5, 2) := by decide +kernel
theorem dL_law_590 : decode cL_law 590 = .ok (.iconst 2, 1) := by decide +kernel
theorem dL_law_591 : decode cL_law 591 = .ok (.iadd, 1) := by decide +kernel
theorem dL_law_592 : decode cL_law 592 = .ok (.iaload, 1) := by decide +kernel
theorem dL_law_593 : decode cL_law 593 = .ok (.aload_n 3, 1) := by decide +kernel
theorem dL_law_594 : decode cL_law 594 = .ok (.invokestatic 172, 3) := by decide +kernel
theorem dL_law_597 : decode cL_law 597 = .ok (.istore 6, 2) := by decide +kernel
theorem dL_law_599 : decode cL_law 599 = .ok (.aload_n 2, 1) := by decide +kernel
theorem dL_law_600 : decode cL_law 600 = .ok (.aload_n 0, 1) := by decide +kernel
theorem dL_law_601 : decode cL_law 601 = .ok (.iload 5, 2) := by decide +kernel
theorem dL_law_603 : decode cL_law 603 = .ok (.iconst 1, 1) := by decide +kernel
theorem dL_law_604 : decode cL_law 604 = .ok (.iadd, 1) := by decide +kernel
theorem dL_law_605 : decode cL_law 605 = .ok (.iaload, 1) := by decide +kernel
theorem dL_law_606 : decode cL_law 606 = .ok (.aload_n 0, 1) := by decide +kernel
theorem dL_law_607 : decode cL_law 607 = .ok (.iload 5, 2) := by decide +kernel
theorem dL_law_609 : decode cL_law 609 = .ok (.iconst 2, 1) := by decide +kernel
theorem dL_law_610 : decode cL_law 610 = .ok (.iadd, 1) := by decide +kernel
theorem dL_law_611 : decode cL_law 611 = .ok (.iaload, 1) := by decide +kernel
theorem dL_law_612 : decode cL_law 612 = .ok (.invokevirtual 174, 3) := by decide +kernel
theorem dL_law_615 : decode cL_law 615 = .ok (.istore 7, 2) := by decide +kernel
theorem dL_law_617 : decode cL_law 617 = .ok (.goto 1174, 3) := by decide +kernel
theorem dL_law_620 : decode cL_law 620 = .ok (.aload_n 1, 1) := by decide +kernel
theorem dL_law_621 : decode cL_law 621 = .ok (.aload_n 0, 1) := by decide +kernel
theorem dL_law_622 : decode cL_law 622 = .ok (.iload 5, 2) := by decide +kernel
theorem dL_law_624 : decode cL_law 624 = .ok (.iconst 1, 1) := by decide +kernel
theorem dL_law_625 : decode cL_law 625 = .ok (.iadd, 1) := by decide +kernel
theorem dL_law_626 : decode cL_law 626 = .ok (.iaload, 1) := by decide +kernel
theorem dL_law_627 : decode cL_law 627 = .ok (.invokevirtual 175, 3) := by decide +kernel
theorem dL_law_630 : decode cL_law 630 = .ok (.pop, 1) := by decide +kernel
theorem dL_law_631 : decode cL_law 631 = .ok (.aload_n 2, 1) := by decide +kernel
theorem dL_law_632 : decode cL_law 632 = .ok (.aload_n 0, 1) := by decide +kernel
theorem dL_law_633 : decode cL_law 633 = .ok (.iload 5, 2) := by decide +kernel
theorem dL_law_635 : decode cL_law 635 = .ok (.iconst 1, 1) := by decide +kernel
theorem dL_law_636 : decode cL_law 636 = .ok (.iadd, 1) := by decide +kernel
theorem dL_law_637 : decode cL_law 637 = .ok (.iaload, 1) := by decide +kernel
theorem dL_law_638 : decode cL_law 638 = .ok (.invokevirtual 178, 3) := by decide +kernel
theorem dL_law_641 : decode cL_law 641 = .ok (.pop, 1) := by decide +kernel
theorem dL_law_642 : decode cL_law 642 = .ok (.goto 1149, 3) := by decide +kernel
theorem dL_law_645 : decode cL_law 645 = .ok (.aload_n 1, 1) := by decide +kernel
theorem dL_law_646 : decode cL_law 646 = .ok (.aload_n 0, 1) := by decide +kernel
theorem dL_law_647 : decode cL_law 647 = .ok (.iload 5, 2) := by decide +kernel
theorem dL_law_649 : decode cL_law 649 = .ok (.iconst 1, 1) := by decide +kernel
theorem dL_law_650 : decode cL_law 650 = .ok (.iadd, 1) := by decide +kernel
theorem dL_law_651 : decode cL_law 651 = .ok (.iaload, 1) := by decide +kernel
theorem dL_law_652 : decode cL_law 652 = .ok (.invokevirtual 179, 3) := by decide +kernel
theorem dL_law_655 : decode cL_law 655 = .ok (.pop, 1) := by decide +kernel
theorem dL_law_656 : decode cL_law 656 = .ok (.aload_n 2, 1) := by decide +kernel
theorem dL_law_657 : decode cL_law 657 = .ok (.aload_n 0, 1) := by decide +kernel
theorem dL_law_658 : decode cL_law 658 = .ok (.iload 5, 2) := by decide +kernel
theorem dL_law_660 : decode cL_law 660 = .ok (.iconst 1, 1) := by decide +kernel
theorem dL_law_661 : decode cL_law 661 = .ok (.iadd, 1) := by decide +kernel
theorem dL_law_662 : decode cL_law 662 = .ok (.iaload, 1) := by decide +kernel
theorem dL_law_663 : decode cL_law 663 = .ok (.invokevirtual 182, 3) := by decide +kernel
theorem dL_law_666 : decode cL_law 666 = .ok (.pop, 1) := by decide +kernel
theorem dL_law_667 : decode cL_law 667 = .ok (.goto 1124, 3) := by decide +kernel
theorem dL_law_670 : decode cL_law 670 = .ok (.aload_n 1, 1) := by decide +kernel
theorem dL_law_671 : decode cL_law 671 = .ok (.invokevirtual 183, 3) := by decide +kernel
theorem dL_law_674 : decode cL_law 674 = .ok (.pop, 1) := by decide +kernel
theorem dL_law_675 : decode cL_law 675 = .ok (.aload_n 2, 1) := by decide +kernel
theorem dL_law_676 : decode cL_law 676 = .ok (.invokevirtual 186, 3) := by decide +kernel
theorem dL_law_679 : decode cL_law 679 = .ok (.pop, 1) := by decide +kernel
theorem dL_law_680 : decode cL_law 680 = .ok (.goto 1111, 3) := by decide +kernel
theorem dL_law_683 : decode cL_law 683 = .ok (.aload_n 1, 1) := by decide +kernel
theorem dL_law_684 : decode cL_law 684 = .ok (.aload_n 0, 1) := by decide +kernel
theorem dL_law_685 : decode cL_law 685 = .ok (.iload 5, 2) := by decide +kernel
theorem dL_law_687 : decode cL_law 687 = .ok (.iconst 1, 1) := by decide +kernel
theorem dL_law_688 : decode cL_law 688 = .ok (.iadd, 1) := by decide +kernel
theorem dL_law_689 : decode cL_law 689 = .ok (.iaload, 1) := by decide +kernel
theorem dL_law_690 : decode cL_law 690 = .ok (.aload_n 0, 1) := by decide +kernel
theorem dL_law_691 : decode cL_law 691 = .ok (.iload 5, 2) := by decide +kernel
theorem dL_law_693 : decode cL_law 693 = .ok (.iconst 2, 1) := by decide +kernel
theorem dL_law_694 : decode cL_law 694 = .ok (.iadd, 1) := by decide +kernel
theorem dL_law_695 : decode cL_law 695 = .ok (.iaload, 1) := by decide +kernel
theorem dL_law_696 : decode cL_law 696 = .ok (.aload_n 3, 1) := by decide +kernel
theorem dL_law_697 : decode cL_law 697 = .ok (.invokestatic 187, 3) := by decide +kernel
theorem dL_law_700 : decode cL_law 700 = .ok (.istore 6, 2) := by decide +kernel
theorem dL_law_702 : decode cL_law 702 = .ok (.aload_n 2, 1) := by decide +kernel
theorem dL_law_703 : decode cL_law 703 = .ok (.aload_n 0, 1) := by decide +kernel
theorem dL_law_704 : decode cL_law 704 = .ok (.iload 5, 2) := by decide +kernel
theorem dL_law_706 : decode cL_law 706 = .ok (.iconst 1, 1) := by decide +kernel
theorem dL_law_707 : decode cL_law 707 = .ok (.iadd, 1) := by decide +kernel
theorem dL_law_708 : decode cL_law 708 = .ok (.iaload, 1) := by decide +kernel
theorem dL_law_709 : decode cL_law 709 = .ok (.aload_n 0, 1) := by decide +kernel
theorem dL_law_710 : decode cL_law 710 = .ok (.iload 5, 2) := by decide +kernel
theorem dL_law_712 : decode cL_law 712 = .ok (.iconst 2, 1) := by decide +kernel
theorem dL_law_713 : decode cL_law 713 = .ok (.iadd, 1) := by decide +kernel
theorem dL_law_714 : decode cL_law 714 = .ok (.iaload, 1) := by decide +kernel
theorem dL_law_715 : decode cL_law 715 = .ok (.invokevirtual 189, 3) := by decide +kernel
theorem dL_law_718 : decode cL_law 718 = .ok (.istore 7, 2) := by decide +kernel
theorem dL_law_720 : decode cL_law 720 = .ok (.goto 1071, 3) := by decide +kernel
theorem dL_law_723 : decode cL_law 723 = .ok (.aload_n 1, 1) := by decide +kernel
theorem dL_law_724 : decode cL_law 724 = .ok (.aload_n 0, 1) := by decide +kernel
theorem dL_law_725 : decode cL_law 725 = .ok (.iload 5, 2) := by decide +kernel
theorem dL_law_727 : decode cL_law 727 = .ok (.iconst 1, 1) := by decide +kernel
theorem dL_law_728 : decode cL_law 728 = .ok (.iadd, 1) := by decide +kernel
theorem dL_law_729 : decode cL_law 729 = .ok (.iaload, 1) := by decide +kernel
theorem dL_law_730 : decode cL_law 730 = .ok (.aload_n 0, 1) := by decide +kernel
theorem dL_law_731 : decode cL_law 731 = .ok (.iload 5, 2) := by decide +kernel
theorem dL_law_733 : decode cL_law 733 = .ok (.iconst 2, 1) := by decide +kernel
theorem dL_law_734 : decode cL_law 734 = .ok (.iadd, 1) := by decide +kernel
theorem dL_law_735 : decode cL_law 735 = .ok (.iaload, 1) := by decide +kernel
theorem dL_law_736 : decode cL_law 736 = .ok (.aload_n 3, 1) := by decide +kernel
theorem dL_law_737 : decode cL_law 737 = .ok (.invokestatic 190, 3) := by decide +kernel
theorem dL_law_740 : decode cL_law 740 = .ok (.istore 6, 2) := by decide +kernel
theorem dL_law_742 : decode cL_law 742 = .ok (.aload_n 2, 1) := by decide +kernel
theorem dL_law_743 : decode cL_law 743 = .ok (.aload_n 0, 1) := by decide +kernel
theorem dL_law_744 : decode cL_law 744 = .ok (.iload 5, 2) := by decide +kernel
theorem dL_law_746 : decode cL_law 746 = .ok (.iconst 1, 1) := by decide +kernel
theorem dL_law_747 : decode cL_law 747 = .ok (.iadd, 1) := by decide +kernel
theorem dL_law_748 : decode cL_law 748 = .ok (.iaload, 1) := by decide +kernel
theorem dL_law_749 : decode cL_law 749 = .ok (.aload_n 0, 1) := by decide +kernel
theorem dL_law_750 : decode cL_law 750 = .ok (.iload 5, 2) := by decide +kernel
theorem dL_law_752 : decode cL_law 752 = .ok (.iconst 2, 1) := by decide +kernel
theorem dL_law_753 : decode cL_law 753 = .ok (.iadd, 1) := by decide +kernel
theorem dL_law_754 : decode cL_law 754 = .ok (.iaload, 1) := by decide +kernel
theorem dL_law_755 : decode cL_law 755 = .ok (.invokevirtual 192, 3) := by decide +kernel
theorem dL_law_758 : decode cL_law 758 = .ok (.istore 7, 2) := by decide +kernel
theorem dL_law_760 : decode cL_law 760 = .ok (.goto 1031, 3) := by decide +kernel
theorem dL_law_763 : decode cL_law 763 = .ok (.aload_n 1, 1) := by decide +kernel
theorem dL_law_764 : decode cL_law 764 = .ok (.invokevirtual 193, 3) := by decide +kernel
theorem dL_law_767 : decode cL_law 767 = .ok (.pop, 1) := by decide +kernel
theorem dL_law_768 : decode cL_law 768 = .ok (.aload_n 2, 1) := by decide +kernel
theorem dL_law_769 : decode cL_law 769 = .ok (.invokevirtual 196, 3) := by decide +kernel
theorem dL_law_772 : decode cL_law 772 = .ok (.pop, 1) := by decide +kernel
theorem dL_law_773 : decode cL_law 773 = .ok (.goto 1018, 3) := by decide +kernel
theorem dL_law_776 : decode cL_law 776 = .ok (.aload_n 1, 1) := by decide +kernel
theorem dL_law_777 : decode cL_law 777 = .ok (.aload_n 0, 1) := by decide +kernel
theorem dL_law_778 : decode cL_law 778 = .ok (.iload 5, 2) := by decide +kernel
theorem dL_law_780 : decode cL_law 780 = .ok (.iconst 1, 1) := by decide +kernel
theorem dL_law_781 : decode cL_law 781 = .ok (.iadd, 1) := by decide +kernel
theorem dL_law_782 : decode cL_law 782 = .ok (.iaload, 1) := by decide +kernel
theorem dL_law_783 : decode cL_law 783 = .ok (.aload_n 0, 1) := by decide +kernel
theorem dL_law_784 : decode cL_law 784 = .ok (.iload 5, 2) := by decide +kernel
theorem dL_law_786 : decode cL_law 786 = .ok (.iconst 2, 1) := by decide +kernel
theorem dL_law_787 : decode cL_law 787 = .ok (.iadd, 1) := by decide +kernel
theorem dL_law_788 : decode cL_law 788 = .ok (.iaload, 1) := by decide +kernel
theorem dL_law_789 : decode cL_law 789 = .ok (.aload_n 0, 1) := by decide +kernel
theorem dL_law_790 : decode cL_law 790 = .ok (.iload 5, 2) := by decide +kernel
theorem dL_law_792 : decode cL_law 792 = .ok (.iconst 3, 1) := by decide +kernel
theorem dL_law_793 : decode cL_law 793 = .ok (.iadd, 1) := by decide +kernel
theorem dL_law_794 : decode cL_law 794 = .ok (.iaload, 1) := by decide +kernel
theorem dL_law_795 : decode cL_law 795 = .ok (.aload_n 3, 1) := by decide +kernel
theorem dL_law_796 : decode cL_law 796 = .ok (.invokestatic 197, 3) := by decide +kernel
theorem dL_law_799 : decode cL_law 799 = .ok (.istore 6, 2) := by decide +kernel
theorem dL_law_801 : decode cL_law 801 = .ok (.aload_n 2, 1) := by decide +kernel
theorem dL_law_802 : decode cL_law 802 = .ok (.aload_n 0, 1) := by decide +kernel
theorem dL_law_803 : decode cL_law 803 = .ok (.iload 5, 2) := by decide +kernel
theorem dL_law_805 : decode cL_law 805 = .ok (.iconst 1, 1) := by decide +kernel
theorem dL_law_806 : decode cL_law 806 = .ok (.iadd, 1) := by decide +kernel
theorem dL_law_807 : decode cL_law 807 = .ok (.iaload, 1) := by decide +kernel
theorem dL_law_808 : decode cL_law 808 = .ok (.aload_n 0, 1) := by decide +kernel
theorem dL_law_809 : decode cL_law 809 = .ok (.iload 5, 2) := by decide +kernel
theorem dL_law_811 : decode cL_law 811 = .ok (.iconst 2, 1) := by decide +kernel
theorem dL_law_812 : decode cL_law 812 = .ok (.iadd, 1) := by decide +kernel
theorem dL_law_813 : decode cL_law 813 = .ok (.iaload, 1) := by decide +kernel
theorem dL_law_814 : decode cL_law 814 = .ok (.aload_n 0, 1) := by decide +kernel
theorem dL_law_815 : decode cL_law 815 = .ok (.iload 5, 2) := by decide +kernel
theorem dL_law_817 : decode cL_law 817 = .ok (.iconst 3, 1) := by decide +kernel
theorem dL_law_818 : decode cL_law 818 = .ok (.iadd, 1) := by decide +kernel
theorem dL_law_819 : decode cL_law 819 = .ok (.iaload, 1) := by decide +kernel
theorem dL_law_820 : decode cL_law 820 = .ok (.invokevirtual 200, 3) := by decide +kernel
theorem dL_law_823 : decode cL_law 823 = .ok (.istore 7, 2) := by decide +kernel
theorem dL_law_825 : decode cL_law 825 = .ok (.goto 966, 3) := by decide +kernel
theorem dL_law_828 : decode cL_law 828 = .ok (.aload_n 1, 1) := by decide +kernel
theorem dL_law_829 : decode cL_law 829 = .ok (.aload_n 0, 1) := by decide +kernel
theorem dL_law_830 : decode cL_law 830 = .ok (.iload 5, 2) := by decide +kernel
theorem dL_law_832 : decode cL_law 832 = .ok (.iconst 1, 1) := by decide +kernel
theorem dL_law_833 : decode cL_law 833 = .ok (.iadd, 1) := by decide +kernel
theorem dL_law_834 : decode cL_law 834 = .ok (.iaload, 1) := by decide +kernel
theorem dL_law_835 : decode cL_law 835 = .ok (.aload_n 0, 1) := by decide +kernel
theorem dL_law_836 : decode cL_law 836 = .ok (.iload 5, 2) := by decide +kernel
theorem dL_law_838 : decode cL_law 838 = .ok (.iconst 2, 1) := by decide +kernel
theorem dL_law_839 : decode cL_law 839 = .ok (.iadd, 1) := by decide +kernel
theorem dL_law_840 : decode cL_law 840 = .ok (.iaload, 1) := by decide +kernel
theorem dL_law_841 : decode cL_law 841 = .ok (.aload_n 3, 1) := by decide +kernel
theorem dL_law_842 : decode cL_law 842 = .ok (.invokestatic 201, 3) := by decide +kernel
theorem dL_law_845 : decode cL_law 845 = .ok (.istore 6, 2) := by decide +kernel
theorem dL_law_847 : decode cL_law 847 = .ok (.aload_n 2, 1) := by decide +kernel
theorem dL_law_848 : decode cL_law 848 = .ok (.aload_n 0, 1) := by decide +kernel
theorem dL_law_849 : decode cL_law 849 = .ok (.iload 5, 2) := by decide +kernel
theorem dL_law_851 : decode cL_law 851 = .ok (.iconst 1, 1) := by decide +kernel
theorem dL_law_852 : decode cL_law 852 = .ok (.iadd, 1) := by decide +kernel
theorem dL_law_853 : decode cL_law 853 = .ok (.iaload, 1) := by decide +kernel
theorem dL_law_854 : decode cL_law 854 = .ok (.aload_n 0, 1) := by decide +kernel
theorem dL_law_855 : decode cL_law 855 = .ok (.iload 5, 2) := by decide +kernel
theorem dL_law_857 : decode cL_law 857 = .ok (.iconst 2, 1) := by decide +kernel
theorem dL_law_858 : decode cL_law 858 = .ok (.iadd, 1) := by decide +kernel
theorem dL_law_859 : decode cL_law 859 = .ok (.iaload, 1) := by decide +kernel
theorem dL_law_860 : decode cL_law 860 = .ok (.invokevirtual 203, 3) := by decide +kernel
theorem dL_law_863 : decode cL_law 863 = .ok (.istore 7, 2) := by decide +kernel
theorem dL_law_865 : decode cL_law 865 = .ok (.goto 926, 3) := by decide +kernel
theorem dL_law_868 : decode cL_law 868 = .ok (.aload_n 1, 1) := by decide +kernel
theorem dL_law_869 : decode cL_law 869 = .ok (.aload_n 0, 1) := by decide +kernel
theorem dL_law_870 : decode cL_law 870 = .ok (.iload 5, 2) := by decide +kernel
theorem dL_law_872 : decode cL_law 872 = .ok (.iconst 1, 1) := by decide +kernel
theorem dL_law_873 : decode cL_law 873 = .ok (.iadd, 1) := by decide +kernel
theorem dL_law_874 : decode cL_law 874 = .ok (.iaload, 1) := by decide +kernel
theorem dL_law_875 : decode cL_law 875 = .ok (.aload_n 3, 1) := by decide +kernel
theorem dL_law_876 : decode cL_law 876 = .ok (.invokestatic 204, 3) := by decide +kernel
theorem dL_law_879 : decode cL_law 879 = .ok (.istore 6, 2) := by decide +kernel
theorem dL_law_881 : decode cL_law 881 = .ok (.aload_n 2, 1) := by decide +kernel
theorem dL_law_882 : decode cL_law 882 = .ok (.aload_n 0, 1) := by decide +kernel
theorem dL_law_883 : decode cL_law 883 = .ok (.iload 5, 2) := by decide +kernel
theorem dL_law_885 : decode cL_law 885 = .ok (.iconst 1, 1) := by decide +kernel
theorem dL_law_886 : decode cL_law 886 = .ok (.iadd, 1) := by decide +kernel
theorem dL_law_887 : decode cL_law 887 = .ok (.iaload, 1) := by decide +kernel
theorem dL_law_888 : decode cL_law 888 = .ok (.invokevirtual 206, 3) := by decide +kernel
theorem dL_law_891 : decode cL_law 891 = .ok (.istore 7, 2) := by decide +kernel
theorem dL_law_893 : decode cL_law 893 = .ok (.goto 898, 3) := by decide +kernel
theorem dL_law_896 : decode cL_law 896 = .ok (.aload_n 1, 1) := by decide +kernel
theorem dL_law_897 : decode cL_law 897 = .ok (.invokevirtual 207, 3) := by decide +kernel
theorem dL_law_900 : decode cL_law 900 = .ok (.dstore 6, 2) := by decide +kernel
theorem dL_law_902 : decode cL_law 902 = .ok (.aload_n 2, 1) := by decide +kernel
theorem dL_law_903 : decode cL_law 903 = .ok (.invokevirtual 211, 3) := by decide +kernel
theorem dL_law_906 : decode cL_law 906 = .ok (.dstore 8, 2) := by decide +kernel
theorem dL_law_908 : decode cL_law 908 = .ok (.goto 883, 3) := by decide +kernel
theorem dL_law_911 : decode cL_law 911 = .ok (.aload_n 1, 1) := by decide +kernel
theorem dL_law_912 : decode cL_law 912 = .ok (.invokevirtual 212, 3) := by decide +kernel
theorem dL_law_915 : decode cL_law 915 = .ok (.f2d, 1) := by decide +kernel
theorem dL_law_916 : decode cL_law 916 = .ok (.dstore 6, 2) := by decide +kernel
theorem dL_law_918 : decode cL_law 918 = .ok (.aload_n 2, 1) := by decide +kernel
theorem dL_law_919 : decode cL_law 919 = .ok (.invokevirtual 216, 3) := by decide +kernel
theorem dL_law_922 : decode cL_law 922 = .ok (.f2d, 1) := by decide +kernel
theorem dL_law_923 : decode cL_law 923 = .ok (.dstore 8, 2) := by decide +kernel
theorem dL_law_925 : decode cL_law 925 = .ok (.goto 866, 3) := by decide +kernel
theorem dL_law_928 : decode cL_law 928 = .ok (.aload_n 1, 1) := by decide +kernel
theorem dL_law_929 : decode cL_law 929 = .ok (.aload_n 0, 1) := by decide +kernel
theorem dL_law_930 : decode cL_law 930 = .ok (.iload 5, 2) := by decide +kernel
theorem dL_law_932 : decode cL_law 932 = .ok (.iconst 1, 1) := by decide +kernel
theorem dL_law_933 : decode cL_law 933 = .ok (.iadd, 1) := by decide +kernel
theorem dL_law_934 : decode cL_law 934 = .ok (.iaload, 1) := by decide +kernel
theorem dL_law_935 : decode cL_law 935 = .ok (.aload 4, 2) := by decide +kernel
theorem dL_law_937 : decode cL_law 937 = .ok (.invokestatic 217, 3) := by decide +kernel
theorem dL_law_940 : decode cL_law 940 = .ok (.istore 6, 2) := by decide +kernel
theorem dL_law_942 : decode cL_law 942 = .ok (.aload_n 2, 1) := by decide +kernel
theorem dL_law_943 : decode cL_law 943 = .ok (.aload_n 0, 1) := by decide +kernel
theorem dL_law_944 : decode cL_law 944 = .ok (.iload 5, 2) := by decide +kernel
theorem dL_law_946 : decode cL_law 946 = .ok (.iconst 1, 1) := by decide +kernel
theorem dL_law_947 : decode cL_law 947 = .ok (.iadd, 1) := by decide +kernel
theorem dL_law_948 : decode cL_law 948 = .ok (.iaload, 1) := by decide +kernel
theorem dL_law_949 : decode cL_law 949 = .ok (.invokevirtual 220, 3) := by decide +kernel
theorem dL_law_952 : decode cL_law 952 = .ok (.fstore 7, 2) := by decide +kernel
theorem dL_law_954 : decode cL_law 954 = .ok (.goto 837, 3) := by decide +kernel
theorem dL_law_957 : decode cL_law 957 = .ok (.aload_n 1, 1) := by decide +kernel
theorem dL_law_958 : decode cL_law 958 = .ok (.invokevirtual 221, 3) := by decide +kernel
theorem dL_law_961 : decode cL_law 961 = .ok (.pop, 1) := by decide +kernel
theorem dL_law_962 : decode cL_law 962 = .ok (.aload_n 2, 1) := by decide +kernel
theorem dL_law_963 : decode cL_law 963 = .ok (.invokevirtual 224, 3) := by decide +kernel
theorem dL_law_966 : decode cL_law 966 = .ok (.pop, 1) := by decide +kernel
theorem dL_law_967 : decode cL_law 967 = .ok (.goto 824, 3) := by decide +kernel
theorem dL_law_970 : decode cL_law 970 = .ok (.aload_n 1, 1) := by decide +kernel
theorem dL_law_971 : decode cL_law 971 = .ok (.aload_n 0, 1) := by decide +kernel
theorem dL_law_972 : decode cL_law 972 = .ok (.iload 5, 2) := by decide +kernel
theorem dL_law_974 : decode cL_law 974 = .ok (.iconst 1, 1) := by decide +kernel
theorem dL_law_975 : decode cL_law 975 = .ok (.iadd, 1) := by decide +kernel
theorem dL_law_976 : decode cL_law 976 = .ok (.iaload, 1) := by decide +kernel
theorem dL_law_977 : decode cL_law 977 = .ok (.aload_n 3, 1) := by decide +kernel
theorem dL_law_978 : decode cL_law 978 = .ok (.invokestatic 225, 3) := by decide +kernel
theorem dL_law_981 : decode cL_law 981 = .ok (.istore 6, 2) := by decide +kernel
theorem dL_law_983 : decode cL_law 983 = .ok (.aload_n 2, 1) := by decide +kernel
theorem dL_law_984 : decode cL_law 984 = .ok (.aload_n 0, 1) := by decide +kernel
theorem dL_law_985 : decode cL_law 985 = .ok (.iload 5, 2) := by decide +kernel
theorem dL_law_987 : decode cL_law 987 = .ok (.iconst 1, 1) := by decide +kernel
theorem dL_law_988 : decode cL_law 988 = .ok (.iadd, 1) := by decide +kernel
theorem dL_law_989 : decode cL_law 989 = .ok (.iaload, 1) := by decide +kernel
theorem dL_law_990 : decode cL_law 990 = .ok (.invokevirtual 227, 3) := by decide +kernel
theorem dL_law_993 : decode cL_law 993 = .ok (.istore 7, 2) := by decide +kernel
theorem dL_law_995 : decode cL_law 995 = .ok (.goto 796, 3) := by decide +kernel
theorem dL_law_998 : decode cL_law 998 = .ok (.aload_n 1, 1) := by decide +kernel
theorem dL_law_999 : decode cL_law 999 = .ok (.aload_n 0, 1) := by decide +kernel
theorem dL_leavesIn_0 : decode cL_leavesIn 0 = .ok (.aload_n 2, 1) := by decide +kernel
theorem dL_leavesIn_1 : decode cL_leavesIn 1 = .ok (.iconst 0, 1) := by decide +kernel
theorem dL_leavesIn_12 : decode cL_leavesIn 12 = .ok (.astore_n 3, 1) := by decide +kernel
theorem dL_leavesIn_13 : decode cL_leavesIn 13 = .ok (.iconst 1, 1) := by decide +kernel
theorem dL_leavesIn_14 : decode cL_leavesIn 14 = .ok (.ireturn, 1) := by decide +kernel
theorem dL_leavesIn_15 : decode cL_leavesIn 15 = .ok (.iconst 0, 1) := by decide +kernel
theorem dL_leavesIn_16 : decode cL_leavesIn 16 = .ok (.ireturn, 1) := by decide +kernel
theorem dL_leavesIn_2 : decode cL_leavesIn 2 = .ok (.aload_n 0, 1) := by decide +kernel
theorem dL_leavesIn_3 : decode cL_leavesIn 3 = .ok (.iload_n 1, 1) := by decide +kernel
theorem dL_leavesIn_4 : decode cL_leavesIn 4 = .ok (.invokevirtual 96, 3) := by decide +kernel
theorem dL_leavesIn_7 : decode cL_leavesIn 7 = .ok (.i2l, 1) := by decide +kernel
theorem dL_leavesIn_8 : decode cL_leavesIn 8 = .ok (.lastore, 1) := by decide +kernel
theorem dL_leavesIn_9 : decode cL_leavesIn 9 = .ok (.goto 6, 3) := by decide +kernel
theorem dL_leftIn_0 : decode cL_leftIn 0 = .ok (.aload_n 2, 1) := by decide +kernel
theorem dL_leftIn_1 : decode cL_leftIn 1 = .ok (.iconst 0, 1) := by decide +kernel
theorem dL_leftIn_12 : decode cL_leftIn 12 = .ok (.astore_n 3, 1) := by decide +kernel
theorem dL_leftIn_13 : decode cL_leftIn 13 = .ok (.iconst 1, 1) := by decide +kernel
theorem dL_leftIn_14 : decode cL_leftIn 14 = .ok (.ireturn, 1) := by decide +kernel
theorem dL_leftIn_15 : decode cL_leftIn 15 = .ok (.iconst 0, 1) := by decide +kernel
theorem dL_leftIn_16 : decode cL_leftIn 16 = .ok (.ireturn, 1) := by decide +kernel
theorem dL_leftIn_2 : decode cL_leftIn 2 = .ok (.aload_n 0, 1) := by decide +kernel
theorem dL_leftIn_3 : decode cL_leftIn 3 = .ok (.iload_n 1, 1) := by decide +kernel
theorem dL_leftIn_4 : decode cL_leftIn 4 = .ok (.invokevirtual 102, 3) := by decide +kernel
theorem dL_leftIn_7 : decode cL_leftIn 7 = .ok (.i2l, 1) := by decide +kernel
theorem dL_leftIn_8 : decode cL_leftIn 8 = .ok (.lastore, 1) := by decide +kernel
theorem dL_leftIn_9 : decode cL_leftIn 9 = .ok (.goto 6, 3) := by decide +kernel
theorem dL_letter_0 : decode cL_letter 0 = .ok (.aload_n 3, 1) := by decide +kernel
theorem dL_letter_1 : decode cL_letter 1 = .ok (.iconst 0, 1) := by decide +kernel
theorem dL_letter_10 : decode cL_letter 10 = .ok (.goto 7, 3) := by decide +kernel
theorem dL_letter_13 : decode cL_letter 13 = .ok (.astore 4, 2) := by decide +kernel
theorem dL_letter_15 : decode cL_letter 15 = .ok (.iconst 1, 1) := by decide +kernel
theorem dL_letter_16 : decode cL_letter 16 = .ok (.ireturn, 1) := by decide +kernel
theorem dL_letter_17 : decode cL_letter 17 = .ok (.iconst 0, 1) := by decide +kernel
theorem dL_letter_18 : decode cL_letter 18 = .ok (.ireturn, 1) := by decide +kernel
theorem dL_letter_2 : decode cL_letter 2 = .ok (.aload_n 0, 1) := by decide +kernel
theorem dL_letter_3 : decode cL_letter 3 = .ok (.iload_n 1, 1) := by decide +kernel
theorem dL_letter_4 : decode cL_letter 4 = .ok (.iload_n 2, 1) := by decide +kernel
theorem dL_letter_5 : decode cL_letter 5 = .ok (.invokevirtual 27, 3) := by decide +kernel
theorem dL_letter_8 : decode cL_letter 8 = .ok (.i2l, 1) := by decide +kernel
theorem dL_letter_9 : decode cL_letter 9 = .ok (.lastore, 1) := by decide +kernel
theorem dL_lotIn_0 : decode cL_lotIn 0 = .ok (.aload_n 2, 1) := by decide +kernel
theorem dL_lotIn_1 : decode cL_lotIn 1 = .ok (.iconst 0, 1) := by decide +kernel
theorem dL_lotIn_12 : decode cL_lotIn 12 = .ok (.astore_n 3, 1) := by decide +kernel
theorem dL_lotIn_13 : decode cL_lotIn 13 = .ok (.iconst 1, 1) := by decide +kernel
theorem dL_lotIn_14 : decode cL_lotIn 14 = .ok (.ireturn, 1) := by decide +kernel
theorem dL_lotIn_15 : decode cL_lotIn 15 = .ok (.iconst 0, 1) := by decide +kernel
theorem dL_lotIn_16 : decode cL_lotIn 16 = .ok (.ireturn, 1) := by decide +kernel
theorem dL_lotIn_2 : decode cL_lotIn 2 = .ok (.aload_n 0, 1) := by decide +kernel
theorem dL_lotIn_3 : decode cL_lotIn 3 = .ok (.iload_n 1, 1) := by decide +kernel
theorem dL_lotIn_4 : decode cL_lotIn 4 = .ok (.invokevirtual 99, 3) := by decide +kernel
theorem dL_lotIn_7 : decode cL_lotIn 7 = .ok (.i2l, 1) := by decide +kernel
theorem dL_lotIn_8 : decode cL_lotIn 8 = .ok (.lastore, 1) := by decide +kernel
theorem dL_lotIn_9 : decode cL_lotIn 9 = .ok (.goto 6, 3) := by decide +kernel
theorem dL_lot_0 : decode cL_lot 0 = .ok (.aload_n 3, 1) := by decide +kernel
theorem dL_lot_1 : decode cL_lot 1 = .ok (.iconst 0, 1) := by decide +kernel
theorem dL_lot_10 : decode cL_lot 10 = .ok (.goto 11, 3) := by decide +kernel
theorem dL_lot_13 : decode cL_lot 13 = .ok (.astore 4, 2) := by decide +kernel
theorem dL_lot_15 : decode cL_lot 15 = .ok (.iconst 1, 1) := by decide +kernel
theorem dL_lot_16 : decode cL_lot 16 = .ok (.ireturn, 1) := by decide +kernel
theorem dL_lot_17 : decode cL_lot 17 = .ok (.astore 4, 2) := by decide +kernel
theorem dL_lot_19 : decode cL_lot 19 = .ok (.iconst 2, 1) := by decide +kernel
theorem dL_lot_2 : decode cL_lot 2 = .ok (.aload_n 0, 1) := by decide +kernel
theorem dL_lot_20 : decode cL_lot 20 = .ok (.ireturn, 1) := by decide +kernel
theorem dL_lot_21 : decode cL_lot 21 = .ok (.iconst 0, 1) := by decide +kernel
theorem dL_lot_22 : decode cL_lot 22 = .ok (.ireturn, 1) := by decide +kernel
theorem dL_lot_3 : decode cL_lot 3 = .ok (.iload_n 1, 1) := by decide +kernel
theorem dL_lot_4 : decode cL_lot 4 = .ok (.iload_n 2, 1) := by decide +kernel
theorem dL_lot_5 : decode cL_lot 5 = .ok (.invokevirtual 30, 3) := by decide +kernel
theorem dL_lot_8 : decode cL_lot 8 = .ok (.i2l, 1) := by decide +kernel
theorem dL_lot_9 : decode cL_lot 9 = .ok (.lastore, 1) := by decide +kernel
theorem dL_order_0 : decode cL_order 0 = .ok (.aload_n 2, 1) := by decide +kernel
theorem dL_order_1 : decode cL_order 1 = .ok (.iconst 0, 1) := by decide +kernel
theorem dL_order_12 : decode cL_order 12 = .ok (.astore_n 3, 1) := by decide +kernel
theorem dL_order_13 : decode cL_order 13 = .ok (.iconst 1, 1) := by decide +kernel
theorem dL_order_14 : decode cL_order 14 = .ok (.ireturn, 1) := by decide +kernel
theorem dL_order_15 : decode cL_order 15 = .ok (.iconst 0, 1) := by decide +kernel
theorem dL_order_16 : decode cL_order 16 = .ok (.ireturn, 1) := by decide +kernel
theorem dL_order_2 : decode cL_order 2 = .ok (.aload_n 0, 1) := by decide +kernel
theorem dL_order_3 : decode cL_order 3 = .ok (.iload_n 1, 1) := by decide +kernel
theorem dL_order_4 : decode cL_order 4 = .ok (.invokevirtual 56, 3) := by decide +kernel
theorem dL_order_7 : decode cL_order 7 = .ok (.i2l, 1) := by decide +kernel
theorem dL_order_8 : decode cL_order 8 = .ok (.lastore, 1) := by decide +kernel
theorem dL_order_9 : decode cL_order 9 = .ok (.goto 6, 3) := by decide +kernel
theorem dL_refill_0 : decode cL_refill 0 = .ok (.aload_n 2, 1) := by decide +kernel
theorem dL_refill_1 : decode cL_refill 1 = .ok (.iconst 0, 1) := by decide +kernel
theorem dL_refill_12 : decode cL_refill 12 = .ok (.astore_n 3, 1) := by decide +kernel
theorem dL_refill_13 : decode cL_refill 13 = .ok (.iconst 1, 1) := by decide +kernel
theorem dL_refill_14 : decode cL_refill 14 = .ok (.ireturn, 1) := by decide +kernel
theorem dL_refill_15 : decode cL_refill 15 = .ok (.iconst 0, 1) := by decide +kernel
theorem dL_refill_16 : decode cL_refill 16 = .ok (.ireturn, 1) := by decide +kernel
theorem dL_refill_2 : decode cL_refill 2 = .ok (.aload_n 0, 1) := by decide +kernel
theorem dL_refill_3 : decode cL_refill 3 = .ok (.iload_n 1, 1) := by decide +kernel
theorem dL_refill_4 : decode cL_refill 4 = .ok (.invokevirtual 65, 3) := by decide +kernel
theorem dL_refill_7 : decode cL_refill 7 = .ok (.i2l, 1) := by decide +kernel
theorem dL_refill_8 : decode cL_refill 8 = .ok (.lastore, 1) := by decide +kernel
theorem dL_refill_9 : decode cL_refill 9 = .ok (.goto 6, 3) := by decide +kernel
theorem dL_restIn_0 : decode cL_restIn 0 = .ok (.aload_n 2, 1) := by decide +kernel
theorem dL_restIn_1 : decode cL_restIn 1 = .ok (.iconst 0, 1) := by decide +kernel
theorem dL_restIn_12 : decode cL_restIn 12 = .ok (.astore_n 3, 1) := by decide +kernel
theorem dL_restIn_13 : decode cL_restIn 13 = .ok (.iconst 1, 1) := by decide +kernel
theorem dL_restIn_14 : decode cL_restIn 14 = .ok (.ireturn, 1) := by decide +kernel
theorem dL_restIn_15 : decode cL_restIn 15 = .ok (.iconst 0, 1) := by decide +kernel
theorem dL_restIn_16 : decode cL_restIn 16 = .ok (.ireturn, 1) := by decide +kernel
theorem dL_restIn_2 : decode cL_restIn 2 = .ok (.aload_n 0, 1) := by decide +kernel
theorem dL_restIn_3 : decode cL_restIn 3 = .ok (.iload_n 1, 1) := by decide +kernel
theorem dL_restIn_4 : decode cL_restIn 4 = .ok (.invokevirtual 111, 3) := by decide +kernel
theorem dL_restIn_7 : decode cL_restIn 7 = .ok (.i2l, 1) := by decide +kernel
theorem dL_restIn_8 : decode cL_restIn 8 = .ok (.lastore, 1) := by decide +kernel
theorem dL_restIn_9 : decode cL_restIn 9 = .ok (.goto 6, 3) := by decide +kernel
theorem dL_restoreSnapshot_0 : decode cL_restoreSnapshot 0 = .ok (.aload_n 2, 1) := by decide +kernel
theorem dL_restoreSnapshot_1 : decode cL_restoreSnapshot 1 = .ok (.iconst 0, 1) := by decide +kernel
theorem dL_restoreSnapshot_12 : decode cL_restoreSnapshot 12 = .ok (.astore_n 3, 1) := by decide +kernel
theorem dL_restoreSnapshot_13 : decode cL_restoreSnapshot 13 = .ok (.iconst 1, 1) := by decide +kernel
theorem dL_restoreSnapshot_14 : decode cL_restoreSnapshot 14 = .ok (.ireturn, 1) := by decide +kernel
theorem dL_restoreSnapshot_15 : decode cL_restoreSnapshot 15 = .ok (.iconst 0, 1) := by decide +kernel
theorem dL_restoreSnapshot_16 : decode cL_restoreSnapshot 16 = .ok (.ireturn, 1) := by decide +kernel
theorem dL_restoreSnapshot_2 : decode cL_restoreSnapshot 2 = .ok (.aload_n 0, 1) := by decide +kernel
theorem dL_restoreSnapshot_3 : decode cL_restoreSnapshot 3 = .ok (.iload_n 1, 1) := by decide +kernel
theorem dL_restoreSnapshot_4 : decode cL_restoreSnapshot 4 = .ok (.invokevirtual 123, 3) := by decide +kernel
theorem dL_restoreSnapshot_7 : decode cL_restoreSnapshot 7 = .ok (.i2l, 1) := by decide +kernel
theorem dL_restoreSnapshot_8 : decode cL_restoreSnapshot 8 = .ok (.lastore, 1) := by decide +kernel
theorem dL_restoreSnapshot_9 : decode cL_restoreSnapshot 9 = .ok (.goto 6, 3) := by decide +kernel
theorem dL_runToLeave_0 : decode cL_runToLeave 0 = .ok (.aload_n 2, 1) := by decide +kernel
theorem dL_runToLeave_1 : decode cL_runToLeave 1 = .ok (.iconst 0, 1) := by decide +kernel
theorem dL_runToLeave_12 : decode cL_runToLeave 12 = .ok (.astore_n 3, 1) := by decide +kernel
theorem dL_runToLeave_13 : decode cL_runToLeave 13 = .ok (.iconst 1, 1) := by decide +kernel
theorem dL_runToLeave_14 : decode cL_runToLeave 14 = .ok (.ireturn, 1) := by decide +kernel
theorem dL_runToLeave_15 : decode cL_runToLeave 15 = .ok (.iconst 0, 1) := by decide +kernel
theorem dL_runToLeave_16 : decode cL_runToLeave 16 = .ok (.ireturn, 1) := by decide +kernel
theorem dL_runToLeave_2 : decode cL_runToLeave 2 = .ok (.aload_n 0, 1) := by decide +kernel
theorem dL_runToLeave_3 : decode cL_runToLeave 3 = .ok (.iload_n 1, 1) := by decide +kernel
theorem dL_runToLeave_4 : decode cL_runToLeave 4 = .ok (.invokevirtual 93, 3) := by decide +kernel
theorem dL_runToLeave_7 : decode cL_runToLeave 7 = .ok (.i2l, 1) := by decide +kernel
theorem dL_runToLeave_8 : decode cL_runToLeave 8 = .ok (.lastore, 1) := by decide +kernel
theorem dL_runToLeave_9 : decode cL_runToLeave 9 = .ok (.goto 6, 3) := by decide +kernel
theorem dL_run_0 : decode cL_run 0 = .ok (.aload_n 2, 1) := by decide +kernel
theorem dL_run_1 : decode cL_run 1 = .ok (.iconst 0, 1) := by decide +kernel
theorem dL_run_12 : decode cL_run 12 = .ok (.astore_n 3, 1) := by decide +kernel
theorem dL_run_13 : decode cL_run 13 = .ok (.iconst 1, 1) := by decide +kernel
theorem dL_run_14 : decode cL_run 14 = .ok (.ireturn, 1) := by decide +kernel
theorem dL_run_15 : decode cL_run 15 = .ok (.iconst 0, 1) := by decide +kernel
theorem dL_run_16 : decode cL_run 16 = .ok (.ireturn, 1) := by decide +kernel
theorem dL_run_2 : decode cL_run 2 = .ok (.aload_n 0, 1) := by decide +kernel
theorem dL_run_3 : decode cL_run 3 = .ok (.iload_n 1, 1) := by decide +kernel
theorem dL_run_4 : decode cL_run 4 = .ok (.invokevirtual 90, 3) := by decide +kernel
theorem dL_run_7 : decode cL_run 7 = .ok (.i2l, 1) := by decide +kernel
theorem dL_run_8 : decode cL_run 8 = .ok (.lastore, 1) := by decide +kernel
theorem dL_run_9 : decode cL_run 9 = .ok (.goto 6, 3) := by decide +kernel
theorem dL_rush_0 : decode cL_rush 0 = .ok (.aload_n 2, 1) := by decide +kernel
theorem dL_rush_1 : decode cL_rush 1 = .ok (.iconst 0, 1) := by decide +kernel
theorem dL_rush_12 : decode cL_rush 12 = .ok (.astore_n 3, 1) := by decide +kernel
theorem dL_rush_13 : decode cL_rush 13 = .ok (.iconst 1, 1) := by decide +kernel
theorem dL_rush_14 : decode cL_rush 14 = .ok (.ireturn, 1) := by decide +kernel
theorem dL_rush_15 : decode cL_rush 15 = .ok (.iconst 0, 1) := by decide +kernel
theorem dL_rush_16 : decode cL_rush 16 = .ok (.ireturn, 1) := by decide +kernel
theorem dL_rush_2 : decode cL_rush 2 = .ok (.aload_n 0, 1) := by decide +kernel
theorem dL_rush_3 : decode cL_rush 3 = .ok (.iload_n 1, 1) := by decide +kernel
theorem dL_rush_4 : decode cL_rush 4 = .ok (.invokevirtual 78, 3) := by decide +kernel
theorem dL_rush_7 : decode cL_rush 7 = .ok (.i2l, 1) := by decide +kernel
theorem dL_rush_8 : decode cL_rush 8 = .ok (.lastore, 1) := by decide +kernel
theorem dL_rush_9 : decode cL_rush 9 = .ok (.goto 6, 3) := by decide +kernel
theorem dL_saveSnapshot_0 : decode cL_saveSnapshot 0 = .ok (.aload_n 2, 1) := by decide +kernel
theorem dL_saveSnapshot_1 : decode cL_saveSnapshot 1 = .ok (.iconst 0, 1) := by decide +kernel
theorem dL_saveSnapshot_12 : decode cL_saveSnapshot 12 = .ok (.astore_n 3, 1) := by decide +kernel
theorem dL_saveSnapshot_13 : decode cL_saveSnapshot 13 = .ok (.iconst 1, 1) := by decide +kernel
theorem dL_saveSnapshot_14 : decode cL_saveSnapshot 14 = .ok (.ireturn, 1) := by decide +kernel
theorem dL_saveSnapshot_15 : decode cL_saveSnapshot 15 = .ok (.iconst 0, 1) := by decide +kernel
theorem dL_saveSnapshot_16 : decode cL_saveSnapshot 16 = .ok (.ireturn, 1) := by decide +kernel
theorem dL_saveSnapshot_2 : decode cL_saveSnapshot 2 = .ok (.aload_n 0, 1) := by decide +kernel
theorem dL_saveSnapshot_3 : decode cL_saveSnapshot 3 = .ok (.iload_n 1, 1) := by decide +kernel
theorem dL_saveSnapshot_4 : decode cL_saveSnapshot 4 = .ok (.invokevirtual 120, 3) := by decide +kernel
theorem dL_saveSnapshot_7 : decode cL_saveSnapshot 7 = .ok (.i2l, 1) := by decide +kernel
theorem dL_saveSnapshot_8 : decode cL_saveSnapshot 8 = .ok (.lastore, 1) := by decide +kernel
theorem dL_saveSnapshot_9 : decode cL_saveSnapshot 9 = .ok (.goto 6, 3) := by decide +kernel
theorem dL_setPace_0 : decode cL_setPace 0 = .ok (.aload_n 3, 1) := by decide +kernel
theorem dL_setPace_1 : decode cL_setPace 1 = .ok (.iconst 0, 1) := by decide +kernel
theorem dL_setPace_10 : decode cL_setPace 10 = .ok (.goto 11, 3) := by decide +kernel
theorem dL_setPace_13 : decode cL_setPace 13 = .ok (.astore 4, 2) := by decide +kernel
theorem dL_setPace_15 : decode cL_setPace 15 = .ok (.iconst 1, 1) := by decide +kernel
theorem dL_setPace_16 : decode cL_setPace 16 = .ok (.ireturn, 1) := by decide +kernel
theorem dL_setPace_17 : decode cL_setPace 17 = .ok (.astore 4, 2) := by decide +kernel
theorem dL_setPace_19 : decode cL_setPace 19 = .ok (.iconst 2, 1) := by decide +kernel
theorem dL_setPace_2 : decode cL_setPace 2 = .ok (.aload_n 0, 1) := by decide +kernel
theorem dL_setPace_20 : decode cL_setPace 20 = .ok (.ireturn, 1) := by decide +kernel
theorem dL_setPace_21 : decode cL_setPace 21 = .ok (.iconst 0, 1) := by decide +kernel
theorem dL_setPace_22 : decode cL_setPace 22 = .ok (.ireturn, 1) := by decide +kernel
theorem dL_setPace_3 : decode cL_setPace 3 = .ok (.iload_n 1, 1) := by decide +kernel
theorem dL_setPace_4 : decode cL_setPace 4 = .ok (.iload_n 2, 1) := by decide +kernel
theorem dL_setPace_5 : decode cL_setPace 5 = .ok (.invokevirtual 68, 3) := by decide +kernel
theorem dL_setPace_8 : decode cL_setPace 8 = .ok (.i2l, 1) := by decide +kernel
theorem dL_setPace_9 : decode cL_setPace 9 = .ok (.lastore, 1) := by decide +kernel
theorem dL_setRank_0 : decode cL_setRank 0 = .ok (.aload_n 3, 1) := by decide +kernel
theorem dL_setRank_1 : decode cL_setRank 1 = .ok (.iconst 0, 1) := by decide +kernel
theorem dL_setRank_10 : decode cL_setRank 10 = .ok (.goto 11, 3) := by decide +kernel
theorem dL_setRank_13 : decode cL_setRank 13 = .ok (.astore 4, 2) := by decide +kernel
theorem dL_setRank_15 : decode cL_setRank 15 = .ok (.iconst 1, 1) := by decide +kernel
theorem dL_setRank_16 : decode cL_setRank 16 = .ok (.ireturn, 1) := by decide +kernel
theorem dL_setRank_17 : decode cL_setRank 17 = .ok (.astore 4, 2) := by decide +kernel
theorem dL_setRank_19 : decode cL_setRank 19 = .ok (.iconst 2, 1) := by decide +kernel
theorem dL_setRank_2 : decode cL_setRank 2 = .ok (.aload_n 0, 1) := by decide +kernel
theorem dL_setRank_20 : decode cL_setRank 20 = .ok (.ireturn, 1) := by decide +kernel
theorem dL_setRank_21 : decode cL_setRank 21 = .ok (.iconst 0, 1) := by decide +kernel
theorem dL_setRank_22 : decode cL_setRank 22 = .ok (.ireturn, 1) := by decide +kernel
theorem dL_setRank_3 : decode cL_setRank 3 = .ok (.iload_n 1, 1) := by decide +kernel
theorem dL_setRank_4 : decode cL_setRank 4 = .ok (.iload_n 2, 1) := by decide +kernel
theorem dL_setRank_5 : decode cL_setRank 5 = .ok (.invokevirtual 62, 3) := by decide +kernel
theorem dL_setRank_8 : decode cL_setRank 8 = .ok (.i2l, 1) := by decide +kernel
theorem dL_setRank_9 : decode cL_setRank 9 = .ok (.lastore, 1) := by decide +kernel
theorem dL_setRest_0 : decode cL_setRest 0 = .ok (.aload 4, 2) := by decide +kernel
theorem dL_setRest_10 : decode cL_setRest 10 = .ok (.i2l, 1) := by decide +kernel
theorem dL_setRest_11 : decode cL_setRest 11 = .ok (.lastore, 1) := by decide +kernel
theorem dL_setRest_12 : decode cL_setRest 12 = .ok (.goto 11, 3) := by decide +kernel
theorem dL_setRest_15 : decode cL_setRest 15 = .ok (.astore 5, 2) := by decide +kernel
theorem dL_setRest_17 : decode cL_setRest 17 = .ok (.iconst 1, 1) := by decide +kernel
theorem dL_setRest_18 : decode cL_setRest 18 = .ok (.ireturn, 1) := by decide +kernel
theorem dL_setRest_19 : decode cL_setRest 19 = .ok (.astore 5, 2) := by decide +kernel
theorem dL_setRest_2 : decode cL_setRest 2 = .ok (.iconst 0, 1) := by decide +kernel
theorem dL_setRest_21 : decode cL_setRest 21 = .ok (.iconst 2, 1) := by decide +kernel
theorem dL_setRest_22 : decode cL_setRest 22 = .ok (.ireturn, 1) := by decide +kernel
theorem dL_setRest_23 : decode cL_setRest 23 = .ok (.iconst 0, 1) := by decide +kernel
theorem dL_setRest_24 : decode cL_setRest 24 = .ok (.ireturn, 1) := by decide +kernel
theorem dL_setRest_3 : decode cL_setRest 3 = .ok (.aload_n 0, 1) := by decide +kernel
theorem dL_setRest_4 : decode cL_setRest 4 = .ok (.iload_n 1, 1) := by decide +kernel
theorem dL_setRest_5 : decode cL_setRest 5 = .ok (.iload_n 2, 1) := by decide +kernel
theorem dL_setRest_6 : decode cL_setRest 6 = .ok (.iload_n 3, 1) := by decide +kernel
theorem dL_setRest_7 : decode cL_setRest 7 = .ok (.invokevirtual 75, 3) := by decide +kernel
theorem dL_setTray_0 : decode cL_setTray 0 = .ok (.aload_n 2, 1) := by decide +kernel
theorem dL_setTray_1 : decode cL_setTray 1 = .ok (.iconst 0, 1) := by decide +kernel
theorem dL_setTray_12 : decode cL_setTray 12 = .ok (.astore_n 3, 1) := by decide +kernel
theorem dL_setTray_13 : decode cL_setTray 13 = .ok (.iconst 1, 1) := by decide +kernel
theorem dL_setTray_14 : decode cL_setTray 14 = .ok (.ireturn, 1) := by decide +kernel
theorem dL_setTray_15 : decode cL_setTray 15 = .ok (.iconst 0, 1) := by decide +kernel
theorem dL_setTray_16 : decode cL_setTray 16 = .ok (.ireturn, 1) := by decide +kernel
theorem dL_setTray_2 : decode cL_setTray 2 = .ok (.aload_n 0, 1) := by decide +kernel
theorem dL_setTray_3 : decode cL_setTray 3 = .ok (.iload_n 1, 1) := by decide +kernel
theorem dL_setTray_4 : decode cL_setTray 4 = .ok (.invokevirtual 87, 3) := by decide +kernel
theorem dL_setTray_7 : decode cL_setTray 7 = .ok (.i2l, 1) := by decide +kernel
theorem dL_setTray_8 : decode cL_setTray 8 = .ok (.lastore, 1) := by decide +kernel
theorem dL_setTray_9 : decode cL_setTray 9 = .ok (.goto 6, 3) := by decide +kernel
theorem dL_setTries_0 : decode cL_setTries 0 = .ok (.aload_n 2, 1) := by decide +kernel
theorem dL_setTries_1 : decode cL_setTries 1 = .ok (.iconst 0, 1) := by decide +kernel
theorem dL_setTries_12 : decode cL_setTries 12 = .ok (.astore_n 3, 1) := by decide +kernel
theorem dL_setTries_13 : decode cL_setTries 13 = .ok (.iconst 1, 1) := by decide +kernel
theorem dL_setTries_14 : decode cL_setTries 14 = .ok (.ireturn, 1) := by decide +kernel
theorem dL_setTries_15 : decode cL_setTries 15 = .ok (.iconst 0, 1) := by decide +kernel
theorem dL_setTries_16 : decode cL_setTries 16 = .ok (.ireturn, 1) := by decide +kernel
theorem dL_setTries_2 : decode cL_setTries 2 = .ok (.aload_n 0, 1) := by decide +kernel
theorem dL_setTries_3 : decode cL_setTries 3 = .ok (.iload_n 1, 1) := by decide +kernel
theorem dL_setTries_4 : decode cL_setTries 4 = .ok (.invokevirtual 84, 3) := by decide +kernel
theorem dL_setTries_7 : decode cL_setTries 7 = .ok (.i2l, 1) := by decide +kernel
theorem dL_setTries_8 : decode cL_setTries 8 = .ok (.lastore, 1) := by decide +kernel
theorem dL_setTries_9 : decode cL_setTries 9 = .ok (.goto 6, 3) := by decide +kernel
theorem dL_setting_0 : decode cL_setting 0 = .ok (.aload_n 2, 1) := by decide +kernel
theorem dL_setting_1 : decode cL_setting 1 = .ok (.iconst 0, 1) := by decide +kernel
theorem dL_setting_12 : decode cL_setting 12 = .ok (.astore_n 3, 1) := by decide +kernel
theorem dL_setting_13 : decode cL_setting 13 = .ok (.iconst 1, 1) := by decide +kernel
theorem dL_setting_14 : decode cL_setting 14 = .ok (.ireturn, 1) := by decide +kernel
theorem dL_setting_15 : decode cL_setting 15 = .ok (.iconst 0, 1) := by decide +kernel
theorem dL_setting_16 : decode cL_setting 16 = .ok (.ireturn, 1) := by decide +kernel
theorem dL_setting_2 : decode cL_setting 2 = .ok (.aload_n 0, 1) := by decide +kernel
theorem dL_setting_3 : decode cL_setting 3 = .ok (.iload_n 1, 1) := by decide +kernel
theorem dL_setting_4 : decode cL_setting 4 = .ok (.invokevirtual 15, 3) := by decide +kernel
theorem dL_setting_7 : decode cL_setting 7 = .ok (.i2l, 1) := by decide +kernel
theorem dL_setting_8 : decode cL_setting 8 = .ok (.lastore, 1) := by decide +kernel
theorem dL_setting_9 : decode cL_setting 9 = .ok (.goto 6, 3) := by decide +kernel
theorem dL_station_0 : decode cL_station 0 = .ok (.aload_n 3, 1) := by decide +kernel
theorem dL_station_1 : decode cL_station 1 = .ok (.iconst 0, 1) := by decide +kernel
theorem dL_station_10 : decode cL_station 10 = .ok (.goto 11, 3) := by decide +kernel
theorem dL_station_13 : decode cL_station 13 = .ok (.astore 4, 2) := by decide +kernel
theorem dL_station_15 : decode cL_station 15 = .ok (.iconst 1, 1) := by decide +kernel
theorem dL_station_16 : decode cL_station 16 = .ok (.ireturn, 1) := by decide +kernel
theorem dL_station_17 : decode cL_station 17 = .ok (.astore 4, 2) := by decide +kernel
theorem dL_station_19 : decode cL_station 19 = .ok (.iconst 2, 1) := by decide +kernel
theorem dL_station_2 : decode cL_station 2 = .ok (.aload_n 0, 1) := by decide +kernel
theorem dL_station_20 : decode cL_station 20 = .ok (.ireturn, 1) := by decide +kernel
theorem dL_station_21 : decode cL_station 21 = .ok (.iconst 0, 1) := by decide +kernel
theorem dL_station_22 : decode cL_station 22 = .ok (.ireturn, 1) := by decide +kernel
theorem dL_station_3 : decode cL_station 3 = .ok (.iload_n 1, 1) := by decide +kernel
theorem dL_station_4 : decode cL_station 4 = .ok (.iload_n 2, 1) := by decide +kernel
theorem dL_station_5 : decode cL_station 5 = .ok (.invokevirtual 18, 3) := by decide +kernel
theorem dL_station_8 : decode cL_station 8 = .ok (.i2l, 1) := by decide +kernel
theorem dL_station_9 : decode cL_station 9 = .ok (.lastore, 1) := by decide +kernel
theorem dL_steps_0 : decode cL_steps 0 = .ok (.aload_n 3, 1) := by decide +kernel
theorem dL_steps_1 : decode cL_steps 1 = .ok (.iconst 0, 1) := by decide +kernel
theorem dL_steps_10 : decode cL_steps 10 = .ok (.goto 11, 3) := by decide +kernel
theorem dL_steps_13 : decode cL_steps 13 = .ok (.astore 4, 2) := by decide +kernel
theorem dL_steps_15 : decode cL_steps 15 = .ok (.iconst 1, 1) := by decide +kernel
theorem dL_steps_16 : decode cL_steps 16 = .ok (.ireturn, 1) := by decide +kernel
theorem dL_steps_17 : decode cL_steps 17 = .ok (.astore 4, 2) := by decide +kernel
theorem dL_steps_19 : decode cL_steps 19 = .ok (.iconst 2, 1) := by decide +kernel
theorem dL_steps_2 : decode cL_steps 2 = .ok (.aload_n 0, 1) := by decide +kernel
theorem dL_steps_20 : decode cL_steps 20 = .ok (.ireturn, 1) := by decide +kernel
theorem dL_steps_21 : decode cL_steps 21 = .ok (.iconst 0, 1) := by decide +kernel
theorem dL_steps_22 : decode cL_steps 22 = .ok (.ireturn, 1) := by decide +kernel
theorem dL_steps_3 : decode cL_steps 3 = .ok (.iload_n 1, 1) := by decide +kernel
theorem dL_steps_4 : decode cL_steps 4 = .ok (.iload_n 2, 1) := by decide +kernel
theorem dL_steps_5 : decode cL_steps 5 = .ok (.invokevirtual 36, 3) := by decide +kernel
theorem dL_steps_8 : decode cL_steps 8 = .ok (.i2l, 1) := by decide +kernel
theorem dL_steps_9 : decode cL_steps 9 = .ok (.lastore, 1) := by decide +kernel
theorem dL_stop_0 : decode cL_stop 0 = .ok (.aload_n 3, 1) := by decide +kernel
theorem dL_stop_1 : decode cL_stop 1 = .ok (.iconst 0, 1) := by decide +kernel
theorem dL_stop_10 : decode cL_stop 10 = .ok (.goto 7, 3) := by decide +kernel
theorem dL_stop_13 : decode cL_stop 13 = .ok (.astore 4, 2) := by decide +kernel
theorem dL_stop_15 : decode cL_stop 15 = .ok (.iconst 1, 1) := by decide +kernel
theorem dL_stop_16 : decode cL_stop 16 = .ok (.ireturn, 1) := by decide +kernel
theorem dL_stop_17 : decode cL_stop 17 = .ok (.iconst 0, 1) := by decide +kernel
theorem dL_stop_18 : decode cL_stop 18 = .ok (.ireturn, 1) := by decide +kernel
theorem dL_stop_2 : decode cL_stop 2 = .ok (.aload_n 0, 1) := by decide +kernel
theorem dL_stop_3 : decode cL_stop 3 = .ok (.iload_n 1, 1) := by decide +kernel
theorem dL_stop_4 : decode cL_stop 4 = .ok (.iload_n 2, 1) := by decide +kernel
theorem dL_stop_5 : decode cL_stop 5 = .ok (.invokevirtual 71, 3) := by decide +kernel
theorem dL_stop_8 : decode cL_stop 8 = .ok (.i2l, 1) := by decide +kernel
theorem dL_stop_9 : decode cL_stop 9 = .ok (.lastore, 1) := by decide +kernel
theorem dL_swap_0 : decode cL_swap 0 = .ok (.aload_n 3, 1) := by decide +kernel
theorem dL_swap_1 : decode cL_swap 1 = .ok (.iconst 0, 1) := by decide +kernel
theorem dL_swap_10 : decode cL_swap 10 = .ok (.goto 11, 3) := by decide +kernel
theorem dL_swap_13 : decode cL_swap 13 = .ok (.astore 4, 2) := by decide +kernel
theorem dL_swap_15 : decode cL_swap 15 = .ok (.iconst 1, 1) := by decide +kernel
theorem dL_swap_16 : decode cL_swap 16 = .ok (.ireturn, 1) := by decide +kernel
theorem dL_swap_17 : decode cL_swap 17 = .ok (.astore 4, 2) := by decide +kernel
theorem dL_swap_19 : decode cL_swap 19 = .ok (.iconst 2, 1) := by decide +kernel
theorem dL_swap_2 : decode cL_swap 2 = .ok (.aload_n 0, 1) := by decide +kernel
theorem dL_swap_20 : decode cL_swap 20 = .ok (.ireturn, 1) := by decide +kernel
theorem dL_swap_21 : decode cL_swap 21 = .ok (.iconst 0, 1) := by decide +kernel
theorem dL_swap_22 : decode cL_swap 22 = .ok (.ireturn, 1) := by decide +kernel
theorem dL_swap_3 : decode cL_swap 3 = .ok (.iload_n 1, 1) := by decide +kernel
theorem dL_swap_4 : decode cL_swap 4 = .ok (.iload_n 2, 1) := by decide +kernel
theorem dL_swap_5 : decode cL_swap 5 = .ok (.invokevirtual 81, 3) := by decide +kernel
theorem dL_swap_8 : decode cL_swap 8 = .ok (.i2l, 1) := by decide +kernel
theorem dL_swap_9 : decode cL_swap 9 = .ok (.lastore, 1) := by decide +kernel
theorem dL_ticksFor_0 : decode cL_ticksFor 0 = .ok (.aload_n 3, 1) := by decide +kernel
theorem dL_ticksFor_1 : decode cL_ticksFor 1 = .ok (.iconst 0, 1) := by decide +kernel
theorem dL_ticksFor_10 : decode cL_ticksFor 10 = .ok (.goto 7, 3) := by decide +kernel
theorem dL_ticksFor_13 : decode cL_ticksFor 13 = .ok (.astore 4, 2) := by decide +kernel
theorem dL_ticksFor_15 : decode cL_ticksFor 15 = .ok (.iconst 1, 1) := by decide +kernel
theorem dL_ticksFor_16 : decode cL_ticksFor 16 = .ok (.ireturn, 1) := by decide +kernel
theorem dL_ticksFor_17 : decode cL_ticksFor 17 = .ok (.iconst 0, 1) := by decide +kernel
theorem dL_ticksFor_18 : decode cL_ticksFor 18 = .ok (.ireturn, 1) := by decide +kernel
theorem dL_ticksFor_2 : decode cL_ticksFor 2 = .ok (.aload_n 0, 1) := by decide +kernel
theorem dL_ticksFor_3 : decode cL_ticksFor 3 = .ok (.iload_n 1, 1) := by decide +kernel
theorem dL_ticksFor_4 : decode cL_ticksFor 4 = .ok (.iload_n 2, 1) := by decide +kernel
theorem dL_ticksFor_5 : decode cL_ticksFor 5 = .ok (.invokevirtual 39, 3) := by decide +kernel
theorem dL_ticksFor_8 : decode cL_ticksFor 8 = .ok (.i2l, 1) := by decide +kernel
theorem dL_ticksFor_9 : decode cL_ticksFor 9 = .ok (.lastore, 1) := by decide +kernel
theorem dL_today_0 : decode cL_today 0 = .ok (.aload_n 3, 1) := by decide +kernel
theorem dL_today_1 : decode cL_today 1 = .ok (.iconst 0, 1) := by decide +kernel
theorem dL_today_10 : decode cL_today 10 = .ok (.goto 11, 3) := by decide +kernel
theorem dL_today_13 : decode cL_today 13 = .ok (.astore 4, 2) := by decide +kernel
theorem dL_today_15 : decode cL_today 15 = .ok (.iconst 1, 1) := by decide +kernel
theorem dL_today_16 : decode cL_today 16 = .ok (.ireturn, 1) := by decide +kernel
theorem dL_today_17 : decode cL_today 17 = .ok (.astore 4, 2) := by decide +kernel
theorem dL_today_19 : decode cL_today 19 = .ok (.iconst 2, 1) := by decide +kernel
theorem dL_today_2 : decode cL_today 2 = .ok (.aload_n 0, 1) := by decide +kernel
theorem dL_today_20 : decode cL_today 20 = .ok (.ireturn, 1) := by decide +kernel
theorem dL_today_21 : decode cL_today 21 = .ok (.iconst 0, 1) := by decide +kernel
theorem dL_today_22 : decode cL_today 22 = .ok (.ireturn, 1) := by decide +kernel
theorem dL_today_3 : decode cL_today 3 = .ok (.iload_n 1, 1) := by decide +kernel
theorem dL_today_4 : decode cL_today 4 = .ok (.iload_n 2, 1) := by decide +kernel
theorem dL_today_5 : decode cL_today 5 = .ok (.invokevirtual 46, 3) := by decide +kernel
theorem dL_today_8 : decode cL_today 8 = .ok (.i2l, 1) := by decide +kernel
theorem dL_today_9 : decode cL_today 9 = .ok (.lastore, 1) := by decide +kernel
theorem dL_total_0 : decode cL_total 0 = .ok (.aload_n 2, 1) := by decide +kernel
theorem dL_total_1 : decode cL_total 1 = .ok (.iconst 0, 1) := by decide +kernel
theorem dL_total_12 : decode cL_total 12 = .ok (.astore_n 3, 1) := by decide +kernel
theorem dL_total_13 : decode cL_total 13 = .ok (.iconst 1, 1) := by decide +kernel
theorem dL_total_14 : decode cL_total 14 = .ok (.ireturn, 1) := by decide +kernel
theorem dL_total_15 : decode cL_total 15 = .ok (.iconst 0, 1) := by decide +kernel
theorem dL_total_16 : decode cL_total 16 = .ok (.ireturn, 1) := by decide +kernel
theorem dL_total_2 : decode cL_total 2 = .ok (.aload_n 0, 1) := by decide +kernel
theorem dL_total_3 : decode cL_total 3 = .ok (.iload_n 1, 1) := by decide +kernel
theorem dL_total_4 : decode cL_total 4 = .ok (.invokevirtual 49, 3) := by decide +kernel
theorem dL_total_7 : decode cL_total 7 = .ok (.i2l, 1) := by decide +kernel
theorem dL_total_8 : decode cL_total 8 = .ok (.lastore, 1) := by decide +kernel
theorem dL_total_9 : decode cL_total 9 = .ok (.goto 6, 3) := by decide +kernel
theorem dL_writeCard_0 : decode cL_writeCard 0 = .ok (.aload_n 2, 1) := by decide +kernel
theorem dL_writeCard_1 : decode cL_writeCard 1 = .ok (.iconst 0, 1) := by decide +kernel
theorem dL_writeCard_12 : decode cL_writeCard 12 = .ok (.astore_n 3, 1) := by decide +kernel
theorem dL_writeCard_13 : decode cL_writeCard 13 = .ok (.iconst 1, 1) := by decide +kernel
theorem dL_writeCard_14 : decode cL_writeCard 14 = .ok (.ireturn, 1) := by decide +kernel
theorem dL_writeCard_15 : decode cL_writeCard 15 = .ok (.iconst 0, 1) := by decide +kernel
theorem dL_writeCard_16 : decode cL_writeCard 16 = .ok (.ireturn, 1) := by decide +kernel
theorem dL_writeCard_2 : decode cL_writeCard 2 = .ok (.aload_n 0, 1) := by decide +kernel
theorem dL_writeCard_3 : decode cL_writeCard 3 = .ok (.iload_n 1, 1) := by decide +kernel
theorem dL_writeCard_4 : decode cL_writeCard 4 = .ok (.invokevirtual 117, 3) := by decide +kernel
theorem dL_writeCard_7 : decode cL_writeCard 7 = .ok (.i2l, 1) := by decide +kernel
theorem dL_writeCard_8 : decode cL_writeCard 8 = .ok (.lastore, 1) := by decide +kernel
theorem dL_writeCard_9 : decode cL_writeCard 9 = .ok (.goto 6, 3) := by decide +kernel
theorem mw_8 : Cond.constantLong RL 130 (4294967295) ∈ wsL_law := mi_0 _ (List.mem_of_getElem? (i := 8) rfl)
theorem mw_113 : Cond.methodLink RL 132 yX7_append ∈ wsL_law := mi_96 _ (List.mem_of_getElem? (i := 17) rfl)
theorem mw_114 : Cond.instanceMethod yX7_append ∈ wsL_law := mi_96 _ (List.mem_of_getElem? (i := 18) rfl)
theorem mw_115 : Cond.selects RX7 yX7_append yX7_append ∈ wsL_law := mi_96 _ (List.mem_of_getElem? (i := 19) rfl)
theorem mw_116 : Cond.code yX7_append cX7_append 3 (some .int) ∈ wsL_law := mi_96 _ (List.mem_of_getElem? (i := 20) rfl)
theorem mw_123 : Cond.methodLink RL 136 yX8_append ∈ wsL_law := mi_120 _ (List.mem_of_getElem? (i := 3) rfl)
theorem mw_124 : Cond.instanceMethod yX8_append ∈ wsL_law := mi_120 _ (List.mem_of_getElem? (i := 4) rfl)
theorem mw_125 : Cond.selects RX8 yX8_append yX8_append ∈ wsL_law := mi_120 _ (List.mem_of_getElem? (i := 5) rfl)
theorem mw_126 : Cond.code yX8_append cX8_append 5 (some .int) ∈ wsL_law := mi_120 _ (List.mem_of_getElem? (i := 6) rfl)
theorem mw_133 : Cond.methodLink RL 137 yX7_load ∈ wsL_law := mi_120 _ (List.mem_of_getElem? (i := 13) rfl)
theorem mw_134 : Cond.instanceMethod yX7_load ∈ wsL_law := mi_120 _ (List.mem_of_getElem? (i := 14) rfl)
theorem mw_135 : Cond.selects RX7 yX7_load yX7_load ∈ wsL_law := mi_120 _ (List.mem_of_getElem? (i := 15) rfl)
theorem mw_136 : Cond.code yX7_load cX7_load 1 (some .int) ∈ wsL_law := mi_120 _ (List.mem_of_getElem? (i := 16) rfl)
theorem mw_410 : Cond.methodLink RL 141 yX8_load ∈ wsL_law := mi_408 _ (List.mem_of_getElem? (i := 2) rfl)
theorem mw_411 : Cond.instanceMethod yX8_load ∈ wsL_law := mi_408 _ (List.mem_of_getElem? (i := 3) rfl)
theorem mw_412 : Cond.selects RX8 yX8_load yX8_load ∈ wsL_law := mi_408 _ (List.mem_of_getElem? (i := 4) rfl)
theorem mw_413 : Cond.code yX8_load cX8_load 1 (some .int) ∈ wsL_law := mi_408 _ (List.mem_of_getElem? (i := 5) rfl)
theorem mw_544 : Cond.methodLink RL 142 yX7_loadError ∈ wsL_law := mi_528 _ (List.mem_of_getElem? (i := 16) rfl)
theorem mw_545 : Cond.instanceMethod yX7_loadError ∈ wsL_law := mi_528 _ (List.mem_of_getElem? (i := 17) rfl)
theorem mw_546 : Cond.selects RX7 yX7_loadError yX7_loadError ∈ wsL_law := mi_528 _ (List.mem_of_getElem? (i := 18) rfl)
theorem mw_547 : Cond.code yX7_loadError cX7_loadError 1 (some .int) ∈ wsL_law := mi_528 _ (List.mem_of_getElem? (i := 19) rfl)
theorem mw_548 : Cond.methodLink RL 145 yX8_loadError ∈ wsL_law := mi_528 _ (List.mem_of_getElem? (i := 20) rfl)
theorem mw_549 : Cond.instanceMethod yX8_loadError ∈ wsL_law := mi_528 _ (List.mem_of_getElem? (i := 21) rfl)
theorem mw_550 : Cond.selects RX8 yX8_loadError yX8_loadError ∈ wsL_law := mi_528 _ (List.mem_of_getElem? (i := 22) rfl)
theorem mw_551 : Cond.code yX8_loadError cX8_loadError 1 (some .int) ∈ wsL_law := mi_528 _ (List.mem_of_getElem? (i := 23) rfl)
theorem mw_552 : Cond.methodLink RL 146 yX7_loadStatement ∈ wsL_law := mi_552 _ (List.mem_of_getElem? (i := 0) rfl)
theorem mw_553 : Cond.instanceMethod yX7_loadStatement ∈ wsL_law := mi_552 _ (List.mem_of_getElem? (i := 1) rfl)
theorem mw_554 : Cond.selects RX7 yX7_loadStatement yX7_loadStatement ∈ wsL_law := mi_552 _ (List.mem_of_getElem? (i := 2) rfl)
theorem mw_555 : Cond.code yX7_loadStatement cX7_loadStatement 1 (some .int) ∈ wsL_law := mi_552 _ (List.mem_of_getElem? (i := 3) rfl)
theorem mw_556 : Cond.methodLink RL 149 yX8_loadStatement ∈ wsL_law := mi_552 _ (List.mem_of_getElem? (i := 4) rfl)
theorem mw_557 : Cond.instanceMethod yX8_loadStatement ∈ wsL_law := mi_552 _ (List.mem_of_getElem? (i := 5) rfl)
theorem mw_558 : Cond.selects RX8 yX8_loadStatement yX8_loadStatement ∈ wsL_law := mi_552 _ (List.mem_of_getElem? (i := 6) rfl)
theorem mw_559 : Cond.code yX8_loadStatement cX8_loadStatement 1 (some .int) ∈ wsL_law := mi_552 _ (List.mem_of_getElem? (i := 7) rfl)
theorem mw_560 : Cond.methodLink RL 150 yL_count ∈ wsL_law := mi_552 _ (List.mem_of_getElem? (i := 8) rfl)
theorem mw_561 : Cond.static yL_count ∈ wsL_law := mi_552 _ (List.mem_of_getElem? (i := 9) rfl)
theorem mw_562 : Cond.initialized RL ∈ wsL_law := mi_552 _ (List.mem_of_getElem? (i := 10) rfl)
theorem mw_563 : Cond.codeWith yL_count cL_count 4 (some .int) [(0, 9, 12, 13)] ∈ wsL_law := mi_552 _ (List.mem_of_getElem? (i := 11) rfl)
theorem mw_564 : Cond.classLink RL 13 "java/lang/IllegalArgumentException" ∈ wsL_law := mi_552 _ (List.mem_of_getElem? (i := 12) rfl)
theorem mw_565 : Cond.methodLink RL 7 yX7_count ∈ wsL_law := mi_552 _ (List.mem_of_getElem? (i := 13) rfl)
theorem mw_566 : Cond.instanceMethod yX7_count ∈ wsL_law := mi_552 _ (List.mem_of_getElem? (i := 14) rfl)
theorem mw_567 : Cond.selects RX7 yX7_count yX7_count ∈ wsL_law := mi_552 _ (List.mem_of_getElem? (i := 15) rfl)
theorem mw_568 : Cond.code yX7_count cX7_count 2 (some .int) ∈ wsL_law := mi_552 _ (List.mem_of_getElem? (i := 16) rfl)
theorem mw_575 : Cond.methodLink RL 155 yX8_count ∈ wsL_law := mi_552 _ (List.mem_of_getElem? (i := 23) rfl)
theorem mw_576 : Cond.instanceMethod yX8_count ∈ wsL_law := mi_576 _ (List.mem_of_getElem? (i := 0) rfl)
theorem mw_577 : Cond.selects RX8 yX8_count yX8_count ∈ wsL_law := mi_576 _ (List.mem_of_getElem? (i := 1) rfl)
theorem mw_578 : Cond.code yX8_count cX8_count 2 (some .int) ∈ wsL_law := mi_576 _ (List.mem_of_getElem? (i := 2) rfl)
theorem mw_592 : Cond.methodLink RL 156 yL_setting ∈ wsL_law := mi_576 _ (List.mem_of_getElem? (i := 16) rfl)
theorem mw_593 : Cond.static yL_setting ∈ wsL_law := mi_576 _ (List.mem_of_getElem? (i := 17) rfl)
theorem mw_594 : Cond.codeWith yL_setting cL_setting 4 (some .int) [(0, 9, 12, 13)] ∈ wsL_law := mi_576 _ (List.mem_of_getElem? (i := 18) rfl)
theorem mw_595 : Cond.methodLink RL 15 yX7_setting ∈ wsL_law := mi_576 _ (List.mem_of_getElem? (i := 19) rfl)
theorem mw_596 : Cond.instanceMethod yX7_setting ∈ wsL_law := mi_576 _ (List.mem_of_getElem? (i := 20) rfl)
theorem mw_597 : Cond.selects RX7 yX7_setting yX7_setting ∈ wsL_law := mi_576 _ (List.mem_of_getElem? (i := 21) rfl)
theorem mw_598 : Cond.code yX7_setting cX7_setting 2 (some .int) ∈ wsL_law := mi_576 _ (List.mem_of_getElem? (i := 22) rfl)
theorem mw_604 : Cond.methodLink RL 158 yX8_setting ∈ wsL_law := mi_600 _ (List.mem_of_getElem? (i := 4) rfl)
theorem mw_605 : Cond.instanceMethod yX8_setting ∈ wsL_law := mi_600 _ (List.mem_of_getElem? (i := 5) rfl)
theorem mw_606 : Cond.selects RX8 yX8_setting yX8_setting ∈ wsL_law := mi_600 _ (List.mem_of_getElem? (i := 6) rfl)
theorem mw_607 : Cond.code yX8_setting cX8_setting 2 (some .int) ∈ wsL_law := mi_600 _ (List.mem_of_getElem? (i := 7) rfl)
theorem mw_609 : Cond.methodLink RL 159 yL_station ∈ wsL_law := mi_600 _ (List.mem_of_getElem? (i := 9) rfl)
theorem mw_610 : Cond.static yL_station ∈ wsL_law := mi_600 _ (List.mem_of_getElem? (i := 10) rfl)
theorem mw_611 : Cond.codeWith yL_station cL_station 5 (some .int) [(0, 10, 13, 22), (0, 10, 17, 13)] ∈ wsL_law := mi_600 _ (List.mem_of_getElem? (i := 11) rfl)
theorem mw_612 : Cond.classLink RL 22 "java/lang/IndexOutOfBoundsException" ∈ wsL_law := mi_600 _ (List.mem_of_getElem? (i := 12) rfl)
theorem mw_613 : Cond.methodLink RL 18 yX7_station ∈ wsL_law := mi_600 _ (List.mem_of_getElem? (i := 13) rfl)
theorem mw_614 : Cond.instanceMethod yX7_station ∈ wsL_law := mi_600 _ (List.mem_of_getElem? (i := 14) rfl)
theorem mw_615 : Cond.selects RX7 yX7_station yX7_station ∈ wsL_law := mi_600 _ (List.mem_of_getElem? (i := 15) rfl)
theorem mw_616 : Cond.code yX7_station cX7_station 4 (some .int) ∈ wsL_law := mi_600 _ (List.mem_of_getElem? (i := 16) rfl)
theorem mw_637 : Cond.methodLink RL 162 yX8_station ∈ wsL_law := mi_624 _ (List.mem_of_getElem? (i := 13) rfl)
theorem mw_638 : Cond.instanceMethod yX8_station ∈ wsL_law := mi_624 _ (List.mem_of_getElem? (i := 14) rfl)
theorem mw_639 : Cond.selects RX8 yX8_station yX8_station ∈ wsL_law := mi_624 _ (List.mem_of_getElem? (i := 15) rfl)
theorem mw_640 : Cond.code yX8_station cX8_station 3 (some .int) ∈ wsL_law := mi_624 _ (List.mem_of_getElem? (i := 16) rfl)
theorem mw_650 : Cond.methodLink RL 163 yL_card ∈ wsL_law := mi_648 _ (List.mem_of_getElem? (i := 2) rfl)
theorem mw_651 : Cond.static yL_card ∈ wsL_law := mi_648 _ (List.mem_of_getElem? (i := 3) rfl)
theorem mw_652 : Cond.codeWith yL_card cL_card 5 (some .int) [(0, 10, 13, 22), (0, 10, 17, 13)] ∈ wsL_law := mi_648 _ (List.mem_of_getElem? (i := 4) rfl)
theorem mw_653 : Cond.methodLink RL 24 yX7_card ∈ wsL_law := mi_648 _ (List.mem_of_getElem? (i := 5) rfl)
theorem mw_654 : Cond.instanceMethod yX7_card ∈ wsL_law := mi_648 _ (List.mem_of_getElem? (i := 6) rfl)
theorem mw_655 : Cond.selects RX7 yX7_card yX7_card ∈ wsL_law := mi_648 _ (List.mem_of_getElem? (i := 7) rfl)
theorem mw_656 : Cond.code yX7_card cX7_card 4 (some .int) ∈ wsL_law := mi_648 _ (List.mem_of_getElem? (i := 8) rfl)
theorem mw_670 : Cond.methodLink RL 165 yX8_card ∈ wsL_law := mi_648 _ (List.mem_of_getElem? (i := 22) rfl)
theorem mw_671 : Cond.instanceMethod yX8_card ∈ wsL_law := mi_648 _ (List.mem_of_getElem? (i := 23) rfl)
theorem mw_672 : Cond.selects RX8 yX8_card yX8_card ∈ wsL_law := mi_672 _ (List.mem_of_getElem? (i := 0) rfl)
theorem mw_673 : Cond.code yX8_card cX8_card 3 (some .int) ∈ wsL_law := mi_672 _ (List.mem_of_getElem? (i := 1) rfl)
theorem mw_679 : Cond.methodLink RL 166 yL_letter ∈ wsL_law := mi_672 _ (List.mem_of_getElem? (i := 7) rfl)
theorem mw_680 : Cond.static yL_letter ∈ wsL_law := mi_672 _ (List.mem_of_getElem? (i := 8) rfl)
theorem mw_681 : Cond.codeWith yL_letter cL_letter 5 (some .int) [(0, 10, 13, 22)] ∈ wsL_law := mi_672 _ (List.mem_of_getElem? (i := 9) rfl)
theorem mw_682 : Cond.methodLink RL 27 yX7_letter ∈ wsL_law := mi_672 _ (List.mem_of_getElem? (i := 10) rfl)
theorem mw_683 : Cond.instanceMethod yX7_letter ∈ wsL_law := mi_672 _ (List.mem_of_getElem? (i := 11) rfl)
theorem mw_684 : Cond.selects RX7 yX7_letter yX7_letter ∈ wsL_law := mi_672 _ (List.mem_of_getElem? (i := 12) rfl)
theorem mw_685 : Cond.code yX7_letter cX7_letter 4 (some .int) ∈ wsL_law := mi_672 _ (List.mem_of_getElem? (i := 13) rfl)
theorem mw_686 : Cond.methodLink RL 168 yX8_letter ∈ wsL_law := mi_672 _ (List.mem_of_getElem? (i := 14) rfl)
theorem mw_687 : Cond.instanceMethod yX8_letter ∈ wsL_law := mi_672 _ (List.mem_of_getElem? (i := 15) rfl)
theorem mw_688 : Cond.selects RX8 yX8_letter yX8_letter ∈ wsL_law := mi_672 _ (List.mem_of_getElem? (i := 16) rfl)
theorem mw_689 : Cond.code yX8_letter cX8_letter 3 (some .int) ∈ wsL_law := mi_672 _ (List.mem_of_getElem? (i := 17) rfl)
theorem mw_690 : Cond.methodLink RL 169 yL_lot ∈ wsL_law := mi_672 _ (List.mem_of_getElem? (i := 18) rfl)
theorem mw_691 : Cond.static yL_lot ∈ wsL_law := mi_672 _ (List.mem_of_getElem? (i := 19) rfl)
theorem mw_692 : Cond.codeWith yL_lot cL_lot 5 (some .int) [(0, 10, 13, 22), (0, 10, 17, 13)] ∈ wsL_law := mi_672 _ (List.mem_of_getElem? (i := 20) rfl)
theorem mw_693 : Cond.methodLink RL 30 yX7_lot ∈ wsL_law := mi_672 _ (List.mem_of_getElem? (i := 21) rfl)
theorem mw_694 : Cond.instanceMethod yX7_lot ∈ wsL_law := mi_672 _ (List.mem_of_getElem? (i := 22) rfl)
theorem mw_695 : Cond.selects RX7 yX7_lot yX7_lot ∈ wsL_law := mi_672 _ (List.mem_of_getElem? (i := 23) rfl)
theorem mw_696 : Cond.code yX7_lot cX7_lot 4 (some .int) ∈ wsL_law := mi_696 _ (List.mem_of_getElem? (i := 0) rfl)
theorem mw_716 : Cond.methodLink RL 171 yX8_lot ∈ wsL_law := mi_696 _ (List.mem_of_getElem? (i := 20) rfl)
theorem mw_717 : Cond.instanceMethod yX8_lot ∈ wsL_law := mi_696 _ (List.mem_of_getElem? (i := 21) rfl)
theorem mw_718 : Cond.selects RX8 yX8_lot yX8_lot ∈ wsL_law := mi_696 _ (List.mem_of_getElem? (i := 22) rfl)
theorem mw_719 : Cond.code yX8_lot cX8_lot 3 (some .int) ∈ wsL_law := mi_696 _ (List.mem_of_getElem? (i := 23) rfl)
theorem mw_741 : Cond.methodLink RL 172 yL_cardOf ∈ wsL_law := mi_720 _ (List.mem_of_getElem? (i := 21) rfl)
theorem mw_742 : Cond.static yL_cardOf ∈ wsL_law := mi_720 _ (List.mem_of_getElem? (i := 22) rfl)
theorem mw_743 : Cond.codeWith yL_cardOf cL_cardOf 5 (some .int) [(0, 10, 13, 22)] ∈ wsL_law := mi_720 _ (List.mem_of_getElem? (i := 23) rfl)
theorem mw_744 : Cond.methodLink RL 33 yX7_cardOf ∈ wsL_law := mi_744 _ (List.mem_of_getElem? (i := 0) rfl)
theorem mw_745 : Cond.instanceMethod yX7_cardOf ∈ wsL_law := mi_744 _ (List.mem_of_getElem? (i := 1) rfl)
theorem mw_746 : Cond.selects RX7 yX7_cardOf yX7_cardOf ∈ wsL_law := mi_744 _ (List.mem_of_getElem? (i := 2) rfl)
theorem mw_747 : Cond.code yX7_cardOf cX7_cardOf 3 (some .int) ∈ wsL_law := mi_744 _ (List.mem_of_getElem? (i := 3) rfl)
theorem mw_749 : Cond.methodLink RL 174 yX8_cardOf ∈ wsL_law := mi_744 _ (List.mem_of_getElem? (i := 5) rfl)
theorem mw_750 : Cond.instanceMethod yX8_cardOf ∈ wsL_law := mi_744 _ (List.mem_of_getElem? (i := 6) rfl)
theorem mw_751 : Cond.selects RX8 yX8_cardOf yX8_cardOf ∈ wsL_law := mi_744 _ (List.mem_of_getElem? (i := 7) rfl)
theorem mw_752 : Cond.code yX8_cardOf cX8_cardOf 3 (some .int) ∈ wsL_law := mi_744 _ (List.mem_of_getElem? (i := 8) rfl)
theorem mw_757 : Cond.methodLink RL 175 yX7_trayAt ∈ wsL_law := mi_744 _ (List.mem_of_getElem? (i := 13) rfl)
theorem mw_758 : Cond.instanceMethod yX7_trayAt ∈ wsL_law := mi_744 _ (List.mem_of_getElem? (i := 14) rfl)
theorem mw_759 : Cond.selects RX7 yX7_trayAt yX7_trayAt ∈ wsL_law := mi_744 _ (List.mem_of_getElem? (i := 15) rfl)
theorem mw_760 : Cond.code yX7_trayAt cX7_trayAt 4 (some .int) ∈ wsL_law := mi_744 _ (List.mem_of_getElem? (i := 16) rfl)
theorem mw_761 : Cond.methodLink RL 178 yX8_trayAt ∈ wsL_law := mi_744 _ (List.mem_of_getElem? (i := 17) rfl)
theorem mw_762 : Cond.instanceMethod yX8_trayAt ∈ wsL_law := mi_744 _ (List.mem_of_getElem? (i := 18) rfl)
theorem mw_763 : Cond.selects RX8 yX8_trayAt yX8_trayAt ∈ wsL_law := mi_744 _ (List.mem_of_getElem? (i := 19) rfl)
theorem mw_764 : Cond.code yX8_trayAt cX8_trayAt 4 (some .int) ∈ wsL_law := mi_744 _ (List.mem_of_getElem? (i := 20) rfl)
theorem mw_765 : Cond.methodLink RL 179 yX7_leftAt ∈ wsL_law := mi_744 _ (List.mem_of_getElem? (i := 21) rfl)
theorem mw_766 : Cond.instanceMethod yX7_leftAt ∈ wsL_law := mi_744 _ (List.mem_of_getElem? (i := 22) rfl)
theorem mw_767 : Cond.selects RX7 yX7_leftAt yX7_leftAt ∈ wsL_law := mi_744 _ (List.mem_of_getElem? (i := 23) rfl)
theorem mw_768 : Cond.code yX7_leftAt cX7_leftAt 2 (some .int) ∈ wsL_law := mi_768 _ (List.mem_of_getElem? (i := 0) rfl)
theorem mw_770 : Cond.methodLink RL 182 yX8_leftAt ∈ wsL_law := mi_768 _ (List.mem_of_getElem? (i := 2) rfl)
theorem mw_771 : Cond.instanceMethod yX8_leftAt ∈ wsL_law := mi_768 _ (List.mem_of_getElem? (i := 3) rfl)
theorem mw_772 : Cond.selects RX8 yX8_leftAt yX8_leftAt ∈ wsL_law := mi_768 _ (List.mem_of_getElem? (i := 4) rfl)
theorem mw_773 : Cond.code yX8_leftAt cX8_leftAt 2 (some .int) ∈ wsL_law := mi_768 _ (List.mem_of_getElem? (i := 5) rfl)
theorem mw_774 : Cond.methodLink RL 183 yX7_nextFed ∈ wsL_law := mi_768 _ (List.mem_of_getElem? (i := 6) rfl)
theorem mw_775 : Cond.instanceMethod yX7_nextFed ∈ wsL_law := mi_768 _ (List.mem_of_getElem? (i := 7) rfl)
theorem mw_776 : Cond.selects RX7 yX7_nextFed yX7_nextFed ∈ wsL_law := mi_768 _ (List.mem_of_getElem? (i := 8) rfl)
theorem mw_777 : Cond.code yX7_nextFed cX7_nextFed 1 (some .int) ∈ wsL_law := mi_768 _ (List.mem_of_getElem? (i := 9) rfl)
theorem mw_788 : Cond.methodLink RL 186 yX8_nextFed ∈ wsL_law := mi_768 _ (List.mem_of_getElem? (i := 20) rfl)
theorem mw_789 : Cond.instanceMethod yX8_nextFed ∈ wsL_law := mi_768 _ (List.mem_of_getElem? (i := 21) rfl)
theorem mw_790 : Cond.selects RX8 yX8_nextFed yX8_nextFed ∈ wsL_law := mi_768 _ (List.mem_of_getElem? (i := 22) rfl)
theorem mw_791 : Cond.code yX8_nextFed cX8_nextFed 1 (some .int) ∈ wsL_law := mi_768 _ (List.mem_of_getElem? (i := 23) rfl)
theorem mw_808 : Cond.methodLink RL 187 yL_steps ∈ wsL_law := mi_792 _ (List.mem_of_getElem? (i := 16) rfl)
theorem mw_809 : Cond.static yL_steps ∈ wsL_law := mi_792 _ (List.mem_of_getElem? (i := 17) rfl)
theorem mw_810 : Cond.codeWith yL_steps cL_steps 5 (some .int) [(0, 10, 13, 22), (0, 10, 17, 13)] ∈ wsL_law := mi_792 _ (List.mem_of_getElem? (i := 18) rfl)
theorem mw_811 : Cond.methodLink RL 36 yX7_steps ∈ wsL_law := mi_792 _ (List.mem_of_getElem? (i := 19) rfl)
theorem mw_812 : Cond.instanceMethod yX7_steps ∈ wsL_law := mi_792 _ (List.mem_of_getElem? (i := 20) rfl)
theorem mw_813 : Cond.selects RX7 yX7_steps yX7_steps ∈ wsL_law := mi_792 _ (List.mem_of_getElem? (i := 21) rfl)
theorem mw_814 : Cond.code yX7_steps cX7_steps 3 (some .int) ∈ wsL_law := mi_792 _ (List.mem_of_getElem? (i := 22) rfl)
theorem mw_821 : Cond.methodLink RL 189 yX8_steps ∈ wsL_law := mi_816 _ (List.mem_of_getElem? (i := 5) rfl)
theorem mw_822 : Cond.instanceMethod yX8_steps ∈ wsL_law := mi_816 _ (List.mem_of_getElem? (i := 6) rfl)
theorem mw_823 : Cond.selects RX8 yX8_steps yX8_steps ∈ wsL_law := mi_816 _ (List.mem_of_getElem? (i := 7) rfl)
theorem mw_824 : Cond.code yX8_steps cX8_steps 3 (some .int) ∈ wsL_law := mi_816 _ (List.mem_of_getElem? (i := 8) rfl)
theorem mw_836 : Cond.methodLink RL 190 yL_ticksFor ∈ wsL_law := mi_816 _ (List.mem_of_getElem? (i := 20) rfl)
theorem mw_837 : Cond.static yL_ticksFor ∈ wsL_law := mi_816 _ (List.mem_of_getElem? (i := 21) rfl)
theorem mw_838 : Cond.codeWith yL_ticksFor cL_ticksFor 5 (some .int) [(0, 10, 13, 22)] ∈ wsL_law := mi_816 _ (List.mem_of_getElem? (i := 22) rfl)
theorem mw_839 : Cond.methodLink RL 39 yX7_ticksFor ∈ wsL_law := mi_816 _ (List.mem_of_getElem? (i := 23) rfl)
theorem mw_840 : Cond.instanceMethod yX7_ticksFor ∈ wsL_law := mi_840 _ (List.mem_of_getElem? (i := 0) rfl)
theorem mw_841 : Cond.selects RX7 yX7_ticksFor yX7_ticksFor ∈ wsL_law := mi_840 _ (List.mem_of_getElem? (i := 1) rfl)
theorem mw_842 : Cond.code yX7_ticksFor cX7_ticksFor 3 (some .int) ∈ wsL_law := mi_840 _ (List.mem_of_getElem? (i := 2) rfl)
theorem mw_855 : Cond.methodLink RL 192 yX8_ticksFor ∈ wsL_law := mi_840 _ (List.mem_of_getElem? (i := 15) rfl)
theorem mw_856 : Cond.instanceMethod yX8_ticksFor ∈ wsL_law := mi_840 _ (List.mem_of_getElem? (i := 16) rfl)
theorem mw_857 : Cond.selects RX8 yX8_ticksFor yX8_ticksFor ∈ wsL_law := mi_840 _ (List.mem_of_getElem? (i := 17) rfl)
theorem mw_858 : Cond.code yX8_ticksFor cX8_ticksFor 3 (some .int) ∈ wsL_law := mi_840 _ (List.mem_of_getElem? (i := 18) rfl)
theorem mw_863 : Cond.methodLink RL 193 yX7_now ∈ wsL_law := mi_840 _ (List.mem_of_getElem? (i := 23) rfl)
theorem mw_864 : Cond.instanceMethod yX7_now ∈ wsL_law := mi_864 _ (List.mem_of_getElem? (i := 0) rfl)
theorem mw_865 : Cond.selects RX7 yX7_now yX7_now ∈ wsL_law := mi_864 _ (List.mem_of_getElem? (i := 1) rfl)
theorem mw_866 : Cond.code yX7_now cX7_now 1 (some .int) ∈ wsL_law := mi_864 _ (List.mem_of_getElem? (i := 2) rfl)
theorem mw_868 : Cond.methodLink RL 196 yX8_now ∈ wsL_law := mi_864 _ (List.mem_of_getElem? (i := 4) rfl)
theorem mw_869 : Cond.instanceMethod yX8_now ∈ wsL_law := mi_864 _ (List.mem_of_getElem? (i := 5) rfl)
theorem mw_870 : Cond.selects RX8 yX8_now yX8_now ∈ wsL_law := mi_864 _ (List.mem_of_getElem? (i := 6) rfl)
theorem mw_871 : Cond.code yX8_now cX8_now 1 (some .int) ∈ wsL_law := mi_864 _ (List.mem_of_getElem? (i := 7) rfl)
theorem mw_872 : Cond.methodLink RL 197 yL_day ∈ wsL_law := mi_864 _ (List.mem_of_getElem? (i := 8) rfl)
theorem mw_873 : Cond.static yL_day ∈ wsL_law := mi_864 _ (List.mem_of_getElem? (i := 9) rfl)
theorem mw_874 : Cond.codeWith yL_day cL_day 6 (some .int) [(0, 12, 15, 22), (0, 12, 19, 13)] ∈ wsL_law := mi_864 _ (List.mem_of_getElem? (i := 10) rfl)
theorem mw_875 : Cond.methodLink RL 42 yX7_day ∈ wsL_law := mi_864 _ (List.mem_of_getElem? (i := 11) rfl)
theorem mw_876 : Cond.instanceMethod yX7_day ∈ wsL_law := mi_864 _ (List.mem_of_getElem? (i := 12) rfl)
theorem mw_877 : Cond.selects RX7 yX7_day yX7_day ∈ wsL_law := mi_864 _ (List.mem_of_getElem? (i := 13) rfl)
theorem mw_878 : Cond.code yX7_day cX7_day 6 (some .int) ∈ wsL_law := mi_864 _ (List.mem_of_getElem? (i := 14) rfl)
theorem mw_885 : Cond.methodLink RL 200 yX8_day ∈ wsL_law := mi_864 _ (List.mem_of_getElem? (i := 21) rfl)
theorem mw_886 : Cond.instanceMethod yX8_day ∈ wsL_law := mi_864 _ (List.mem_of_getElem? (i := 22) rfl)
theorem mw_887 : Cond.selects RX8 yX8_day yX8_day ∈ wsL_law := mi_864 _ (List.mem_of_getElem? (i := 23) rfl)
theorem mw_888 : Cond.code yX8_day cX8_day 4 (some .int) ∈ wsL_law := mi_888 _ (List.mem_of_getElem? (i := 0) rfl)
theorem mw_889 : Cond.methodLink RL 201 yL_today ∈ wsL_law := mi_888 _ (List.mem_of_getElem? (i := 1) rfl)
theorem mw_890 : Cond.static yL_today ∈ wsL_law := mi_888 _ (List.mem_of_getElem? (i := 2) rfl)
theorem mw_891 : Cond.codeWith yL_today cL_today 5 (some .int) [(0, 10, 13, 22), (0, 10, 17, 13)] ∈ wsL_law := mi_888 _ (List.mem_of_getElem? (i := 3) rfl)
theorem mw_892 : Cond.methodLink RL 46 yX7_today ∈ wsL_law := mi_888 _ (List.mem_of_getElem? (i := 4) rfl)
theorem mw_893 : Cond.instanceMethod yX7_today ∈ wsL_law := mi_888 _ (List.mem_of_getElem? (i := 5) rfl)
theorem mw_894 : Cond.selects RX7 yX7_today yX7_today ∈ wsL_law := mi_888 _ (List.mem_of_getElem? (i := 6) rfl)
theorem mw_895 : Cond.code yX7_today cX7_today 3 (some .int) ∈ wsL_law := mi_888 _ (List.mem_of_getElem? (i := 7) rfl)
theorem mw_898 : Cond.methodLink RL 203 yX8_today ∈ wsL_law := mi_888 _ (List.mem_of_getElem? (i := 10) rfl)
theorem mw_899 : Cond.instanceMethod yX8_today ∈ wsL_law := mi_888 _ (List.mem_of_getElem? (i := 11) rfl)
theorem mw_900 : Cond.selects RX8 yX8_today yX8_today ∈ wsL_law := mi_888 _ (List.mem_of_getElem? (i := 12) rfl)
theorem mw_901 : Cond.code yX8_today cX8_today 3 (some .int) ∈ wsL_law := mi_888 _ (List.mem_of_getElem? (i := 13) rfl)
theorem mw_902 : Cond.methodLink RL 204 yL_total ∈ wsL_law := mi_888 _ (List.mem_of_getElem? (i := 14) rfl)
theorem mw_903 : Cond.static yL_total ∈ wsL_law := mi_888 _ (List.mem_of_getElem? (i := 15) rfl)
theorem mw_904 : Cond.codeWith yL_total cL_total 4 (some .int) [(0, 9, 12, 13)] ∈ wsL_law := mi_888 _ (List.mem_of_getElem? (i := 16) rfl)
theorem mw_905 : Cond.methodLink RL 49 yX7_total ∈ wsL_law := mi_888 _ (List.mem_of_getElem? (i := 17) rfl)
theorem mw_906 : Cond.instanceMethod yX7_total ∈ wsL_law := mi_888 _ (List.mem_of_getElem? (i := 18) rfl)
theorem mw_907 : Cond.selects RX7 yX7_total yX7_total ∈ wsL_law := mi_888 _ (List.mem_of_getElem? (i := 19) rfl)
theorem mw_908 : Cond.code yX7_total cX7_total 2 (some .int) ∈ wsL_law := mi_888 _ (List.mem_of_getElem? (i := 20) rfl)
theorem mw_910 : Cond.methodLink RL 206 yX8_total ∈ wsL_law := mi_888 _ (List.mem_of_getElem? (i := 22) rfl)
theorem mw_911 : Cond.instanceMethod yX8_total ∈ wsL_law := mi_888 _ (List.mem_of_getElem? (i := 23) rfl)
theorem mi_912 : ∀ w ∈ wsL_law0_r39, w ∈ wsL_law := fun w h => List.mem_append_left _ (List.mem_append_left _ (List.mem_append_left _ (List.mem_append_left _ (List.mem_append_left _ (List.mem_append_left _ (List.mem_append_left _ (List.mem_append_left _ (List.mem_append_left _ (List.mem_append_left _ (List.mem_append_left _ (List.mem_append_left _ (List.mem_append_right _ (List.mem_append_right _ (List.mem_append_right _ (List.mem_append_right _ (List.mem_append_right _ (List.mem_append_right _ (List.mem_append_right _ (List.mem_append_right _ (List.mem_append_right _ (List.mem_append_right _ (List.mem_append_right _ (List.mem_append_right _ (List.mem_append_right _ (List.mem_append_right _ (List.mem_append_right _ (List.mem_append_right _ (List.mem_append_right _ (List.mem_append_right _ (List.mem_append_right _ (List.mem_append_right _ (List.mem_append_right _ (List.mem_append_right _ (List.mem_append_right _ (List.mem_append_right _ (List.mem_append_right _ (List.mem_append_right _ (List.mem_append_right _ (List.mem_append_right _ (List.mem_append_right _ (List.mem_append_right _ (List.mem_append_right _ (List.mem_append_right _ (List.mem_append_right _ (List.mem_append_right _ (List.mem_append_right _ (List.mem_append_right _ (List.mem_append_right _ (List.mem_append_right _ (List.mem_append_left _ h))))))))))))))))))))))))))))))))))))))))))))))))))
theorem mw_912 : Cond.selects RX8 yX8_total yX8_total ∈ wsL_law := mi_912 _ (List.mem_of_getElem? (i := 0) rfl)
theorem mw_913 : Cond.code yX8_total cX8_total 2 (some .int) ∈ wsL_law := mi_912 _ (List.mem_of_getElem? (i := 1) rfl)
theorem mw_914 : Cond.methodLink RL 207 yX7_yieldPart ∈ wsL_law := mi_912 _ (List.mem_of_getElem? (i := 2) rfl)
theorem mw_915 : Cond.instanceMethod yX7_yieldPart ∈ wsL_law := mi_912 _ (List.mem_of_getElem? (i := 3) rfl)
theorem mw_916 : Cond.selects RX7 yX7_yieldPart yX7_yieldPart ∈ wsL_law := mi_912 _ (List.mem_of_getElem? (i := 4) rfl)
theorem mw_917 : Cond.code yX7_yieldPart cX7_yieldPart 2 (some .double) ∈ wsL_law := mi_912 _ (List.mem_of_getElem? (i := 5) rfl)
theorem mw_918 : Cond.methodLink RL 211 yX8_yieldPart ∈ wsL_law := mi_912 _ (List.mem_of_getElem? (i := 6) rfl)
theorem mw_919 : Cond.instanceMethod yX8_yieldPart ∈ wsL_law := mi_912 _ (List.mem_of_getElem? (i := 7) rfl)
theorem mw_920 : Cond.selects RX8 yX8_yieldPart yX8_yieldPart ∈ wsL_law := mi_912 _ (List.mem_of_getElem? (i := 8) rfl)
theorem mw_921 : Cond.code yX8_yieldPart cX8_yieldPart 2 (some .double) ∈ wsL_law := mi_912 _ (List.mem_of_getElem? (i := 9) rfl)
theorem mw_922 : Cond.methodLink RL 212 yX7_meanFails ∈ wsL_law := mi_912 _ (List.mem_of_getElem? (i := 10) rfl)
theorem mw_923 : Cond.instanceMethod yX7_meanFails ∈ wsL_law := mi_912 _ (List.mem_of_getElem? (i := 11) rfl)
theorem mw_924 : Cond.selects RX7 yX7_meanFails yX7_meanFails ∈ wsL_law := mi_912 _ (List.mem_of_getElem? (i := 12) rfl)
theorem mw_925 : Cond.code yX7_meanFails cX7_meanFails 2 (some .float) ∈ wsL_law := mi_912 _ (List.mem_of_getElem? (i := 13) rfl)
theorem mw_926 : Cond.methodLink RL 216 yX8_meanFails ∈ wsL_law := mi_912 _ (List.mem_of_getElem? (i := 14) rfl)
theorem mw_927 : Cond.instanceMethod yX8_meanFails ∈ wsL_law := mi_912 _ (List.mem_of_getElem? (i := 15) rfl)
theorem mw_928 : Cond.selects RX8 yX8_meanFails yX8_meanFails ∈ wsL_law := mi_912 _ (List.mem_of_getElem? (i := 16) rfl)
theorem mw_929 : Cond.code yX8_meanFails cX8_meanFails 1 (some .float) ∈ wsL_law := mi_912 _ (List.mem_of_getElem? (i := 17) rfl)
theorem mw_930 : Cond.methodLink RL 217 yL_busyPart ∈ wsL_law := mi_912 _ (List.mem_of_getElem? (i := 18) rfl)
theorem mw_931 : Cond.static yL_busyPart ∈ wsL_law := mi_912 _ (List.mem_of_getElem? (i := 19) rfl)
theorem mw_932 : Cond.codeWith yL_busyPart cL_busyPart 4 (some .int) [(0, 9, 12, 22)] ∈ wsL_law := mi_912 _ (List.mem_of_getElem? (i := 20) rfl)
theorem mw_933 : Cond.methodLink RL 52 yX7_busyPart ∈ wsL_law := mi_912 _ (List.mem_of_getElem? (i := 21) rfl)
theorem mw_934 : Cond.instanceMethod yX7_busyPart ∈ wsL_law := mi_912 _ (List.mem_of_getElem? (i := 22) rfl)
theorem mw_935 : Cond.selects RX7 yX7_busyPart yX7_busyPart ∈ wsL_law := mi_912 _ (List.mem_of_getElem? (i := 23) rfl)
theorem mw_936 : Cond.code yX7_busyPart cX7_busyPart 3 (some .float) ∈ wsL_law := mi_936 _ (List.mem_of_getElem? (i := 0) rfl)
theorem mw_937 : Cond.methodLink RL 220 yX8_busyPart ∈ wsL_law := mi_936 _ (List.mem_of_getElem? (i := 1) rfl)
theorem mw_938 : Cond.instanceMethod yX8_busyPart ∈ wsL_law := mi_936 _ (List.mem_of_getElem? (i := 2) rfl)
theorem mw_939 : Cond.selects RX8 yX8_busyPart yX8_busyPart ∈ wsL_law := mi_936 _ (List.mem_of_getElem? (i := 3) rfl)
theorem mw_940 : Cond.code yX8_busyPart cX8_busyPart 2 (some .float) ∈ wsL_law := mi_936 _ (List.mem_of_getElem? (i := 4) rfl)
theorem mw_941 : Cond.methodLink RL 221 yX7_bottleneck ∈ wsL_law := mi_936 _ (List.mem_of_getElem? (i := 5) rfl)
theorem mw_942 : Cond.instanceMethod yX7_bottleneck ∈ wsL_law := mi_936 _ (List.mem_of_getElem? (i := 6) rfl)
theorem mw_943 : Cond.selects RX7 yX7_bottleneck yX7_bottleneck ∈ wsL_law := mi_936 _ (List.mem_of_getElem? (i := 7) rfl)
theorem mw_944 : Cond.code yX7_bottleneck cX7_bottleneck 5 (some .int) ∈ wsL_law := mi_936 _ (List.mem_of_getElem? (i := 8) rfl)
theorem mw_955 : Cond.methodLink RL 224 yX8_bottleneck ∈ wsL_law := mi_936 _ (List.mem_of_getElem? (i := 19) rfl)
theorem mw_956 : Cond.instanceMethod yX8_bottleneck ∈ wsL_law := mi_936 _ (List.mem_of_getElem? (i := 20) rfl)
theorem mw_957 : Cond.selects RX8 yX8_bottleneck yX8_bottleneck ∈ wsL_law := mi_936 _ (List.mem_of_getElem? (i := 21) rfl)
theorem mw_958 : Cond.code yX8_bottleneck cX8_bottleneck 6 (some .int) ∈ wsL_law := mi_936 _ (List.mem_of_getElem? (i := 22) rfl)
theorem mw_962 : Cond.methodLink RL 225 yL_order ∈ wsL_law := mi_960 _ (List.mem_of_getElem? (i := 2) rfl)
theorem mw_963 : Cond.static yL_order ∈ wsL_law := mi_960 _ (List.mem_of_getElem? (i := 3) rfl)
theorem mw_964 : Cond.codeWith yL_order cL_order 4 (some .int) [(0, 9, 12, 22)] ∈ wsL_law := mi_960 _ (List.mem_of_getElem? (i := 4) rfl)
theorem mw_965 : Cond.methodLink RL 56 yX7_order ∈ wsL_law := mi_960 _ (List.mem_of_getElem? (i := 5) rfl)
theorem mw_966 : Cond.instanceMethod yX7_order ∈ wsL_law := mi_960 _ (List.mem_of_getElem? (i := 6) rfl)
theorem mw_967 : Cond.selects RX7 yX7_order yX7_order ∈ wsL_law := mi_960 _ (List.mem_of_getElem? (i := 7) rfl)
theorem mw_968 : Cond.code yX7_order cX7_order 2 (some .int) ∈ wsL_law := mi_960 _ (List.mem_of_getElem? (i := 8) rfl)
theorem mw_979 : Cond.methodLink RL 227 yX8_order ∈ wsL_law := mi_960 _ (List.mem_of_getElem? (i := 19) rfl)
theorem mw_980 : Cond.instanceMethod yX8_order ∈ wsL_law := mi_960 _ (List.mem_of_getElem? (i := 20) rfl)
theorem mw_981 : Cond.selects RX8 yX8_order yX8_order ∈ wsL_law := mi_960 _ (List.mem_of_getElem? (i := 21) rfl)
theorem mw_982 : Cond.code yX8_order cX8_order 2 (some .int) ∈ wsL_law := mi_960 _ (List.mem_of_getElem? (i := 22) rfl)
theorem mw_987 : Cond.methodLink RL 228 yL_giveUp ∈ wsL_law := mi_984 _ (List.mem_of_getElem? (i := 3) rfl)
theorem mw_988 : Cond.static yL_giveUp ∈ wsL_law := mi_984 _ (List.mem_of_getElem? (i := 4) rfl)
theorem mw_989 : Cond.codeWith yL_giveUp cL_giveUp 4 (some .int) [(0, 9, 12, 22)] ∈ wsL_law := mi_984 _ (List.mem_of_getElem? (i := 5) rfl)
theorem mw_990 : Cond.methodLink RL 59 yX7_giveUp ∈ wsL_law := mi_984 _ (List.mem_of_getElem? (i := 6) rfl)
theorem mw_991 : Cond.instanceMethod yX7_giveUp ∈ wsL_law := mi_984 _ (List.mem_of_getElem? (i := 7) rfl)
theorem mw_992 : Cond.selects RX7 yX7_giveUp yX7_giveUp ∈ wsL_law := mi_984 _ (List.mem_of_getElem? (i := 8) rfl)
theorem mw_993 : Cond.code yX7_giveUp cX7_giveUp 2 (some .int) ∈ wsL_law := mi_984 _ (List.mem_of_getElem? (i := 9) rfl)
theorem mw_1013 : Cond.methodLink RL 230 yX8_giveUp ∈ wsL_law := mi_1008 _ (List.mem_of_getElem? (i := 5) rfl)
theorem mw_1014 : Cond.instanceMethod yX8_giveUp ∈ wsL_law := mi_1008 _ (List.mem_of_getElem? (i := 6) rfl)
theorem mw_1015 : Cond.selects RX8 yX8_giveUp yX8_giveUp ∈ wsL_law := mi_1008 _ (List.mem_of_getElem? (i := 7) rfl)
theorem mw_1016 : Cond.code yX8_giveUp cX8_giveUp 2 (some .int) ∈ wsL_law := mi_1008 _ (List.mem_of_getElem? (i := 8) rfl)
theorem mw_1017 : Cond.methodLink RL 231 yL_setRank ∈ wsL_law := mi_1008 _ (List.mem_of_getElem? (i := 9) rfl)
theorem mw_1018 : Cond.static yL_setRank ∈ wsL_law := mi_1008 _ (List.mem_of_getElem? (i := 10) rfl)
theorem mw_1019 : Cond.codeWith yL_setRank cL_setRank 5 (some .int) [(0, 10, 13, 22), (0, 10, 17, 13)] ∈ wsL_law := mi_1008 _ (List.mem_of_getElem? (i := 11) rfl)
theorem mw_1020 : Cond.methodLink RL 62 yX7_setRank ∈ wsL_law := mi_1008 _ (List.mem_of_getElem? (i := 12) rfl)
theorem mw_1021 : Cond.instanceMethod yX7_setRank ∈ wsL_law := mi_1008 _ (List.mem_of_getElem? (i := 13) rfl)
theorem mw_1022 : Cond.selects RX7 yX7_setRank yX7_setRank ∈ wsL_law := mi_1008 _ (List.mem_of_getElem? (i := 14) rfl)
theorem mw_1023 : Cond.code yX7_setRank cX7_setRank 4 (some .int) ∈ wsL_law := mi_1008 _ (List.mem_of_getElem? (i := 15) rfl)
theorem mw_1024 : Cond.methodLink RL 233 yX8_setRank ∈ wsL_law := mi_1008 _ (List.mem_of_getElem? (i := 16) rfl)
theorem mw_1025 : Cond.instanceMethod yX8_setRank ∈ wsL_law := mi_1008 _ (List.mem_of_getElem? (i := 17) rfl)
theorem mw_1026 : Cond.selects RX8 yX8_setRank yX8_setRank ∈ wsL_law := mi_1008 _ (List.mem_of_getElem? (i := 18) rfl)
theorem mw_1027 : Cond.code yX8_setRank cX8_setRank 3 (some .int) ∈ wsL_law := mi_1008 _ (List.mem_of_getElem? (i := 19) rfl)
theorem mw_1032 : Cond.methodLink RL 234 yL_refill ∈ wsL_law := mi_1032 _ (List.mem_of_getElem? (i := 0) rfl)
theorem mw_1033 : Cond.static yL_refill ∈ wsL_law := mi_1032 _ (List.mem_of_getElem? (i := 1) rfl)
theorem mw_1034 : Cond.codeWith yL_refill cL_refill 4 (some .int) [(0, 9, 12, 13)] ∈ wsL_law := mi_1032 _ (List.mem_of_getElem? (i := 2) rfl)
theorem mw_1035 : Cond.methodLink RL 65 yX7_refill ∈ wsL_law := mi_1032 _ (List.mem_of_getElem? (i := 3) rfl)
theorem mw_1036 : Cond.instanceMethod yX7_refill ∈ wsL_law := mi_1032 _ (List.mem_of_getElem? (i := 4) rfl)
theorem mw_1037 : Cond.selects RX7 yX7_refill yX7_refill ∈ wsL_law := mi_1032 _ (List.mem_of_getElem? (i := 5) rfl)
theorem mw_1038 : Cond.code yX7_refill cX7_refill 2 (some .int) ∈ wsL_law := mi_1032 _ (List.mem_of_getElem? (i := 6) rfl)
theorem mw_1039 : Cond.methodLink RL 236 yX8_refill ∈ wsL_law := mi_1032 _ (List.mem_of_getElem? (i := 7) rfl)
theorem mw_1040 : Cond.instanceMethod yX8_refill ∈ wsL_law := mi_1032 _ (List.mem_of_getElem? (i := 8) rfl)
theorem mw_1041 : Cond.selects RX8 yX8_refill yX8_refill ∈ wsL_law := mi_1032 _ (List.mem_of_getElem? (i := 9) rfl)
theorem mw_1042 : Cond.code yX8_refill cX8_refill 2 (some .int) ∈ wsL_law := mi_1032 _ (List.mem_of_getElem? (i := 10) rfl)
theorem mw_1044 : Cond.methodLink RL 237 yL_setPace ∈ wsL_law := mi_1032 _ (List.mem_of_getElem? (i := 12) rfl)
theorem mw_1045 : Cond.static yL_setPace ∈ wsL_law := mi_1032 _ (List.mem_of_getElem? (i := 13) rfl)
theorem mw_1046 : Cond.codeWith yL_setPace cL_setPace 5 (some .int) [(0, 10, 13, 22), (0, 10, 17, 13)] ∈ wsL_law := mi_1032 _ (List.mem_of_getElem? (i := 14) rfl)
theorem mw_1047 : Cond.methodLink RL 68 yX7_setPace ∈ wsL_law := mi_1032 _ (List.mem_of_getElem? (i := 15) rfl)
theorem mw_1048 : Cond.instanceMethod yX7_setPace ∈ wsL_law := mi_1032 _ (List.mem_of_getElem? (i := 16) rfl)
theorem mw_1049 : Cond.selects RX7 yX7_setPace yX7_setPace ∈ wsL_law := mi_1032 _ (List.mem_of_getElem? (i := 17) rfl)
theorem mw_1050 : Cond.code yX7_setPace cX7_setPace 5 (some .int) ∈ wsL_law := mi_1032 _ (List.mem_of_getElem? (i := 18) rfl)
theorem mw_1052 : Cond.methodLink RL 239 yX8_setPace ∈ wsL_law := mi_1032 _ (List.mem_of_getElem? (i := 20) rfl)
theorem mw_1053 : Cond.instanceMethod yX8_setPace ∈ wsL_law := mi_1032 _ (List.mem_of_getElem? (i := 21) rfl)
theorem mw_1054 : Cond.selects RX8 yX8_setPace yX8_setPace ∈ wsL_law := mi_1032 _ (List.mem_of_getElem? (i := 22) rfl)
theorem mw_1055 : Cond.code yX8_setPace cX8_setPace 3 (some .int) ∈ wsL_law := mi_1032 _ (List.mem_of_getElem? (i := 23) rfl)
theorem mw_1056 : Cond.methodLink RL 240 yL_stop ∈ wsL_law := mi_1056 _ (List.mem_of_getElem? (i := 0) rfl)
theorem mw_1057 : Cond.static yL_stop ∈ wsL_law := mi_1056 _ (List.mem_of_getElem? (i := 1) rfl)
theorem mw_1058 : Cond.codeWith yL_stop cL_stop 5 (some .int) [(0, 10, 13, 22)] ∈ wsL_law := mi_1056 _ (List.mem_of_getElem? (i := 2) rfl)
theorem mw_1059 : Cond.methodLink RL 71 yX7_stop ∈ wsL_law := mi_1056 _ (List.mem_of_getElem? (i := 3) rfl)
theorem mw_1060 : Cond.instanceMethod yX7_stop ∈ wsL_law := mi_1056 _ (List.mem_of_getElem? (i := 4) rfl)
theorem mw_1061 : Cond.selects RX7 yX7_stop yX7_stop ∈ wsL_law := mi_1056 _ (List.mem_of_getElem? (i := 5) rfl)
theorem mw_1062 : Cond.code yX7_stop cX7_stop 5 (some .int) ∈ wsL_law := mi_1056 _ (List.mem_of_getElem? (i := 6) rfl)
theorem mw_1063 : Cond.methodLink RL 243 yX8_stop ∈ wsL_law := mi_1056 _ (List.mem_of_getElem? (i := 7) rfl)
theorem mw_1064 : Cond.instanceMethod yX8_stop ∈ wsL_law := mi_1056 _ (List.mem_of_getElem? (i := 8) rfl)
theorem mw_1065 : Cond.selects RX8 yX8_stop yX8_stop ∈ wsL_law := mi_1056 _ (List.mem_of_getElem? (i := 9) rfl)
theorem mw_1066 : Cond.code yX8_stop cX8_stop 5 (some .int) ∈ wsL_law := mi_1056 _ (List.mem_of_getElem? (i := 10) rfl)
theorem mw_1067 : Cond.methodLink RL 244 yL_setRest ∈ wsL_law := mi_1056 _ (List.mem_of_getElem? (i := 11) rfl)
theorem mw_1068 : Cond.static yL_setRest ∈ wsL_law := mi_1056 _ (List.mem_of_getElem? (i := 12) rfl)
theorem mw_1069 : Cond.codeWith yL_setRest cL_setRest 6 (some .int) [(0, 12, 15, 22), (0, 12, 19, 13)] ∈ wsL_law := mi_1056 _ (List.mem_of_getElem? (i := 13) rfl)
theorem mw_1070 : Cond.methodLink RL 75 yX7_setRest ∈ wsL_law := mi_1056 _ (List.mem_of_getElem? (i := 14) rfl)
theorem mw_1071 : Cond.instanceMethod yX7_setRest ∈ wsL_law := mi_1056 _ (List.mem_of_getElem? (i := 15) rfl)
theorem mw_1072 : Cond.selects RX7 yX7_setRest yX7_setRest ∈ wsL_law := mi_1056 _ (List.mem_of_getElem? (i := 16) rfl)
theorem mw_1073 : Cond.code yX7_setRest cX7_setRest 6 (some .int) ∈ wsL_law := mi_1056 _ (List.mem_of_getElem? (i := 17) rfl)
theorem mw_1074 : Cond.methodLink RL 246 yX8_setRest ∈ wsL_law := mi_1056 _ (List.mem_of_getElem? (i := 18) rfl)
theorem mw_1075 : Cond.instanceMethod yX8_setRest ∈ wsL_law := mi_1056 _ (List.mem_of_getElem? (i := 19) rfl)
theorem mw_1076 : Cond.selects RX8 yX8_setRest yX8_setRest ∈ wsL_law := mi_1056 _ (List.mem_of_getElem? (i := 20) rfl)
theorem mw_1077 : Cond.code yX8_setRest cX8_setRest 6 (some .int) ∈ wsL_law := mi_1056 _ (List.mem_of_getElem? (i := 21) rfl)
theorem mw_1079 : Cond.methodLink RL 247 yL_rush ∈ wsL_law := mi_1056 _ (List.mem_of_getElem? (i := 23) rfl)
theorem mw_1080 : Cond.static yL_rush ∈ wsL_law := mi_1080 _ (List.mem_of_getElem? (i := 0) rfl)
theorem mw_1081 : Cond.codeWith yL_rush cL_rush 4 (some .int) [(0, 9, 12, 22)] ∈ wsL_law := mi_1080 _ (List.mem_of_getElem? (i := 1) rfl)
theorem mw_1082 : Cond.methodLink RL 78 yX7_rush ∈ wsL_law := mi_1080 _ (List.mem_of_getElem? (i := 2) rfl)
theorem mw_1083 : Cond.instanceMethod yX7_rush ∈ wsL_law := mi_1080 _ (List.mem_of_getElem? (i := 3) rfl)
theorem mw_1084 : Cond.selects RX7 yX7_rush yX7_rush ∈ wsL_law := mi_1080 _ (List.mem_of_getElem? (i := 4) rfl)
theorem mw_1085 : Cond.code yX7_rush cX7_rush 4 (some .int) ∈ wsL_law := mi_1080 _ (List.mem_of_getElem? (i := 5) rfl)
theorem mw_1087 : Cond.methodLink RL 249 yX8_rush ∈ wsL_law := mi_1080 _ (List.mem_of_getElem? (i := 7) rfl)
theorem mw_1088 : Cond.instanceMethod yX8_rush ∈ wsL_law := mi_1080 _ (List.mem_of_getElem? (i := 8) rfl)
theorem mw_1089 : Cond.selects RX8 yX8_rush yX8_rush ∈ wsL_law := mi_1080 _ (List.mem_of_getElem? (i := 9) rfl)
theorem mw_1090 : Cond.code yX8_rush cX8_rush 4 (some .int) ∈ wsL_law := mi_1080 _ (List.mem_of_getElem? (i := 10) rfl)
theorem mw_1091 : Cond.methodLink RL 250 yL_swap ∈ wsL_law := mi_1080 _ (List.mem_of_getElem? (i := 11) rfl)
theorem mw_1092 : Cond.static yL_swap ∈ wsL_law := mi_1080 _ (List.mem_of_getElem? (i := 12) rfl)
theorem mw_1093 : Cond.codeWith yL_swap cL_swap 5 (some .int) [(0, 10, 13, 22), (0, 10, 17, 13)] ∈ wsL_law := mi_1080 _ (List.mem_of_getElem? (i := 13) rfl)
theorem mw_1094 : Cond.methodLink RL 81 yX7_swap ∈ wsL_law := mi_1080 _ (List.mem_of_getElem? (i := 14) rfl)
theorem mw_1095 : Cond.instanceMethod yX7_swap ∈ wsL_law := mi_1080 _ (List.mem_of_getElem? (i := 15) rfl)
theorem mw_1096 : Cond.selects RX7 yX7_swap yX7_swap ∈ wsL_law := mi_1080 _ (List.mem_of_getElem? (i := 16) rfl)
theorem mw_1097 : Cond.code yX7_swap cX7_swap 4 (some .int) ∈ wsL_law := mi_1080 _ (List.mem_of_getElem? (i := 17) rfl)
theorem mw_1103 : Cond.methodLink RL 252 yX8_swap ∈ wsL_law := mi_1080 _ (List.mem_of_getElem? (i := 23) rfl)
theorem mi_1104 : ∀ w ∈ wsL_law0_r47, w ∈ wsL_law := fun w h => List.mem_append_left _ (List.mem_append_left _ (List.mem_append_left _ (List.mem_append_left _ (List.mem_append_left _ (List.mem_append_left _ (List.mem_append_left _ (List.mem_append_left _ (List.mem_append_left _ (List.mem_append_left _ (List.mem_append_left _ (List.mem_append_left _ (List.mem_append_right _ (List.mem_append_right _ (List.mem_append_right _ (List.mem_append_right _ (List.mem_append_right _ (List.mem_append_right _ (List.mem_append_right _ (List.mem_append_right _ (List.mem_append_right _ (List.mem_append_right _ (List.mem_append_right _ (List.mem_append_right _ (List.mem_append_right _ (List.mem_append_right _ (List.mem_append_right _ (List.mem_append_right _ (List.mem_append_right _ (List.mem_append_right _ (List.mem_append_right _ (List.mem_append_right _ (List.mem_append_right _ (List.mem_append_right _ (List.mem_append_right _ (List.mem_append_right _ (List.mem_append_right _ (List.mem_append_right _ (List.mem_append_right _ (List.mem_append_right _ (List.mem_append_right _ (List.mem_append_right _ (List.mem_append_right _ (List.mem_append_right _ (List.mem_append_right _ (List.mem_append_right _ (List.mem_append_right _ (List.mem_append_right _ (List.mem_append_right _ (List.mem_append_right _ (List.mem_append_right _ (List.mem_append_right _ (List.mem_append_right _ (List.mem_append_right _ (List.mem_append_right _ (List.mem_append_right _ (List.mem_append_right _ (List.mem_append_right _ (List.mem_append_left _ h))))))))))))))))))))))))))))))))))))))))))))))))))))))))))
theorem mw_1104 : Cond.instanceMethod yX8_swap ∈ wsL_law := mi_1104 _ (List.mem_of_getElem? (i := 0) rfl)
theorem mw_1105 : Cond.selects RX8 yX8_swap yX8_swap ∈ wsL_law := mi_1104 _ (List.mem_of_getElem? (i := 1) rfl)
theorem mw_1106 : Cond.code yX8_swap cX8_swap 4 (some .int) ∈ wsL_law := mi_1104 _ (List.mem_of_getElem? (i := 2) rfl)
theorem mw_1107 : Cond.methodLink RL 253 yL_setTries ∈ wsL_law := mi_1104 _ (List.mem_of_getElem? (i := 3) rfl)
theorem mw_1108 : Cond.static yL_setTries ∈ wsL_law := mi_1104 _ (List.mem_of_getElem? (i := 4) rfl)
theorem mw_1109 : Cond.codeWith yL_setTries cL_setTries 4 (some .int) [(0, 9, 12, 13)] ∈ wsL_law := mi_1104 _ (List.mem_of_getElem? (i := 5) rfl)
theorem mw_1110 : Cond.methodLink RL 84 yX7_setTries ∈ wsL_law := mi_1104 _ (List.mem_of_getElem? (i := 6) rfl)
theorem mw_1111 : Cond.instanceMethod yX7_setTries ∈ wsL_law := mi_1104 _ (List.mem_of_getElem? (i := 7) rfl)
theorem mw_1112 : Cond.selects RX7 yX7_setTries yX7_setTries ∈ wsL_law := mi_1104 _ (List.mem_of_getElem? (i := 8) rfl)
theorem mw_1113 : Cond.code yX7_setTries cX7_setTries 3 (some .int) ∈ wsL_law := mi_1104 _ (List.mem_of_getElem? (i := 9) rfl)
theorem mw_1114 : Cond.methodLink RL 255 yX8_setTries ∈ wsL_law := mi_1104 _ (List.mem_of_getElem? (i := 10) rfl)
theorem mw_1115 : Cond.instanceMethod yX8_setTries ∈ wsL_law := mi_1104 _ (List.mem_of_getElem? (i := 11) rfl)
theorem mw_1116 : Cond.selects RX8 yX8_setTries yX8_setTries ∈ wsL_law := mi_1104 _ (List.mem_of_getElem? (i := 12) rfl)
theorem mw_1117 : Cond.code yX8_setTries cX8_setTries 2 (some .int) ∈ wsL_law := mi_1104 _ (List.mem_of_getElem? (i := 13) rfl)
theorem mw_1118 : Cond.methodLink RL 256 yL_setTray ∈ wsL_law := mi_1104 _ (List.mem_of_getElem? (i := 14) rfl)
theorem mw_1119 : Cond.static yL_setTray ∈ wsL_law := mi_1104 _ (List.mem_of_getElem? (i := 15) rfl)
theorem mw_1120 : Cond.codeWith yL_setTray cL_setTray 4 (some .int) [(0, 9, 12, 13)] ∈ wsL_law := mi_1104 _ (List.mem_of_getElem? (i := 16) rfl)
theorem mw_1121 : Cond.methodLink RL 87 yX7_setTray ∈ wsL_law := mi_1104 _ (List.mem_of_getElem? (i := 17) rfl)
theorem mw_1122 : Cond.instanceMethod yX7_setTray ∈ wsL_law := mi_1104 _ (List.mem_of_getElem? (i := 18) rfl)
theorem mw_1123 : Cond.selects RX7 yX7_setTray yX7_setTray ∈ wsL_law := mi_1104 _ (List.mem_of_getElem? (i := 19) rfl)
theorem mw_1124 : Cond.code yX7_setTray cX7_setTray 3 (some .int) ∈ wsL_law := mi_1104 _ (List.mem_of_getElem? (i := 20) rfl)
theorem mw_1125 : Cond.methodLink RL 258 yX8_setTray ∈ wsL_law := mi_1104 _ (List.mem_of_getElem? (i := 21) rfl)
theorem mw_1126 : Cond.instanceMethod yX8_setTray ∈ wsL_law := mi_1104 _ (List.mem_of_getElem? (i := 22) rfl)
theorem mw_1127 : Cond.selects RX8 yX8_setTray yX8_setTray ∈ wsL_law := mi_1104 _ (List.mem_of_getElem? (i := 23) rfl)
theorem mw_1128 : Cond.code yX8_setTray cX8_setTray 2 (some .int) ∈ wsL_law := mi_1128 _ (List.mem_of_getElem? (i := 0) rfl)
theorem mw_1130 : Cond.methodLink RL 259 yL_run ∈ wsL_law := mi_1128 _ (List.mem_of_getElem? (i := 2) rfl)
theorem mw_1131 : Cond.static yL_run ∈ wsL_law := mi_1128 _ (List.mem_of_getElem? (i := 3) rfl)
theorem mw_1132 : Cond.codeWith yL_run cL_run 4 (some .int) [(0, 9, 12, 13)] ∈ wsL_law := mi_1128 _ (List.mem_of_getElem? (i := 4) rfl)
theorem mw_1133 : Cond.methodLink RL 90 yX7_run ∈ wsL_law := mi_1128 _ (List.mem_of_getElem? (i := 5) rfl)
theorem mw_1134 : Cond.instanceMethod yX7_run ∈ wsL_law := mi_1128 _ (List.mem_of_getElem? (i := 6) rfl)
theorem mw_1135 : Cond.selects RX7 yX7_run yX7_run ∈ wsL_law := mi_1128 _ (List.mem_of_getElem? (i := 7) rfl)
theorem mw_1136 : Cond.code yX7_run cX7_run 3 (some .int) ∈ wsL_law := mi_1128 _ (List.mem_of_getElem? (i := 8) rfl)
theorem mw_1222 : Cond.methodLink RL 261 yX8_run ∈ wsL_law := mi_1200 _ (List.mem_of_getElem? (i := 22) rfl)
theorem mw_1223 : Cond.instanceMethod yX8_run ∈ wsL_law := mi_1200 _ (List.mem_of_getElem? (i := 23) rfl)
theorem mw_1224 : Cond.selects RX8 yX8_run yX8_run ∈ wsL_law := mi_1224 _ (List.mem_of_getElem? (i := 0) rfl)
theorem mw_1225 : Cond.code yX8_run cX8_run 3 (some .int) ∈ wsL_law := mi_1224 _ (List.mem_of_getElem? (i := 1) rfl)
theorem mw_1279 : Cond.methodLink RL 262 yL_runToLeave ∈ wsL_law := mi_1272 _ (List.mem_of_getElem? (i := 7) rfl)
theorem mw_1280 : Cond.static yL_runToLeave ∈ wsL_law := mi_1272 _ (List.mem_of_getElem? (i := 8) rfl)
theorem mw_1281 : Cond.codeWith yL_runToLeave cL_runToLeave 4 (some .int) [(0, 9, 12, 13)] ∈ wsL_law := mi_1272 _ (List.mem_of_getElem? (i := 9) rfl)
theorem mw_1282 : Cond.methodLink RL 93 yX7_runToLeave ∈ wsL_law := mi_1272 _ (List.mem_of_getElem? (i := 10) rfl)
theorem mw_1283 : Cond.instanceMethod yX7_runToLeave ∈ wsL_law := mi_1272 _ (List.mem_of_getElem? (i := 11) rfl)
theorem mw_1284 : Cond.selects RX7 yX7_runToLeave yX7_runToLeave ∈ wsL_law := mi_1272 _ (List.mem_of_getElem? (i := 12) rfl)
theorem mw_1285 : Cond.code yX7_runToLeave cX7_runToLeave 4 (some .int) ∈ wsL_law := mi_1272 _ (List.mem_of_getElem? (i := 13) rfl)
theorem mw_1286 : Cond.methodLink RL 264 yX8_runToLeave ∈ wsL_law := mi_1272 _ (List.mem_of_getElem? (i := 14) rfl)
theorem mw_1287 : Cond.instanceMethod yX8_runToLeave ∈ wsL_law := mi_1272 _ (List.mem_of_getElem? (i := 15) rfl)
theorem mw_1288 : Cond.selects RX8 yX8_runToLeave yX8_runToLeave ∈ wsL_law := mi_1272 _ (List.mem_of_getElem? (i := 16) rfl)
theorem mw_1289 : Cond.code yX8_runToLeave cX8_runToLeave 4 (some .int) ∈ wsL_law := mi_1272 _ (List.mem_of_getElem? (i := 17) rfl)
theorem mw_1290 : Cond.methodLink RL 265 yL_leavesIn ∈ wsL_law := mi_1272 _ (List.mem_of_getElem? (i := 18) rfl)
theorem mw_1291 : Cond.static yL_leavesIn ∈ wsL_law := mi_1272 _ (List.mem_of_getElem? (i := 19) rfl)
theorem mw_1292 : Cond.codeWith yL_leavesIn cL_leavesIn 4 (some .int) [(0, 9, 12, 22)] ∈ wsL_law := mi_1272 _ (List.mem_of_getElem? (i := 20) rfl)
theorem mw_1293 : Cond.methodLink RL 96 yX7_leavesIn ∈ wsL_law := mi_1272 _ (List.mem_of_getElem? (i := 21) rfl)
theorem mw_1294 : Cond.instanceMethod yX7_leavesIn ∈ wsL_law := mi_1272 _ (List.mem_of_getElem? (i := 22) rfl)
theorem mw_1295 : Cond.selects RX7 yX7_leavesIn yX7_leavesIn ∈ wsL_law := mi_1272 _ (List.mem_of_getElem? (i := 23) rfl)
theorem mw_1296 : Cond.code yX7_leavesIn cX7_leavesIn 2 (some .int) ∈ wsL_law := mi_1296 _ (List.mem_of_getElem? (i := 0) rfl)
theorem mw_1322 : Cond.methodLink RL 267 yX8_leavesIn ∈ wsL_law := mi_1320 _ (List.mem_of_getElem? (i := 2) rfl)
theorem mw_1323 : Cond.instanceMethod yX8_leavesIn ∈ wsL_law := mi_1320 _ (List.mem_of_getElem? (i := 3) rfl)
theorem mw_1324 : Cond.selects RX8 yX8_leavesIn yX8_leavesIn ∈ wsL_law := mi_1320 _ (List.mem_of_getElem? (i := 4) rfl)
theorem mw_1325 : Cond.code yX8_leavesIn cX8_leavesIn 2 (some .int) ∈ wsL_law := mi_1320 _ (List.mem_of_getElem? (i := 5) rfl)
theorem mw_1342 : Cond.methodLink RL 268 yL_lotIn ∈ wsL_law := mi_1320 _ (List.mem_of_getElem? (i := 22) rfl)
theorem mw_1343 : Cond.static yL_lotIn ∈ wsL_law := mi_1320 _ (List.mem_of_getElem? (i := 23) rfl)
theorem mw_1344 : Cond.codeWith yL_lotIn cL_lotIn 4 (some .int) [(0, 9, 12, 22)] ∈ wsL_law := mi_1344 _ (List.mem_of_getElem? (i := 0) rfl)
theorem mw_1345 : Cond.methodLink RL 99 yX7_lotIn ∈ wsL_law := mi_1344 _ (List.mem_of_getElem? (i := 1) rfl)
theorem mw_1346 : Cond.instanceMethod yX7_lotIn ∈ wsL_law := mi_1344 _ (List.mem_of_getElem? (i := 2) rfl)
theorem mw_1347 : Cond.selects RX7 yX7_lotIn yX7_lotIn ∈ wsL_law := mi_1344 _ (List.mem_of_getElem? (i := 3) rfl)
theorem mw_1348 : Cond.code yX7_lotIn cX7_lotIn 2 (some .int) ∈ wsL_law := mi_1344 _ (List.mem_of_getElem? (i := 4) rfl)
theorem mw_1350 : Cond.methodLink RL 270 yX8_lotIn ∈ wsL_law := mi_1344 _ (List.mem_of_getElem? (i := 6) rfl)
theorem mw_1351 : Cond.instanceMethod yX8_lotIn ∈ wsL_law := mi_1344 _ (List.mem_of_getElem? (i := 7) rfl)
theorem mw_1352 : Cond.selects RX8 yX8_lotIn yX8_lotIn ∈ wsL_law := mi_1344 _ (List.mem_of_getElem? (i := 8) rfl)
theorem mw_1353 : Cond.code yX8_lotIn cX8_lotIn 2 (some .int) ∈ wsL_law := mi_1344 _ (List.mem_of_getElem? (i := 9) rfl)
theorem mw_1354 : Cond.methodLink RL 271 yX7_allIn ∈ wsL_law := mi_1344 _ (List.mem_of_getElem? (i := 10) rfl)
theorem mw_1355 : Cond.instanceMethod yX7_allIn ∈ wsL_law := mi_1344 _ (List.mem_of_getElem? (i := 11) rfl)
theorem mw_1356 : Cond.selects RX7 yX7_allIn yX7_allIn ∈ wsL_law := mi_1344 _ (List.mem_of_getElem? (i := 12) rfl)
theorem mw_1357 : Cond.code yX7_allIn cX7_allIn 1 (some .int) ∈ wsL_law := mi_1344 _ (List.mem_of_getElem? (i := 13) rfl)
theorem mw_1359 : Cond.methodLink RL 274 yX8_allIn ∈ wsL_law := mi_1344 _ (List.mem_of_getElem? (i := 15) rfl)
theorem mw_1360 : Cond.instanceMethod yX8_allIn ∈ wsL_law := mi_1344 _ (List.mem_of_getElem? (i := 16) rfl)
theorem mw_1361 : Cond.selects RX8 yX8_allIn yX8_allIn ∈ wsL_law := mi_1344 _ (List.mem_of_getElem? (i := 17) rfl)
theorem mw_1362 : Cond.code yX8_allIn cX8_allIn 1 (some .int) ∈ wsL_law := mi_1344 _ (List.mem_of_getElem? (i := 18) rfl)
theorem mw_1363 : Cond.methodLink RL 275 yL_leftIn ∈ wsL_law := mi_1344 _ (List.mem_of_getElem? (i := 19) rfl)
theorem mw_1364 : Cond.static yL_leftIn ∈ wsL_law := mi_1344 _ (List.mem_of_getElem? (i := 20) rfl)
theorem mw_1365 : Cond.codeWith yL_leftIn cL_leftIn 4 (some .int) [(0, 9, 12, 13)] ∈ wsL_law := mi_1344 _ (List.mem_of_getElem? (i := 21) rfl)
theorem mw_1366 : Cond.methodLink RL 102 yX7_leftIn ∈ wsL_law := mi_1344 _ (List.mem_of_getElem? (i := 22) rfl)
theorem mw_1367 : Cond.instanceMethod yX7_leftIn ∈ wsL_law := mi_1344 _ (List.mem_of_getElem? (i := 23) rfl)
theorem mw_1368 : Cond.selects RX7 yX7_leftIn yX7_leftIn ∈ wsL_law := mi_1368 _ (List.mem_of_getElem? (i := 0) rfl)
theorem mw_1369 : Cond.code yX7_leftIn cX7_leftIn 2 (some .int) ∈ wsL_law := mi_1368 _ (List.mem_of_getElem? (i := 1) rfl)
theorem mw_1374 : Cond.methodLink RL 277 yX8_leftIn ∈ wsL_law := mi_1368 _ (List.mem_of_getElem? (i := 6) rfl)
theorem mw_1375 : Cond.instanceMethod yX8_leftIn ∈ wsL_law := mi_1368 _ (List.mem_of_getElem? (i := 7) rfl)
theorem mw_1376 : Cond.selects RX8 yX8_leftIn yX8_leftIn ∈ wsL_law := mi_1368 _ (List.mem_of_getElem? (i := 8) rfl)
theorem mw_1377 : Cond.code yX8_leftIn cX8_leftIn 2 (some .int) ∈ wsL_law := mi_1368 _ (List.mem_of_getElem? (i := 9) rfl)
theorem mw_1382 : Cond.methodLink RL 278 yL_failIn ∈ wsL_law := mi_1368 _ (List.mem_of_getElem? (i := 14) rfl)
theorem mw_1383 : Cond.static yL_failIn ∈ wsL_law := mi_1368 _ (List.mem_of_getElem? (i := 15) rfl)
theorem mw_1384 : Cond.codeWith yL_failIn cL_failIn 4 (some .int) [(0, 9, 12, 22)] ∈ wsL_law := mi_1368 _ (List.mem_of_getElem? (i := 16) rfl)
theorem mw_1385 : Cond.methodLink RL 105 yX7_failIn ∈ wsL_law := mi_1368 _ (List.mem_of_getElem? (i := 17) rfl)
theorem mw_1386 : Cond.instanceMethod yX7_failIn ∈ wsL_law := mi_1368 _ (List.mem_of_getElem? (i := 18) rfl)
theorem mw_1387 : Cond.selects RX7 yX7_failIn yX7_failIn ∈ wsL_law := mi_1368 _ (List.mem_of_getElem? (i := 19) rfl)
theorem mw_1388 : Cond.code yX7_failIn cX7_failIn 3 (some .int) ∈ wsL_law := mi_1368 _ (List.mem_of_getElem? (i := 20) rfl)
theorem mw_1390 : Cond.methodLink RL 280 yX8_failIn ∈ wsL_law := mi_1368 _ (List.mem_of_getElem? (i := 22) rfl)
theorem mw_1391 : Cond.instanceMethod yX8_failIn ∈ wsL_law := mi_1368 _ (List.mem_of_getElem? (i := 23) rfl)
theorem mw_1392 : Cond.selects RX8 yX8_failIn yX8_failIn ∈ wsL_law := mi_1392 _ (List.mem_of_getElem? (i := 0) rfl)
theorem mw_1393 : Cond.code yX8_failIn cX8_failIn 2 (some .int) ∈ wsL_law := mi_1392 _ (List.mem_of_getElem? (i := 1) rfl)
theorem mw_1394 : Cond.methodLink RL 281 yL_blanksIn ∈ wsL_law := mi_1392 _ (List.mem_of_getElem? (i := 2) rfl)
theorem mw_1395 : Cond.static yL_blanksIn ∈ wsL_law := mi_1392 _ (List.mem_of_getElem? (i := 3) rfl)
theorem mw_1396 : Cond.codeWith yL_blanksIn cL_blanksIn 4 (some .int) [(0, 9, 12, 13)] ∈ wsL_law := mi_1392 _ (List.mem_of_getElem? (i := 4) rfl)
theorem mw_1397 : Cond.methodLink RL 108 yX7_blanksIn ∈ wsL_law := mi_1392 _ (List.mem_of_getElem? (i := 5) rfl)
theorem mw_1398 : Cond.instanceMethod yX7_blanksIn ∈ wsL_law := mi_1392 _ (List.mem_of_getElem? (i := 6) rfl)
theorem mw_1399 : Cond.selects RX7 yX7_blanksIn yX7_blanksIn ∈ wsL_law := mi_1392 _ (List.mem_of_getElem? (i := 7) rfl)
theorem mw_1400 : Cond.code yX7_blanksIn cX7_blanksIn 2 (some .int) ∈ wsL_law := mi_1392 _ (List.mem_of_getElem? (i := 8) rfl)
theorem mw_1401 : Cond.methodLink RL 283 yX8_blanksIn ∈ wsL_law := mi_1392 _ (List.mem_of_getElem? (i := 9) rfl)
theorem mw_1402 : Cond.instanceMethod yX8_blanksIn ∈ wsL_law := mi_1392 _ (List.mem_of_getElem? (i := 10) rfl)
theorem mw_1403 : Cond.selects RX8 yX8_blanksIn yX8_blanksIn ∈ wsL_law := mi_1392 _ (List.mem_of_getElem? (i := 11) rfl)
theorem mw_1404 : Cond.code yX8_blanksIn cX8_blanksIn 2 (some .int) ∈ wsL_law := mi_1392 _ (List.mem_of_getElem? (i := 12) rfl)
theorem mw_1405 : Cond.methodLink RL 284 yL_restIn ∈ wsL_law := mi_1392 _ (List.mem_of_getElem? (i := 13) rfl)
theorem mw_1406 : Cond.static yL_restIn ∈ wsL_law := mi_1392 _ (List.mem_of_getElem? (i := 14) rfl)
theorem mw_1407 : Cond.codeWith yL_restIn cL_restIn 4 (some .int) [(0, 9, 12, 22)] ∈ wsL_law := mi_1392 _ (List.mem_of_getElem? (i := 15) rfl)
theorem mw_1408 : Cond.methodLink RL 111 yX7_restIn ∈ wsL_law := mi_1392 _ (List.mem_of_getElem? (i := 16) rfl)
theorem mw_1409 : Cond.instanceMethod yX7_restIn ∈ wsL_law := mi_1392 _ (List.mem_of_getElem? (i := 17) rfl)
theorem mw_1410 : Cond.selects RX7 yX7_restIn yX7_restIn ∈ wsL_law := mi_1392 _ (List.mem_of_getElem? (i := 18) rfl)
theorem mw_1411 : Cond.code yX7_restIn cX7_restIn 2 (some .int) ∈ wsL_law := mi_1392 _ (List.mem_of_getElem? (i := 19) rfl)
theorem mw_1413 : Cond.methodLink RL 286 yX8_restIn ∈ wsL_law := mi_1392 _ (List.mem_of_getElem? (i := 21) rfl)
theorem mw_1414 : Cond.instanceMethod yX8_restIn ∈ wsL_law := mi_1392 _ (List.mem_of_getElem? (i := 22) rfl)
theorem mw_1415 : Cond.selects RX8 yX8_restIn yX8_restIn ∈ wsL_law := mi_1392 _ (List.mem_of_getElem? (i := 23) rfl)
theorem mw_1416 : Cond.code yX8_restIn cX8_restIn 2 (some .int) ∈ wsL_law := mi_1416 _ (List.mem_of_getElem? (i := 0) rfl)
theorem mw_1417 : Cond.methodLink RL 287 yX7_lotBy ∈ wsL_law := mi_1416 _ (List.mem_of_getElem? (i := 1) rfl)
theorem mw_1418 : Cond.instanceMethod yX7_lotBy ∈ wsL_law := mi_1416 _ (List.mem_of_getElem? (i := 2) rfl)
theorem mw_1419 : Cond.selects RX7 yX7_lotBy yX7_lotBy ∈ wsL_law := mi_1416 _ (List.mem_of_getElem? (i := 3) rfl)
theorem mw_1420 : Cond.code yX7_lotBy cX7_lotBy 4 (some .int) ∈ wsL_law := mi_1416 _ (List.mem_of_getElem? (i := 4) rfl)
theorem mw_1425 : Cond.methodLink RL 290 yX8_lotBy ∈ wsL_law := mi_1416 _ (List.mem_of_getElem? (i := 9) rfl)
theorem mw_1426 : Cond.instanceMethod yX8_lotBy ∈ wsL_law := mi_1416 _ (List.mem_of_getElem? (i := 10) rfl)
theorem mw_1427 : Cond.selects RX8 yX8_lotBy yX8_lotBy ∈ wsL_law := mi_1416 _ (List.mem_of_getElem? (i := 11) rfl)
theorem mw_1428 : Cond.code yX8_lotBy cX8_lotBy 5 (some .int) ∈ wsL_law := mi_1416 _ (List.mem_of_getElem? (i := 12) rfl)
theorem mw_1429 : Cond.methodLink RL 291 yL_bestRank ∈ wsL_law := mi_1416 _ (List.mem_of_getElem? (i := 13) rfl)
theorem mw_1430 : Cond.static yL_bestRank ∈ wsL_law := mi_1416 _ (List.mem_of_getElem? (i := 14) rfl)
theorem mw_1431 : Cond.codeWith yL_bestRank cL_bestRank 4 (some .int) [(0, 9, 12, 22)] ∈ wsL_law := mi_1416 _ (List.mem_of_getElem? (i := 15) rfl)
theorem mw_1432 : Cond.methodLink RL 114 yX7_bestRank ∈ wsL_law := mi_1416 _ (List.mem_of_getElem? (i := 16) rfl)
theorem mw_1433 : Cond.instanceMethod yX7_bestRank ∈ wsL_law := mi_1416 _ (List.mem_of_getElem? (i := 17) rfl)
theorem mw_1434 : Cond.selects RX7 yX7_bestRank yX7_bestRank ∈ wsL_law := mi_1416 _ (List.mem_of_getElem? (i := 18) rfl)
theorem mw_1435 : Cond.code yX7_bestRank cX7_bestRank 7 (some .int) ∈ wsL_law := mi_1416 _ (List.mem_of_getElem? (i := 19) rfl)
theorem mw_1436 : Cond.methodLink RL 293 yX8_bestRank ∈ wsL_law := mi_1416 _ (List.mem_of_getElem? (i := 20) rfl)
theorem mw_1437 : Cond.instanceMethod yX8_bestRank ∈ wsL_law := mi_1416 _ (List.mem_of_getElem? (i := 21) rfl)
theorem mw_1438 : Cond.selects RX8 yX8_bestRank yX8_bestRank ∈ wsL_law := mi_1416 _ (List.mem_of_getElem? (i := 22) rfl)
theorem mw_1439 : Cond.code yX8_bestRank cX8_bestRank 2 (some .int) ∈ wsL_law := mi_1416 _ (List.mem_of_getElem? (i := 23) rfl)
theorem mw_1444 : Cond.methodLink RL 294 yX7_bestTray ∈ wsL_law := mi_1440 _ (List.mem_of_getElem? (i := 4) rfl)
theorem mw_1445 : Cond.instanceMethod yX7_bestTray ∈ wsL_law := mi_1440 _ (List.mem_of_getElem? (i := 5) rfl)
theorem mw_1446 : Cond.selects RX7 yX7_bestTray yX7_bestTray ∈ wsL_law := mi_1440 _ (List.mem_of_getElem? (i := 6) rfl)
theorem mw_1447 : Cond.code yX7_bestTray cX7_bestTray 6 (some .int) ∈ wsL_law := mi_1440 _ (List.mem_of_getElem? (i := 7) rfl)
theorem mw_1448 : Cond.methodLink RL 297 yX8_bestTray ∈ wsL_law := mi_1440 _ (List.mem_of_getElem? (i := 8) rfl)
theorem mw_1449 : Cond.instanceMethod yX8_bestTray ∈ wsL_law := mi_1440 _ (List.mem_of_getElem? (i := 9) rfl)
theorem mw_1450 : Cond.selects RX8 yX8_bestTray yX8_bestTray ∈ wsL_law := mi_1440 _ (List.mem_of_getElem? (i := 10) rfl)
theorem mw_1451 : Cond.code yX8_bestTray cX8_bestTray 1 (some .int) ∈ wsL_law := mi_1440 _ (List.mem_of_getElem? (i := 11) rfl)
theorem mw_1452 : Cond.methodLink RL 298 yL_writeCard ∈ wsL_law := mi_1440 _ (List.mem_of_getElem? (i := 12) rfl)
theorem mw_1453 : Cond.static yL_writeCard ∈ wsL_law := mi_1440 _ (List.mem_of_getElem? (i := 13) rfl)
theorem mw_1454 : Cond.codeWith yL_writeCard cL_writeCard 4 (some .int) [(0, 9, 12, 22)] ∈ wsL_law := mi_1440 _ (List.mem_of_getElem? (i := 14) rfl)
theorem mw_1455 : Cond.methodLink RL 117 yX7_writeCard ∈ wsL_law := mi_1440 _ (List.mem_of_getElem? (i := 15) rfl)
theorem mw_1456 : Cond.instanceMethod yX7_writeCard ∈ wsL_law := mi_1440 _ (List.mem_of_getElem? (i := 16) rfl)
theorem mw_1457 : Cond.selects RX7 yX7_writeCard yX7_writeCard ∈ wsL_law := mi_1440 _ (List.mem_of_getElem? (i := 17) rfl)
theorem mw_1458 : Cond.code yX7_writeCard cX7_writeCard 4 (some .int) ∈ wsL_law := mi_1440 _ (List.mem_of_getElem? (i := 18) rfl)
theorem mw_1460 : Cond.methodLink RL 300 yX8_writeCard ∈ wsL_law := mi_1440 _ (List.mem_of_getElem? (i := 20) rfl)
theorem mw_1461 : Cond.instanceMethod yX8_writeCard ∈ wsL_law := mi_1440 _ (List.mem_of_getElem? (i := 21) rfl)
theorem mw_1462 : Cond.selects RX8 yX8_writeCard yX8_writeCard ∈ wsL_law := mi_1440 _ (List.mem_of_getElem? (i := 22) rfl)
theorem mw_1463 : Cond.code yX8_writeCard cX8_writeCard 3 (some .int) ∈ wsL_law := mi_1440 _ (List.mem_of_getElem? (i := 23) rfl)
theorem mw_1465 : Cond.methodLink RL 301 yX7_outputByte ∈ wsL_law := mi_1464 _ (List.mem_of_getElem? (i := 1) rfl)
theorem mw_1466 : Cond.instanceMethod yX7_outputByte ∈ wsL_law := mi_1464 _ (List.mem_of_getElem? (i := 2) rfl)
theorem mw_1467 : Cond.selects RX7 yX7_outputByte yX7_outputByte ∈ wsL_law := mi_1464 _ (List.mem_of_getElem? (i := 3) rfl)
theorem mw_1468 : Cond.code yX7_outputByte cX7_outputByte 2 (some .int) ∈ wsL_law := mi_1464 _ (List.mem_of_getElem? (i := 4) rfl)
theorem mw_1469 : Cond.methodLink RL 304 yX8_outputByte ∈ wsL_law := mi_1464 _ (List.mem_of_getElem? (i := 5) rfl)
theorem mw_1470 : Cond.instanceMethod yX8_outputByte ∈ wsL_law := mi_1464 _ (List.mem_of_getElem? (i := 6) rfl)
theorem mw_1471 : Cond.selects RX8 yX8_outputByte yX8_outputByte ∈ wsL_law := mi_1464 _ (List.mem_of_getElem? (i := 7) rfl)
theorem mw_1472 : Cond.code yX8_outputByte cX8_outputByte 2 (some .int) ∈ wsL_law := mi_1464 _ (List.mem_of_getElem? (i := 8) rfl)
theorem mw_1473 : Cond.methodLink RL 305 yX7_undo ∈ wsL_law := mi_1464 _ (List.mem_of_getElem? (i := 9) rfl)
theorem mw_1474 : Cond.instanceMethod yX7_undo ∈ wsL_law := mi_1464 _ (List.mem_of_getElem? (i := 10) rfl)
theorem mw_1475 : Cond.selects RX7 yX7_undo yX7_undo ∈ wsL_law := mi_1464 _ (List.mem_of_getElem? (i := 11) rfl)
theorem mw_1476 : Cond.code yX7_undo cX7_undo 2 (some .int) ∈ wsL_law := mi_1464 _ (List.mem_of_getElem? (i := 12) rfl)
theorem mw_1477 : Cond.methodLink RL 308 yX8_undo ∈ wsL_law := mi_1464 _ (List.mem_of_getElem? (i := 13) rfl)
theorem mw_1478 : Cond.instanceMethod yX8_undo ∈ wsL_law := mi_1464 _ (List.mem_of_getElem? (i := 14) rfl)
theorem mw_1479 : Cond.selects RX8 yX8_undo yX8_undo ∈ wsL_law := mi_1464 _ (List.mem_of_getElem? (i := 15) rfl)
theorem mw_1480 : Cond.code yX8_undo cX8_undo 1 (some .int) ∈ wsL_law := mi_1464 _ (List.mem_of_getElem? (i := 16) rfl)
theorem mw_1481 : Cond.methodLink RL 309 yL_saveSnapshot ∈ wsL_law := mi_1464 _ (List.mem_of_getElem? (i := 17) rfl)
theorem mw_1482 : Cond.static yL_saveSnapshot ∈ wsL_law := mi_1464 _ (List.mem_of_getElem? (i := 18) rfl)
theorem mw_1483 : Cond.codeWith yL_saveSnapshot cL_saveSnapshot 4 (some .int) [(0, 9, 12, 13)] ∈ wsL_law := mi_1464 _ (List.mem_of_getElem? (i := 19) rfl)
theorem mw_1484 : Cond.methodLink RL 120 yX7_saveSnapshot ∈ wsL_law := mi_1464 _ (List.mem_of_getElem? (i := 20) rfl)
theorem mw_1485 : Cond.instanceMethod yX7_saveSnapshot ∈ wsL_law := mi_1464 _ (List.mem_of_getElem? (i := 21) rfl)
theorem mw_1486 : Cond.selects RX7 yX7_saveSnapshot yX7_saveSnapshot ∈ wsL_law := mi_1464 _ (List.mem_of_getElem? (i := 22) rfl)
theorem mw_1487 : Cond.code yX7_saveSnapshot cX7_saveSnapshot 2 (some .int) ∈ wsL_law := mi_1464 _ (List.mem_of_getElem? (i := 23) rfl)
theorem mi_1488 : ∀ w ∈ wsL_law0_r63, w ∈ wsL_law := fun w h => List.mem_append_left _ (List.mem_append_left _ (List.mem_append_left _ (List.mem_append_left _ (List.mem_append_left _ (List.mem_append_left _ (List.mem_append_left _ (List.mem_append_left _ (List.mem_append_left _ (List.mem_append_left _ (List.mem_append_left _ (List.mem_append_left _ (List.mem_append_right _ (List.mem_append_right _ (List.mem_append_right _ (List.mem_append_right _ (List.mem_append_right _ (List.mem_append_right _ (List.mem_append_right _ (List.mem_append_right _ (List.mem_append_right _ (List.mem_append_right _ (List.mem_append_right _ (List.mem_append_right _ (List.mem_append_right _ (List.mem_append_right _ (List.mem_append_right _ (List.mem_append_right _ (List.mem_append_right _ (List.mem_append_right _ (List.mem_append_right _ (List.mem_append_right _ (List.mem_append_right _ (List.mem_append_right _ (List.mem_append_right _ (List.mem_append_right _ (List.mem_append_right _ (List.mem_append_right _ (List.mem_append_right _ (List.mem_append_right _ (List.mem_append_right _ (List.mem_append_right _ (List.mem_append_right _ (List.mem_append_right _ (List.mem_append_right _ (List.mem_append_right _ (List.mem_append_right _ (List.mem_append_right _ (List.mem_append_right _ (List.mem_append_right _ (List.mem_append_right _ (List.mem_append_right _ (List.mem_append_right _ (List.mem_append_right _ (List.mem_append_right _ (List.mem_append_right _ (List.mem_append_right _ (List.mem_append_right _ (List.mem_append_right _ (List.mem_append_right _ (List.mem_append_right _ (List.mem_append_right _ (List.mem_append_right _ (List.mem_append_right _ (List.mem_append_right _ (List.mem_append_right _ (List.mem_append_right _ (List.mem_append_right _ (List.mem_append_right _ (List.mem_append_right _ (List.mem_append_right _ (List.mem_append_right _ (List.mem_append_right _ (List.mem_append_right _ h)))))))))))))))))))))))))))))))))))))))))))))))))))))))))))))))))))))))))
theorem mw_1488 : Cond.methodLink RL 311 yX8_saveSnapshot ∈ wsL_law := mi_1488 _ (List.mem_of_getElem? (i := 0) rfl)
theorem mw_1489 : Cond.instanceMethod yX8_saveSnapshot ∈ wsL_law := mi_1488 _ (List.mem_of_getElem? (i := 1) rfl)
theorem mw_1490 : Cond.selects RX8 yX8_saveSnapshot yX8_saveSnapshot ∈ wsL_law := mi_1488 _ (List.mem_of_getElem? (i := 2) rfl)
theorem mw_1491 : Cond.code yX8_saveSnapshot cX8_saveSnapshot 2 (some .int) ∈ wsL_law := mi_1488 _ (List.mem_of_getElem? (i := 3) rfl)
theorem mw_1492 : Cond.methodLink RL 312 yL_restoreSnapshot ∈ wsL_law := mi_1488 _ (List.mem_of_getElem? (i := 4) rfl)
theorem mw_1493 : Cond.static yL_restoreSnapshot ∈ wsL_law := mi_1488 _ (List.mem_of_getElem? (i := 5) rfl)
theorem mw_1494 : Cond.codeWith yL_restoreSnapshot cL_restoreSnapshot 4 (some .int) [(0, 9, 12, 13)] ∈ wsL_law := mi_1488 _ (List.mem_of_getElem? (i := 6) rfl)
theorem mw_1495 : Cond.methodLink RL 123 yX7_restoreSnapshot ∈ wsL_law := mi_1488 _ (List.mem_of_getElem? (i := 7) rfl)
theorem mw_1496 : Cond.instanceMethod yX7_restoreSnapshot ∈ wsL_law := mi_1488 _ (List.mem_of_getElem? (i := 8) rfl)
theorem mw_1497 : Cond.selects RX7 yX7_restoreSnapshot yX7_restoreSnapshot ∈ wsL_law := mi_1488 _ (List.mem_of_getElem? (i := 9) rfl)
theorem mw_1498 : Cond.code yX7_restoreSnapshot cX7_restoreSnapshot 2 (some .int) ∈ wsL_law := mi_1488 _ (List.mem_of_getElem? (i := 10) rfl)
theorem mw_1499 : Cond.methodLink RL 314 yX8_restoreSnapshot ∈ wsL_law := mi_1488 _ (List.mem_of_getElem? (i := 11) rfl)
theorem mw_1500 : Cond.instanceMethod yX8_restoreSnapshot ∈ wsL_law := mi_1488 _ (List.mem_of_getElem? (i := 12) rfl)
theorem mw_1501 : Cond.selects RX8 yX8_restoreSnapshot yX8_restoreSnapshot ∈ wsL_law := mi_1488 _ (List.mem_of_getElem? (i := 13) rfl)
theorem mw_1502 : Cond.code yX8_restoreSnapshot cX8_restoreSnapshot 2 (some .int) ∈ wsL_law := mi_1488 _ (List.mem_of_getElem? (i := 14) rfl)
