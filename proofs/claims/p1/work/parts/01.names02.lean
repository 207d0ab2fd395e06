theorem dX5_readSemicolon_55 : decode cX5_readSemicolon 55 = .ok (.iconst 1, 1) := by decide +kernel
theorem dX5_readSemicolon_56 : decode cX5_readSemicolon 56 = .ok (.iadd, 1) := by decide +kernel
theorem dX5_readSemicolon_57 : decode cX5_readSemicolon 57 = .ok (.putfield 29, 3) := by decide +kernel
theorem dX5_readSemicolon_60 : decode cX5_readSemicolon 60 = .ok (.iconst 1, 1) := by decide +kernel
theorem dX5_readSemicolon_61 : decode cX5_readSemicolon 61 = .ok (.ireturn, 1) := by decide +kernel
set_option maxRecDepth 20000 in
theorem ggX5_readStatement_X5_skipSpaces : GoodIn wsX5_readStatement wsX5_skipSpaces := goodIn_r _ [6, 7, 8, 9, 268, 269, 270, 271, 272, 273, 274, 275, 276, 277, 278] (by decide +kernel) (by decide +kernel)
set_option maxRecDepth 20000 in
theorem gX5_readStatement_X5_skipSpaces : GoodIn wsX5_readStatement (wsV RX5 52 RX5 yX5_skipSpaces wsX5_skipSpaces) := goodIn_app (goodIn_of _ (by decide +kernel)) ggX5_readStatement_X5_skipSpaces
set_option maxRecDepth 20000 in
theorem ggX5_readStatement_X5_readWord : GoodIn wsX5_readStatement wsX5_readWord := goodIn_r _ [13, 7, 8, 9, 14, 15, 5, 16, 17, 18, 19, 20, 21, 22, 23, 24, 25, 26, 27, 28, 29, 30, 31, 32, 33, 34, 35, 36, 37, 38, 39, 40, 41, 42, 43, 44, 45, 46, 47, 48, 49, 50, 51, 52, 53, 54, 55, 56, 57, 58, 59, 60, 61, 62, 63, 64, 65, 66, 67, 68, 69, 268, 269, 270, 271, 272, 273, 274, 275, 276, 277, 278, 279, 280, 281, 282] (by decide +kernel) (by decide +kernel)
set_option maxRecDepth 20000 in
theorem gX5_readStatement_X5_readWord : GoodIn wsX5_readStatement (wsV RX5 63 RX5 yX5_readWord wsX5_readWord) := goodIn_app (goodIn_of _ (by decide +kernel)) ggX5_readStatement_X5_readWord
set_option maxRecDepth 20000 in
theorem ggX5_readStatement_X5_error : GoodIn wsX5_readStatement wsX5_error := goodIn_r _ [73, 74, 75, 268, 269, 270, 271, 272, 273, 274, 275, 276, 277, 278] (by decide +kernel) (by decide +kernel)
set_option maxRecDepth 20000 in
theorem gX5_readStatement_X5_error : GoodIn wsX5_readStatement (wsV RX5 59 RX5 yX5_error wsX5_error) := goodIn_app (goodIn_of _ (by decide +kernel)) ggX5_readStatement_X5_error
set_option maxRecDepth 20000 in
theorem ggX5_readStatement_X5_readLine : GoodIn wsX5_readStatement wsX5_readLine := goodIn_r _ [79, 80, 81, 82, 5, 83, 7, 8, 9, 84, 85, 86, 87, 88, 2, 3, 4, 6, 89, 90, 91, 70, 71, 72, 73, 74, 75, 92, 93, 94, 95, 96, 97, 98, 99, 100, 101, 102, 103, 104, 105, 106, 107, 108, 109, 110, 111, 112, 113, 114, 115, 116, 268, 269, 270, 271, 272, 273, 274, 275, 276, 277, 278, 283, 284, 285, 286, 287, 288, 289, 290, 291, 292, 293, 294, 295, 296, 297, 298, 299] (by decide +kernel) (by decide +kernel)
set_option maxRecDepth 20000 in
theorem gX5_readStatement_X5_readLine : GoodIn wsX5_readStatement (wsV RX5 66 RX5 yX5_readLine wsX5_readLine) := goodIn_app (goodIn_of _ (by decide +kernel)) ggX5_readStatement_X5_readLine
set_option maxRecDepth 20000 in
theorem ggX5_readStatement_X5_readRest : GoodIn wsX5_readStatement wsX5_readRest := goodIn_r _ [120, 121, 122, 123, 124, 80, 81, 82, 5, 83, 7, 8, 9, 84, 85, 86, 87, 88, 2, 3, 4, 6, 89, 90, 91, 70, 71, 72, 73, 74, 75, 92, 93, 94, 95, 283, 284, 285, 286, 287, 288, 289, 290, 291, 292, 293, 294, 295, 296, 297, 298, 299, 300, 301, 302, 303, 304, 305, 306, 307, 308, 309, 310, 311, 312, 313, 314, 268, 269, 270, 271, 272, 273, 274, 275, 276, 277, 278] (by decide +kernel) (by decide +kernel)
set_option maxRecDepth 20000 in
theorem gX5_readStatement_X5_readRest : GoodIn wsX5_readStatement (wsV RX5 69 RX5 yX5_readRest wsX5_readRest) := goodIn_app (goodIn_of _ (by decide +kernel)) ggX5_readStatement_X5_readRest
set_option maxRecDepth 20000 in
theorem ggX5_readStatement_X5_readLot : GoodIn wsX5_readStatement wsX5_readLot := goodIn_r _ [128, 129, 70, 71, 72, 5, 73, 74, 75, 80, 81, 82, 83, 7, 8, 9, 84, 85, 86, 87, 88, 2, 3, 4, 6, 89, 90, 91, 92, 93, 94, 95, 130, 131, 132, 99, 133, 109, 134, 135, 136, 137, 138, 139, 140, 141, 142, 143, 144, 145, 146, 147, 148, 283, 284, 285, 286, 287, 288, 289, 290, 291, 292, 293, 294, 295, 296, 297, 298, 299, 268, 269, 270, 271, 272, 273, 274, 275, 276, 277, 278, 315, 316, 317, 318, 319, 320, 321, 322, 323, 324, 325, 326] (by decide +kernel) (by decide +kernel)
set_option maxRecDepth 20000 in
theorem gX5_readStatement_X5_readLot : GoodIn wsX5_readStatement (wsV RX5 72 RX5 yX5_readLot wsX5_readLot) := goodIn_app (goodIn_of _ (by decide +kernel)) ggX5_readStatement_X5_readLot
set_option maxRecDepth 20000 in
theorem ggX5_readStatement_X5_readCard : GoodIn wsX5_readStatement wsX5_readCard := goodIn_r _ [152, 153, 129, 70, 71, 72, 5, 73, 74, 75, 80, 81, 82, 83, 7, 8, 9, 84, 85, 86, 87, 88, 2, 3, 4, 6, 89, 90, 91, 92, 93, 94, 95, 154, 155, 156, 157, 158, 159, 14, 15, 16, 160, 161, 162, 163, 164, 165, 166, 167, 168, 169, 170, 171, 172, 173, 174, 175, 176, 177, 178, 179, 180, 181, 182, 183, 184, 185, 186, 187, 188, 115, 189, 190, 191, 192, 193, 194, 195, 196, 197, 198, 199, 200, 201, 99, 202, 110, 203, 134, 204, 205, 111, 206, 207, 208, 209, 210, 211, 212, 213, 214, 215, 216, 217, 218, 219, 283, 284, 285, 286, 287, 288, 289, 290, 291, 292, 293, 294, 295, 296, 297, 298, 299, 268, 269, 270, 271, 272, 273, 274, 275, 276, 277, 278, 315, 316, 317, 318, 319, 320, 321, 322, 323, 324, 325, 326, 327, 328, 329, 330, 331, 332, 333, 334, 335] (by decide +kernel) (by decide +kernel)
set_option maxRecDepth 20000 in
theorem gX5_readStatement_X5_readCard : GoodIn wsX5_readStatement (wsV RX5 76 RX5 yX5_readCard wsX5_readCard) := goodIn_app (goodIn_of _ (by decide +kernel)) ggX5_readStatement_X5_readCard
set_option maxRecDepth 20000 in
theorem ggX5_readStatement_X5_readStation : GoodIn wsX5_readStatement wsX5_readStation := goodIn_r _ [223, 121, 70, 71, 72, 5, 73, 74, 75, 224, 225, 226, 80, 81, 82, 83, 7, 8, 9, 84, 85, 86, 87, 88, 2, 3, 4, 6, 89, 90, 91, 227, 228, 229, 230, 92, 93, 94, 95, 231, 232, 115, 233, 190, 191, 192, 193, 194, 195, 234, 235, 236, 196, 197, 198, 180, 181, 182, 237, 238, 239, 240, 241, 242, 243, 244, 245, 99, 246, 108, 247, 248, 249, 250, 251, 252, 253, 254, 255, 256, 257, 258, 259, 260, 261, 262, 263, 264, 265, 266, 267, 283, 284, 285, 286, 287, 288, 289, 290, 291, 292, 293, 294, 295, 296, 297, 298, 299, 268, 269, 270, 271, 272, 273, 274, 275, 276, 277, 278, 336, 337, 338, 339, 300, 301, 302, 303, 304, 305, 306, 307, 308, 309, 310, 311, 312, 313, 314] (by decide +kernel) (by decide +kernel)
set_option maxRecDepth 20000 in
theorem gX5_readStatement_X5_readStation : GoodIn wsX5_readStatement (wsV RX5 79 RX5 yX5_readStation wsX5_readStation) := goodIn_app (goodIn_of _ (by decide +kernel)) ggX5_readStatement_X5_readStation
theorem dX5_readStatement_0 : decode cX5_readStatement 0 = .ok (.aload_n 0, 1) := by decide +kernel
theorem dX5_readStatement_1 : decode cX5_readStatement 1 = .ok (.invokevirtual 52, 3) := by decide +kernel
theorem dX5_readStatement_4 : decode cX5_readStatement 4 = .ok (.istore_n 2, 1) := by decide +kernel
theorem dX5_readStatement_5 : decode cX5_readStatement 5 = .ok (.aload_n 0, 1) := by decide +kernel
theorem dX5_readStatement_6 : decode cX5_readStatement 6 = .ok (.invokevirtual 63, 3) := by decide +kernel
theorem dX5_readStatement_9 : decode cX5_readStatement 9 = .ok (.istore_n 3, 1) := by decide +kernel
theorem dX5_readStatement_10 : decode cX5_readStatement 10 = .ok (.iload_n 3, 1) := by decide +kernel
theorem dX5_readStatement_11 : decode cX5_readStatement 11 = .ok (.iconst (-1), 1) := by decide +kernel
theorem dX5_readStatement_12 : decode cX5_readStatement 12 = .ok (.if_icmp .eq 28, 3) := by decide +kernel
theorem dX5_readStatement_15 : decode cX5_readStatement 15 = .ok (.iload_n 3, 1) := by decide +kernel
theorem dX5_readStatement_16 : decode cX5_readStatement 16 = .ok (.iconst 4, 1) := by decide +kernel
theorem dX5_readStatement_17 : decode cX5_readStatement 17 = .ok (.if_icmp .ne 7, 3) := by decide +kernel
theorem dX5_readStatement_20 : decode cX5_readStatement 20 = .ok (.iconst 1, 1) := by decide +kernel
theorem dX5_readStatement_21 : decode cX5_readStatement 21 = .ok (.goto 4, 3) := by decide +kernel
theorem dX5_readStatement_24 : decode cX5_readStatement 24 = .ok (.iconst 0, 1) := by decide +kernel
theorem dX5_readStatement_25 : decode cX5_readStatement 25 = .ok (.aload_n 0, 1) := by decide +kernel
theorem dX5_readStatement_26 : decode cX5_readStatement 26 = .ok (.getfield 38, 3) := by decide +kernel
theorem dX5_readStatement_29 : decode cX5_readStatement 29 = .ok (.ifCond .ne 7, 3) := by decide +kernel
theorem dX5_readStatement_32 : decode cX5_readStatement 32 = .ok (.iconst 1, 1) := by decide +kernel
theorem dX5_readStatement_33 : decode cX5_readStatement 33 = .ok (.goto 4, 3) := by decide +kernel
theorem dX5_readStatement_36 : decode cX5_readStatement 36 = .ok (.iconst 0, 1) := by decide +kernel
theorem dX5_readStatement_37 : decode cX5_readStatement 37 = .ok (.if_icmp .eq 10, 3) := by decide +kernel
theorem dX5_readStatement_40 : decode cX5_readStatement 40 = .ok (.aload_n 0, 1) := by decide +kernel
theorem dX5_readStatement_41 : decode cX5_readStatement 41 = .ok (.iconst 1, 1) := by decide +kernel
theorem dX5_readStatement_42 : decode cX5_readStatement 42 = .ok (.iload_n 2, 1) := by decide +kernel
theorem dX5_readStatement_43 : decode cX5_readStatement 43 = .ok (.invokevirtual 59, 3) := by decide +kernel
theorem dX5_readStatement_46 : decode cX5_readStatement 46 = .ok (.return_, 1) := by decide +kernel
theorem dX5_readStatement_47 : decode cX5_readStatement 47 = .ok (.iload_n 3, 1) := by decide +kernel
theorem dX5_readStatement_48 : decode cX5_readStatement 48 = .ok (.tableswitch 66 4 7 #[32, 40, 48, 57], 32) := by decide +kernel
theorem dX5_readStatement_80 : decode cX5_readStatement 80 = .ok (.aload_n 0, 1) := by decide +kernel
theorem dX5_readStatement_81 : decode cX5_readStatement 81 = .ok (.aload_n 1, 1) := by decide +kernel
theorem dX5_readStatement_82 : decode cX5_readStatement 82 = .ok (.invokevirtual 66, 3) := by decide +kernel
theorem dX5_readStatement_85 : decode cX5_readStatement 85 = .ok (.goto 36, 3) := by decide +kernel
theorem dX5_readStatement_88 : decode cX5_readStatement 88 = .ok (.aload_n 0, 1) := by decide +kernel
theorem dX5_readStatement_89 : decode cX5_readStatement 89 = .ok (.aload_n 1, 1) := by decide +kernel
theorem dX5_readStatement_90 : decode cX5_readStatement 90 = .ok (.invokevirtual 69, 3) := by decide +kernel
theorem dX5_readStatement_93 : decode cX5_readStatement 93 = .ok (.goto 28, 3) := by decide +kernel
theorem dX5_readStatement_96 : decode cX5_readStatement 96 = .ok (.aload_n 0, 1) := by decide +kernel
theorem dX5_readStatement_97 : decode cX5_readStatement 97 = .ok (.aload_n 1, 1) := by decide +kernel
theorem dX5_readStatement_98 : decode cX5_readStatement 98 = .ok (.iload_n 2, 1) := by decide +kernel
theorem dX5_readStatement_99 : decode cX5_readStatement 99 = .ok (.invokevirtual 72, 3) := by decide +kernel
theorem dX5_readStatement_102 : decode cX5_readStatement 102 = .ok (.goto 19, 3) := by decide +kernel
theorem dX5_readStatement_105 : decode cX5_readStatement 105 = .ok (.aload_n 0, 1) := by decide +kernel
theorem dX5_readStatement_106 : decode cX5_readStatement 106 = .ok (.aload_n 1, 1) := by decide +kernel
theorem dX5_readStatement_107 : decode cX5_readStatement 107 = .ok (.iload_n 2, 1) := by decide +kernel
theorem dX5_readStatement_108 : decode cX5_readStatement 108 = .ok (.invokevirtual 76, 3) := by decide +kernel
theorem dX5_readStatement_111 : decode cX5_readStatement 111 = .ok (.goto 10, 3) := by decide +kernel
theorem dX5_readStatement_114 : decode cX5_readStatement 114 = .ok (.aload_n 0, 1) := by decide +kernel
theorem dX5_readStatement_115 : decode cX5_readStatement 115 = .ok (.aload_n 1, 1) := by decide +kernel
theorem dX5_readStatement_116 : decode cX5_readStatement 116 = .ok (.iload_n 3, 1) := by decide +kernel
theorem dX5_readStatement_117 : decode cX5_readStatement 117 = .ok (.iload_n 2, 1) := by decide +kernel
theorem dX5_readStatement_118 : decode cX5_readStatement 118 = .ok (.invokevirtual 79, 3) := by decide +kernel
theorem dX5_readStatement_121 : decode cX5_readStatement 121 = .ok (.return_, 1) := by decide +kernel
set_option maxRecDepth 20000 in
theorem ggX5_readLine_X5_readNumber : GoodIn wsX5_readLine wsX5_readNumber := goodIn_r _ [5, 6, 7, 8, 9, 10, 11, 12, 13, 14, 15, 16, 4, 17, 18, 19, 20, 21, 22, 23, 24, 25, 26, 52, 53, 54, 55, 56, 57, 58, 59, 60, 61, 62] (by decide +kernel) (by decide +kernel)
set_option maxRecDepth 20000 in
theorem gX5_readLine_X5_readNumber : GoodIn wsX5_readLine (wsV RX5 83 RX5 yX5_readNumber wsX5_readNumber) := goodIn_app (goodIn_of _ (by decide +kernel)) ggX5_readLine_X5_readNumber
set_option maxRecDepth 20000 in
theorem ggX5_readLine_X5_isFine : GoodIn wsX5_readLine wsX5_isFine := goodIn_r _ [30, 25, 52, 53, 54, 55, 56, 57, 58, 59, 60, 61, 62] (by decide +kernel) (by decide +kernel)
set_option maxRecDepth 20000 in
theorem gX5_readLine_X5_isFine : GoodIn wsX5_readLine (wsV RX5 56 RX5 yX5_isFine wsX5_isFine) := goodIn_app (goodIn_of _ (by decide +kernel)) ggX5_readLine_X5_isFine
set_option maxRecDepth 20000 in
theorem ggX5_readLine_X3_begin : GoodIn wsX5_readLine wsX3_begin := goodIn_r _ [35, 36, 37, 38, 39, 40, 41, 42, 43, 44, 45, 46, 47, 48, 49, 50, 51, 63, 64, 65, 66, 67, 68, 69, 70, 71, 72, 73, 74, 75, 76, 77, 78, 79] (by decide +kernel) (by decide +kernel)
set_option maxRecDepth 20000 in
theorem gX5_readLine_X3_begin : GoodIn wsX5_readLine (wsV RX5 87 RX3 yX3_begin wsX3_begin) := goodIn_app (goodIn_of _ (by decide +kernel)) ggX5_readLine_X3_begin
theorem dX5_readLine_0 : decode cX5_readLine 0 = .ok (.aload_n 0, 1) := by decide +kernel
theorem dX5_readLine_1 : decode cX5_readLine 1 = .ok (.iconst 1, 1) := by decide +kernel
theorem dX5_readLine_2 : decode cX5_readLine 2 = .ok (.sipush 2000, 3) := by decide +kernel
theorem dX5_readLine_5 : decode cX5_readLine 5 = .ok (.invokevirtual 83, 3) := by decide +kernel
theorem dX5_readLine_8 : decode cX5_readLine 8 = .ok (.istore_n 2, 1) := by decide +kernel
theorem dX5_readLine_9 : decode cX5_readLine 9 = .ok (.aload_n 0, 1) := by decide +kernel
theorem dX5_readLine_10 : decode cX5_readLine 10 = .ok (.iconst 0, 1) := by decide +kernel
theorem dX5_readLine_11 : decode cX5_readLine 11 = .ok (.sipush 999, 3) := by decide +kernel
theorem dX5_readLine_14 : decode cX5_readLine 14 = .ok (.invokevirtual 83, 3) := by decide +kernel
theorem dX5_readLine_17 : decode cX5_readLine 17 = .ok (.istore_n 3, 1) := by decide +kernel
theorem dX5_readLine_18 : decode cX5_readLine 18 = .ok (.aload_n 0, 1) := by decide +kernel
theorem dX5_readLine_19 : decode cX5_readLine 19 = .ok (.iconst 1, 1) := by decide +kernel
theorem dX5_readLine_20 : decode cX5_readLine 20 = .ok (.bipush 20, 2) := by decide +kernel
theorem dX5_readLine_22 : decode cX5_readLine 22 = .ok (.invokevirtual 83, 3) := by decide +kernel
theorem dX5_readLine_25 : decode cX5_readLine 25 = .ok (.istore 4, 2) := by decide +kernel
theorem dX5_readLine_27 : decode cX5_readLine 27 = .ok (.aload_n 0, 1) := by decide +kernel
theorem dX5_readLine_28 : decode cX5_readLine 28 = .ok (.iconst 1, 1) := by decide +kernel
theorem dX5_readLine_29 : decode cX5_readLine 29 = .ok (.bipush 9, 2) := by decide +kernel
theorem dX5_readLine_31 : decode cX5_readLine 31 = .ok (.invokevirtual 83, 3) := by decide +kernel
theorem dX5_readLine_34 : decode cX5_readLine 34 = .ok (.istore 5, 2) := by decide +kernel
theorem dX5_readLine_36 : decode cX5_readLine 36 = .ok (.aload_n 0, 1) := by decide +kernel
theorem dX5_readLine_37 : decode cX5_readLine 37 = .ok (.invokevirtual 56, 3) := by decide +kernel
theorem dX5_readLine_40 : decode cX5_readLine 40 = .ok (.ifCond .eq 13, 3) := by decide +kernel
theorem dX5_readLine_43 : decode cX5_readLine 43 = .ok (.aload_n 1, 1) := by decide +kernel
theorem dX5_readLine_44 : decode cX5_readLine 44 = .ok (.iload_n 2, 1) := by decide +kernel
theorem dX5_readLine_45 : decode cX5_readLine 45 = .ok (.iload_n 3, 1) := by decide +kernel
theorem dX5_readLine_46 : decode cX5_readLine 46 = .ok (.iload 4, 2) := by decide +kernel
theorem dX5_readLine_48 : decode cX5_readLine 48 = .ok (.iload 5, 2) := by decide +kernel
theorem dX5_readLine_50 : decode cX5_readLine 50 = .ok (.invokevirtual 87, 3) := by decide +kernel
theorem dX5_readLine_53 : decode cX5_readLine 53 = .ok (.return_, 1) := by decide +kernel
set_option maxRecDepth 20000 in
theorem ggX5_readStation_X5_error : GoodIn wsX5_readStation wsX5_error := goodIn_r _ [6, 7, 8, 108, 109, 110, 111, 112, 113, 114, 115, 116, 117, 118] (by decide +kernel) (by decide +kernel)
set_option maxRecDepth 20000 in
theorem gX5_readStation_X5_error : GoodIn wsX5_readStation (wsV RX5 59 RX5 yX5_error wsX5_error) := goodIn_app (goodIn_of _ (by decide +kernel)) ggX5_readStation_X5_error
set_option maxRecDepth 20000 in
theorem ggX5_readStation_X7_mostPace : GoodIn wsX5_readStation wsX7_mostPace := goodIn_r _ [11] (by decide +kernel) (by decide +kernel)
set_option maxRecDepth 20000 in
theorem gX5_readStation_X7_mostPace_n96 : GoodIn wsX5_readStation (wsX7_mostPace) := ggX5_readStation_X7_mostPace
set_option maxRecDepth 20000 in
theorem ggX5_readStation_X5_readNumber : GoodIn wsX5_readStation wsX5_readNumber := goodIn_r _ [15, 16, 17, 18, 19, 20, 21, 22, 23, 24, 25, 26, 5, 27, 28, 29, 30, 2, 3, 4, 6, 7, 8, 108, 109, 110, 111, 112, 113, 114, 115, 116, 117, 118] (by decide +kernel) (by decide +kernel)
set_option maxRecDepth 20000 in
theorem gX5_readStation_X5_readNumber : GoodIn wsX5_readStation (wsV RX5 83 RX5 yX5_readNumber wsX5_readNumber) := goodIn_app (goodIn_of _ (by decide +kernel)) ggX5_readStation_X5_readNumber
set_option maxRecDepth 20000 in
theorem ggX5_readStation_X5_readScript : GoodIn wsX5_readStation wsX5_readScript := goodIn_r _ [34, 16, 17, 18, 24, 25, 26, 5, 27, 28, 29, 30, 2, 3, 4, 6, 7, 8, 35, 36, 37, 38, 39, 40, 41, 42, 43, 44, 45, 46, 47, 48, 49, 50, 51, 52, 53, 21, 22, 23, 54, 55, 56, 57, 58, 59, 60, 61, 62, 63, 108, 109, 110, 111, 112, 113, 114, 115, 116, 117, 118, 119, 120, 121, 122] (by decide +kernel) (by decide +kernel)
set_option maxRecDepth 20000 in
theorem gX5_readStation_X5_readScript : GoodIn wsX5_readStation (wsV RX5 100 RX5 yX5_readScript wsX5_readScript) := goodIn_app (goodIn_of _ (by decide +kernel)) ggX5_readStation_X5_readScript
set_option maxRecDepth 20000 in
theorem ggX5_readStation_X5_isFine : GoodIn wsX5_readStation wsX5_isFine := goodIn_r _ [38, 7, 108, 109, 110, 111, 112, 113, 114, 115, 116, 117, 118] (by decide +kernel) (by decide +kernel)
set_option maxRecDepth 20000 in
theorem gX5_readStation_X5_isFine : GoodIn wsX5_readStation (wsV RX5 56 RX5 yX5_isFine wsX5_isFine) := goodIn_app (goodIn_of _ (by decide +kernel)) ggX5_readStation_X5_isFine
set_option maxRecDepth 20000 in
theorem ggX5_readStation_X3_addStation : GoodIn wsX5_readStation wsX3_addStation := goodIn_r _ [68, 69, 70, 71, 72, 73, 74, 75, 76, 77, 78, 79, 80, 81, 82, 83, 84, 85, 86, 87, 88, 89, 90, 91, 92, 93, 94, 95, 96, 97, 98, 99, 100, 101, 102, 103, 104, 105, 106, 107, 123, 124, 125, 126, 127, 128, 129, 130, 131, 132, 133, 134, 135, 136, 137] (by decide +kernel) (by decide +kernel)
set_option maxRecDepth 20000 in
theorem gX5_readStation_X3_addStation : GoodIn wsX5_readStation (wsV RX5 104 RX3 yX3_addStation wsX3_addStation) := goodIn_app (goodIn_of _ (by decide +kernel)) ggX5_readStation_X3_addStation
theorem dX5_readStation_0 : decode cX5_readStation 0 = .ok (.aload_n 1, 1) := by decide +kernel
theorem dX5_readStation_1 : decode cX5_readStation 1 = .ok (.getfield 93, 3) := by decide +kernel
theorem dX5_readStation_4 : decode cX5_readStation 4 = .ok (.bipush 6, 2) := by decide +kernel
theorem dX5_readStation_6 : decode cX5_readStation 6 = .ok (.if_icmp .lt 10, 3) := by decide +kernel
theorem dX5_readStation_9 : decode cX5_readStation 9 = .ok (.aload_n 0, 1) := by decide +kernel
theorem dX5_readStation_10 : decode cX5_readStation 10 = .ok (.iconst 4, 1) := by decide +kernel
theorem dX5_readStation_11 : decode cX5_readStation 11 = .ok (.iload_n 3, 1) := by decide +kernel
theorem dX5_readStation_12 : decode cX5_readStation 12 = .ok (.invokevirtual 59, 3) := by decide +kernel
theorem dX5_readStation_15 : decode cX5_readStation 15 = .ok (.return_, 1) := by decide +kernel
theorem dX5_readStation_16 : decode cX5_readStation 16 = .ok (.aload_n 0, 1) := by decide +kernel
theorem dX5_readStation_17 : decode cX5_readStation 17 = .ok (.iconst 1, 1) := by decide +kernel
theorem dX5_readStation_18 : decode cX5_readStation 18 = .ok (.iload_n 2, 1) := by decide +kernel
theorem dX5_readStation_19 : decode cX5_readStation 19 = .ok (.invokestatic 96, 3) := by decide +kernel
theorem dX5_readStation_22 : decode cX5_readStation 22 = .ok (.invokevirtual 83, 3) := by decide +kernel
theorem dX5_readStation_25 : decode cX5_readStation 25 = .ok (.istore 4, 2) := by decide +kernel
theorem dX5_readStation_27 : decode cX5_readStation 27 = .ok (.aload_n 0, 1) := by decide +kernel
theorem dX5_readStation_28 : decode cX5_readStation 28 = .ok (.invokevirtual 100, 3) := by decide +kernel
theorem dX5_readStation_31 : decode cX5_readStation 31 = .ok (.astore 5, 2) := by decide +kernel
theorem dX5_readStation_33 : decode cX5_readStation 33 = .ok (.aload_n 0, 1) := by decide +kernel
theorem dX5_readStation_34 : decode cX5_readStation 34 = .ok (.invokevirtual 56, 3) := by decide +kernel
theorem dX5_readStation_37 : decode cX5_readStation 37 = .ok (.ifCond .eq 12, 3) := by decide +kernel
theorem dX5_readStation_40 : decode cX5_readStation 40 = .ok (.aload_n 1, 1) := by decide +kernel
theorem dX5_readStation_41 : decode cX5_readStation 41 = .ok (.iload_n 2, 1) := by decide +kernel
theorem dX5_readStation_42 : decode cX5_readStation 42 = .ok (.iload 4, 2) := by decide +kernel
theorem dX5_readStation_44 : decode cX5_readStation 44 = .ok (.aload 5, 2) := by decide +kernel
theorem dX5_readStation_46 : decode cX5_readStation 46 = .ok (.invokevirtual 104, 3) := by decide +kernel
theorem dX5_readStation_49 : decode cX5_readStation 49 = .ok (.return_, 1) := by decide +kernel
set_option maxRecDepth 20000 in
theorem ggX5_readRest_X5_readNumber : GoodIn wsX5_readRest wsX5_readNumber := goodIn_r _ [9, 10, 11, 12, 13, 14, 15, 16, 17, 18, 19, 20, 8, 21, 22, 23, 24, 25, 26, 27, 28, 29, 30, 67, 68, 69, 70, 71, 72, 73, 74, 75, 76, 77] (by decide +kernel) (by decide +kernel)
set_option maxRecDepth 20000 in
theorem gX5_readRest_X5_readNumber : GoodIn wsX5_readRest (wsV RX5 83 RX5 yX5_readNumber wsX5_readNumber) := goodIn_app (goodIn_of _ (by decide +kernel)) ggX5_readRest_X5_readNumber
set_option maxRecDepth 20000 in
theorem ggX5_readRest_X5_isFine : GoodIn wsX5_readRest wsX5_isFine := goodIn_r _ [34, 29, 67, 68, 69, 70, 71, 72, 73, 74, 75, 76, 77] (by decide +kernel) (by decide +kernel)
set_option maxRecDepth 20000 in
theorem gX5_readRest_X5_isFine : GoodIn wsX5_readRest (wsV RX5 56 RX5 yX5_isFine wsX5_isFine) := goodIn_app (goodIn_of _ (by decide +kernel)) ggX5_readRest_X5_isFine
theorem dX5_readRest_0 : decode cX5_readRest 0 = .ok (.aload_n 0, 1) := by decide +kernel
theorem dX5_readRest_1 : decode cX5_readRest 1 = .ok (.iconst 0, 1) := by decide +kernel
theorem dX5_readRest_2 : decode cX5_readRest 2 = .ok (.aload_n 1, 1) := by decide +kernel
theorem dX5_readRest_3 : decode cX5_readRest 3 = .ok (.getfield 93, 3) := by decide +kernel
theorem dX5_readRest_6 : decode cX5_readRest 6 = .ok (.iconst 1, 1) := by decide +kernel
theorem dX5_readRest_7 : decode cX5_readRest 7 = .ok (.isub, 1) := by decide +kernel
theorem dX5_readRest_8 : decode cX5_readRest 8 = .ok (.invokevirtual 83, 3) := by decide +kernel
theorem dX5_readRest_11 : decode cX5_readRest 11 = .ok (.istore_n 2, 1) := by decide +kernel
theorem dX5_readRest_12 : decode cX5_readRest 12 = .ok (.aload_n 0, 1) := by decide +kernel
theorem dX5_readRest_13 : decode cX5_readRest 13 = .ok (.iconst 1, 1) := by decide +kernel
theorem dX5_readRest_14 : decode cX5_readRest 14 = .ok (.bipush 99, 2) := by decide +kernel
theorem dX5_readRest_16 : decode cX5_readRest 16 = .ok (.invokevirtual 83, 3) := by decide +kernel
theorem dX5_readRest_19 : decode cX5_readRest 19 = .ok (.istore_n 3, 1) := by decide +kernel
theorem dX5_readRest_20 : decode cX5_readRest 20 = .ok (.aload_n 0, 1) := by decide +kernel
theorem dX5_readRest_21 : decode cX5_readRest 21 = .ok (.iconst 1, 1) := by decide +kernel
theorem dX5_readRest_22 : decode cX5_readRest 22 = .ok (.bipush 99, 2) := by decide +kernel
theorem dX5_readRest_24 : decode cX5_readRest 24 = .ok (.invokevirtual 83, 3) := by decide +kernel
theorem dX5_readRest_27 : decode cX5_readRest 27 = .ok (.istore 4, 2) := by decide +kernel
theorem dX5_readRest_29 : decode cX5_readRest 29 = .ok (.aload_n 0, 1) := by decide +kernel
theorem dX5_readRest_30 : decode cX5_readRest 30 = .ok (.invokevirtual 56, 3) := by decide +kernel
theorem dX5_readRest_33 : decode cX5_readRest 33 = .ok (.ifCond .eq 24, 3) := by decide +kernel
theorem dX5_readRest_36 : decode cX5_readRest 36 = .ok (.aload_n 1, 1) := by decide +kernel
theorem dX5_readRest_37 : decode cX5_readRest 37 = .ok (.getfield 108, 3) := by decide +kernel
theorem dX5_readRest_40 : decode cX5_readRest 40 = .ok (.iload_n 2, 1) := by decide +kernel
theorem dX5_readRest_41 : decode cX5_readRest 41 = .ok (.aaload, 1) := by decide +kernel
theorem dX5_readRest_42 : decode cX5_readRest 42 = .ok (.iload_n 3, 1) := by decide +kernel
theorem dX5_readRest_43 : decode cX5_readRest 43 = .ok (.putfield 112, 3) := by decide +kernel
theorem dX5_readRest_46 : decode cX5_readRest 46 = .ok (.aload_n 1, 1) := by decide +kernel
theorem dX5_readRest_47 : decode cX5_readRest 47 = .ok (.getfield 108, 3) := by decide +kernel
theorem dX5_readRest_50 : decode cX5_readRest 50 = .ok (.iload_n 2, 1) := by decide +kernel
theorem dX5_readRest_51 : decode cX5_readRest 51 = .ok (.aaload, 1) := by decide +kernel
theorem dX5_readRest_52 : decode cX5_readRest 52 = .ok (.iload 4, 2) := by decide +kernel
theorem dX5_readRest_54 : decode cX5_readRest 54 = .ok (.putfield 117, 3) := by decide +kernel
theorem dX5_readRest_57 : decode cX5_readRest 57 = .ok (.return_, 1) := by decide +kernel
set_option maxRecDepth 20000 in
theorem ggX5_readLot_X5_error : GoodIn wsX5_readLot wsX5_error := goodIn_r _ [6, 7, 8, 70, 71, 72, 73, 74, 75, 76, 77, 78, 79, 80] (by decide +kernel) (by decide +kernel)
set_option maxRecDepth 20000 in
theorem gX5_readLot_X5_error : GoodIn wsX5_readLot (wsV RX5 59 RX5 yX5_error wsX5_error) := goodIn_app (goodIn_of _ (by decide +kernel)) ggX5_readLot_X5_error
set_option maxRecDepth 20000 in
theorem ggX5_readLot_X5_readNumber : GoodIn wsX5_readLot wsX5_readNumber := goodIn_r _ [12, 13, 14, 15, 16, 17, 18, 19, 20, 21, 22, 23, 5, 24, 25, 26, 27, 2, 3, 4, 6, 7, 8, 70, 71, 72, 73, 74, 75, 76, 77, 78, 79, 80] (by decide +kernel) (by decide +kernel)
set_option maxRecDepth 20000 in
theorem gX5_readLot_X5_readNumber : GoodIn wsX5_readLot (wsV RX5 83 RX5 yX5_readNumber wsX5_readNumber) := goodIn_app (goodIn_of _ (by decide +kernel)) ggX5_readLot_X5_readNumber
set_option maxRecDepth 20000 in
theorem ggX5_readLot_X5_isFine : GoodIn wsX5_readLot wsX5_isFine := goodIn_r _ [31, 7, 70, 71, 72, 73, 74, 75, 76, 77, 78, 79, 80] (by decide +kernel) (by decide +kernel)
set_option maxRecDepth 20000 in
theorem gX5_readLot_X5_isFine : GoodIn wsX5_readLot (wsV RX5 56 RX5 yX5_isFine wsX5_isFine) := goodIn_app (goodIn_of _ (by decide +kernel)) ggX5_readLot_X5_isFine
set_option maxRecDepth 20000 in
theorem ggX5_readLot_X3_addLot : GoodIn wsX5_readLot wsX3_addLot := goodIn_r _ [36, 37, 38, 39, 40, 41, 42, 43, 44, 45, 46, 47, 48, 49, 50, 51, 52, 53, 54, 55, 56, 57, 58, 59, 60, 61, 62, 63, 64, 65, 66, 67, 68, 69, 81, 82, 83, 84, 85, 86, 87, 88, 89, 90, 91, 92] (by decide +kernel) (by decide +kernel)
set_option maxRecDepth 20000 in
theorem gX5_readLot_X3_addLot : GoodIn wsX5_readLot (wsV RX5 123 RX3 yX3_addLot wsX3_addLot) := goodIn_app (goodIn_of _ (by decide +kernel)) ggX5_readLot_X3_addLot
theorem dX5_readLot_0 : decode cX5_readLot 0 = .ok (.aload_n 1, 1) := by decide +kernel
theorem dX5_readLot_1 : decode cX5_readLot 1 = .ok (.getfield 120, 3) := by decide +kernel
theorem dX5_readLot_4 : decode cX5_readLot 4 = .ok (.bipush 6, 2) := by decide +kernel
theorem dX5_readLot_6 : decode cX5_readLot 6 = .ok (.if_icmp .lt 10, 3) := by decide +kernel
theorem dX5_readLot_9 : decode cX5_readLot 9 = .ok (.aload_n 0, 1) := by decide +kernel
theorem dX5_readLot_10 : decode cX5_readLot 10 = .ok (.iconst 4, 1) := by decide +kernel
theorem dX5_readLot_11 : decode cX5_readLot 11 = .ok (.iload_n 2, 1) := by decide +kernel
theorem dX5_readLot_12 : decode cX5_readLot 12 = .ok (.invokevirtual 59, 3) := by decide +kernel
theorem dX5_readLot_15 : decode cX5_readLot 15 = .ok (.return_, 1) := by decide +kernel
theorem dX5_readLot_16 : decode cX5_readLot 16 = .ok (.aload_n 0, 1) := by decide +kernel
theorem dX5_readLot_17 : decode cX5_readLot 17 = .ok (.iconst 0, 1) := by decide +kernel
theorem dX5_readLot_18 : decode cX5_readLot 18 = .ok (.bipush 9, 2) := by decide +kernel
theorem dX5_readLot_20 : decode cX5_readLot 20 = .ok (.invokevirtual 83, 3) := by decide +kernel
theorem dX5_readLot_23 : decode cX5_readLot 23 = .ok (.istore_n 3, 1) := by decide +kernel
theorem dX5_readLot_24 : decode cX5_readLot 24 = .ok (.aload_n 0, 1) := by decide +kernel
theorem dX5_readLot_25 : decode cX5_readLot 25 = .ok (.invokevirtual 56, 3) := by decide +kernel
theorem dX5_readLot_28 : decode cX5_readLot 28 = .ok (.ifCond .eq 8, 3) := by decide +kernel
theorem dX5_readLot_31 : decode cX5_readLot 31 = .ok (.aload_n 1, 1) := by decide +kernel
theorem dX5_readLot_32 : decode cX5_readLot 32 = .ok (.iload_n 3, 1) := by decide +kernel
theorem dX5_readLot_33 : decode cX5_readLot 33 = .ok (.invokevirtual 123, 3) := by decide +kernel
theorem dX5_readLot_36 : decode cX5_readLot 36 = .ok (.return_, 1) := by decide +kernel
set_option maxRecDepth 20000 in
theorem ggX5_readCard_X5_error : GoodIn wsX5_readCard wsX5_error := goodIn_r _ [7, 8, 9, 124, 125, 126, 127, 128, 129, 130, 131, 132, 133, 134] (by decide +kernel) (by decide +kernel)
set_option maxRecDepth 20000 in
theorem gX5_readCard_X5_error : GoodIn wsX5_readCard (wsV RX5 59 RX5 yX5_error wsX5_error) := goodIn_app (goodIn_of _ (by decide +kernel)) ggX5_readCard_X5_error
set_option maxRecDepth 20000 in
theorem ggX5_readCard_X5_readNumber : GoodIn wsX5_readCard wsX5_readNumber := goodIn_r _ [13, 14, 15, 16, 17, 18, 19, 20, 21, 22, 23, 24, 6, 25, 26, 27, 28, 3, 4, 5, 7, 8, 9, 124, 125, 126, 127, 128, 129, 130, 131, 132, 133, 134] (by decide +kernel) (by decide +kernel)
set_option maxRecDepth 20000 in
theorem gX5_readCard_X5_readNumber : GoodIn wsX5_readCard (wsV RX5 83 RX5 yX5_readNumber wsX5_readNumber) := goodIn_app (goodIn_of _ (by decide +kernel)) ggX5_readCard_X5_readNumber
set_option maxRecDepth 20000 in
theorem ggX5_readCard_X5_isFine : GoodIn wsX5_readCard wsX5_isFine := goodIn_r _ [32, 8, 124, 125, 126, 127, 128, 129, 130, 131, 132, 133, 134] (by decide +kernel) (by decide +kernel)
set_option maxRecDepth 20000 in
theorem gX5_readCard_X5_isFine : GoodIn wsX5_readCard (wsV RX5 56 RX5 yX5_isFine wsX5_isFine) := goodIn_app (goodIn_of _ (by decide +kernel)) ggX5_readCard_X5_isFine
set_option maxRecDepth 20000 in
theorem ggX5_readCard_X5_readText : GoodIn wsX5_readCard wsX5_readText := goodIn_r _ [36, 37, 38, 15, 14, 16, 22, 23, 24, 6, 25, 29, 30, 31, 32, 8, 39, 40, 41, 42, 43, 44, 45, 46, 47, 48, 49, 50, 51, 3, 4, 5, 7, 9, 26, 27, 28, 10, 11, 12, 13, 17, 18, 19, 20, 21, 52, 53, 54, 55, 56, 57, 58, 59, 60, 61, 62, 63, 64, 124, 125, 126, 127, 128, 129, 130, 131, 132, 133, 134] (by decide +kernel) (by decide +kernel)
set_option maxRecDepth 20000 in
theorem gX5_readCard_X5_readText : GoodIn wsX5_readCard (wsV RX5 130 RX5 yX5_readText wsX5_readText) := goodIn_app (goodIn_of _ (by decide +kernel)) ggX5_readCard_X5_readText
set_option maxRecDepth 20000 in
theorem ggX5_readCard_X5_textRead : GoodIn wsX5_readCard wsX5_textRead := goodIn_r _ [68, 46, 37, 69, 70, 71, 72, 73, 74, 75, 76, 77, 78, 79, 80, 19, 20, 21, 81, 62, 63, 64, 124, 125, 126, 127, 128, 129, 130, 131, 132, 133, 134] (by decide +kernel) (by decide +kernel)
set_option maxRecDepth 20000 in
theorem gX5_readCard_X5_textRead : GoodIn wsX5_readCard (wsV RX5 133 RX5 yX5_textRead wsX5_textRead) := goodIn_app (goodIn_of _ (by decide +kernel)) ggX5_readCard_X5_textRead
set_option maxRecDepth 20000 in
theorem ggX5_readCard_X3_addCard : GoodIn wsX5_readCard wsX3_addCard := goodIn_r _ [86, 87, 88, 89, 90, 91, 92, 93, 94, 95, 96, 97, 98, 99, 100, 101, 102, 103, 104, 105, 106, 107, 108, 109, 110, 111, 112, 113, 114, 115, 116, 117, 118, 119, 120, 121, 122, 123, 135, 136, 137, 138, 139, 140, 141, 142, 143, 144, 145, 146, 147, 148, 149, 150, 151, 152, 153, 154, 155] (by decide +kernel) (by decide +kernel)
set_option maxRecDepth 20000 in
theorem gX5_readCard_X3_addCard : GoodIn wsX5_readCard (wsV RX5 136 RX3 yX3_addCard wsX3_addCard) := goodIn_app (goodIn_of _ (by decide +kernel)) ggX5_readCard_X3_addCard
theorem dX5_readCard_0 : decode cX5_readCard 0 = .ok (.aload_n 1, 1) := by decide +kernel
theorem dX5_readCard_1 : decode cX5_readCard 1 = .ok (.getfield 127, 3) := by decide +kernel
theorem dX5_readCard_4 : decode cX5_readCard 4 = .ok (.bipush 30, 2) := by decide +kernel
theorem dX5_readCard_6 : decode cX5_readCard 6 = .ok (.if_icmp .lt 10, 3) := by decide +kernel
theorem dX5_readCard_9 : decode cX5_readCard 9 = .ok (.aload_n 0, 1) := by decide +kernel
theorem dX5_readCard_10 : decode cX5_readCard 10 = .ok (.iconst 4, 1) := by decide +kernel
theorem dX5_readCard_11 : decode cX5_readCard 11 = .ok (.iload_n 2, 1) := by decide +kernel
theorem dX5_readCard_12 : decode cX5_readCard 12 = .ok (.invokevirtual 59, 3) := by decide +kernel
theorem dX5_readCard_15 : decode cX5_readCard 15 = .ok (.return_, 1) := by decide +kernel
theorem dX5_readCard_16 : decode cX5_readCard 16 = .ok (.aload_n 0, 1) := by decide +kernel
theorem dX5_readCard_17 : decode cX5_readCard 17 = .ok (.iconst 0, 1) := by decide +kernel
theorem dX5_readCard_18 : decode cX5_readCard 18 = .ok (.aload_n 1, 1) := by decide +kernel
theorem dX5_readCard_19 : decode cX5_readCard 19 = .ok (.getfield 120, 3) := by decide +kernel
theorem dX5_readCard_22 : decode cX5_readCard 22 = .ok (.iconst 1, 1) := by decide +kernel
theorem dX5_readCard_23 : decode cX5_readCard 23 = .ok (.isub, 1) := by decide +kernel
theorem dX5_readCard_24 : decode cX5_readCard 24 = .ok (.invokevirtual 83, 3) := by decide +kernel
theorem dX5_readCard_27 : decode cX5_readCard 27 = .ok (.istore_n 3, 1) := by decide +kernel
theorem dX5_readCard_28 : decode cX5_readCard 28 = .ok (.aload_n 0, 1) := by decide +kernel
theorem dX5_readCard_29 : decode cX5_readCard 29 = .ok (.invokevirtual 56, 3) := by decide +kernel
theorem dX5_readCard_32 : decode cX5_readCard 32 = .ok (.ifCond .eq 7, 3) := by decide +kernel
theorem dX5_readCard_35 : decode cX5_readCard 35 = .ok (.aload_n 0, 1) := by decide +kernel
theorem dX5_readCard_36 : decode cX5_readCard 36 = .ok (.invokevirtual 130, 3) := by decide +kernel
theorem dX5_readCard_39 : decode cX5_readCard 39 = .ok (.aload_n 0, 1) := by decide +kernel
theorem dX5_readCard_40 : decode cX5_readCard 40 = .ok (.invokevirtual 56, 3) := by decide +kernel
theorem dX5_readCard_43 : decode cX5_readCard 43 = .ok (.ifCond .eq 12, 3) := by decide +kernel
theorem dX5_readCard_46 : decode cX5_readCard 46 = .ok (.aload_n 1, 1) := by decide +kernel
theorem dX5_readCard_47 : decode cX5_readCard 47 = .ok (.iload_n 3, 1) := by decide +kernel
theorem dX5_readCard_48 : decode cX5_readCard 48 = .ok (.aload_n 0, 1) := by decide +kernel
theorem dX5_readCard_49 : decode cX5_readCard 49 = .ok (.invokevirtual 133, 3) := by decide +kernel
theorem dX5_readCard_52 : decode cX5_readCard 52 = .ok (.invokevirtual 136, 3) := by decide +kernel
theorem dX5_readCard_55 : decode cX5_readCard 55 = .ok (.return_, 1) := by decide +kernel
theorem dX5_skipSpaces_0 : decode cX5_skipSpaces 0 = .ok (.aload_n 0, 1) := by decide +kernel
theorem dX5_skipSpaces_1 : decode cX5_skipSpaces 1 = .ok (.getfield 29, 3) := by decide +kernel
theorem dX5_skipSpaces_4 : decode cX5_skipSpaces 4 = .ok (.aload_n 0, 1) := by decide +kernel
theorem dX5_skipSpaces_5 : decode cX5_skipSpaces 5 = .ok (.getfield 25, 3) := by decide +kernel
theorem dX5_skipSpaces_8 : decode cX5_skipSpaces 8 = .ok (.if_icmp .ge 30, 3) := by decide +kernel
theorem dX5_skipSpaces_11 : decode cX5_skipSpaces 11 = .ok (.aload_n 0, 1) := by decide +kernel
theorem dX5_skipSpaces_12 : decode cX5_skipSpaces 12 = .ok (.getfield 9, 3) := by decide +kernel
theorem dX5_skipSpaces_15 : decode cX5_skipSpaces 15 = .ok (.aload_n 0, 1) := by decide +kernel
theorem dX5_skipSpaces_16 : decode cX5_skipSpaces 16 = .ok (.getfield 29, 3) := by decide +kernel
theorem dX5_skipSpaces_19 : decode cX5_skipSpaces 19 = .ok (.baload, 1) := by decide +kernel
theorem dX5_skipSpaces_20 : decode cX5_skipSpaces 20 = .ok (.bipush 32, 2) := by decide +kernel
theorem dX5_skipSpaces_22 : decode cX5_skipSpaces 22 = .ok (.if_icmp .ne 16, 3) := by decide +kernel
theorem dX5_skipSpaces_25 : decode cX5_skipSpaces 25 = .ok (.aload_n 0, 1) := by decide +kernel
theorem dX5_skipSpaces_26 : decode cX5_skipSpaces 26 = .ok (.dup, 1) := by decide +kernel
theorem dX5_skipSpaces_27 : decode cX5_skipSpaces 27 = .ok (.getfield 29, 3) := by decide +kernel
theorem dX5_skipSpaces_30 : decode cX5_skipSpaces 30 = .ok (.iconst 1, 1) := by decide +kernel
theorem dX5_skipSpaces_31 : decode cX5_skipSpaces 31 = .ok (.iadd, 1) := by decide +kernel
theorem dX5_skipSpaces_32 : decode cX5_skipSpaces 32 = .ok (.putfield 29, 3) := by decide +kernel
theorem dX5_skipSpaces_35 : decode cX5_skipSpaces 35 = .ok (.goto (-35), 3) := by decide +kernel
theorem dX5_skipSpaces_38 : decode cX5_skipSpaces 38 = .ok (.aload_n 0, 1) := by decide +kernel
theorem dX5_skipSpaces_39 : decode cX5_skipSpaces 39 = .ok (.getfield 29, 3) := by decide +kernel
theorem dX5_skipSpaces_42 : decode cX5_skipSpaces 42 = .ok (.ireturn, 1) := by decide +kernel
theorem dX5_isLetter_0 : decode cX5_isLetter 0 = .ok (.iload_n 0, 1) := by decide +kernel
theorem dX5_isLetter_1 : decode cX5_isLetter 1 = .ok (.bipush 97, 2) := by decide +kernel
theorem dX5_isLetter_3 : decode cX5_isLetter 3 = .ok (.if_icmp .lt 13, 3) := by decide +kernel
theorem dX5_isLetter_6 : decode cX5_isLetter 6 = .ok (.iload_n 0, 1) := by decide +kernel
theorem dX5_isLetter_7 : decode cX5_isLetter 7 = .ok (.bipush 122, 2) := by decide +kernel
theorem dX5_isLetter_9 : decode cX5_isLetter 9 = .ok (.if_icmp .gt 7, 3) := by decide +kernel
theorem dX5_isLetter_12 : decode cX5_isLetter 12 = .ok (.iconst 1, 1) := by decide +kernel
theorem dX5_isLetter_13 : decode cX5_isLetter 13 = .ok (.goto 4, 3) := by decide +kernel
theorem dX5_isLetter_16 : decode cX5_isLetter 16 = .ok (.iconst 0, 1) := by decide +kernel
theorem dX5_isLetter_17 : decode cX5_isLetter 17 = .ok (.ireturn, 1) := by decide +kernel
theorem dX5_isDigit_0 : decode cX5_isDigit 0 = .ok (.iload_n 0, 1) := by decide +kernel
theorem dX5_isDigit_1 : decode cX5_isDigit 1 = .ok (.bipush 48, 2) := by decide +kernel
theorem dX5_isDigit_3 : decode cX5_isDigit 3 = .ok (.if_icmp .lt 13, 3) := by decide +kernel
theorem dX5_isDigit_6 : decode cX5_isDigit 6 = .ok (.iload_n 0, 1) := by decide +kernel
theorem dX5_isDigit_7 : decode cX5_isDigit 7 = .ok (.bipush 57, 2) := by decide +kernel
theorem dX5_isDigit_9 : decode cX5_isDigit 9 = .ok (.if_icmp .gt 7, 3) := by decide +kernel
theorem dX5_isDigit_12 : decode cX5_isDigit 12 = .ok (.iconst 1, 1) := by decide +kernel
theorem dX5_isDigit_13 : decode cX5_isDigit 13 = .ok (.goto 4, 3) := by decide +kernel
theorem dX5_isDigit_16 : decode cX5_isDigit 16 = .ok (.iconst 0, 1) := by decide +kernel
theorem dX5_isDigit_17 : decode cX5_isDigit 17 = .ok (.ireturn, 1) := by decide +kernel
set_option maxRecDepth 20000 in
theorem ggX5_readWord_X5_isLetter : GoodIn wsX5_readWord wsX5_isLetter := goodIn_r _ [7] (by decide +kernel) (by decide +kernel)
set_option maxRecDepth 20000 in
theorem gX5_readWord_X5_isLetter : GoodIn wsX5_readWord (va_wsS RX5 140 yX5_isLetter wsX5_isLetter) := goodIn_app (goodIn_of _ (by decide +kernel)) ggX5_readWord_X5_isLetter
set_option maxRecDepth 20000 in
theorem ggX5_readWord_X5_stands : GoodIn wsX5_readWord wsX5_stands := goodIn_r _ [11, 1, 3, 12, 13, 14, 15, 16, 17, 18, 19, 20, 21, 22, 23, 24, 25, 26, 27, 28, 29, 30, 31, 32, 33, 34, 35, 36, 37, 38, 39, 40, 41, 42, 43, 44, 45, 46, 47, 48, 49, 50, 51, 52, 53, 54, 55, 56, 57, 58, 59, 60, 61, 62, 63, 64, 65, 66, 67, 68, 69, 70, 71, 72, 73, 74, 75] (by decide +kernel) (by decide +kernel)
set_option maxRecDepth 20000 in
theorem gX5_readWord_X5_stands : GoodIn wsX5_readWord (wsV RX5 146 RX5 yX5_stands wsX5_stands) := goodIn_app (goodIn_of _ (by decide +kernel)) ggX5_readWord_X5_stands
theorem dX5_readWord_0 : decode cX5_readWord 0 = .ok (.aload_n 0, 1) := by decide +kernel
theorem dX5_readWord_1 : decode cX5_readWord 1 = .ok (.getfield 29, 3) := by decide +kernel
theorem dX5_readWord_4 : decode cX5_readWord 4 = .ok (.istore_n 1, 1) := by decide +kernel
theorem dX5_readWord_5 : decode cX5_readWord 5 = .ok (.aload_n 0, 1) := by decide +kernel
theorem dX5_readWord_6 : decode cX5_readWord 6 = .ok (.getfield 29, 3) := by decide +kernel
theorem dX5_readWord_9 : decode cX5_readWord 9 = .ok (.aload_n 0, 1) := by decide +kernel
theorem dX5_readWord_10 : decode cX5_readWord 10 = .ok (.getfield 25, 3) := by decide +kernel
theorem dX5_readWord_13 : decode cX5_readWord 13 = .ok (.if_icmp .ge 31, 3) := by decide +kernel
theorem dX5_readWord_16 : decode cX5_readWord 16 = .ok (.aload_n 0, 1) := by decide +kernel
theorem dX5_readWord_17 : decode cX5_readWord 17 = .ok (.getfield 9, 3) := by decide +kernel
theorem dX5_readWord_20 : decode cX5_readWord 20 = .ok (.aload_n 0, 1) := by decide +kernel
theorem dX5_readWord_21 : decode cX5_readWord 21 = .ok (.getfield 29, 3) := by decide +kernel
theorem dX5_readWord_24 : decode cX5_readWord 24 = .ok (.baload, 1) := by decide +kernel
theorem dX5_readWord_25 : decode cX5_readWord 25 = .ok (.invokestatic 140, 3) := by decide +kernel
theorem dX5_readWord_28 : decode cX5_readWord 28 = .ok (.ifCond .eq 16, 3) := by decide +kernel
theorem dX5_readWord_31 : decode cX5_readWord 31 = .ok (.aload_n 0, 1) := by decide +kernel
theorem dX5_readWord_32 : decode cX5_readWord 32 = .ok (.dup, 1) := by decide +kernel
theorem dX5_readWord_33 : decode cX5_readWord 33 = .ok (.getfield 29, 3) := by decide +kernel
theorem dX5_readWord_36 : decode cX5_readWord 36 = .ok (.iconst 1, 1) := by decide +kernel
theorem dX5_readWord_37 : decode cX5_readWord 37 = .ok (.iadd, 1) := by decide +kernel
theorem dX5_readWord_38 : decode cX5_readWord 38 = .ok (.putfield 29, 3) := by decide +kernel
theorem dX5_readWord_41 : decode cX5_readWord 41 = .ok (.goto (-36), 3) := by decide +kernel
theorem dX5_readWord_44 : decode cX5_readWord 44 = .ok (.aload_n 0, 1) := by decide +kernel
theorem dX5_readWord_45 : decode cX5_readWord 45 = .ok (.ldc 144, 2) := by decide +kernel
theorem dX5_readWord_47 : decode cX5_readWord 47 = .ok (.iload_n 1, 1) := by decide +kernel
theorem dX5_readWord_48 : decode cX5_readWord 48 = .ok (.invokevirtual 146, 3) := by decide +kernel
theorem dX5_readWord_51 : decode cX5_readWord 51 = .ok (.ifCond .eq 5, 3) := by decide +kernel
theorem dX5_readWord_54 : decode cX5_readWord 54 = .ok (.iconst 0, 1) := by decide +kernel
theorem dX5_readWord_55 : decode cX5_readWord 55 = .ok (.ireturn, 1) := by decide +kernel
theorem dX5_readWord_56 : decode cX5_readWord 56 = .ok (.aload_n 0, 1) := by decide +kernel
theorem dX5_readWord_57 : decode cX5_readWord 57 = .ok (.ldc 150, 2) := by decide +kernel
theorem dX5_readWord_59 : decode cX5_readWord 59 = .ok (.iload_n 1, 1) := by decide +kernel
theorem dX5_readWord_60 : decode cX5_readWord 60 = .ok (.invokevirtual 146, 3) := by decide +kernel
theorem dX5_readWord_63 : decode cX5_readWord 63 = .ok (.ifCond .eq 5, 3) := by decide +kernel
theorem dX5_readWord_66 : decode cX5_readWord 66 = .ok (.iconst 1, 1) := by decide +kernel
theorem dX5_readWord_67 : decode cX5_readWord 67 = .ok (.ireturn, 1) := by decide +kernel
theorem dX5_readWord_68 : decode cX5_readWord 68 = .ok (.aload_n 0, 1) := by decide +kernel
theorem dX5_readWord_69 : decode cX5_readWord 69 = .ok (.ldc 152, 2) := by decide +kernel
theorem dX5_readWord_71 : decode cX5_readWord 71 = .ok (.iload_n 1, 1) := by decide +kernel
theorem dX5_readWord_72 : decode cX5_readWord 72 = .ok (.invokevirtual 146, 3) := by decide +kernel
theorem dX5_readWord_75 : decode cX5_readWord 75 = .ok (.ifCond .eq 5, 3) := by decide +kernel
theorem dX5_readWord_78 : decode cX5_readWord 78 = .ok (.iconst 2, 1) := by decide +kernel
theorem dX5_readWord_79 : decode cX5_readWord 79 = .ok (.ireturn, 1) := by decide +kernel
theorem dX5_readWord_80 : decode cX5_readWord 80 = .ok (.aload_n 0, 1) := by decide +kernel
theorem dX5_readWord_81 : decode cX5_readWord 81 = .ok (.ldc 154, 2) := by decide +kernel
theorem dX5_readWord_83 : decode cX5_readWord 83 = .ok (.iload_n 1, 1) := by decide +kernel
theorem dX5_readWord_84 : decode cX5_readWord 84 = .ok (.invokevirtual 146, 3) := by decide +kernel
theorem dX5_readWord_87 : decode cX5_readWord 87 = .ok (.ifCond .eq 5, 3) := by decide +kernel
theorem dX5_readWord_90 : decode cX5_readWord 90 = .ok (.iconst 3, 1) := by decide +kernel
theorem dX5_readWord_91 : decode cX5_readWord 91 = .ok (.ireturn, 1) := by decide +kernel
theorem dX5_readWord_92 : decode cX5_readWord 92 = .ok (.aload_n 0, 1) := by decide +kernel
theorem dX5_readWord_93 : decode cX5_readWord 93 = .ok (.ldc 156, 2) := by decide +kernel
theorem dX5_readWord_95 : decode cX5_readWord 95 = .ok (.iload_n 1, 1) := by decide +kernel
theorem dX5_readWord_96 : decode cX5_readWord 96 = .ok (.invokevirtual 146, 3) := by decide +kernel
theorem dX5_readWord_99 : decode cX5_readWord 99 = .ok (.ifCond .eq 5, 3) := by decide +kernel
theorem dX5_readWord_102 : decode cX5_readWord 102 = .ok (.iconst 5, 1) := by decide +kernel
theorem dX5_readWord_103 : decode cX5_readWord 103 = .ok (.ireturn, 1) := by decide +kernel
theorem dX5_readWord_104 : decode cX5_readWord 104 = .ok (.aload_n 0, 1) := by decide +kernel
theorem dX5_readWord_105 : decode cX5_readWord 105 = .ok (.ldc 158, 2) := by decide +kernel
theorem dX5_readWord_107 : decode cX5_readWord 107 = .ok (.iload_n 1, 1) := by decide +kernel
theorem dX5_readWord_108 : decode cX5_readWord 108 = .ok (.invokevirtual 146, 3) := by decide +kernel
theorem dX5_readWord_111 : decode cX5_readWord 111 = .ok (.ifCond .eq 6, 3) := by decide +kernel
theorem dX5_readWord_114 : decode cX5_readWord 114 = .ok (.bipush 6, 2) := by decide +kernel
theorem dX5_readWord_116 : decode cX5_readWord 116 = .ok (.ireturn, 1) := by decide +kernel
theorem dX5_readWord_117 : decode cX5_readWord 117 = .ok (.aload_n 0, 1) := by decide +kernel
theorem dX5_readWord_118 : decode cX5_readWord 118 = .ok (.ldc 160, 2) := by decide +kernel
theorem dX5_readWord_120 : decode cX5_readWord 120 = .ok (.iload_n 1, 1) := by decide +kernel
theorem dX5_readWord_121 : decode cX5_readWord 121 = .ok (.invokevirtual 146, 3) := by decide +kernel
theorem dX5_readWord_124 : decode cX5_readWord 124 = .ok (.ifCond .eq 6, 3) := by decide +kernel
theorem dX5_readWord_127 : decode cX5_readWord 127 = .ok (.bipush 7, 2) := by decide +kernel
theorem dX5_readWord_129 : decode cX5_readWord 129 = .ok (.ireturn, 1) := by decide +kernel
theorem dX5_readWord_130 : decode cX5_readWord 130 = .ok (.aload_n 0, 1) := by decide +kernel
theorem dX5_readWord_131 : decode cX5_readWord 131 = .ok (.ldc 162, 2) := by decide +kernel
theorem dX5_readWord_133 : decode cX5_readWord 133 = .ok (.iload_n 1, 1) := by decide +kernel
theorem dX5_readWord_134 : decode cX5_readWord 134 = .ok (.invokevirtual 146, 3) := by decide +kernel
theorem dX5_readWord_137 : decode cX5_readWord 137 = .ok (.ifCond .eq 7, 3) := by decide +kernel
theorem dX5_readWord_140 : decode cX5_readWord 140 = .ok (.iconst 4, 1) := by decide +kernel
theorem dX5_readWord_141 : decode cX5_readWord 141 = .ok (.goto 4, 3) := by decide +kernel
theorem dX5_readWord_144 : decode cX5_readWord 144 = .ok (.iconst (-1), 1) := by decide +kernel
theorem dX5_readWord_145 : decode cX5_readWord 145 = .ok (.ireturn, 1) := by decide +kernel
set_option maxRecDepth 20000 in
theorem ggX5_stands_J0_length_8abf5 : GoodIn wsX5_stands wsJ0_length_8abf5 := goodIn_r _ [7, 8, 9, 10, 11, 6, 12, 13, 14, 63, 64, 65, 66] (by decide +kernel) (by decide +kernel)
set_option maxRecDepth 20000 in
theorem gX5_stands_J0_length_8abf5 : GoodIn wsX5_stands (wsV RX5 164 RJ0 yJ0_length_8abf5 wsJ0_length_8abf5) := goodIn_app (goodIn_of _ (by decide +kernel)) ggX5_stands_J0_length_8abf5
set_option maxRecDepth 20000 in
theorem ggX5_stands_J0_charAt_5068e : GoodIn wsX5_stands wsJ0_charAt_5068e := goodIn_r _ [18, 8, 19, 20, 21, 6, 22, 13, 14, 23, 24, 25, 26, 27, 28, 29, 30, 31, 32, 33, 34, 35, 36, 37, 38, 39, 40, 41, 42, 43, 44, 45, 46, 47, 48, 49, 50, 51, 63, 64, 65, 66] (by decide +kernel) (by decide +kernel)
set_option maxRecDepth 20000 in
theorem gX5_stands_J0_charAt_5068e : GoodIn wsX5_stands (wsV RX5 168 RJ0 yJ0_charAt_5068e wsJ0_charAt_5068e) := goodIn_app (goodIn_of _ (by decide +kernel)) ggX5_stands_J0_charAt_5068e
theorem dX5_stands_0 : decode cX5_stands 0 = .ok (.aload_n 0, 1) := by decide +kernel
theorem dX5_stands_1 : decode cX5_stands 1 = .ok (.getfield 29, 3) := by decide +kernel
theorem dX5_stands_4 : decode cX5_stands 4 = .ok (.iload_n 2, 1) := by decide +kernel
theorem dX5_stands_5 : decode cX5_stands 5 = .ok (.isub, 1) := by decide +kernel
theorem dX5_stands_6 : decode cX5_stands 6 = .ok (.aload_n 1, 1) := by decide +kernel
theorem dX5_stands_7 : decode cX5_stands 7 = .ok (.invokevirtual 164, 3) := by decide +kernel
theorem dX5_stands_10 : decode cX5_stands 10 = .ok (.if_icmp .eq 5, 3) := by decide +kernel
theorem dX5_stands_13 : decode cX5_stands 13 = .ok (.iconst 0, 1) := by decide +kernel
theorem dX5_stands_14 : decode cX5_stands 14 = .ok (.ireturn, 1) := by decide +kernel
theorem dX5_stands_15 : decode cX5_stands 15 = .ok (.iconst 0, 1) := by decide +kernel
theorem dX5_stands_16 : decode cX5_stands 16 = .ok (.istore_n 3, 1) := by decide +kernel
theorem dX5_stands_17 : decode cX5_stands 17 = .ok (.iload_n 3, 1) := by decide +kernel
theorem dX5_stands_18 : decode cX5_stands 18 = .ok (.aload_n 1, 1) := by decide +kernel
theorem dX5_stands_19 : decode cX5_stands 19 = .ok (.invokevirtual 164, 3) := by decide +kernel
theorem dX5_stands_22 : decode cX5_stands 22 = .ok (.if_icmp .ge 27, 3) := by decide +kernel
theorem dX5_stands_25 : decode cX5_stands 25 = .ok (.aload_n 0, 1) := by decide +kernel
theorem dX5_stands_26 : decode cX5_stands 26 = .ok (.getfield 9, 3) := by decide +kernel
theorem dX5_stands_29 : decode cX5_stands 29 = .ok (.iload_n 2, 1) := by decide +kernel
theorem dX5_stands_30 : decode cX5_stands 30 = .ok (.iload_n 3, 1) := by decide +kernel
theorem dX5_stands_31 : decode cX5_stands 31 = .ok (.iadd, 1) := by decide +kernel
theorem dX5_stands_32 : decode cX5_stands 32 = .ok (.baload, 1) := by decide +kernel
theorem dX5_stands_33 : decode cX5_stands 33 = .ok (.aload_n 1, 1) := by decide +kernel
theorem dX5_stands_34 : decode cX5_stands 34 = .ok (.iload_n 3, 1) := by decide +kernel
theorem dX5_stands_35 : decode cX5_stands 35 = .ok (.invokevirtual 168, 3) := by decide +kernel
theorem dX5_stands_38 : decode cX5_stands 38 = .ok (.if_icmp .eq 5, 3) := by decide +kernel
theorem dX5_stands_41 : decode cX5_stands 41 = .ok (.iconst 0, 1) := by decide +kernel
theorem dX5_stands_42 : decode cX5_stands 42 = .ok (.ireturn, 1) := by decide +kernel
theorem dX5_stands_43 : decode cX5_stands 43 = .ok (.iinc 3 1, 3) := by decide +kernel
theorem dX5_stands_46 : decode cX5_stands 46 = .ok (.goto (-29), 3) := by decide +kernel
theorem dX5_stands_49 : decode cX5_stands 49 = .ok (.iconst 1, 1) := by decide +kernel
theorem dX5_stands_50 : decode cX5_stands 50 = .ok (.ireturn, 1) := by decide +kernel
set_option maxRecDepth 20000 in
theorem ggX5_readNumber_X5_skipSpaces : GoodIn wsX5_readNumber wsX5_skipSpaces := goodIn_r _ [13, 1, 2, 3, 23, 24, 25, 26, 27, 28, 29, 30, 31, 32, 33] (by decide +kernel) (by decide +kernel)
set_option maxRecDepth 20000 in
theorem gX5_readNumber_X5_skipSpaces : GoodIn wsX5_readNumber (wsV RX5 52 RX5 yX5_skipSpaces wsX5_skipSpaces) := goodIn_app (goodIn_of _ (by decide +kernel)) ggX5_readNumber_X5_skipSpaces
set_option maxRecDepth 20000 in
theorem ggX5_readNumber_X5_isDigit : GoodIn wsX5_readNumber wsX5_isDigit := goodIn_r _ [16] (by decide +kernel) (by decide +kernel)
set_option maxRecDepth 20000 in
theorem gX5_readNumber_X5_isDigit : GoodIn wsX5_readNumber (va_wsS RX5 172 yX5_isDigit wsX5_isDigit) := goodIn_app (goodIn_of _ (by decide +kernel)) ggX5_readNumber_X5_isDigit
set_option maxRecDepth 20000 in
theorem ggX5_readNumber_X5_error : GoodIn wsX5_readNumber wsX5_error := goodIn_r _ [20, 21, 22, 23, 24, 25, 26, 27, 28, 29, 30, 31, 32, 33] (by decide +kernel) (by decide +kernel)
set_option maxRecDepth 20000 in
theorem gX5_readNumber_X5_error : GoodIn wsX5_readNumber (wsV RX5 59 RX5 yX5_error wsX5_error) := goodIn_app (goodIn_of _ (by decide +kernel)) ggX5_readNumber_X5_error
theorem dX5_readNumber_0 : decode cX5_readNumber 0 = .ok (.aload_n 0, 1) := by decide +kernel
theorem dX5_readNumber_1 : decode cX5_readNumber 1 = .ok (.invokevirtual 52, 3) := by decide +kernel
theorem dX5_readNumber_4 : decode cX5_readNumber 4 = .ok (.istore_n 3, 1) := by decide +kernel
theorem dX5_readNumber_5 : decode cX5_readNumber 5 = .ok (.iconst 0, 1) := by decide +kernel
theorem dX5_readNumber_6 : decode cX5_readNumber 6 = .ok (.istore 4, 2) := by decide +kernel
theorem dX5_readNumber_8 : decode cX5_readNumber 8 = .ok (.aload_n 0, 1) := by decide +kernel
theorem dX5_readNumber_9 : decode cX5_readNumber 9 = .ok (.getfield 29, 3) := by decide +kernel
theorem dX5_readNumber_12 : decode cX5_readNumber 12 = .ok (.aload_n 0, 1) := by decide +kernel
theorem dX5_readNumber_13 : decode cX5_readNumber 13 = .ok (.getfield 25, 3) := by decide +kernel
theorem dX5_readNumber_16 : decode cX5_readNumber 16 = .ok (.if_icmp .ge 56, 3) := by decide +kernel
theorem dX5_readNumber_19 : decode cX5_readNumber 19 = .ok (.aload_n 0, 1) := by decide +kernel
theorem dX5_readNumber_20 : decode cX5_readNumber 20 = .ok (.getfield 9, 3) := by decide +kernel
theorem dX5_readNumber_23 : decode cX5_readNumber 23 = .ok (.aload_n 0, 1) := by decide +kernel
theorem dX5_readNumber_24 : decode cX5_readNumber 24 = .ok (.getfield 29, 3) := by decide +kernel
theorem dX5_readNumber_27 : decode cX5_readNumber 27 = .ok (.baload, 1) := by decide +kernel
theorem dX5_readNumber_28 : decode cX5_readNumber 28 = .ok (.invokestatic 172, 3) := by decide +kernel
theorem dX5_readNumber_31 : decode cX5_readNumber 31 = .ok (.ifCond .eq 41, 3) := by decide +kernel
theorem dX5_readNumber_34 : decode cX5_readNumber 34 = .ok (.iload 4, 2) := by decide +kernel
theorem dX5_readNumber_36 : decode cX5_readNumber 36 = .ok (.bipush 10, 2) := by decide +kernel
theorem dX5_readNumber_38 : decode cX5_readNumber 38 = .ok (.imul, 1) := by decide +kernel
theorem dX5_readNumber_39 : decode cX5_readNumber 39 = .ok (.aload_n 0, 1) := by decide +kernel
theorem dX5_readNumber_40 : decode cX5_readNumber 40 = .ok (.getfield 9, 3) := by decide +kernel
theorem dX5_readNumber_43 : decode cX5_readNumber 43 = .ok (.aload_n 0, 1) := by decide +kernel
theorem dX5_readNumber_44 : decode cX5_readNumber 44 = .ok (.getfield 29, 3) := by decide +kernel
theorem dX5_readNumber_47 : decode cX5_readNumber 47 = .ok (.baload, 1) := by decide +kernel
theorem dX5_readNumber_48 : decode cX5_readNumber 48 = .ok (.iadd, 1) := by decide +kernel
theorem dX5_readNumber_49 : decode cX5_readNumber 49 = .ok (.bipush 48, 2) := by decide +kernel
theorem dX5_readNumber_51 : decode cX5_readNumber 51 = .ok (.isub, 1) := by decide +kernel
theorem dX5_readNumber_52 : decode cX5_readNumber 52 = .ok (.ldc 175, 2) := by decide +kernel
theorem dX5_readNumber_54 : decode cX5_readNumber 54 = .ok (.invokestatic 176, 3) := by decide +kernel
theorem dX5_readNumber_57 : decode cX5_readNumber 57 = .ok (.istore 4, 2) := by decide +kernel
theorem dX5_readNumber_59 : decode cX5_readNumber 59 = .ok (.aload_n 0, 1) := by decide +kernel
theorem dX5_readNumber_60 : decode cX5_readNumber 60 = .ok (.dup, 1) := by decide +kernel
theorem dX5_readNumber_61 : decode cX5_readNumber 61 = .ok (.getfield 29, 3) := by decide +kernel
theorem dX5_readNumber_64 : decode cX5_readNumber 64 = .ok (.iconst 1, 1) := by decide +kernel
theorem dX5_readNumber_65 : decode cX5_readNumber 65 = .ok (.iadd, 1) := by decide +kernel
theorem dX5_readNumber_66 : decode cX5_readNumber 66 = .ok (.putfield 29, 3) := by decide +kernel
theorem dX5_readNumber_69 : decode cX5_readNumber 69 = .ok (.goto (-61), 3) := by decide +kernel
theorem dX5_readNumber_72 : decode cX5_readNumber 72 = .ok (.aload_n 0, 1) := by decide +kernel
theorem dX5_readNumber_73 : decode cX5_readNumber 73 = .ok (.getfield 29, 3) := by decide +kernel
theorem dX5_readNumber_76 : decode cX5_readNumber 76 = .ok (.iload_n 3, 1) := by decide +kernel
theorem dX5_readNumber_77 : decode cX5_readNumber 77 = .ok (.if_icmp .ne 12, 3) := by decide +kernel
theorem dX5_readNumber_80 : decode cX5_readNumber 80 = .ok (.aload_n 0, 1) := by decide +kernel
theorem dX5_readNumber_81 : decode cX5_readNumber 81 = .ok (.iconst 1, 1) := by decide +kernel
theorem dX5_readNumber_82 : decode cX5_readNumber 82 = .ok (.iload_n 3, 1) := by decide +kernel
theorem dX5_readNumber_83 : decode cX5_readNumber 83 = .ok (.invokevirtual 59, 3) := by decide +kernel
theorem dX5_readNumber_86 : decode cX5_readNumber 86 = .ok (.goto 21, 3) := by decide +kernel
theorem dX5_readNumber_89 : decode cX5_readNumber 89 = .ok (.iload 4, 2) := by decide +kernel
theorem dX5_readNumber_91 : decode cX5_readNumber 91 = .ok (.iload_n 1, 1) := by decide +kernel
theorem dX5_readNumber_92 : decode cX5_readNumber 92 = .ok (.if_icmp .lt 9, 3) := by decide +kernel
theorem dX5_readNumber_95 : decode cX5_readNumber 95 = .ok (.iload 4, 2) := by decide +kernel
theorem dX5_readNumber_97 : decode cX5_readNumber 97 = .ok (.iload_n 2, 1) := by decide +kernel
theorem dX5_readNumber_98 : decode cX5_readNumber 98 = .ok (.if_icmp .le 9, 3) := by decide +kernel
theorem dX5_readNumber_101 : decode cX5_readNumber 101 = .ok (.aload_n 0, 1) := by decide +kernel
theorem dX5_readNumber_102 : decode cX5_readNumber 102 = .ok (.iconst 2, 1) := by decide +kernel
theorem dX5_readNumber_103 : decode cX5_readNumber 103 = .ok (.iload_n 3, 1) := by decide +kernel
theorem dX5_readNumber_104 : decode cX5_readNumber 104 = .ok (.invokevirtual 59, 3) := by decide +kernel
theorem dX5_readNumber_107 : decode cX5_readNumber 107 = .ok (.iload 4, 2) := by decide +kernel
theorem dX5_readNumber_109 : decode cX5_readNumber 109 = .ok (.ireturn, 1) := by decide +kernel
set_option maxRecDepth 20000 in
theorem ggX5_readScript_X5_skipSpaces : GoodIn wsX5_readScript wsX5_skipSpaces := goodIn_r _ [8, 1, 2, 3, 50, 51, 52, 53, 54, 55, 56, 57, 58, 59, 60] (by decide +kernel) (by decide +kernel)
set_option maxRecDepth 20000 in
theorem gX5_readScript_X5_skipSpaces : GoodIn wsX5_readScript (wsV RX5 52 RX5 yX5_skipSpaces wsX5_skipSpaces) := goodIn_app (goodIn_of _ (by decide +kernel)) ggX5_readScript_X5_skipSpaces
set_option maxRecDepth 20000 in
theorem ggX5_readScript_X5_isDigit : GoodIn wsX5_readScript wsX5_isDigit := goodIn_r _ [11] (by decide +kernel) (by decide +kernel)
set_option maxRecDepth 20000 in
theorem gX5_readScript_X5_isDigit : GoodIn wsX5_readScript (va_wsS RX5 172 yX5_isDigit wsX5_isDigit) := goodIn_app (goodIn_of _ (by decide +kernel)) ggX5_readScript_X5_isDigit
set_option maxRecDepth 20000 in
theorem ggX5_readScript_X5_error : GoodIn wsX5_readScript wsX5_error := goodIn_r _ [15, 16, 17, 50, 51, 52, 53, 54, 55, 56, 57, 58, 59, 60] (by decide +kernel) (by decide +kernel)
set_option maxRecDepth 20000 in
theorem gX5_readScript_X5_error : GoodIn wsX5_readScript (wsV RX5 59 RX5 yX5_error wsX5_error) := goodIn_app (goodIn_of _ (by decide +kernel)) ggX5_readScript_X5_error
set_option maxRecDepth 20000 in
theorem ggX5_readScript_X5_isFine : GoodIn wsX5_readScript wsX5_isFine := goodIn_r _ [21, 16, 50, 51, 52, 53, 54, 55, 56, 57, 58, 59, 60] (by decide +kernel) (by decide +kernel)
set_option maxRecDepth 20000 in
theorem gX5_readScript_X5_isFine : GoodIn wsX5_readScript (wsV RX5 56 RX5 yX5_isFine wsX5_isFine) := goodIn_app (goodIn_of _ (by decide +kernel)) ggX5_readScript_X5_isFine
set_option maxRecDepth 20000 in
theorem ggX5_readScript_J7_copyOfRange_39247 : GoodIn wsX5_readScript wsJ7_copyOfRange_39247 := goodIn_r _ [25, 26, 27, 28, 29, 30, 31, 32, 33, 24, 34, 35, 36, 37, 38, 39, 40, 41, 42, 43, 44, 45, 46, 47, 48, 49, 61, 62, 63, 64] (by decide +kernel) (by decide +kernel)
set_option maxRecDepth 20000 in
theorem gX5_readScript_J7_copyOfRange_39247 : GoodIn wsX5_readScript (va_wsS RX5 181 yJ7_copyOfRange_39247 wsJ7_copyOfRange_39247) := goodIn_app (goodIn_of _ (by decide +kernel)) ggX5_readScript_J7_copyOfRange_39247
theorem dX5_readScript_0 : decode cX5_readScript 0 = .ok (.aload_n 0, 1) := by decide +kernel
theorem dX5_readScript_1 : decode cX5_readScript 1 = .ok (.invokevirtual 52, 3) := by decide +kernel
theorem dX5_readScript_4 : decode cX5_readScript 4 = .ok (.istore_n 1, 1) := by decide +kernel
theorem dX5_readScript_5 : decode cX5_readScript 5 = .ok (.iconst 1, 1) := by decide +kernel
theorem dX5_readScript_6 : decode cX5_readScript 6 = .ok (.istore_n 2, 1) := by decide +kernel
theorem dX5_readScript_7 : decode cX5_readScript 7 = .ok (.aload_n 0, 1) := by decide +kernel
theorem dX5_readScript_8 : decode cX5_readScript 8 = .ok (.getfield 29, 3) := by decide +kernel
theorem dX5_readScript_11 : decode cX5_readScript 11 = .ok (.aload_n 0, 1) := by decide +kernel
theorem dX5_readScript_12 : decode cX5_readScript 12 = .ok (.getfield 25, 3) := by decide +kernel
theorem dX5_readScript_15 : decode cX5_readScript 15 = .ok (.if_icmp .ge 55, 3) := by decide +kernel
theorem dX5_readScript_18 : decode cX5_readScript 18 = .ok (.aload_n 0, 1) := by decide +kernel
theorem dX5_readScript_19 : decode cX5_readScript 19 = .ok (.getfield 9, 3) := by decide +kernel
theorem dX5_readScript_22 : decode cX5_readScript 22 = .ok (.aload_n 0, 1) := by decide +kernel
theorem dX5_readScript_23 : decode cX5_readScript 23 = .ok (.getfield 29, 3) := by decide +kernel
theorem dX5_readScript_26 : decode cX5_readScript 26 = .ok (.baload, 1) := by decide +kernel
theorem dX5_readScript_27 : decode cX5_readScript 27 = .ok (.invokestatic 172, 3) := by decide +kernel
theorem dX5_readScript_30 : decode cX5_readScript 30 = .ok (.ifCond .eq 40, 3) := by decide +kernel
theorem dX5_readScript_33 : decode cX5_readScript 33 = .ok (.iload_n 2, 1) := by decide +kernel
theorem dX5_readScript_34 : decode cX5_readScript 34 = .ok (.ifCond .eq 21, 3) := by decide +kernel
theorem dX5_readScript_37 : decode cX5_readScript 37 = .ok (.aload_n 0, 1) := by decide +kernel
theorem dX5_readScript_38 : decode cX5_readScript 38 = .ok (.getfield 9, 3) := by decide +kernel
theorem dX5_readScript_41 : decode cX5_readScript 41 = .ok (.aload_n 0, 1) := by decide +kernel
theorem dX5_readScript_42 : decode cX5_readScript 42 = .ok (.getfield 29, 3) := by decide +kernel
theorem dX5_readScript_45 : decode cX5_readScript 45 = .ok (.baload, 1) := by decide +kernel
theorem dX5_readScript_46 : decode cX5_readScript 46 = .ok (.bipush 49, 2) := by decide +kernel
theorem dX5_readScript_48 : decode cX5_readScript 48 = .ok (.if_icmp .gt 7, 3) := by decide +kernel
theorem dX5_readScript_51 : decode cX5_readScript 51 = .ok (.iconst 1, 1) := by decide +kernel
theorem dX5_readScript_52 : decode cX5_readScript 52 = .ok (.goto 4, 3) := by decide +kernel
theorem dX5_readScript_55 : decode cX5_readScript 55 = .ok (.iconst 0, 1) := by decide +kernel
theorem dX5_readScript_56 : decode cX5_readScript 56 = .ok (.istore_n 2, 1) := by decide +kernel
theorem dX5_readScript_57 : decode cX5_readScript 57 = .ok (.aload_n 0, 1) := by decide +kernel
theorem dX5_readScript_58 : decode cX5_readScript 58 = .ok (.dup, 1) := by decide +kernel
theorem dX5_readScript_59 : decode cX5_readScript 59 = .ok (.getfield 29, 3) := by decide +kernel
theorem dX5_readScript_62 : decode cX5_readScript 62 = .ok (.iconst 1, 1) := by decide +kernel
theorem dX5_readScript_63 : decode cX5_readScript 63 = .ok (.iadd, 1) := by decide +kernel
theorem dX5_readScript_64 : decode cX5_readScript 64 = .ok (.putfield 29, 3) := by decide +kernel
theorem dX5_readScript_67 : decode cX5_readScript 67 = .ok (.goto (-60), 3) := by decide +kernel
theorem dX5_readScript_70 : decode cX5_readScript 70 = .ok (.aload_n 0, 1) := by decide +kernel
theorem dX5_readScript_71 : decode cX5_readScript 71 = .ok (.getfield 29, 3) := by decide +kernel
theorem dX5_readScript_74 : decode cX5_readScript 74 = .ok (.iload_n 1, 1) := by decide +kernel
theorem dX5_readScript_75 : decode cX5_readScript 75 = .ok (.if_icmp .ne 12, 3) := by decide +kernel
theorem dX5_readScript_78 : decode cX5_readScript 78 = .ok (.aload_n 0, 1) := by decide +kernel
theorem dX5_readScript_79 : decode cX5_readScript 79 = .ok (.iconst 1, 1) := by decide +kernel
theorem dX5_readScript_80 : decode cX5_readScript 80 = .ok (.iload_n 1, 1) := by decide +kernel
theorem dX5_readScript_81 : decode cX5_readScript 81 = .ok (.invokevirtual 59, 3) := by decide +kernel
theorem dX5_readScript_84 : decode cX5_readScript 84 = .ok (.goto 24, 3) := by decide +kernel
theorem dX5_readScript_87 : decode cX5_readScript 87 = .ok (.iload_n 2, 1) := by decide +kernel
theorem dX5_readScript_88 : decode cX5_readScript 88 = .ok (.ifCond .eq 14, 3) := by decide +kernel
theorem dX5_readScript_91 : decode cX5_readScript 91 = .ok (.aload_n 0, 1) := by decide +kernel
theorem dX5_readScript_92 : decode cX5_readScript 92 = .ok (.getfield 29, 3) := by decide +kernel
theorem dX5_readScript_95 : decode cX5_readScript 95 = .ok (.iload_n 1, 1) := by decide +kernel
theorem dX5_readScript_96 : decode cX5_readScript 96 = .ok (.isub, 1) := by decide +kernel
theorem dX5_readScript_97 : decode cX5_readScript 97 = .ok (.bipush 12, 2) := by decide +kernel
theorem dX5_readScript_99 : decode cX5_readScript 99 = .ok (.if_icmp .le 9, 3) := by decide +kernel
theorem dX5_readScript_102 : decode cX5_readScript 102 = .ok (.aload_n 0, 1) := by decide +kernel
theorem dX5_readScript_103 : decode cX5_readScript 103 = .ok (.iconst 2, 1) := by decide +kernel
theorem dX5_readScript_104 : decode cX5_readScript 104 = .ok (.iload_n 1, 1) := by decide +kernel
theorem dX5_readScript_105 : decode cX5_readScript 105 = .ok (.invokevirtual 59, 3) := by decide +kernel
theorem dX5_readScript_108 : decode cX5_readScript 108 = .ok (.aload_n 0, 1) := by decide +kernel
theorem dX5_readScript_109 : decode cX5_readScript 109 = .ok (.invokevirtual 56, 3) := by decide +kernel
theorem dX5_readScript_112 : decode cX5_readScript 112 = .ok (.ifCond .eq 18, 3) := by decide +kernel
theorem dX5_readScript_115 : decode cX5_readScript 115 = .ok (.aload_n 0, 1) := by decide +kernel
theorem dX5_readScript_116 : decode cX5_readScript 116 = .ok (.getfield 9, 3) := by decide +kernel
theorem dX5_readScript_119 : decode cX5_readScript 119 = .ok (.iload_n 1, 1) := by decide +kernel
theorem dX5_readScript_120 : decode cX5_readScript 120 = .ok (.aload_n 0, 1) := by decide +kernel
theorem dX5_readScript_121 : decode cX5_readScript 121 = .ok (.getfield 29, 3) := by decide +kernel
theorem dX5_readScript_124 : decode cX5_readScript 124 = .ok (.invokestatic 181, 3) := by decide +kernel
theorem dX5_readScript_127 : decode cX5_readScript 127 = .ok (.goto 6, 3) := by decide +kernel
theorem dX5_readScript_130 : decode cX5_readScript 130 = .ok (.getstatic 187, 3) := by decide +kernel
theorem dX5_readScript_133 : decode cX5_readScript 133 = .ok (.areturn, 1) := by decide +kernel
set_option maxRecDepth 20000 in
theorem ggX5_readOrder_X5_start : GoodIn wsX5_readOrder wsX5_start := goodIn_r _ [7, 1, 8, 9, 10, 68, 69, 70, 71, 72, 73, 74, 75, 76, 77, 78] (by decide +kernel) (by decide +kernel)
set_option maxRecDepth 20000 in
theorem gX5_readOrder_X5_start : GoodIn wsX5_readOrder (wsV RX5 41 RX5 yX5_start wsX5_start) := goodIn_app (goodIn_of _ (by decide +kernel)) ggX5_readOrder_X5_start
set_option maxRecDepth 20000 in
theorem ggX5_readOrder_X5_readText : GoodIn wsX5_readOrder wsX5_readText := goodIn_r _ [14, 15, 16, 2, 1, 17, 18, 19, 20, 6, 21, 22, 23, 24, 25, 8, 26, 27, 28, 29, 30, 31, 32, 33, 34, 35, 36, 37, 38, 39, 40, 41, 42, 9, 43, 44, 45, 46, 47, 48, 49, 50, 51, 52, 53, 54, 55, 56, 57, 58, 59, 60, 61, 62, 63, 64, 65, 66, 67, 68, 69, 70, 71, 72, 73, 74, 75, 76, 77, 78] (by decide +kernel) (by decide +kernel)
set_option maxRecDepth 20000 in
theorem gX5_readOrder_X5_readText : GoodIn wsX5_readOrder (wsV RX5 130 RX5 yX5_readText wsX5_readText) := goodIn_app (goodIn_of _ (by decide +kernel)) ggX5_readOrder_X5_readText
set_option maxRecDepth 20000 in
theorem ggX5_readOrder_X5_error : GoodIn wsX5_readOrder wsX5_error := goodIn_r _ [42, 8, 9, 68, 69, 70, 71, 72, 73, 74, 75, 76, 77, 78] (by decide +kernel) (by decide +kernel)
set_option maxRecDepth 20000 in
theorem gX5_readOrder_X5_error : GoodIn wsX5_readOrder (wsV RX5 59 RX5 yX5_error wsX5_error) := goodIn_app (goodIn_of _ (by decide +kernel)) ggX5_readOrder_X5_error
theorem dX5_readOrder_0 : decode cX5_readOrder 0 = .ok (.aload_n 0, 1) := by decide +kernel
theorem dX5_readOrder_1 : decode cX5_readOrder 1 = .ok (.invokevirtual 41, 3) := by decide +kernel
theorem dX5_readOrder_4 : decode cX5_readOrder 4 = .ok (.aload_n 0, 1) := by decide +kernel
theorem dX5_readOrder_5 : decode cX5_readOrder 5 = .ok (.invokevirtual 130, 3) := by decide +kernel
theorem dX5_readOrder_8 : decode cX5_readOrder 8 = .ok (.aload_n 0, 1) := by decide +kernel
theorem dX5_readOrder_9 : decode cX5_readOrder 9 = .ok (.getfield 29, 3) := by decide +kernel
theorem dX5_readOrder_12 : decode cX5_readOrder 12 = .ok (.aload_n 0, 1) := by decide +kernel
theorem dX5_readOrder_13 : decode cX5_readOrder 13 = .ok (.getfield 25, 3) := by decide +kernel
theorem dX5_readOrder_16 : decode cX5_readOrder 16 = .ok (.if_icmp .ge 12, 3) := by decide +kernel
theorem dX5_readOrder_19 : decode cX5_readOrder 19 = .ok (.aload_n 0, 1) := by decide +kernel
theorem dX5_readOrder_20 : decode cX5_readOrder 20 = .ok (.iconst 1, 1) := by decide +kernel
theorem dX5_readOrder_21 : decode cX5_readOrder 21 = .ok (.aload_n 0, 1) := by decide +kernel
theorem dX5_readOrder_22 : decode cX5_readOrder 22 = .ok (.getfield 29, 3) := by decide +kernel
theorem dX5_readOrder_25 : decode cX5_readOrder 25 = .ok (.invokevirtual 59, 3) := by decide +kernel
theorem dX5_readOrder_28 : decode cX5_readOrder 28 = .ok (.iload_n 1, 1) := by decide +kernel
theorem dX5_readOrder_29 : decode cX5_readOrder 29 = .ok (.bipush 30, 2) := by decide +kernel
theorem dX5_readOrder_31 : decode cX5_readOrder 31 = .ok (.if_icmp .lt 12, 3) := by decide +kernel
theorem dX5_readOrder_34 : decode cX5_readOrder 34 = .ok (.aload_n 0, 1) := by decide +kernel
theorem dX5_readOrder_35 : decode cX5_readOrder 35 = .ok (.iconst 4, 1) := by decide +kernel
theorem dX5_readOrder_36 : decode cX5_readOrder 36 = .ok (.aload_n 0, 1) := by decide +kernel
theorem dX5_readOrder_37 : decode cX5_readOrder 37 = .ok (.getfield 25, 3) := by decide +kernel
theorem dX5_readOrder_40 : decode cX5_readOrder 40 = .ok (.invokevirtual 59, 3) := by decide +kernel
theorem dX5_readOrder_43 : decode cX5_readOrder 43 = .ok (.aload_n 0, 1) := by decide +kernel
theorem dX5_readOrder_44 : decode cX5_readOrder 44 = .ok (.iconst 0, 1) := by decide +kernel
theorem dX5_readOrder_45 : decode cX5_readOrder 45 = .ok (.putfield 25, 3) := by decide +kernel
theorem dX5_readOrder_48 : decode cX5_readOrder 48 = .ok (.return_, 1) := by decide +kernel
set_option maxRecDepth 20000 in
theorem ggX5_textRead_J7_copyOf_9075b : GoodIn wsX5_textRead wsJ7_copyOf_9075b := goodIn_r _ [6, 7, 8, 9, 10, 11, 12, 13, 14, 15, 16, 17, 18, 19, 20, 21] (by decide +kernel) (by decide +kernel)
set_option maxRecDepth 20000 in
theorem gX5_textRead_J7_copyOf_9075b : GoodIn wsX5_textRead (va_wsS RX5 193 yJ7_copyOf_9075b wsJ7_copyOf_9075b) := goodIn_app (goodIn_of _ (by decide +kernel)) ggX5_textRead_J7_copyOf_9075b
theorem dX5_textRead_0 : decode cX5_textRead 0 = .ok (.aload_n 0, 1) := by decide +kernel
theorem dX5_textRead_1 : decode cX5_textRead 1 = .ok (.getfield 15, 3) := by decide +kernel
theorem dX5_textRead_4 : decode cX5_textRead 4 = .ok (.aload_n 0, 1) := by decide +kernel
theorem dX5_textRead_5 : decode cX5_textRead 5 = .ok (.getfield 190, 3) := by decide +kernel
theorem dX5_textRead_8 : decode cX5_textRead 8 = .ok (.invokestatic 193, 3) := by decide +kernel
theorem dX5_textRead_11 : decode cX5_textRead 11 = .ok (.areturn, 1) := by decide +kernel
set_option maxRecDepth 20000 in
theorem ggX5_readText_X5_skipSpaces : GoodIn wsX5_readText wsX5_skipSpaces := goodIn_r _ [10, 4, 3, 5, 59, 60, 61, 62, 63, 64, 65, 66, 67, 68, 69] (by decide +kernel) (by decide +kernel)
set_option maxRecDepth 20000 in
theorem gX5_readText_X5_skipSpaces : GoodIn wsX5_readText (wsV RX5 52 RX5 yX5_skipSpaces wsX5_skipSpaces) := goodIn_app (goodIn_of _ (by decide +kernel)) ggX5_readText_X5_skipSpaces
set_option maxRecDepth 20000 in
theorem ggX5_readText_X5_isFine : GoodIn wsX5_readText wsX5_isFine := goodIn_r _ [14, 15, 59, 60, 61, 62, 63, 64, 65, 66, 67, 68, 69] (by decide +kernel) (by decide +kernel)
set_option maxRecDepth 20000 in
theorem gX5_readText_X5_isFine : GoodIn wsX5_readText (wsV RX5 56 RX5 yX5_isFine wsX5_isFine) := goodIn_app (goodIn_of _ (by decide +kernel)) ggX5_readText_X5_isFine
set_option maxRecDepth 20000 in
theorem ggX5_readText_X5_isLetter : GoodIn wsX5_readText wsX5_isLetter := goodIn_r _ [18] (by decide +kernel) (by decide +kernel)
set_option maxRecDepth 20000 in
theorem gX5_readText_X5_isLetter : GoodIn wsX5_readText (va_wsS RX5 140 yX5_isLetter wsX5_isLetter) := goodIn_app (goodIn_of _ (by decide +kernel)) ggX5_readText_X5_isLetter
set_option maxRecDepth 20000 in
theorem ggX5_readText_X5_readLetter : GoodIn wsX5_readText wsX5_readLetter := goodIn_r _ [22, 2, 4, 23, 1, 24, 25, 26, 9, 27, 28, 29, 30, 31, 32, 15, 33, 59, 60, 61, 62, 63, 64, 65, 66, 67, 68, 69] (by decide +kernel) (by decide +kernel)
set_option maxRecDepth 20000 in
theorem gX5_readText_X5_readLetter : GoodIn wsX5_readText (wsV RX5 200 RX5 yX5_readLetter wsX5_readLetter) := goodIn_app (goodIn_of _ (by decide +kernel)) ggX5_readText_X5_readLetter
set_option maxRecDepth 20000 in
theorem ggX5_readText_X5_isDigit : GoodIn wsX5_readText wsX5_isDigit := goodIn_r _ [36] (by decide +kernel) (by decide +kernel)
set_option maxRecDepth 20000 in
theorem gX5_readText_X5_isDigit : GoodIn wsX5_readText (va_wsS RX5 172 yX5_isDigit wsX5_isDigit) := goodIn_app (goodIn_of _ (by decide +kernel)) ggX5_readText_X5_isDigit
set_option maxRecDepth 20000 in
theorem ggX5_readText_X5_readNumber : GoodIn wsX5_readText wsX5_readNumber := goodIn_r _ [40, 4, 3, 5, 41, 42, 43, 44, 45, 6, 7, 8, 9, 10, 34, 35, 36, 29, 30, 31, 32, 15, 33, 59, 60, 61, 62, 63, 64, 65, 66, 67, 68, 69] (by decide +kernel) (by decide +kernel)
set_option maxRecDepth 20000 in
theorem gX5_readText_X5_readNumber : GoodIn wsX5_readText (wsV RX5 83 RX5 yX5_readNumber wsX5_readNumber) := goodIn_app (goodIn_of _ (by decide +kernel)) ggX5_readText_X5_readNumber
set_option maxRecDepth 20000 in
theorem ggX5_readText_X5_openGroup : GoodIn wsX5_readText wsX5_openGroup := goodIn_r _ [49, 2, 4, 3, 5, 28, 1, 50, 29, 30, 31, 9, 32, 15, 33, 6, 7, 8, 10, 11, 12, 13, 14, 59, 60, 61, 62, 63, 64, 65, 66, 67, 68, 69] (by decide +kernel) (by decide +kernel)
set_option maxRecDepth 20000 in
theorem gX5_readText_X5_openGroup : GoodIn wsX5_readText (wsV RX5 204 RX5 yX5_openGroup wsX5_openGroup) := goodIn_app (goodIn_of _ (by decide +kernel)) ggX5_readText_X5_openGroup
set_option maxRecDepth 20000 in
theorem ggX5_readText_X5_closeGroup : GoodIn wsX5_readText wsX5_closeGroup := goodIn_r _ [54, 2, 4, 50, 23, 28, 1, 55, 56, 57, 58, 24, 25, 26, 9, 27, 29, 30, 31, 32, 15, 33, 59, 60, 61, 62, 63, 64, 65, 66, 67, 68, 69] (by decide +kernel) (by decide +kernel)
set_option maxRecDepth 20000 in
theorem gX5_readText_X5_closeGroup : GoodIn wsX5_readText (wsV RX5 207 RX5 yX5_closeGroup wsX5_closeGroup) := goodIn_app (goodIn_of _ (by decide +kernel)) ggX5_readText_X5_closeGroup
set_option maxRecDepth 20000 in
theorem ggX5_readText_X5_error : GoodIn wsX5_readText wsX5_error := goodIn_r _ [32, 15, 33, 59, 60, 61, 62, 63, 64, 65, 66, 67, 68, 69] (by decide +kernel) (by decide +kernel)
set_option maxRecDepth 20000 in
theorem gX5_readText_X5_error : GoodIn wsX5_readText (wsV RX5 59 RX5 yX5_error wsX5_error) := goodIn_app (goodIn_of _ (by decide +kernel)) ggX5_readText_X5_error
theorem dX5_readText_0 : decode cX5_readText 0 = .ok (.aload_n 0, 1) := by decide +kernel
theorem dX5_readText_1 : decode cX5_readText 1 = .ok (.iconst 0, 1) := by decide +kernel
theorem dX5_readText_2 : decode cX5_readText 2 = .ok (.putfield 190, 3) := by decide +kernel
theorem dX5_readText_5 : decode cX5_readText 5 = .ok (.aload_n 0, 1) := by decide +kernel
theorem dX5_readText_6 : decode cX5_readText 6 = .ok (.iconst 0, 1) := by decide +kernel
theorem dX5_readText_7 : decode cX5_readText 7 = .ok (.putfield 197, 3) := by decide +kernel
theorem dX5_readText_10 : decode cX5_readText 10 = .ok (.aload_n 0, 1) := by decide +kernel
theorem dX5_readText_11 : decode cX5_readText 11 = .ok (.invokevirtual 52, 3) := by decide +kernel
theorem dX5_readText_14 : decode cX5_readText 14 = .ok (.istore_n 1, 1) := by decide +kernel
theorem dX5_readText_15 : decode cX5_readText 15 = .ok (.iload_n 1, 1) := by decide +kernel
theorem dX5_readText_16 : decode cX5_readText 16 = .ok (.istore_n 2, 1) := by decide +kernel
theorem dX5_readText_17 : decode cX5_readText 17 = .ok (.iload_n 2, 1) := by decide +kernel
theorem dX5_readText_18 : decode cX5_readText 18 = .ok (.aload_n 0, 1) := by decide +kernel
theorem dX5_readText_19 : decode cX5_readText 19 = .ok (.getfield 25, 3) := by decide +kernel
theorem dX5_readText_22 : decode cX5_readText 22 = .ok (.if_icmp .ge 122, 3) := by decide +kernel
theorem dX5_readText_25 : decode cX5_readText 25 = .ok (.aload_n 0, 1) := by decide +kernel
theorem dX5_readText_26 : decode cX5_readText 26 = .ok (.invokevirtual 56, 3) := by decide +kernel
theorem dX5_readText_29 : decode cX5_readText 29 = .ok (.ifCond .eq 115, 3) := by decide +kernel
theorem dX5_readText_32 : decode cX5_readText 32 = .ok (.aload_n 0, 1) := by decide +kernel
theorem dX5_readText_33 : decode cX5_readText 33 = .ok (.getfield 29, 3) := by decide +kernel
theorem dX5_readText_36 : decode cX5_readText 36 = .ok (.aload_n 0, 1) := by decide +kernel
theorem dX5_readText_37 : decode cX5_readText 37 = .ok (.getfield 25, 3) := by decide +kernel
theorem dX5_readText_40 : decode cX5_readText 40 = .ok (.if_icmp .ge 104, 3) := by decide +kernel
theorem dX5_readText_43 : decode cX5_readText 43 = .ok (.aload_n 0, 1) := by decide +kernel
theorem dX5_readText_44 : decode cX5_readText 44 = .ok (.getfield 9, 3) := by decide +kernel
theorem dX5_readText_47 : decode cX5_readText 47 = .ok (.aload_n 0, 1) := by decide +kernel
theorem dX5_readText_48 : decode cX5_readText 48 = .ok (.getfield 29, 3) := by decide +kernel
theorem dX5_readText_51 : decode cX5_readText 51 = .ok (.baload, 1) := by decide +kernel
theorem dX5_readText_52 : decode cX5_readText 52 = .ok (.bipush 59, 2) := by decide +kernel
theorem dX5_readText_54 : decode cX5_readText 54 = .ok (.if_icmp .eq 90, 3) := by decide +kernel
theorem dX5_readText_57 : decode cX5_readText 57 = .ok (.aload_n 0, 1) := by decide +kernel
theorem dX5_readText_58 : decode cX5_readText 58 = .ok (.getfield 9, 3) := by decide +kernel
theorem dX5_readText_61 : decode cX5_readText 61 = .ok (.aload_n 0, 1) := by decide +kernel
theorem dX5_readText_62 : decode cX5_readText 62 = .ok (.getfield 29, 3) := by decide +kernel
theorem dX5_readText_65 : decode cX5_readText 65 = .ok (.baload, 1) := by decide +kernel
theorem dX5_readText_66 : decode cX5_readText 66 = .ok (.istore_n 3, 1) := by decide +kernel
theorem dX5_readText_67 : decode cX5_readText 67 = .ok (.iload_n 3, 1) := by decide +kernel
theorem dX5_readText_68 : decode cX5_readText 68 = .ok (.invokestatic 140, 3) := by decide +kernel
theorem dX5_readText_71 : decode cX5_readText 71 = .ok (.ifCond .eq 11, 3) := by decide +kernel
theorem dX5_readText_74 : decode cX5_readText 74 = .ok (.aload_n 0, 1) := by decide +kernel
theorem dX5_readText_75 : decode cX5_readText 75 = .ok (.iload_n 3, 1) := by decide +kernel
theorem dX5_readText_76 : decode cX5_readText 76 = .ok (.invokevirtual 200, 3) := by decide +kernel
theorem dX5_readText_79 : decode cX5_readText 79 = .ok (.goto 54, 3) := by decide +kernel
theorem dX5_readText_82 : decode cX5_readText 82 = .ok (.iload_n 3, 1) := by decide +kernel
theorem dX5_readText_83 : decode cX5_readText 83 = .ok (.invokestatic 172, 3) := by decide +kernel
theorem dX5_readText_86 : decode cX5_readText 86 = .ok (.ifCond .eq 25, 3) := by decide +kernel
theorem dX5_readText_89 : decode cX5_readText 89 = .ok (.aload_n 0, 1) := by decide +kernel
theorem dX5_readText_90 : decode cX5_readText 90 = .ok (.getfield 29, 3) := by decide +kernel
theorem dX5_readText_93 : decode cX5_readText 93 = .ok (.istore 4, 2) := by decide +kernel
theorem dX5_readText_95 : decode cX5_readText 95 = .ok (.aload_n 0, 1) := by decide +kernel
theorem dX5_readText_96 : decode cX5_readText 96 = .ok (.aload_n 0, 1) := by decide +kernel
theorem dX5_readText_97 : decode cX5_readText 97 = .ok (.iconst 2, 1) := by decide +kernel
theorem dX5_readText_98 : decode cX5_readText 98 = .ok (.bipush 9, 2) := by decide +kernel
theorem dX5_readText_100 : decode cX5_readText 100 = .ok (.invokevirtual 83, 3) := by decide +kernel
theorem dX5_readText_103 : decode cX5_readText 103 = .ok (.iload 4, 2) := by decide +kernel
theorem dX5_readText_105 : decode cX5_readText 105 = .ok (.invokevirtual 204, 3) := by decide +kernel
theorem dX5_readText_108 : decode cX5_readText 108 = .ok (.goto 25, 3) := by decide +kernel
theorem dX5_readText_111 : decode cX5_readText 111 = .ok (.iload_n 3, 1) := by decide +kernel
theorem dX5_readText_112 : decode cX5_readText 112 = .ok (.bipush 41, 2) := by decide +kernel
theorem dX5_readText_114 : decode cX5_readText 114 = .ok (.if_icmp .ne 10, 3) := by decide +kernel
theorem dX5_readText_117 : decode cX5_readText 117 = .ok (.aload_n 0, 1) := by decide +kernel
theorem dX5_readText_118 : decode cX5_readText 118 = .ok (.invokevirtual 207, 3) := by decide +kernel
theorem dX5_readText_121 : decode cX5_readText 121 = .ok (.goto 12, 3) := by decide +kernel
theorem dX5_readText_124 : decode cX5_readText 124 = .ok (.aload_n 0, 1) := by decide +kernel
theorem dX5_readText_125 : decode cX5_readText 125 = .ok (.iconst 1, 1) := by decide +kernel
theorem dX5_readText_126 : decode cX5_readText 126 = .ok (.aload_n 0, 1) := by decide +kernel
theorem dX5_readText_127 : decode cX5_readText 127 = .ok (.getfield 29, 3) := by decide +kernel
theorem dX5_readText_130 : decode cX5_readText 130 = .ok (.invokevirtual 59, 3) := by decide +kernel
theorem dX5_readText_133 : decode cX5_readText 133 = .ok (.aload_n 0, 1) := by decide +kernel
theorem dX5_readText_134 : decode cX5_readText 134 = .ok (.invokevirtual 52, 3) := by decide +kernel
theorem dX5_readText_137 : decode cX5_readText 137 = .ok (.pop, 1) := by decide +kernel
theorem dX5_readText_138 : decode cX5_readText 138 = .ok (.iinc 2 1, 3) := by decide +kernel
theorem dX5_readText_141 : decode cX5_readText 141 = .ok (.goto (-124), 3) := by decide +kernel
theorem dX5_readText_144 : decode cX5_readText 144 = .ok (.aload_n 0, 1) := by decide +kernel
theorem dX5_readText_145 : decode cX5_readText 145 = .ok (.getfield 197, 3) := by decide +kernel
theorem dX5_readText_148 : decode cX5_readText 148 = .ok (.ifCond .gt 10, 3) := by decide +kernel
theorem dX5_readText_151 : decode cX5_readText 151 = .ok (.aload_n 0, 1) := by decide +kernel
theorem dX5_readText_152 : decode cX5_readText 152 = .ok (.getfield 190, 3) := by decide +kernel
theorem dX5_readText_155 : decode cX5_readText 155 = .ok (.ifCond .ne 12, 3) := by decide +kernel
theorem dX5_readText_158 : decode cX5_readText 158 = .ok (.aload_n 0, 1) := by decide +kernel
theorem dX5_readText_159 : decode cX5_readText 159 = .ok (.iconst 1, 1) := by decide +kernel
theorem dX5_readText_160 : decode cX5_readText 160 = .ok (.aload_n 0, 1) := by decide +kernel
theorem dX5_readText_161 : decode cX5_readText 161 = .ok (.getfield 29, 3) := by decide +kernel
theorem dX5_readText_164 : decode cX5_readText 164 = .ok (.invokevirtual 59, 3) := by decide +kernel
theorem dX5_readText_167 : decode cX5_readText 167 = .ok (.return_, 1) := by decide +kernel
theorem dX5_rowLength_0 : decode cX5_rowLength 0 = .ok (.iload_n 1, 1) := by decide +kernel
theorem dX5_rowLength_1 : decode cX5_rowLength 1 = .ok (.aload_n 0, 1) := by decide +kernel
theorem dX5_rowLength_2 : decode cX5_rowLength 2 = .ok (.getfield 197, 3) := by decide +kernel
theorem dX5_rowLength_5 : decode cX5_rowLength 5 = .ok (.if_icmp .ne 10, 3) := by decide +kernel
theorem dX5_rowLength_8 : decode cX5_rowLength 8 = .ok (.aload_n 0, 1) := by decide +kernel
theorem dX5_rowLength_9 : decode cX5_rowLength 9 = .ok (.getfield 190, 3) := by decide +kernel
theorem dX5_rowLength_12 : decode cX5_rowLength 12 = .ok (.goto 11, 3) := by decide +kernel
theorem dX5_rowLength_15 : decode cX5_rowLength 15 = .ok (.aload_n 0, 1) := by decide +kernel
theorem dX5_rowLength_16 : decode cX5_rowLength 16 = .ok (.getfield 18, 3) := by decide +kernel
theorem dX5_rowLength_19 : decode cX5_rowLength 19 = .ok (.iload_n 1, 1) := by decide +kernel
theorem dX5_rowLength_20 : decode cX5_rowLength 20 = .ok (.iconst 1, 1) := by decide +kernel
theorem dX5_rowLength_21 : decode cX5_rowLength 21 = .ok (.iadd, 1) := by decide +kernel
theorem dX5_rowLength_22 : decode cX5_rowLength 22 = .ok (.iaload, 1) := by decide +kernel
theorem dX5_rowLength_23 : decode cX5_rowLength 23 = .ok (.istore_n 2, 1) := by decide +kernel
theorem dX5_rowLength_24 : decode cX5_rowLength 24 = .ok (.iload_n 2, 1) := by decide +kernel
theorem dX5_rowLength_25 : decode cX5_rowLength 25 = .ok (.aload_n 0, 1) := by decide +kernel
theorem dX5_rowLength_26 : decode cX5_rowLength 26 = .ok (.getfield 18, 3) := by decide +kernel
theorem dX5_rowLength_29 : decode cX5_rowLength 29 = .ok (.iload_n 1, 1) := by decide +kernel
theorem dX5_rowLength_30 : decode cX5_rowLength 30 = .ok (.iaload, 1) := by decide +kernel
theorem dX5_rowLength_31 : decode cX5_rowLength 31 = .ok (.isub, 1) := by decide +kernel
theorem dX5_rowLength_32 : decode cX5_rowLength 32 = .ok (.ireturn, 1) := by decide +kernel
set_option maxRecDepth 20000 in
theorem ggX5_readLetter_X5_rowLength : GoodIn wsX5_readLetter wsX5_rowLength := goodIn_r _ [9, 1, 4, 10, 17, 18, 19, 20, 21, 22, 23, 24, 25, 26, 27] (by decide +kernel) (by decide +kernel)
set_option maxRecDepth 20000 in
theorem gX5_readLetter_X5_rowLength : GoodIn wsX5_readLetter (wsV RX5 210 RX5 yX5_rowLength wsX5_rowLength) := goodIn_app (goodIn_of _ (by decide +kernel)) ggX5_readLetter_X5_rowLength
set_option maxRecDepth 20000 in
theorem ggX5_readLetter_X5_error : GoodIn wsX5_readLetter wsX5_error := goodIn_r _ [14, 15, 16, 17, 18, 19, 20, 21, 22, 23, 24, 25, 26, 27] (by decide +kernel) (by decide +kernel)
set_option maxRecDepth 20000 in
theorem gX5_readLetter_X5_error : GoodIn wsX5_readLetter (wsV RX5 59 RX5 yX5_error wsX5_error) := goodIn_app (goodIn_of _ (by decide +kernel)) ggX5_readLetter_X5_error
theorem dX5_readLetter_0 : decode cX5_readLetter 0 = .ok (.aload_n 0, 1) := by decide +kernel
theorem dX5_readLetter_1 : decode cX5_readLetter 1 = .ok (.aload_n 0, 1) := by decide +kernel
theorem dX5_readLetter_2 : decode cX5_readLetter 2 = .ok (.getfield 197, 3) := by decide +kernel
theorem dX5_readLetter_5 : decode cX5_readLetter 5 = .ok (.invokevirtual 210, 3) := by decide +kernel
theorem dX5_readLetter_8 : decode cX5_readLetter 8 = .ok (.bipush 16, 2) := by decide +kernel
theorem dX5_readLetter_10 : decode cX5_readLetter 10 = .ok (.if_icmp .lt 13, 3) := by decide +kernel
theorem dX5_readLetter_13 : decode cX5_readLetter 13 = .ok (.aload_n 0, 1) := by decide +kernel
theorem dX5_readLetter_14 : decode cX5_readLetter 14 = .ok (.iconst 3, 1) := by decide +kernel
theorem dX5_readLetter_15 : decode cX5_readLetter 15 = .ok (.aload_n 0, 1) := by decide +kernel
theorem dX5_readLetter_16 : decode cX5_readLetter 16 = .ok (.getfield 29, 3) := by decide +kernel
theorem dX5_readLetter_19 : decode cX5_readLetter 19 = .ok (.invokevirtual 59, 3) := by decide +kernel
theorem dX5_readLetter_22 : decode cX5_readLetter 22 = .ok (.return_, 1) := by decide +kernel
theorem dX5_readLetter_23 : decode cX5_readLetter 23 = .ok (.aload_n 0, 1) := by decide +kernel
theorem dX5_readLetter_24 : decode cX5_readLetter 24 = .ok (.getfield 15, 3) := by decide +kernel
theorem dX5_readLetter_27 : decode cX5_readLetter 27 = .ok (.aload_n 0, 1) := by decide +kernel
theorem dX5_readLetter_28 : decode cX5_readLetter 28 = .ok (.getfield 190, 3) := by decide +kernel
theorem dX5_readLetter_31 : decode cX5_readLetter 31 = .ok (.iload_n 1, 1) := by decide +kernel
theorem dX5_readLetter_32 : decode cX5_readLetter 32 = .ok (.bipush 97, 2) := by decide +kernel
theorem dX5_readLetter_34 : decode cX5_readLetter 34 = .ok (.isub, 1) := by decide +kernel
theorem dX5_readLetter_35 : decode cX5_readLetter 35 = .ok (.i2b, 1) := by decide +kernel
theorem dX5_readLetter_36 : decode cX5_readLetter 36 = .ok (.bastore, 1) := by decide +kernel
theorem dX5_readLetter_37 : decode cX5_readLetter 37 = .ok (.aload_n 0, 1) := by decide +kernel
theorem dX5_readLetter_38 : decode cX5_readLetter 38 = .ok (.dup, 1) := by decide +kernel
theorem dX5_readLetter_39 : decode cX5_readLetter 39 = .ok (.getfield 190, 3) := by decide +kernel
theorem dX5_readLetter_42 : decode cX5_readLetter 42 = .ok (.iconst 1, 1) := by decide +kernel
theorem dX5_readLetter_43 : decode cX5_readLetter 43 = .ok (.iadd, 1) := by decide +kernel
theorem dX5_readLetter_44 : decode cX5_readLetter 44 = .ok (.putfield 190, 3) := by decide +kernel
theorem dX5_readLetter_47 : decode cX5_readLetter 47 = .ok (.aload_n 0, 1) := by decide +kernel
theorem dX5_readLetter_48 : decode cX5_readLetter 48 = .ok (.dup, 1) := by decide +kernel
theorem dX5_readLetter_49 : decode cX5_readLetter 49 = .ok (.getfield 29, 3) := by decide +kernel
theorem dX5_readLetter_52 : decode cX5_readLetter 52 = .ok (.iconst 1, 1) := by decide +kernel
theorem dX5_readLetter_53 : decode cX5_readLetter 53 = .ok (.iadd, 1) := by decide +kernel
theorem dX5_readLetter_54 : decode cX5_readLetter 54 = .ok (.putfield 29, 3) := by decide +kernel
theorem dX5_readLetter_57 : decode cX5_readLetter 57 = .ok (.return_, 1) := by decide +kernel
set_option maxRecDepth 20000 in
theorem ggX5_openGroup_X5_error : GoodIn wsX5_openGroup wsX5_error := goodIn_r _ [12, 13, 14, 23, 24, 25, 26, 27, 28, 29, 30, 31, 32, 33] (by decide +kernel) (by decide +kernel)
set_option maxRecDepth 20000 in
theorem gX5_openGroup_X5_error : GoodIn wsX5_openGroup (wsV RX5 59 RX5 yX5_error wsX5_error) := goodIn_app (goodIn_of _ (by decide +kernel)) ggX5_openGroup_X5_error
set_option maxRecDepth 20000 in
theorem ggX5_openGroup_X5_skipSpaces : GoodIn wsX5_openGroup wsX5_skipSpaces := goodIn_r _ [18, 2, 3, 4, 23, 24, 25, 26, 27, 28, 29, 30, 31, 32, 33] (by decide +kernel) (by decide +kernel)
set_option maxRecDepth 20000 in
theorem gX5_openGroup_X5_skipSpaces : GoodIn wsX5_openGroup (wsV RX5 52 RX5 yX5_skipSpaces wsX5_skipSpaces) := goodIn_app (goodIn_of _ (by decide +kernel)) ggX5_openGroup_X5_skipSpaces
set_option maxRecDepth 20000 in
theorem ggX5_openGroup_X5_isFine : GoodIn wsX5_openGroup wsX5_isFine := goodIn_r _ [22, 13, 23, 24, 25, 26, 27, 28, 29, 30, 31, 32, 33] (by decide +kernel) (by decide +kernel)
set_option maxRecDepth 20000 in
theorem gX5_openGroup_X5_isFine : GoodIn wsX5_openGroup (wsV RX5 56 RX5 yX5_isFine wsX5_isFine) := goodIn_app (goodIn_of _ (by decide +kernel)) ggX5_openGroup_X5_isFine
theorem dX5_openGroup_0 : decode cX5_openGroup 0 = .ok (.aload_n 0, 1) := by decide +kernel
theorem dX5_openGroup_1 : decode cX5_openGroup 1 = .ok (.getfield 197, 3) := by decide +kernel
theorem dX5_openGroup_4 : decode cX5_openGroup 4 = .ok (.iconst 3, 1) := by decide +kernel
theorem dX5_openGroup_5 : decode cX5_openGroup 5 = .ok (.if_icmp .lt 9, 3) := by decide +kernel
theorem dX5_openGroup_8 : decode cX5_openGroup 8 = .ok (.aload_n 0, 1) := by decide +kernel
theorem dX5_openGroup_9 : decode cX5_openGroup 9 = .ok (.iconst 3, 1) := by decide +kernel
theorem dX5_openGroup_10 : decode cX5_openGroup 10 = .ok (.iload_n 2, 1) := by decide +kernel
theorem dX5_openGroup_11 : decode cX5_openGroup 11 = .ok (.invokevirtual 59, 3) := by decide +kernel
theorem dX5_openGroup_14 : decode cX5_openGroup 14 = .ok (.aload_n 0, 1) := by decide +kernel
theorem dX5_openGroup_15 : decode cX5_openGroup 15 = .ok (.invokevirtual 52, 3) := by decide +kernel
theorem dX5_openGroup_18 : decode cX5_openGroup 18 = .ok (.pop, 1) := by decide +kernel
theorem dX5_openGroup_19 : decode cX5_openGroup 19 = .ok (.aload_n 0, 1) := by decide +kernel
theorem dX5_openGroup_20 : decode cX5_openGroup 20 = .ok (.getfield 29, 3) := by decide +kernel
theorem dX5_openGroup_23 : decode cX5_openGroup 23 = .ok (.aload_n 0, 1) := by decide +kernel
theorem dX5_openGroup_24 : decode cX5_openGroup 24 = .ok (.getfield 25, 3) := by decide +kernel
theorem dX5_openGroup_27 : decode cX5_openGroup 27 = .ok (.if_icmp .ge 17, 3) := by decide +kernel
theorem dX5_openGroup_30 : decode cX5_openGroup 30 = .ok (.aload_n 0, 1) := by decide +kernel
theorem dX5_openGroup_31 : decode cX5_openGroup 31 = .ok (.getfield 9, 3) := by decide +kernel
theorem dX5_openGroup_34 : decode cX5_openGroup 34 = .ok (.aload_n 0, 1) := by decide +kernel
theorem dX5_openGroup_35 : decode cX5_openGroup 35 = .ok (.getfield 29, 3) := by decide +kernel
theorem dX5_openGroup_38 : decode cX5_openGroup 38 = .ok (.baload, 1) := by decide +kernel
theorem dX5_openGroup_39 : decode cX5_openGroup 39 = .ok (.bipush 40, 2) := by decide +kernel
theorem dX5_openGroup_41 : decode cX5_openGroup 41 = .ok (.if_icmp .eq 12, 3) := by decide +kernel
theorem dX5_openGroup_44 : decode cX5_openGroup 44 = .ok (.aload_n 0, 1) := by decide +kernel
theorem dX5_openGroup_45 : decode cX5_openGroup 45 = .ok (.iconst 1, 1) := by decide +kernel
theorem dX5_openGroup_46 : decode cX5_openGroup 46 = .ok (.aload_n 0, 1) := by decide +kernel
theorem dX5_openGroup_47 : decode cX5_openGroup 47 = .ok (.getfield 29, 3) := by decide +kernel
theorem dX5_openGroup_50 : decode cX5_openGroup 50 = .ok (.invokevirtual 59, 3) := by decide +kernel
theorem dX5_openGroup_53 : decode cX5_openGroup 53 = .ok (.aload_n 0, 1) := by decide +kernel
theorem dX5_openGroup_54 : decode cX5_openGroup 54 = .ok (.invokevirtual 56, 3) := by decide +kernel
theorem dX5_openGroup_57 : decode cX5_openGroup 57 = .ok (.ifCond .eq 46, 3) := by decide +kernel
theorem dX5_openGroup_60 : decode cX5_openGroup 60 = .ok (.aload_n 0, 1) := by decide +kernel
theorem dX5_openGroup_61 : decode cX5_openGroup 61 = .ok (.dup, 1) := by decide +kernel
theorem dX5_openGroup_62 : decode cX5_openGroup 62 = .ok (.getfield 29, 3) := by decide +kernel
theorem dX5_openGroup_65 : decode cX5_openGroup 65 = .ok (.iconst 1, 1) := by decide +kernel
theorem dX5_openGroup_66 : decode cX5_openGroup 66 = .ok (.iadd, 1) := by decide +kernel
theorem dX5_openGroup_67 : decode cX5_openGroup 67 = .ok (.putfield 29, 3) := by decide +kernel
theorem dX5_openGroup_70 : decode cX5_openGroup 70 = .ok (.aload_n 0, 1) := by decide +kernel
theorem dX5_openGroup_71 : decode cX5_openGroup 71 = .ok (.dup, 1) := by decide +kernel
theorem dX5_openGroup_72 : decode cX5_openGroup 72 = .ok (.getfield 197, 3) := by decide +kernel
theorem dX5_openGroup_75 : decode cX5_openGroup 75 = .ok (.iconst 1, 1) := by decide +kernel
theorem dX5_openGroup_76 : decode cX5_openGroup 76 = .ok (.iadd, 1) := by decide +kernel
theorem dX5_openGroup_77 : decode cX5_openGroup 77 = .ok (.putfield 197, 3) := by decide +kernel
theorem dX5_openGroup_80 : decode cX5_openGroup 80 = .ok (.aload_n 0, 1) := by decide +kernel
theorem dX5_openGroup_81 : decode cX5_openGroup 81 = .ok (.getfield 18, 3) := by decide +kernel
theorem dX5_openGroup_84 : decode cX5_openGroup 84 = .ok (.aload_n 0, 1) := by decide +kernel
theorem dX5_openGroup_85 : decode cX5_openGroup 85 = .ok (.getfield 197, 3) := by decide +kernel
theorem dX5_openGroup_88 : decode cX5_openGroup 88 = .ok (.aload_n 0, 1) := by decide +kernel
theorem dX5_openGroup_89 : decode cX5_openGroup 89 = .ok (.getfield 190, 3) := by decide +kernel
theorem dX5_openGroup_92 : decode cX5_openGroup 92 = .ok (.iastore, 1) := by decide +kernel
theorem dX5_openGroup_93 : decode cX5_openGroup 93 = .ok (.aload_n 0, 1) := by decide +kernel
theorem dX5_openGroup_94 : decode cX5_openGroup 94 = .ok (.getfield 22, 3) := by decide +kernel
theorem dX5_openGroup_97 : decode cX5_openGroup 97 = .ok (.aload_n 0, 1) := by decide +kernel
theorem dX5_openGroup_98 : decode cX5_openGroup 98 = .ok (.getfield 197, 3) := by decide +kernel
theorem dX5_openGroup_101 : decode cX5_openGroup 101 = .ok (.iload_n 1, 1) := by decide +kernel
theorem dX5_openGroup_102 : decode cX5_openGroup 102 = .ok (.iastore, 1) := by decide +kernel
theorem dX5_openGroup_103 : decode cX5_openGroup 103 = .ok (.return_, 1) := by decide +kernel
set_option maxRecDepth 20000 in
theorem ggX5_closeGroup_X5_rowLength : GoodIn wsX5_closeGroup wsX5_rowLength := goodIn_r _ [15, 1, 6, 5, 22, 23, 24, 25, 26, 27, 28, 29, 30, 31, 32] (by decide +kernel) (by decide +kernel)
set_option maxRecDepth 20000 in
theorem gX5_closeGroup_X5_rowLength : GoodIn wsX5_closeGroup (wsV RX5 210 RX5 yX5_rowLength wsX5_rowLength) := goodIn_app (goodIn_of _ (by decide +kernel)) ggX5_closeGroup_X5_rowLength
set_option maxRecDepth 20000 in
theorem ggX5_closeGroup_X5_error : GoodIn wsX5_closeGroup wsX5_error := goodIn_r _ [19, 20, 21, 22, 23, 24, 25, 26, 27, 28, 29, 30, 31, 32] (by decide +kernel) (by decide +kernel)
set_option maxRecDepth 20000 in
theorem gX5_closeGroup_X5_error : GoodIn wsX5_closeGroup (wsV RX5 59 RX5 yX5_error wsX5_error) := goodIn_app (goodIn_of _ (by decide +kernel)) ggX5_closeGroup_X5_error
theorem dX5_closeGroup_0 : decode cX5_closeGroup 0 = .ok (.aload_n 0, 1) := by decide +kernel
theorem dX5_closeGroup_1 : decode cX5_closeGroup 1 = .ok (.getfield 197, 3) := by decide +kernel
theorem dX5_closeGroup_4 : decode cX5_closeGroup 4 = .ok (.ifCond .eq 14, 3) := by decide +kernel
theorem dX5_closeGroup_7 : decode cX5_closeGroup 7 = .ok (.aload_n 0, 1) := by decide +kernel
theorem dX5_closeGroup_8 : decode cX5_closeGroup 8 = .ok (.aload_n 0, 1) := by decide +kernel
theorem dX5_closeGroup_9 : decode cX5_closeGroup 9 = .ok (.getfield 197, 3) := by decide +kernel
theorem dX5_closeGroup_12 : decode cX5_closeGroup 12 = .ok (.invokevirtual 210, 3) := by decide +kernel
theorem dX5_closeGroup_15 : decode cX5_closeGroup 15 = .ok (.ifCond .ne 13, 3) := by decide +kernel
theorem dX5_closeGroup_18 : decode cX5_closeGroup 18 = .ok (.aload_n 0, 1) := by decide +kernel
theorem dX5_closeGroup_19 : decode cX5_closeGroup 19 = .ok (.iconst 1, 1) := by decide +kernel
theorem dX5_closeGroup_20 : decode cX5_closeGroup 20 = .ok (.aload_n 0, 1) := by decide +kernel
theorem dX5_closeGroup_21 : decode cX5_closeGroup 21 = .ok (.getfield 29, 3) := by decide +kernel
theorem dX5_closeGroup_24 : decode cX5_closeGroup 24 = .ok (.invokevirtual 59, 3) := by decide +kernel
theorem dX5_closeGroup_27 : decode cX5_closeGroup 27 = .ok (.return_, 1) := by decide +kernel
theorem dX5_closeGroup_28 : decode cX5_closeGroup 28 = .ok (.aload_n 0, 1) := by decide +kernel
theorem dX5_closeGroup_29 : decode cX5_closeGroup 29 = .ok (.aload_n 0, 1) := by decide +kernel
theorem dX5_closeGroup_30 : decode cX5_closeGroup 30 = .ok (.getfield 197, 3) := by decide +kernel
theorem dX5_closeGroup_33 : decode cX5_closeGroup 33 = .ok (.invokevirtual 210, 3) := by decide +kernel
theorem dX5_closeGroup_36 : decode cX5_closeGroup 36 = .ok (.istore_n 1, 1) := by decide +kernel
theorem dX5_closeGroup_37 : decode cX5_closeGroup 37 = .ok (.aload_n 0, 1) := by decide +kernel
theorem dX5_closeGroup_38 : decode cX5_closeGroup 38 = .ok (.getfield 22, 3) := by decide +kernel
theorem dX5_closeGroup_41 : decode cX5_closeGroup 41 = .ok (.aload_n 0, 1) := by decide +kernel
theorem dX5_closeGroup_42 : decode cX5_closeGroup 42 = .ok (.getfield 197, 3) := by decide +kernel
theorem dX5_closeGroup_45 : decode cX5_closeGroup 45 = .ok (.iaload, 1) := by decide +kernel
theorem dX5_closeGroup_46 : decode cX5_closeGroup 46 = .ok (.istore_n 2, 1) := by decide +kernel
theorem dX5_closeGroup_47 : decode cX5_closeGroup 47 = .ok (.aload_n 0, 1) := by decide +kernel
theorem dX5_closeGroup_48 : decode cX5_closeGroup 48 = .ok (.aload_n 0, 1) := by decide +kernel
theorem dX5_closeGroup_49 : decode cX5_closeGroup 49 = .ok (.getfield 197, 3) := by decide +kernel
theorem dX5_closeGroup_52 : decode cX5_closeGroup 52 = .ok (.iconst 1, 1) := by decide +kernel
theorem dX5_closeGroup_53 : decode cX5_closeGroup 53 = .ok (.isub, 1) := by decide +kernel
theorem dX5_closeGroup_54 : decode cX5_closeGroup 54 = .ok (.invokevirtual 210, 3) := by decide +kernel
theorem dX5_closeGroup_57 : decode cX5_closeGroup 57 = .ok (.iload_n 2, 1) := by decide +kernel
theorem dX5_closeGroup_58 : decode cX5_closeGroup 58 = .ok (.iload_n 1, 1) := by decide +kernel
theorem dX5_closeGroup_59 : decode cX5_closeGroup 59 = .ok (.imul, 1) := by decide +kernel
theorem dX5_closeGroup_60 : decode cX5_closeGroup 60 = .ok (.iadd, 1) := by decide +kernel
theorem dX5_closeGroup_61 : decode cX5_closeGroup 61 = .ok (.bipush 16, 2) := by decide +kernel
theorem dX5_closeGroup_63 : decode cX5_closeGroup 63 = .ok (.if_icmp .le 13, 3) := by decide +kernel
theorem dX5_closeGroup_66 : decode cX5_closeGroup 66 = .ok (.aload_n 0, 1) := by decide +kernel
theorem dX5_closeGroup_67 : decode cX5_closeGroup 67 = .ok (.iconst 3, 1) := by decide +kernel
theorem dX5_closeGroup_68 : decode cX5_closeGroup 68 = .ok (.aload_n 0, 1) := by decide +kernel
theorem dX5_closeGroup_69 : decode cX5_closeGroup 69 = .ok (.getfield 29, 3) := by decide +kernel
theorem dX5_closeGroup_72 : decode cX5_closeGroup 72 = .ok (.invokevirtual 59, 3) := by decide +kernel
theorem dX5_closeGroup_75 : decode cX5_closeGroup 75 = .ok (.return_, 1) := by decide +kernel
theorem dX5_closeGroup_76 : decode cX5_closeGroup 76 = .ok (.iconst 1, 1) := by decide +kernel
theorem dX5_closeGroup_77 : decode cX5_closeGroup 77 = .ok (.istore_n 3, 1) := by decide +kernel
theorem dX5_closeGroup_78 : decode cX5_closeGroup 78 = .ok (.iload_n 3, 1) := by decide +kernel
theorem dX5_closeGroup_79 : decode cX5_closeGroup 79 = .ok (.iload_n 2, 1) := by decide +kernel
theorem dX5_closeGroup_80 : decode cX5_closeGroup 80 = .ok (.if_icmp .ge 44, 3) := by decide +kernel
theorem dX5_closeGroup_83 : decode cX5_closeGroup 83 = .ok (.aload_n 0, 1) := by decide +kernel
theorem dX5_closeGroup_84 : decode cX5_closeGroup 84 = .ok (.getfield 15, 3) := by decide +kernel
theorem dX5_closeGroup_87 : decode cX5_closeGroup 87 = .ok (.aload_n 0, 1) := by decide +kernel
theorem dX5_closeGroup_88 : decode cX5_closeGroup 88 = .ok (.getfield 18, 3) := by decide +kernel
theorem dX5_closeGroup_91 : decode cX5_closeGroup 91 = .ok (.aload_n 0, 1) := by decide +kernel
theorem dX5_closeGroup_92 : decode cX5_closeGroup 92 = .ok (.getfield 197, 3) := by decide +kernel
theorem dX5_closeGroup_95 : decode cX5_closeGroup 95 = .ok (.iaload, 1) := by decide +kernel
theorem dX5_closeGroup_96 : decode cX5_closeGroup 96 = .ok (.aload_n 0, 1) := by decide +kernel
theorem dX5_closeGroup_97 : decode cX5_closeGroup 97 = .ok (.getfield 15, 3) := by decide +kernel
theorem dX5_closeGroup_100 : decode cX5_closeGroup 100 = .ok (.aload_n 0, 1) := by decide +kernel
theorem dX5_closeGroup_101 : decode cX5_closeGroup 101 = .ok (.getfield 190, 3) := by decide +kernel
theorem dX5_closeGroup_104 : decode cX5_closeGroup 104 = .ok (.iload_n 1, 1) := by decide +kernel
theorem dX5_closeGroup_105 : decode cX5_closeGroup 105 = .ok (.invokestatic 213, 3) := by decide +kernel
theorem dX5_closeGroup_108 : decode cX5_closeGroup 108 = .ok (.aload_n 0, 1) := by decide +kernel
theorem dX5_closeGroup_109 : decode cX5_closeGroup 109 = .ok (.dup, 1) := by decide +kernel
theorem dX5_closeGroup_110 : decode cX5_closeGroup 110 = .ok (.getfield 190, 3) := by decide +kernel
theorem dX5_closeGroup_113 : decode cX5_closeGroup 113 = .ok (.iload_n 1, 1) := by decide +kernel
theorem dX5_closeGroup_114 : decode cX5_closeGroup 114 = .ok (.iadd, 1) := by decide +kernel
theorem dX5_closeGroup_115 : decode cX5_closeGroup 115 = .ok (.putfield 190, 3) := by decide +kernel
theorem dX5_closeGroup_118 : decode cX5_closeGroup 118 = .ok (.iinc 3 1, 3) := by decide +kernel
theorem dX5_closeGroup_121 : decode cX5_closeGroup 121 = .ok (.goto (-43), 3) := by decide +kernel
theorem dX5_closeGroup_124 : decode cX5_closeGroup 124 = .ok (.aload_n 0, 1) := by decide +kernel
theorem dX5_closeGroup_125 : decode cX5_closeGroup 125 = .ok (.dup, 1) := by decide +kernel
theorem dX5_closeGroup_126 : decode cX5_closeGroup 126 = .ok (.getfield 197, 3) := by decide +kernel
theorem dX5_closeGroup_129 : decode cX5_closeGroup 129 = .ok (.iconst 1, 1) := by decide +kernel
theorem dX5_closeGroup_130 : decode cX5_closeGroup 130 = .ok (.isub, 1) := by decide +kernel
theorem dX5_closeGroup_131 : decode cX5_closeGroup 131 = .ok (.putfield 197, 3) := by decide +kernel
theorem dX5_closeGroup_134 : decode cX5_closeGroup 134 = .ok (.aload_n 0, 1) := by decide +kernel
theorem dX5_closeGroup_135 : decode cX5_closeGroup 135 = .ok (.dup, 1) := by decide +kernel
theorem dX5_closeGroup_136 : decode cX5_closeGroup 136 = .ok (.getfield 29, 3) := by decide +kernel
theorem dX5_closeGroup_139 : decode cX5_closeGroup 139 = .ok (.iconst 1, 1) := by decide +kernel
theorem dX5_closeGroup_140 : decode cX5_closeGroup 140 = .ok (.iadd, 1) := by decide +kernel
theorem dX5_closeGroup_141 : decode cX5_closeGroup 141 = .ok (.putfield 29, 3) := by decide +kernel
theorem dX5_closeGroup_144 : decode cX5_closeGroup 144 = .ok (.return_, 1) := by decide +kernel
theorem dX6_init_0 : decode cX6_init 0 = .ok (.aload_n 0, 1) := by decide +kernel
theorem dX6_init_1 : decode cX6_init 1 = .ok (.invokespecial 3, 3) := by decide +kernel
theorem dX6_init_4 : decode cX6_init 4 = .ok (.aload_n 0, 1) := by decide +kernel
theorem dX6_init_5 : decode cX6_init 5 = .ok (.getstatic 9, 3) := by decide +kernel
theorem dX6_init_8 : decode cX6_init 8 = .ok (.putfield 13, 3) := by decide +kernel
theorem dX6_init_11 : decode cX6_init 11 = .ok (.return_, 1) := by decide +kernel
theorem dX6_begin_0 : decode cX6_begin 0 = .ok (.aload_n 0, 1) := by decide +kernel
theorem dX6_begin_1 : decode cX6_begin 1 = .ok (.iload_n 1, 1) := by decide +kernel
theorem dX6_begin_2 : decode cX6_begin 2 = .ok (.putfield 18, 3) := by decide +kernel
theorem dX6_begin_5 : decode cX6_begin 5 = .ok (.aload_n 0, 1) := by decide +kernel
theorem dX6_begin_6 : decode cX6_begin 6 = .ok (.iload_n 2, 1) := by decide +kernel
theorem dX6_begin_7 : decode cX6_begin 7 = .ok (.putfield 22, 3) := by decide +kernel
theorem dX6_begin_10 : decode cX6_begin 10 = .ok (.aload_n 0, 1) := by decide +kernel
theorem dX6_begin_11 : decode cX6_begin 11 = .ok (.aload_n 3, 1) := by decide +kernel
theorem dX6_begin_12 : decode cX6_begin 12 = .ok (.putfield 13, 3) := by decide +kernel
theorem dX6_begin_15 : decode cX6_begin 15 = .ok (.aload_n 0, 1) := by decide +kernel
theorem dX6_begin_16 : decode cX6_begin 16 = .ok (.iconst (-1), 1) := by decide +kernel
theorem dX6_begin_17 : decode cX6_begin 17 = .ok (.putfield 25, 3) := by decide +kernel
theorem dX6_begin_20 : decode cX6_begin 20 = .ok (.aload_n 0, 1) := by decide +kernel
theorem dX6_begin_21 : decode cX6_begin 21 = .ok (.iconst 0, 1) := by decide +kernel
theorem dX6_begin_22 : decode cX6_begin 22 = .ok (.putfield 28, 3) := by decide +kernel
theorem dX6_begin_25 : decode cX6_begin 25 = .ok (.aload_n 0, 1) := by decide +kernel
theorem dX6_begin_26 : decode cX6_begin 26 = .ok (.iconst 0, 1) := by decide +kernel
theorem dX6_begin_27 : decode cX6_begin 27 = .ok (.putfield 31, 3) := by decide +kernel
theorem dX6_begin_30 : decode cX6_begin 30 = .ok (.aload_n 0, 1) := by decide +kernel
theorem dX6_begin_31 : decode cX6_begin 31 = .ok (.iconst 0, 1) := by decide +kernel
theorem dX6_begin_32 : decode cX6_begin 32 = .ok (.putfield 34, 3) := by decide +kernel
theorem dX6_begin_35 : decode cX6_begin 35 = .ok (.aload_n 0, 1) := by decide +kernel
theorem dX6_begin_36 : decode cX6_begin 36 = .ok (.iconst 0, 1) := by decide +kernel
theorem dX6_begin_37 : decode cX6_begin 37 = .ok (.putfield 37, 3) := by decide +kernel
theorem dX6_begin_40 : decode cX6_begin 40 = .ok (.aload_n 0, 1) := by decide +kernel
theorem dX6_begin_41 : decode cX6_begin 41 = .ok (.iconst 0, 1) := by decide +kernel
theorem dX6_begin_42 : decode cX6_begin 42 = .ok (.putfield 40, 3) := by decide +kernel
theorem dX6_begin_45 : decode cX6_begin 45 = .ok (.aload_n 0, 1) := by decide +kernel
theorem dX6_begin_46 : decode cX6_begin 46 = .ok (.iconst 0, 1) := by decide +kernel
theorem dX6_begin_47 : decode cX6_begin 47 = .ok (.putfield 43, 3) := by decide +kernel
theorem dX6_begin_50 : decode cX6_begin 50 = .ok (.aload_n 0, 1) := by decide +kernel
theorem dX6_begin_51 : decode cX6_begin 51 = .ok (.iconst 0, 1) := by decide +kernel
theorem dX6_begin_52 : decode cX6_begin 52 = .ok (.putfield 47, 3) := by decide +kernel
theorem dX6_begin_55 : decode cX6_begin 55 = .ok (.aload_n 0, 1) := by decide +kernel
theorem dX6_begin_56 : decode cX6_begin 56 = .ok (.iconst 0, 1) := by decide +kernel
theorem dX6_begin_57 : decode cX6_begin 57 = .ok (.putfield 50, 3) := by decide +kernel
theorem dX6_begin_60 : decode cX6_begin 60 = .ok (.aload_n 0, 1) := by decide +kernel
theorem dX6_begin_61 : decode cX6_begin 61 = .ok (.iconst 0, 1) := by decide +kernel
theorem dX6_begin_62 : decode cX6_begin 62 = .ok (.putfield 53, 3) := by decide +kernel
theorem dX6_begin_65 : decode cX6_begin 65 = .ok (.aload_n 0, 1) := by decide +kernel
theorem dX6_begin_66 : decode cX6_begin 66 = .ok (.iconst 0, 1) := by decide +kernel
theorem dX6_begin_67 : decode cX6_begin 67 = .ok (.putfield 56, 3) := by decide +kernel
theorem dX6_begin_70 : decode cX6_begin 70 = .ok (.aload_n 0, 1) := by decide +kernel
theorem dX6_begin_71 : decode cX6_begin 71 = .ok (.iconst 0, 1) := by decide +kernel
theorem dX6_begin_72 : decode cX6_begin 72 = .ok (.putfield 59, 3) := by decide +kernel
theorem dX6_begin_75 : decode cX6_begin 75 = .ok (.return_, 1) := by decide +kernel
theorem dX6_copyFrom_0 : decode cX6_copyFrom 0 = .ok (.aload_n 0, 1) := by decide +kernel
theorem dX6_copyFrom_1 : decode cX6_copyFrom 1 = .ok (.aload_n 1, 1) := by decide +kernel
theorem dX6_copyFrom_2 : decode cX6_copyFrom 2 = .ok (.getfield 18, 3) := by decide +kernel
theorem dX6_copyFrom_5 : decode cX6_copyFrom 5 = .ok (.putfield 18, 3) := by decide +kernel
theorem dX6_copyFrom_8 : decode cX6_copyFrom 8 = .ok (.aload_n 0, 1) := by decide +kernel
theorem dX6_copyFrom_9 : decode cX6_copyFrom 9 = .ok (.aload_n 1, 1) := by decide +kernel
theorem dX6_copyFrom_10 : decode cX6_copyFrom 10 = .ok (.getfield 22, 3) := by decide +kernel
theorem dX6_copyFrom_13 : decode cX6_copyFrom 13 = .ok (.putfield 22, 3) := by decide +kernel
theorem dX6_copyFrom_16 : decode cX6_copyFrom 16 = .ok (.aload_n 0, 1) := by decide +kernel
theorem dX6_copyFrom_17 : decode cX6_copyFrom 17 = .ok (.aload_n 1, 1) := by decide +kernel
theorem dX6_copyFrom_18 : decode cX6_copyFrom 18 = .ok (.getfield 13, 3) := by decide +kernel
theorem dX6_copyFrom_21 : decode cX6_copyFrom 21 = .ok (.putfield 13, 3) := by decide +kernel
theorem dX6_copyFrom_24 : decode cX6_copyFrom 24 = .ok (.aload_n 0, 1) := by decide +kernel
theorem dX6_copyFrom_25 : decode cX6_copyFrom 25 = .ok (.aload_n 1, 1) := by decide +kernel
theorem dX6_copyFrom_26 : decode cX6_copyFrom 26 = .ok (.getfield 25, 3) := by decide +kernel
theorem dX6_copyFrom_29 : decode cX6_copyFrom 29 = .ok (.putfield 25, 3) := by decide +kernel
theorem dX6_copyFrom_32 : decode cX6_copyFrom 32 = .ok (.aload_n 0, 1) := by decide +kernel
theorem dX6_copyFrom_33 : decode cX6_copyFrom 33 = .ok (.aload_n 1, 1) := by decide +kernel
theorem dX6_copyFrom_34 : decode cX6_copyFrom 34 = .ok (.getfield 28, 3) := by decide +kernel
theorem dX6_copyFrom_37 : decode cX6_copyFrom 37 = .ok (.putfield 28, 3) := by decide +kernel
theorem dX6_copyFrom_40 : decode cX6_copyFrom 40 = .ok (.aload_n 0, 1) := by decide +kernel
theorem dX6_copyFrom_41 : decode cX6_copyFrom 41 = .ok (.aload_n 1, 1) := by decide +kernel
theorem dX6_copyFrom_42 : decode cX6_copyFrom 42 = .ok (.getfield 31, 3) := by decide +kernel
theorem dX6_copyFrom_45 : decode cX6_copyFrom 45 = .ok (.putfield 31, 3) := by decide +kernel
theorem dX6_copyFrom_48 : decode cX6_copyFrom 48 = .ok (.aload_n 0, 1) := by decide +kernel
theorem dX6_copyFrom_49 : decode cX6_copyFrom 49 = .ok (.aload_n 1, 1) := by decide +kernel
theorem dX6_copyFrom_50 : decode cX6_copyFrom 50 = .ok (.getfield 34, 3) := by decide +kernel
theorem dX6_copyFrom_53 : decode cX6_copyFrom 53 = .ok (.putfield 34, 3) := by decide +kernel
theorem dX6_copyFrom_56 : decode cX6_copyFrom 56 = .ok (.aload_n 0, 1) := by decide +kernel
theorem dX6_copyFrom_57 : decode cX6_copyFrom 57 = .ok (.aload_n 1, 1) := by decide +kernel
theorem dX6_copyFrom_58 : decode cX6_copyFrom 58 = .ok (.getfield 37, 3) := by decide +kernel
theorem dX6_copyFrom_61 : decode cX6_copyFrom 61 = .ok (.putfield 37, 3) := by decide +kernel
theorem dX6_copyFrom_64 : decode cX6_copyFrom 64 = .ok (.aload_n 0, 1) := by decide +kernel
theorem dX6_copyFrom_65 : decode cX6_copyFrom 65 = .ok (.aload_n 1, 1) := by decide +kernel
theorem dX6_copyFrom_66 : decode cX6_copyFrom 66 = .ok (.getfield 40, 3) := by decide +kernel
theorem dX6_copyFrom_69 : decode cX6_copyFrom 69 = .ok (.putfield 40, 3) := by decide +kernel
theorem dX6_copyFrom_72 : decode cX6_copyFrom 72 = .ok (.aload_n 0, 1) := by decide +kernel
theorem dX6_copyFrom_73 : decode cX6_copyFrom 73 = .ok (.aload_n 1, 1) := by decide +kernel
theorem dX6_copyFrom_74 : decode cX6_copyFrom 74 = .ok (.getfield 43, 3) := by decide +kernel
theorem dX6_copyFrom_77 : decode cX6_copyFrom 77 = .ok (.putfield 43, 3) := by decide +kernel
theorem dX6_copyFrom_80 : decode cX6_copyFrom 80 = .ok (.aload_n 0, 1) := by decide +kernel
theorem dX6_copyFrom_81 : decode cX6_copyFrom 81 = .ok (.aload_n 1, 1) := by decide +kernel
theorem dX6_copyFrom_82 : decode cX6_copyFrom 82 = .ok (.getfield 47, 3) := by decide +kernel
theorem dX6_copyFrom_85 : decode cX6_copyFrom 85 = .ok (.putfield 47, 3) := by decide +kernel
theorem dX6_copyFrom_88 : decode cX6_copyFrom 88 = .ok (.aload_n 0, 1) := by decide +kernel
theorem dX6_copyFrom_89 : decode cX6_copyFrom 89 = .ok (.aload_n 1, 1) := by decide +kernel
theorem dX6_copyFrom_90 : decode cX6_copyFrom 90 = .ok (.getfield 50, 3) := by decide +kernel
theorem dX6_copyFrom_93 : decode cX6_copyFrom 93 = .ok (.putfield 50, 3) := by decide +kernel
theorem dX6_copyFrom_96 : decode cX6_copyFrom 96 = .ok (.aload_n 0, 1) := by decide +kernel
theorem dX6_copyFrom_97 : decode cX6_copyFrom 97 = .ok (.aload_n 1, 1) := by decide +kernel
theorem dX6_copyFrom_98 : decode cX6_copyFrom 98 = .ok (.getfield 53, 3) := by decide +kernel
theorem dX6_copyFrom_101 : decode cX6_copyFrom 101 = .ok (.putfield 53, 3) := by decide +kernel
theorem dX6_copyFrom_104 : decode cX6_copyFrom 104 = .ok (.aload_n 0, 1) := by decide +kernel
theorem dX6_copyFrom_105 : decode cX6_copyFrom 105 = .ok (.aload_n 1, 1) := by decide +kernel
theorem dX6_copyFrom_106 : decode cX6_copyFrom 106 = .ok (.getfield 56, 3) := by decide +kernel
theorem dX6_copyFrom_109 : decode cX6_copyFrom 109 = .ok (.putfield 56, 3) := by decide +kernel
theorem dX6_copyFrom_112 : decode cX6_copyFrom 112 = .ok (.aload_n 0, 1) := by decide +kernel
theorem dX6_copyFrom_113 : decode cX6_copyFrom 113 = .ok (.aload_n 1, 1) := by decide +kernel
theorem dX6_copyFrom_114 : decode cX6_copyFrom 114 = .ok (.getfield 59, 3) := by decide +kernel
theorem dX6_copyFrom_117 : decode cX6_copyFrom 117 = .ok (.putfield 59, 3) := by decide +kernel
theorem dX6_copyFrom_120 : decode cX6_copyFrom 120 = .ok (.return_, 1) := by decide +kernel
theorem dX6_hasReadyCard_0 : decode cX6_hasReadyCard 0 = .ok (.aload_n 0, 1) := by decide +kernel
theorem dX6_hasReadyCard_1 : decode cX6_hasReadyCard 1 = .ok (.getfield 25, 3) := by decide +kernel
theorem dX6_hasReadyCard_4 : decode cX6_hasReadyCard 4 = .ok (.iconst (-1), 1) := by decide +kernel
theorem dX6_hasReadyCard_5 : decode cX6_hasReadyCard 5 = .ok (.if_icmp .eq 14, 3) := by decide +kernel
theorem dX6_hasReadyCard_8 : decode cX6_hasReadyCard 8 = .ok (.aload_n 0, 1) := by decide +kernel
theorem dX6_hasReadyCard_9 : decode cX6_hasReadyCard 9 = .ok (.getfield 28, 3) := by decide +kernel
theorem dX6_hasReadyCard_12 : decode cX6_hasReadyCard 12 = .ok (.ifCond .ne 7, 3) := by decide +kernel
theorem dX6_hasReadyCard_15 : decode cX6_hasReadyCard 15 = .ok (.iconst 1, 1) := by decide +kernel
theorem dX6_hasReadyCard_16 : decode cX6_hasReadyCard 16 = .ok (.goto 4, 3) := by decide +kernel
theorem dX6_hasReadyCard_19 : decode cX6_hasReadyCard 19 = .ok (.iconst 0, 1) := by decide +kernel
theorem dX6_hasReadyCard_20 : decode cX6_hasReadyCard 20 = .ok (.ireturn, 1) := by decide +kernel
set_option maxRecDepth 20000 in
theorem ggX6_turnsOf_X7_stepsOf : GoodIn wsX6_turnsOf wsX7_stepsOf := goodIn_r _ [5] (by decide +kernel) (by decide +kernel)
set_option maxRecDepth 20000 in
theorem gX6_turnsOf_X7_stepsOf_n62 : GoodIn wsX6_turnsOf (wsX7_stepsOf) := ggX6_turnsOf_X7_stepsOf
theorem dX6_turnsOf_0 : decode cX6_turnsOf 0 = .ok (.aload_n 0, 1) := by decide +kernel
theorem dX6_turnsOf_1 : decode cX6_turnsOf 1 = .ok (.getfield 18, 3) := by decide +kernel
theorem dX6_turnsOf_4 : decode cX6_turnsOf 4 = .ok (.iconst 3, 1) := by decide +kernel
theorem dX6_turnsOf_5 : decode cX6_turnsOf 5 = .ok (.if_icmp .ne 14, 3) := by decide +kernel
theorem dX6_turnsOf_8 : decode cX6_turnsOf 8 = .ok (.aload_n 1, 1) := by decide +kernel
theorem dX6_turnsOf_9 : decode cX6_turnsOf 9 = .ok (.aload_n 0, 1) := by decide +kernel
theorem dX6_turnsOf_10 : decode cX6_turnsOf 10 = .ok (.getfield 47, 3) := by decide +kernel
theorem dX6_turnsOf_13 : decode cX6_turnsOf 13 = .ok (.invokestatic 62, 3) := by decide +kernel
theorem dX6_turnsOf_16 : decode cX6_turnsOf 16 = .ok (.goto 4, 3) := by decide +kernel
theorem dX6_turnsOf_19 : decode cX6_turnsOf 19 = .ok (.iconst 0, 1) := by decide +kernel
theorem dX6_turnsOf_20 : decode cX6_turnsOf 20 = .ok (.ireturn, 1) := by decide +kernel
theorem dX6_ticksWith_0 : decode cX6_ticksWith 0 = .ok (.aload_n 0, 1) := by decide +kernel
theorem dX6_ticksWith_1 : decode cX6_ticksWith 1 = .ok (.getfield 18, 3) := by decide +kernel
theorem dX6_ticksWith_4 : decode cX6_ticksWith 4 = .ok (.iconst 3, 1) := by decide +kernel
theorem dX6_ticksWith_5 : decode cX6_ticksWith 5 = .ok (.if_icmp .ne 11, 3) := by decide +kernel
theorem dX6_ticksWith_8 : decode cX6_ticksWith 8 = .ok (.aload_n 0, 1) := by decide +kernel
theorem dX6_ticksWith_9 : decode cX6_ticksWith 9 = .ok (.getfield 22, 3) := by decide +kernel
theorem dX6_ticksWith_12 : decode cX6_ticksWith 12 = .ok (.iconst 1, 1) := by decide +kernel
theorem dX6_ticksWith_13 : decode cX6_ticksWith 13 = .ok (.if_icmp .ge 8, 3) := by decide +kernel
theorem dX6_ticksWith_16 : decode cX6_ticksWith 16 = .ok (.aload_n 0, 1) := by decide +kernel
theorem dX6_ticksWith_17 : decode cX6_ticksWith 17 = .ok (.getfield 22, 3) := by decide +kernel
theorem dX6_ticksWith_20 : decode cX6_ticksWith 20 = .ok (.ireturn, 1) := by decide +kernel
theorem dX6_ticksWith_21 : decode cX6_ticksWith 21 = .ok (.aload_n 1, 1) := by decide +kernel
theorem dX6_ticksWith_22 : decode cX6_ticksWith 22 = .ok (.arraylength, 1) := by decide +kernel
theorem dX6_ticksWith_23 : decode cX6_ticksWith 23 = .ok (.iload_n 2, 1) := by decide +kernel
theorem dX6_ticksWith_24 : decode cX6_ticksWith 24 = .ok (.aload_n 0, 1) := by decide +kernel
theorem dX6_ticksWith_25 : decode cX6_ticksWith 25 = .ok (.getfield 22, 3) := by decide +kernel
theorem dX6_ticksWith_28 : decode cX6_ticksWith 28 = .ok (.iadd, 1) := by decide +kernel
theorem dX6_ticksWith_29 : decode cX6_ticksWith 29 = .ok (.iconst 1, 1) := by decide +kernel
theorem dX6_ticksWith_30 : decode cX6_ticksWith 30 = .ok (.isub, 1) := by decide +kernel
theorem dX6_ticksWith_31 : decode cX6_ticksWith 31 = .ok (.aload_n 0, 1) := by decide +kernel
theorem dX6_ticksWith_32 : decode cX6_ticksWith 32 = .ok (.getfield 22, 3) := by decide +kernel
theorem dX6_ticksWith_35 : decode cX6_ticksWith 35 = .ok (.idiv, 1) := by decide +kernel
theorem dX6_ticksWith_36 : decode cX6_ticksWith 36 = .ok (.iadd, 1) := by decide +kernel
theorem dX6_ticksWith_37 : decode cX6_ticksWith 37 = .ok (.ireturn, 1) := by decide +kernel
set_option maxRecDepth 20000 in
theorem ggX6_ticksOf_X6_turnsOf : GoodIn wsX6_ticksOf wsX6_turnsOf := goodIn_r _ [5, 6, 7, 8, 9, 10, 16, 17, 18, 19, 20, 21, 22, 23, 24, 25, 26, 27, 28, 29, 30] (by decide +kernel) (by decide +kernel)
set_option maxRecDepth 20000 in
theorem gX6_ticksOf_X6_turnsOf : GoodIn wsX6_ticksOf (wsV RX6 66 RX6 yX6_turnsOf wsX6_turnsOf) := goodIn_app (goodIn_of _ (by decide +kernel)) ggX6_ticksOf_X6_turnsOf
set_option maxRecDepth 20000 in
theorem ggX6_ticksOf_X6_ticksWith : GoodIn wsX6_ticksOf wsX6_ticksWith := goodIn_r _ [14, 6, 15, 16, 17, 18, 19, 20, 21, 22, 23, 24, 25, 26, 27, 28, 29, 30] (by decide +kernel) (by decide +kernel)
set_option maxRecDepth 20000 in
theorem gX6_ticksOf_X6_ticksWith : GoodIn wsX6_ticksOf (wsV RX6 70 RX6 yX6_ticksWith wsX6_ticksWith) := goodIn_app (goodIn_of _ (by decide +kernel)) ggX6_ticksOf_X6_ticksWith
theorem dX6_ticksOf_0 : decode cX6_ticksOf 0 = .ok (.aload_n 0, 1) := by decide +kernel
theorem dX6_ticksOf_1 : decode cX6_ticksOf 1 = .ok (.aload_n 1, 1) := by decide +kernel
theorem dX6_ticksOf_2 : decode cX6_ticksOf 2 = .ok (.aload_n 0, 1) := by decide +kernel
theorem dX6_ticksOf_3 : decode cX6_ticksOf 3 = .ok (.aload_n 1, 1) := by decide +kernel
theorem dX6_ticksOf_4 : decode cX6_ticksOf 4 = .ok (.invokevirtual 66, 3) := by decide +kernel
theorem dX6_ticksOf_7 : decode cX6_ticksOf 7 = .ok (.invokevirtual 70, 3) := by decide +kernel
theorem dX6_ticksOf_10 : decode cX6_ticksOf 10 = .ok (.ireturn, 1) := by decide +kernel
set_option maxRecDepth 20000 in
theorem ggX6_takeIn_X6_ticksWith : GoodIn wsX6_takeIn wsX6_ticksWith := goodIn_r _ [9, 2, 10, 11, 12, 13, 14, 15, 16, 17, 18, 19, 20, 21, 22, 23, 24, 25] (by decide +kernel) (by decide +kernel)
set_option maxRecDepth 20000 in
theorem gX6_takeIn_X6_ticksWith : GoodIn wsX6_takeIn (wsV RX6 70 RX6 yX6_ticksWith wsX6_ticksWith) := goodIn_app (goodIn_of _ (by decide +kernel)) ggX6_takeIn_X6_ticksWith
theorem dX6_takeIn_0 : decode cX6_takeIn 0 = .ok (.aload_n 0, 1) := by decide +kernel
theorem dX6_takeIn_1 : decode cX6_takeIn 1 = .ok (.aload_n 0, 1) := by decide +kernel
theorem dX6_takeIn_2 : decode cX6_takeIn 2 = .ok (.aload_n 2, 1) := by decide +kernel
theorem dX6_takeIn_3 : decode cX6_takeIn 3 = .ok (.iload_n 3, 1) := by decide +kernel
theorem dX6_takeIn_4 : decode cX6_takeIn 4 = .ok (.invokevirtual 70, 3) := by decide +kernel
theorem dX6_takeIn_7 : decode cX6_takeIn 7 = .ok (.putfield 28, 3) := by decide +kernel
theorem dX6_takeIn_10 : decode cX6_takeIn 10 = .ok (.aload_n 0, 1) := by decide +kernel
theorem dX6_takeIn_11 : decode cX6_takeIn 11 = .ok (.getfield 18, 3) := by decide +kernel
theorem dX6_takeIn_14 : decode cX6_takeIn 14 = .ok (.iconst 3, 1) := by decide +kernel
theorem dX6_takeIn_15 : decode cX6_takeIn 15 = .ok (.if_icmp .ne 18, 3) := by decide +kernel
theorem dX6_takeIn_18 : decode cX6_takeIn 18 = .ok (.aload_n 2, 1) := by decide +kernel
theorem dX6_takeIn_19 : decode cX6_takeIn 19 = .ok (.arraylength, 1) := by decide +kernel
theorem dX6_takeIn_20 : decode cX6_takeIn 20 = .ok (.ifCond .le 13, 3) := by decide +kernel
theorem dX6_takeIn_23 : decode cX6_takeIn 23 = .ok (.aload_n 0, 1) := by decide +kernel
theorem dX6_takeIn_24 : decode cX6_takeIn 24 = .ok (.aload_n 2, 1) := by decide +kernel
theorem dX6_takeIn_25 : decode cX6_takeIn 25 = .ok (.aload_n 2, 1) := by decide +kernel
theorem dX6_takeIn_26 : decode cX6_takeIn 26 = .ok (.arraylength, 1) := by decide +kernel
theorem dX6_takeIn_27 : decode cX6_takeIn 27 = .ok (.iconst 1, 1) := by decide +kernel
theorem dX6_takeIn_28 : decode cX6_takeIn 28 = .ok (.isub, 1) := by decide +kernel
theorem dX6_takeIn_29 : decode cX6_takeIn 29 = .ok (.baload, 1) := by decide +kernel
theorem dX6_takeIn_30 : decode cX6_takeIn 30 = .ok (.putfield 47, 3) := by decide +kernel
theorem dX6_takeIn_33 : decode cX6_takeIn 33 = .ok (.aload_n 0, 1) := by decide +kernel
theorem dX6_takeIn_34 : decode cX6_takeIn 34 = .ok (.iload_n 1, 1) := by decide +kernel
theorem dX6_takeIn_35 : decode cX6_takeIn 35 = .ok (.putfield 25, 3) := by decide +kernel
theorem dX6_takeIn_38 : decode cX6_takeIn 38 = .ok (.return_, 1) := by decide +kernel
theorem dX6_letFail_0 : decode cX6_letFail 0 = .ok (.aload_n 0, 1) := by decide +kernel
theorem dX6_letFail_1 : decode cX6_letFail 1 = .ok (.iconst (-1), 1) := by decide +kernel
theorem dX6_letFail_2 : decode cX6_letFail 2 = .ok (.putfield 25, 3) := by decide +kernel
theorem dX6_letFail_5 : decode cX6_letFail 5 = .ok (.aload_n 0, 1) := by decide +kernel
theorem dX6_letFail_6 : decode cX6_letFail 6 = .ok (.dup, 1) := by decide +kernel
theorem dX6_letFail_7 : decode cX6_letFail 7 = .ok (.getfield 37, 3) := by decide +kernel
theorem dX6_letFail_10 : decode cX6_letFail 10 = .ok (.iconst 1, 1) := by decide +kernel
theorem dX6_letFail_11 : decode cX6_letFail 11 = .ok (.iadd, 1) := by decide +kernel
theorem dX6_letFail_12 : decode cX6_letFail 12 = .ok (.putfield 37, 3) := by decide +kernel
theorem dX6_letFail_15 : decode cX6_letFail 15 = .ok (.return_, 1) := by decide +kernel
theorem dX6_letGoOn_0 : decode cX6_letGoOn 0 = .ok (.aload_n 0, 1) := by decide +kernel
theorem dX6_letGoOn_1 : decode cX6_letGoOn 1 = .ok (.iconst (-1), 1) := by decide +kernel
theorem dX6_letGoOn_2 : decode cX6_letGoOn 2 = .ok (.putfield 25, 3) := by decide +kernel
theorem dX6_letGoOn_5 : decode cX6_letGoOn 5 = .ok (.aload_n 0, 1) := by decide +kernel
theorem dX6_letGoOn_6 : decode cX6_letGoOn 6 = .ok (.dup, 1) := by decide +kernel
theorem dX6_letGoOn_7 : decode cX6_letGoOn 7 = .ok (.getfield 40, 3) := by decide +kernel
theorem dX6_letGoOn_10 : decode cX6_letGoOn 10 = .ok (.iconst 1, 1) := by decide +kernel
theorem dX6_letGoOn_11 : decode cX6_letGoOn 11 = .ok (.iadd, 1) := by decide +kernel
theorem dX6_letGoOn_12 : decode cX6_letGoOn 12 = .ok (.putfield 40, 3) := by decide +kernel
theorem dX6_letGoOn_15 : decode cX6_letGoOn 15 = .ok (.return_, 1) := by decide +kernel
theorem dX6_useSign_0 : decode cX6_useSign 0 = .ok (.aload_n 0, 1) := by decide +kernel
theorem dX6_useSign_1 : decode cX6_useSign 1 = .ok (.getfield 13, 3) := by decide +kernel
theorem dX6_useSign_4 : decode cX6_useSign 4 = .ok (.arraylength, 1) := by decide +kernel
theorem dX6_useSign_5 : decode cX6_useSign 5 = .ok (.ifCond .le 27, 3) := by decide +kernel
theorem dX6_useSign_8 : decode cX6_useSign 8 = .ok (.aload_n 0, 1) := by decide +kernel
theorem dX6_useSign_9 : decode cX6_useSign 9 = .ok (.getfield 13, 3) := by decide +kernel
theorem dX6_useSign_12 : decode cX6_useSign 12 = .ok (.aload_n 0, 1) := by decide +kernel
theorem dX6_useSign_13 : decode cX6_useSign 13 = .ok (.getfield 31, 3) := by decide +kernel
theorem dX6_useSign_16 : decode cX6_useSign 16 = .ok (.aload_n 0, 1) := by decide +kernel
theorem dX6_useSign_17 : decode cX6_useSign 17 = .ok (.getfield 13, 3) := by decide +kernel
theorem dX6_useSign_20 : decode cX6_useSign 20 = .ok (.arraylength, 1) := by decide +kernel
theorem dX6_useSign_21 : decode cX6_useSign 21 = .ok (.irem, 1) := by decide +kernel
theorem dX6_useSign_22 : decode cX6_useSign 22 = .ok (.baload, 1) := by decide +kernel
theorem dX6_useSign_23 : decode cX6_useSign 23 = .ok (.bipush 49, 2) := by decide +kernel
theorem dX6_useSign_25 : decode cX6_useSign 25 = .ok (.if_icmp .ne 7, 3) := by decide +kernel
theorem dX6_useSign_28 : decode cX6_useSign 28 = .ok (.iconst 1, 1) := by decide +kernel
theorem dX6_useSign_29 : decode cX6_useSign 29 = .ok (.goto 4, 3) := by decide +kernel
theorem dX6_useSign_32 : decode cX6_useSign 32 = .ok (.iconst 0, 1) := by decide +kernel
theorem dX6_useSign_33 : decode cX6_useSign 33 = .ok (.istore_n 1, 1) := by decide +kernel
theorem dX6_useSign_34 : decode cX6_useSign 34 = .ok (.aload_n 0, 1) := by decide +kernel
theorem dX6_useSign_35 : decode cX6_useSign 35 = .ok (.dup, 1) := by decide +kernel
theorem dX6_useSign_36 : decode cX6_useSign 36 = .ok (.getfield 31, 3) := by decide +kernel
theorem dX6_useSign_39 : decode cX6_useSign 39 = .ok (.iconst 1, 1) := by decide +kernel
theorem dX6_useSign_40 : decode cX6_useSign 40 = .ok (.iadd, 1) := by decide +kernel
theorem dX6_useSign_41 : decode cX6_useSign 41 = .ok (.putfield 31, 3) := by decide +kernel
theorem dX6_useSign_44 : decode cX6_useSign 44 = .ok (.aload_n 0, 1) := by decide +kernel
theorem dX6_useSign_45 : decode cX6_useSign 45 = .ok (.dup, 1) := by decide +kernel
theorem dX6_useSign_46 : decode cX6_useSign 46 = .ok (.getfield 34, 3) := by decide +kernel
theorem dX6_useSign_49 : decode cX6_useSign 49 = .ok (.iconst 1, 1) := by decide +kernel
theorem dX6_useSign_50 : decode cX6_useSign 50 = .ok (.iadd, 1) := by decide +kernel
theorem dX6_useSign_51 : decode cX6_useSign 51 = .ok (.putfield 34, 3) := by decide +kernel
theorem dX6_useSign_54 : decode cX6_useSign 54 = .ok (.aload_n 0, 1) := by decide +kernel
theorem dX6_useSign_55 : decode cX6_useSign 55 = .ok (.getfield 50, 3) := by decide +kernel
theorem dX6_useSign_58 : decode cX6_useSign 58 = .ok (.ifCond .le 27, 3) := by decide +kernel
theorem dX6_useSign_61 : decode cX6_useSign 61 = .ok (.aload_n 0, 1) := by decide +kernel
theorem dX6_useSign_62 : decode cX6_useSign 62 = .ok (.getfield 34, 3) := by decide +kernel
theorem dX6_useSign_65 : decode cX6_useSign 65 = .ok (.aload_n 0, 1) := by decide +kernel
theorem dX6_useSign_66 : decode cX6_useSign 66 = .ok (.getfield 50, 3) := by decide +kernel
theorem dX6_useSign_69 : decode cX6_useSign 69 = .ok (.if_icmp .lt 16, 3) := by decide +kernel
theorem dX6_useSign_72 : decode cX6_useSign 72 = .ok (.aload_n 0, 1) := by decide +kernel
theorem dX6_useSign_73 : decode cX6_useSign 73 = .ok (.aload_n 0, 1) := by decide +kernel
theorem dX6_useSign_74 : decode cX6_useSign 74 = .ok (.getfield 53, 3) := by decide +kernel
theorem dX6_useSign_77 : decode cX6_useSign 77 = .ok (.putfield 56, 3) := by decide +kernel
theorem dX6_useSign_80 : decode cX6_useSign 80 = .ok (.aload_n 0, 1) := by decide +kernel
theorem dX6_useSign_81 : decode cX6_useSign 81 = .ok (.iconst 0, 1) := by decide +kernel
theorem dX6_useSign_82 : decode cX6_useSign 82 = .ok (.putfield 34, 3) := by decide +kernel
theorem dX6_useSign_85 : decode cX6_useSign 85 = .ok (.iload_n 1, 1) := by decide +kernel
theorem dX6_useSign_86 : decode cX6_useSign 86 = .ok (.ireturn, 1) := by decide +kernel
set_option maxRecDepth 20000 in
theorem ggX7_init_X3_init : GoodIn wsX7_init wsX3_init := goodIn_r _ [26, 27, 2, 3, 28, 29, 30, 31, 32, 33, 34, 17, 35, 36, 37, 38, 39, 40, 41, 42, 43, 44, 45, 46, 47, 48, 49, 50, 51, 52, 53, 54, 55, 56, 57, 82, 83, 84, 85, 86, 87, 88, 89, 90, 91, 92, 93, 94, 95, 96, 97, 98, 122, 123, 124, 125, 126, 127, 128, 129, 130, 131, 132, 133, 134, 135, 136, 137, 138, 139, 140, 141, 142, 143, 144, 145, 146, 147, 148, 149, 150, 151, 152, 153, 154, 155, 156, 157] (by decide +kernel) (by decide +kernel)
set_option maxRecDepth 20000 in
theorem gX7_init_X3_init : GoodIn wsX7_init (wsX3_init) := ggX7_init_X3_init
set_option maxRecDepth 20000 in
theorem ggX7_init_X5_init : GoodIn wsX7_init wsX5_init := goodIn_r _ [59, 60, 2, 3, 13, 61, 62, 17, 63, 64, 111, 112, 113, 114, 115, 116, 117, 118, 119, 120, 121] (by decide +kernel) (by decide +kernel)
set_option maxRecDepth 20000 in
theorem gX7_init_X5_init_n21 : GoodIn wsX7_init (wsX5_init) := ggX7_init_X5_init
set_option maxRecDepth 20000 in
theorem ggX7_init_X3_begin : GoodIn wsX7_init wsX3_begin := goodIn_r _ [68, 28, 69, 70, 71, 72, 73, 74, 75, 76, 77, 35, 37, 78, 79, 80, 81, 82, 83, 84, 85, 86, 87, 88, 89, 90, 91, 92, 93, 94, 95, 96, 97, 98] (by decide +kernel) (by decide +kernel)
set_option maxRecDepth 20000 in
theorem gX7_init_X3_begin : GoodIn wsX7_init (wsV RX7 57 RX3 yX3_begin wsX3_begin) := goodIn_app (goodIn_of _ (by decide +kernel)) ggX7_init_X3_begin
theorem dX7_init_0 : decode cX7_init 0 = .ok (.aload_n 0, 1) := by decide +kernel
theorem dX7_init_1 : decode cX7_init 1 = .ok (.invokespecial 1, 3) := by decide +kernel
theorem dX7_init_4 : decode cX7_init 4 = .ok (.aload_n 0, 1) := by decide +kernel
theorem dX7_init_5 : decode cX7_init 5 = .ok (.new 7, 3) := by decide +kernel
theorem dX7_init_8 : decode cX7_init 8 = .ok (.dup, 1) := by decide +kernel
theorem dX7_init_9 : decode cX7_init 9 = .ok (.invokespecial 9, 3) := by decide +kernel
theorem dX7_init_12 : decode cX7_init 12 = .ok (.putfield 10, 3) := by decide +kernel
theorem dX7_init_15 : decode cX7_init 15 = .ok (.aload_n 0, 1) := by decide +kernel
theorem dX7_init_16 : decode cX7_init 16 = .ok (.new 7, 3) := by decide +kernel
theorem dX7_init_19 : decode cX7_init 19 = .ok (.dup, 1) := by decide +kernel
theorem dX7_init_20 : decode cX7_init 20 = .ok (.invokespecial 9, 3) := by decide +kernel
theorem dX7_init_23 : decode cX7_init 23 = .ok (.putfield 16, 3) := by decide +kernel
theorem dX7_init_26 : decode cX7_init 26 = .ok (.aload_n 0, 1) := by decide +kernel
theorem dX7_init_27 : decode cX7_init 27 = .ok (.new 19, 3) := by decide +kernel
theorem dX7_init_30 : decode cX7_init 30 = .ok (.dup, 1) := by decide +kernel
theorem dX7_init_31 : decode cX7_init 31 = .ok (.invokespecial 21, 3) := by decide +kernel
theorem dX7_init_34 : decode cX7_init 34 = .ok (.putfield 22, 3) := by decide +kernel
theorem dX7_init_37 : decode cX7_init 37 = .ok (.aload_n 0, 1) := by decide +kernel
theorem dX7_init_38 : decode cX7_init 38 = .ok (.bipush 16, 2) := by decide +kernel
theorem dX7_init_40 : decode cX7_init 40 = .ok (.newarray .byte, 2) := by decide +kernel
theorem dX7_init_42 : decode cX7_init 42 = .ok (.putfield 26, 3) := by decide +kernel
theorem dX7_init_45 : decode cX7_init 45 = .ok (.aload_n 0, 1) := by decide +kernel
theorem dX7_init_46 : decode cX7_init 46 = .ok (.bipush 8, 2) := by decide +kernel
theorem dX7_init_48 : decode cX7_init 48 = .ok (.anewarray 7, 3) := by decide +kernel
theorem dX7_init_51 : decode cX7_init 51 = .ok (.putfield 30, 3) := by decide +kernel
theorem dX7_init_54 : decode cX7_init 54 = .ok (.aload_n 0, 1) := by decide +kernel
theorem dX7_init_55 : decode cX7_init 55 = .ok (.iconst 2, 1) := by decide +kernel
theorem dX7_init_56 : decode cX7_init 56 = .ok (.anewarray 7, 3) := by decide +kernel
theorem dX7_init_59 : decode cX7_init 59 = .ok (.putfield 34, 3) := by decide +kernel
theorem dX7_init_62 : decode cX7_init 62 = .ok (.aload_n 0, 1) := by decide +kernel
theorem dX7_init_63 : decode cX7_init 63 = .ok (.bipush 6, 2) := by decide +kernel
theorem dX7_init_65 : decode cX7_init 65 = .ok (.newarray .int, 2) := by decide +kernel
theorem dX7_init_67 : decode cX7_init 67 = .ok (.putfield 37, 3) := by decide +kernel
theorem dX7_init_70 : decode cX7_init 70 = .ok (.aload_n 0, 1) := by decide +kernel
theorem dX7_init_71 : decode cX7_init 71 = .ok (.iconst 0, 1) := by decide +kernel
theorem dX7_init_72 : decode cX7_init 72 = .ok (.putfield 41, 3) := by decide +kernel
theorem dX7_init_75 : decode cX7_init 75 = .ok (.aload_n 0, 1) := by decide +kernel
theorem dX7_init_76 : decode cX7_init 76 = .ok (.iconst 0, 1) := by decide +kernel
theorem dX7_init_77 : decode cX7_init 77 = .ok (.putfield 45, 3) := by decide +kernel
theorem dX7_init_80 : decode cX7_init 80 = .ok (.aload_n 0, 1) := by decide +kernel
theorem dX7_init_81 : decode cX7_init 81 = .ok (.iconst (-1), 1) := by decide +kernel
theorem dX7_init_82 : decode cX7_init 82 = .ok (.putfield 48, 3) := by decide +kernel
theorem dX7_init_85 : decode cX7_init 85 = .ok (.aload_n 0, 1) := by decide +kernel
theorem dX7_init_86 : decode cX7_init 86 = .ok (.iconst 0, 1) := by decide +kernel
theorem dX7_init_87 : decode cX7_init 87 = .ok (.putfield 51, 3) := by decide +kernel
theorem dX7_init_90 : decode cX7_init 90 = .ok (.aload_n 0, 1) := by decide +kernel
theorem dX7_init_91 : decode cX7_init 91 = .ok (.iconst 0, 1) := by decide +kernel
theorem dX7_init_92 : decode cX7_init 92 = .ok (.putfield 54, 3) := by decide +kernel
theorem dX7_init_95 : decode cX7_init 95 = .ok (.aload_n 0, 1) := by decide +kernel
theorem dX7_init_96 : decode cX7_init 96 = .ok (.getfield 10, 3) := by decide +kernel
theorem dX7_init_99 : decode cX7_init 99 = .ok (.sipush 480, 3) := by decide +kernel
theorem dX7_init_102 : decode cX7_init 102 = .ok (.iconst 0, 1) := by decide +kernel
theorem dX7_init_103 : decode cX7_init 103 = .ok (.iconst 1, 1) := by decide +kernel
theorem dX7_init_104 : decode cX7_init 104 = .ok (.iconst 1, 1) := by decide +kernel
theorem dX7_init_105 : decode cX7_init 105 = .ok (.invokevirtual 57, 3) := by decide +kernel
theorem dX7_init_108 : decode cX7_init 108 = .ok (.return_, 1) := by decide +kernel
set_option maxRecDepth 20000 in
theorem ggX7_append_X5_add : GoodIn wsX7_append wsX5_add := goodIn_r _ [7, 8, 9, 22, 23, 24, 25, 26, 27, 28, 29, 30, 31, 32] (by decide +kernel) (by decide +kernel)
set_option maxRecDepth 20000 in
theorem gX7_append_X5_add : GoodIn wsX7_append (wsV RX7 61 RX5 yX5_add wsX5_add) := goodIn_app (goodIn_of _ (by decide +kernel)) ggX7_append_X5_add
theorem dX7_append_0 : decode cX7_append 0 = .ok (.aload_n 0, 1) := by decide +kernel
theorem dX7_append_1 : decode cX7_append 1 = .ok (.getfield 22, 3) := by decide +kernel
theorem dX7_append_4 : decode cX7_append 4 = .ok (.lload_n 1, 1) := by decide +kernel
theorem dX7_append_5 : decode cX7_append 5 = .ok (.invokevirtual 61, 3) := by decide +kernel
theorem dX7_append_8 : decode cX7_append 8 = .ok (.ifCond .eq 13, 3) := by decide +kernel
theorem dX7_append_11 : decode cX7_append 11 = .ok (.aload_n 0, 1) := by decide +kernel
theorem dX7_append_12 : decode cX7_append 12 = .ok (.getfield 22, 3) := by decide +kernel
theorem dX7_append_15 : decode cX7_append 15 = .ok (.getfield 65, 3) := by decide +kernel
theorem dX7_append_18 : decode cX7_append 18 = .ok (.goto 5, 3) := by decide +kernel
theorem dX7_append_21 : decode cX7_append 21 = .ok (.bipush (-2), 2) := by decide +kernel
theorem dX7_append_23 : decode cX7_append 23 = .ok (.ireturn, 1) := by decide +kernel
set_option maxRecDepth 20000 in
theorem ggX7_load_X5_readDescription : GoodIn wsX7_load wsX5_readDescription := goodIn_r _ [13, 14, 15, 16, 17, 18, 12, 19, 20, 21, 22, 23, 24, 25, 26, 27, 28, 29, 30, 31, 32, 33, 34, 35, 36, 37, 38, 39, 40, 41, 42, 43, 44, 45, 46, 47, 48, 49, 50, 51, 52, 53, 54, 55, 56, 57, 58, 59, 60, 61, 62, 63, 64, 65, 66, 67, 68, 69, 70, 71, 72, 73, 74, 75, 76, 77, 78, 79, 80, 81, 82, 83, 84, 85, 86, 87, 88, 89, 90, 91, 92, 93, 94, 95, 96, 97, 98, 99, 100, 101, 102, 103, 104, 105, 106, 107, 108, 109, 110, 111, 112, 113, 114, 115, 116, 117, 118, 119, 120, 121, 122, 123, 124, 125, 126, 127, 128, 129, 130, 131, 132, 133, 134, 135, 136, 137, 138, 139, 140, 141, 142, 143, 144, 145, 146, 147, 148, 149, 150, 151, 152, 153, 154, 155, 156, 157, 158, 159, 160, 161, 162, 163, 164, 165, 166, 167, 168, 169, 170, 171, 172, 173, 174, 175, 176, 177, 178, 179, 180, 181, 182, 183, 184, 185, 186, 187, 188, 189, 190, 191, 192, 193, 194, 195, 196, 197, 198, 199, 200, 201, 202, 203, 204, 205, 206, 207, 208, 209, 210, 211, 212, 213, 214, 215, 216, 217, 218, 219, 220, 221, 222, 223, 224, 225, 226, 227, 228, 229, 230, 231, 232, 233, 234, 235, 236, 237, 238, 239, 240, 241, 242, 243, 244, 245, 246, 247, 248, 249, 250, 251, 252, 253, 254, 255, 256, 257, 258, 259, 260, 261, 262, 263, 264, 265, 266, 267, 268, 269, 270, 271, 272, 273, 274, 275, 276, 277, 278, 279, 280, 281, 282, 283, 284, 285, 286, 287, 288, 289, 290, 291, 333, 334, 335, 336, 337, 338, 339, 340, 341, 342, 343, 361, 362, 363, 364, 344, 345, 346, 347, 348, 349, 350, 351, 352, 353, 354, 355, 356, 357, 358, 359, 360, 365, 366, 367, 368, 369, 370, 371, 372, 373, 374, 375, 376, 377, 378, 379, 380, 381, 382, 383, 384, 385, 386, 387, 388, 389, 390, 391, 392, 393, 394, 395, 396, 397, 398, 399, 400, 401, 402, 403, 404] (by decide +kernel) (by decide +kernel)
set_option maxRecDepth 20000 in
theorem gX7_load_X5_readDescription : GoodIn wsX7_load (wsV RX7 68 RX5 yX5_readDescription wsX5_readDescription) := goodIn_app (goodIn_of _ (by decide +kernel)) ggX7_load_X5_readDescription
set_option maxRecDepth 20000 in
theorem ggX7_load_X7_keepResult : GoodIn wsX7_load wsX7_keepResult := goodIn_r _ [295, 1, 296, 3, 297, 298, 321, 322, 323, 324, 325, 326, 327, 328, 329, 330, 331, 332, 333, 334, 335, 336, 337, 338, 339, 340, 341, 342, 343] (by decide +kernel) (by decide +kernel)
set_option maxRecDepth 20000 in
theorem gX7_load_X7_keepResult : GoodIn wsX7_load (wsV RX7 72 RX7 yX7_keepResult wsX7_keepResult) := goodIn_app (goodIn_of _ (by decide +kernel)) ggX7_load_X7_keepResult
set_option maxRecDepth 20000 in
theorem ggX7_load_X3_copyFrom : GoodIn wsX7_load wsX3_copyFrom := goodIn_r _ [302, 121, 125, 126, 122, 123, 124, 127, 128, 129, 130, 267, 154, 223, 131, 303, 200, 201, 202, 304, 132, 305, 306, 307, 271, 308, 273, 274, 275, 276, 277, 278, 279, 280, 281, 282, 283, 284, 285, 286, 287, 309, 310, 311, 158, 312, 160, 161, 313, 314, 162, 163, 164, 165, 166, 167, 168, 315, 316, 317, 318, 319, 229, 320, 231, 232, 233, 234, 235, 236, 237, 238, 239, 344, 345, 346, 347, 348, 349, 350, 351, 352, 353, 354, 355, 356, 357, 358, 359, 360, 365, 366, 367, 368, 369, 370, 371, 372, 373, 374, 375, 376, 377, 378, 379, 380, 381, 382, 383, 384, 385, 386, 387, 388, 389, 390, 391, 392, 393, 394, 395, 396, 397, 398, 399, 400] (by decide +kernel) (by decide +kernel)
set_option maxRecDepth 20000 in
theorem gX7_load_X3_copyFrom : GoodIn wsX7_load (wsV RX7 78 RX3 yX3_copyFrom wsX3_copyFrom) := goodIn_app (goodIn_of _ (by decide +kernel)) ggX7_load_X3_copyFrom
theorem dX7_load_0 : decode cX7_load 0 = .ok (.aload_n 0, 1) := by decide +kernel
theorem dX7_load_1 : decode cX7_load 1 = .ok (.getfield 22, 3) := by decide +kernel
theorem dX7_load_4 : decode cX7_load 4 = .ok (.aload_n 0, 1) := by decide +kernel
theorem dX7_load_5 : decode cX7_load 5 = .ok (.getfield 16, 3) := by decide +kernel
theorem dX7_load_8 : decode cX7_load 8 = .ok (.invokevirtual 68, 3) := by decide +kernel
theorem dX7_load_11 : decode cX7_load 11 = .ok (.aload_n 0, 1) := by decide +kernel
theorem dX7_load_12 : decode cX7_load 12 = .ok (.invokevirtual 72, 3) := by decide +kernel
theorem dX7_load_15 : decode cX7_load 15 = .ok (.aload_n 0, 1) := by decide +kernel
theorem dX7_load_16 : decode cX7_load 16 = .ok (.getfield 45, 3) := by decide +kernel
theorem dX7_load_19 : decode cX7_load 19 = .ok (.ifCond .eq 14, 3) := by decide +kernel
theorem dX7_load_22 : decode cX7_load 22 = .ok (.bipush (-100), 2) := by decide +kernel
theorem dX7_load_24 : decode cX7_load 24 = .ok (.aload_n 0, 1) := by decide +kernel
theorem dX7_load_25 : decode cX7_load 25 = .ok (.getfield 22, 3) := by decide +kernel
theorem dX7_load_28 : decode cX7_load 28 = .ok (.getfield 75, 3) := by decide +kernel
theorem dX7_load_31 : decode cX7_load 31 = .ok (.isub, 1) := by decide +kernel
theorem dX7_load_32 : decode cX7_load 32 = .ok (.ireturn, 1) := by decide +kernel
theorem dX7_load_33 : decode cX7_load 33 = .ok (.aload_n 0, 1) := by decide +kernel
theorem dX7_load_34 : decode cX7_load 34 = .ok (.getfield 10, 3) := by decide +kernel
theorem dX7_load_37 : decode cX7_load 37 = .ok (.aload_n 0, 1) := by decide +kernel
theorem dX7_load_38 : decode cX7_load 38 = .ok (.getfield 16, 3) := by decide +kernel
theorem dX7_load_41 : decode cX7_load 41 = .ok (.invokevirtual 78, 3) := by decide +kernel
theorem dX7_load_44 : decode cX7_load 44 = .ok (.aload_n 0, 1) := by decide +kernel
theorem dX7_load_45 : decode cX7_load 45 = .ok (.iconst 0, 1) := by decide +kernel
theorem dX7_load_46 : decode cX7_load 46 = .ok (.putfield 54, 3) := by decide +kernel
theorem dX7_load_49 : decode cX7_load 49 = .ok (.aload_n 0, 1) := by decide +kernel
theorem dX7_load_50 : decode cX7_load 50 = .ok (.iconst 0, 1) := by decide +kernel
theorem dX7_load_51 : decode cX7_load 51 = .ok (.putfield 41, 3) := by decide +kernel
theorem dX7_load_54 : decode cX7_load 54 = .ok (.aload_n 0, 1) := by decide +kernel
theorem dX7_load_55 : decode cX7_load 55 = .ok (.getfield 10, 3) := by decide +kernel
theorem dX7_load_58 : decode cX7_load 58 = .ok (.getfield 81, 3) := by decide +kernel
theorem dX7_load_61 : decode cX7_load 61 = .ok (.ireturn, 1) := by decide +kernel
theorem dX7_keepResult_0 : decode cX7_keepResult 0 = .ok (.aload_n 0, 1) := by decide +kernel
theorem dX7_keepResult_1 : decode cX7_keepResult 1 = .ok (.aload_n 0, 1) := by decide +kernel
theorem dX7_keepResult_2 : decode cX7_keepResult 2 = .ok (.getfield 22, 3) := by decide +kernel
theorem dX7_keepResult_5 : decode cX7_keepResult 5 = .ok (.getfield 84, 3) := by decide +kernel
theorem dX7_keepResult_8 : decode cX7_keepResult 8 = .ok (.putfield 45, 3) := by decide +kernel
theorem dX7_keepResult_11 : decode cX7_keepResult 11 = .ok (.aload_n 0, 1) := by decide +kernel
theorem dX7_keepResult_12 : decode cX7_keepResult 12 = .ok (.aload_n 0, 1) := by decide +kernel
theorem dX7_keepResult_13 : decode cX7_keepResult 13 = .ok (.getfield 45, 3) := by decide +kernel
theorem dX7_keepResult_16 : decode cX7_keepResult 16 = .ok (.ifCond .ne 7, 3) := by decide +kernel
theorem dX7_keepResult_19 : decode cX7_keepResult 19 = .ok (.iconst (-1), 1) := by decide +kernel
theorem dX7_keepResult_20 : decode cX7_keepResult 20 = .ok (.goto 10, 3) := by decide +kernel
theorem dX7_keepResult_23 : decode cX7_keepResult 23 = .ok (.aload_n 0, 1) := by decide +kernel
theorem dX7_keepResult_24 : decode cX7_keepResult 24 = .ok (.getfield 22, 3) := by decide +kernel
theorem dX7_keepResult_27 : decode cX7_keepResult 27 = .ok (.getfield 85, 3) := by decide +kernel
theorem dX7_keepResult_30 : decode cX7_keepResult 30 = .ok (.putfield 48, 3) := by decide +kernel
theorem dX7_keepResult_33 : decode cX7_keepResult 33 = .ok (.return_, 1) := by decide +kernel
theorem dX7_loadError_0 : decode cX7_loadError 0 = .ok (.aload_n 0, 1) := by decide +kernel
theorem dX7_loadError_1 : decode cX7_loadError 1 = .ok (.getfield 45, 3) := by decide +kernel
theorem dX7_loadError_4 : decode cX7_loadError 4 = .ok (.ireturn, 1) := by decide +kernel
theorem dX7_loadStatement_0 : decode cX7_loadStatement 0 = .ok (.aload_n 0, 1) := by decide +kernel
theorem dX7_loadStatement_1 : decode cX7_loadStatement 1 = .ok (.getfield 48, 3) := by decide +kernel
theorem dX7_loadStatement_4 : decode cX7_loadStatement 4 = .ok (.ireturn, 1) := by decide +kernel
theorem dX7_needStation_0 : decode cX7_needStation 0 = .ok (.iload_n 1, 1) := by decide +kernel
theorem dX7_needStation_1 : decode cX7_needStation 1 = .ok (.ifCond .lt 14, 3) := by decide +kernel
theorem dX7_needStation_4 : decode cX7_needStation 4 = .ok (.iload_n 1, 1) := by decide +kernel
theorem dX7_needStation_5 : decode cX7_needStation 5 = .ok (.aload_n 0, 1) := by decide +kernel
theorem dX7_needStation_6 : decode cX7_needStation 6 = .ok (.getfield 10, 3) := by decide +kernel
theorem dX7_needStation_9 : decode cX7_needStation 9 = .ok (.getfield 81, 3) := by decide +kernel
theorem dX7_needStation_12 : decode cX7_needStation 12 = .ok (.if_icmp .lt 13, 3) := by decide +kernel
theorem dX7_needStation_15 : decode cX7_needStation 15 = .ok (.new 88, 3) := by decide +kernel
theorem dX7_needStation_18 : decode cX7_needStation 18 = .ok (.dup, 1) := by decide +kernel
theorem dX7_needStation_19 : decode cX7_needStation 19 = .ok (.ldc 90, 2) := by decide +kernel
theorem dX7_needStation_21 : decode cX7_needStation 21 = .ok (.invokespecial 92, 3) := by decide +kernel
theorem dX7_needStation_24 : decode cX7_needStation 24 = .ok (.athrow, 1) := by decide +kernel
theorem dX7_needStation_25 : decode cX7_needStation 25 = .ok (.return_, 1) := by decide +kernel
theorem dX7_needCard_0 : decode cX7_needCard 0 = .ok (.iload_n 1, 1) := by decide +kernel
theorem dX7_needCard_1 : decode cX7_needCard 1 = .ok (.ifCond .lt 14, 3) := by decide +kernel
theorem dX7_needCard_4 : decode cX7_needCard 4 = .ok (.iload_n 1, 1) := by decide +kernel
theorem dX7_needCard_5 : decode cX7_needCard 5 = .ok (.aload_n 0, 1) := by decide +kernel
theorem dX7_needCard_6 : decode cX7_needCard 6 = .ok (.getfield 10, 3) := by decide +kernel
theorem dX7_needCard_9 : decode cX7_needCard 9 = .ok (.getfield 95, 3) := by decide +kernel
theorem dX7_needCard_12 : decode cX7_needCard 12 = .ok (.if_icmp .lt 13, 3) := by decide +kernel
theorem dX7_needCard_15 : decode cX7_needCard 15 = .ok (.new 88, 3) := by decide +kernel
theorem dX7_needCard_18 : decode cX7_needCard 18 = .ok (.dup, 1) := by decide +kernel
theorem dX7_needCard_19 : decode cX7_needCard 19 = .ok (.ldc 98, 2) := by decide +kernel
theorem dX7_needCard_21 : decode cX7_needCard 21 = .ok (.invokespecial 92, 3) := by decide +kernel
theorem dX7_needCard_24 : decode cX7_needCard 24 = .ok (.athrow, 1) := by decide +kernel
theorem dX7_needCard_25 : decode cX7_needCard 25 = .ok (.return_, 1) := by decide +kernel
theorem dX7_needLot_0 : decode cX7_needLot 0 = .ok (.iload_n 1, 1) := by decide +kernel
theorem dX7_needLot_1 : decode cX7_needLot 1 = .ok (.ifCond .lt 14, 3) := by decide +kernel
theorem dX7_needLot_4 : decode cX7_needLot 4 = .ok (.iload_n 1, 1) := by decide +kernel
theorem dX7_needLot_5 : decode cX7_needLot 5 = .ok (.aload_n 0, 1) := by decide +kernel
theorem dX7_needLot_6 : decode cX7_needLot 6 = .ok (.getfield 10, 3) := by decide +kernel
theorem dX7_needLot_9 : decode cX7_needLot 9 = .ok (.getfield 100, 3) := by decide +kernel
theorem dX7_needLot_12 : decode cX7_needLot 12 = .ok (.if_icmp .lt 13, 3) := by decide +kernel
theorem dX7_needLot_15 : decode cX7_needLot 15 = .ok (.new 88, 3) := by decide +kernel
theorem dX7_needLot_18 : decode cX7_needLot 18 = .ok (.dup, 1) := by decide +kernel
theorem dX7_needLot_19 : decode cX7_needLot 19 = .ok (.ldc 103, 2) := by decide +kernel
theorem dX7_needLot_21 : decode cX7_needLot 21 = .ok (.invokespecial 92, 3) := by decide +kernel
theorem dX7_needLot_24 : decode cX7_needLot 24 = .ok (.athrow, 1) := by decide +kernel
theorem dX7_needLot_25 : decode cX7_needLot 25 = .ok (.return_, 1) := by decide +kernel
theorem dX7_needRange_0 : decode cX7_needRange 0 = .ok (.iload_n 0, 1) := by decide +kernel
theorem dX7_needRange_1 : decode cX7_needRange 1 = .ok (.iload_n 1, 1) := by decide +kernel
theorem dX7_needRange_2 : decode cX7_needRange 2 = .ok (.if_icmp .lt 8, 3) := by decide +kernel
theorem dX7_needRange_5 : decode cX7_needRange 5 = .ok (.iload_n 0, 1) := by decide +kernel
theorem dX7_needRange_6 : decode cX7_needRange 6 = .ok (.iload_n 2, 1) := by decide +kernel
theorem dX7_needRange_7 : decode cX7_needRange 7 = .ok (.if_icmp .le 13, 3) := by decide +kernel
theorem dX7_needRange_10 : decode cX7_needRange 10 = .ok (.new 105, 3) := by decide +kernel
theorem dX7_needRange_13 : decode cX7_needRange 13 = .ok (.dup, 1) := by decide +kernel
theorem dX7_needRange_14 : decode cX7_needRange 14 = .ok (.ldc 107, 2) := by decide +kernel
theorem dX7_needRange_16 : decode cX7_needRange 16 = .ok (.invokespecial 109, 3) := by decide +kernel
theorem dX7_needRange_19 : decode cX7_needRange 19 = .ok (.athrow, 1) := by decide +kernel
theorem dX7_needRange_20 : decode cX7_needRange 20 = .ok (.return_, 1) := by decide +kernel
theorem dX7_count_0 : decode cX7_count 0 = .ok (.iload_n 1, 1) := by decide +kernel
theorem dX7_count_1 : decode cX7_count 1 = .ok (.tableswitch 142 0 9 #[55, 63, 71, 79, 87, 97, 107, 117, 127, 137], 55) := by decide +kernel
theorem dX7_count_56 : decode cX7_count 56 = .ok (.aload_n 0, 1) := by decide +kernel
theorem dX7_count_57 : decode cX7_count 57 = .ok (.getfield 10, 3) := by decide +kernel
theorem dX7_count_60 : decode cX7_count 60 = .ok (.getfield 81, 3) := by decide +kernel
theorem dX7_count_63 : decode cX7_count 63 = .ok (.ireturn, 1) := by decide +kernel
theorem dX7_count_64 : decode cX7_count 64 = .ok (.aload_n 0, 1) := by decide +kernel
theorem dX7_count_65 : decode cX7_count 65 = .ok (.getfield 10, 3) := by decide +kernel
theorem dX7_count_68 : decode cX7_count 68 = .ok (.getfield 100, 3) := by decide +kernel
theorem dX7_count_71 : decode cX7_count 71 = .ok (.ireturn, 1) := by decide +kernel
theorem dX7_count_72 : decode cX7_count 72 = .ok (.aload_n 0, 1) := by decide +kernel
theorem dX7_count_73 : decode cX7_count 73 = .ok (.getfield 10, 3) := by decide +kernel
theorem dX7_count_76 : decode cX7_count 76 = .ok (.getfield 95, 3) := by decide +kernel
theorem dX7_count_79 : decode cX7_count 79 = .ok (.ireturn, 1) := by decide +kernel
theorem dX7_count_80 : decode cX7_count 80 = .ok (.aload_n 0, 1) := by decide +kernel
theorem dX7_count_81 : decode cX7_count 81 = .ok (.getfield 10, 3) := by decide +kernel
theorem dX7_count_84 : decode cX7_count 84 = .ok (.getfield 110, 3) := by decide +kernel
theorem dX7_count_87 : decode cX7_count 87 = .ok (.ireturn, 1) := by decide +kernel
theorem dX7_count_88 : decode cX7_count 88 = .ok (.aload_n 0, 1) := by decide +kernel
theorem dX7_count_89 : decode cX7_count 89 = .ok (.getfield 10, 3) := by decide +kernel
theorem dX7_count_92 : decode cX7_count 92 = .ok (.getfield 113, 3) := by decide +kernel
theorem dX7_count_95 : decode cX7_count 95 = .ok (.iconst 0, 1) := by decide +kernel
theorem dX7_count_96 : decode cX7_count 96 = .ok (.iaload, 1) := by decide +kernel
theorem dX7_count_97 : decode cX7_count 97 = .ok (.ireturn, 1) := by decide +kernel
theorem dX7_count_98 : decode cX7_count 98 = .ok (.aload_n 0, 1) := by decide +kernel
theorem dX7_count_99 : decode cX7_count 99 = .ok (.getfield 10, 3) := by decide +kernel
theorem dX7_count_102 : decode cX7_count 102 = .ok (.getfield 113, 3) := by decide +kernel
theorem dX7_count_105 : decode cX7_count 105 = .ok (.iconst 1, 1) := by decide +kernel
theorem dX7_count_106 : decode cX7_count 106 = .ok (.iaload, 1) := by decide +kernel
theorem dX7_count_107 : decode cX7_count 107 = .ok (.ireturn, 1) := by decide +kernel
theorem dX7_count_108 : decode cX7_count 108 = .ok (.aload_n 0, 1) := by decide +kernel
theorem dX7_count_109 : decode cX7_count 109 = .ok (.getfield 10, 3) := by decide +kernel
theorem dX7_count_112 : decode cX7_count 112 = .ok (.getfield 113, 3) := by decide +kernel
theorem dX7_count_115 : decode cX7_count 115 = .ok (.iconst 2, 1) := by decide +kernel
theorem dX7_count_116 : decode cX7_count 116 = .ok (.iaload, 1) := by decide +kernel
theorem dX7_count_117 : decode cX7_count 117 = .ok (.ireturn, 1) := by decide +kernel
theorem dX7_count_118 : decode cX7_count 118 = .ok (.aload_n 0, 1) := by decide +kernel
theorem dX7_count_119 : decode cX7_count 119 = .ok (.getfield 10, 3) := by decide +kernel
theorem dX7_count_122 : decode cX7_count 122 = .ok (.getfield 113, 3) := by decide +kernel
theorem dX7_count_125 : decode cX7_count 125 = .ok (.iconst 3, 1) := by decide +kernel
theorem dX7_count_126 : decode cX7_count 126 = .ok (.iaload, 1) := by decide +kernel
theorem dX7_count_127 : decode cX7_count 127 = .ok (.ireturn, 1) := by decide +kernel
theorem dX7_count_128 : decode cX7_count 128 = .ok (.aload_n 0, 1) := by decide +kernel
theorem dX7_count_129 : decode cX7_count 129 = .ok (.getfield 10, 3) := by decide +kernel
theorem dX7_count_132 : decode cX7_count 132 = .ok (.getfield 113, 3) := by decide +kernel
theorem dX7_count_135 : decode cX7_count 135 = .ok (.iconst 4, 1) := by decide +kernel
theorem dX7_count_136 : decode cX7_count 136 = .ok (.iaload, 1) := by decide +kernel
theorem dX7_count_137 : decode cX7_count 137 = .ok (.ireturn, 1) := by decide +kernel
theorem dX7_count_138 : decode cX7_count 138 = .ok (.aload_n 0, 1) := by decide +kernel
theorem dX7_count_139 : decode cX7_count 139 = .ok (.getfield 54, 3) := by decide +kernel
theorem dX7_count_142 : decode cX7_count 142 = .ok (.ireturn, 1) := by decide +kernel
theorem dX7_count_143 : decode cX7_count 143 = .ok (.new 105, 3) := by decide +kernel
theorem dX7_count_146 : decode cX7_count 146 = .ok (.dup, 1) := by decide +kernel
theorem dX7_count_147 : decode cX7_count 147 = .ok (.ldc 116, 2) := by decide +kernel
theorem dX7_count_149 : decode cX7_count 149 = .ok (.invokespecial 109, 3) := by decide +kernel
theorem dX7_count_152 : decode cX7_count 152 = .ok (.athrow, 1) := by decide +kernel
theorem dX7_setting_0 : decode cX7_setting 0 = .ok (.iload_n 1, 1) := by decide +kernel
theorem dX7_setting_1 : decode cX7_setting 1 = .ok (.tableswitch 75 0 4 #[35, 43, 51, 59, 67], 35) := by decide +kernel
theorem dX7_setting_36 : decode cX7_setting 36 = .ok (.aload_n 0, 1) := by decide +kernel
theorem dX7_setting_37 : decode cX7_setting 37 = .ok (.getfield 10, 3) := by decide +kernel
theorem dX7_setting_40 : decode cX7_setting 40 = .ok (.getfield 118, 3) := by decide +kernel
theorem dX7_setting_43 : decode cX7_setting 43 = .ok (.ireturn, 1) := by decide +kernel
theorem dX7_setting_44 : decode cX7_setting 44 = .ok (.aload_n 0, 1) := by decide +kernel
theorem dX7_setting_45 : decode cX7_setting 45 = .ok (.getfield 10, 3) := by decide +kernel
theorem dX7_setting_48 : decode cX7_setting 48 = .ok (.getfield 121, 3) := by decide +kernel
theorem dX7_setting_51 : decode cX7_setting 51 = .ok (.ireturn, 1) := by decide +kernel
theorem dX7_setting_52 : decode cX7_setting 52 = .ok (.aload_n 0, 1) := by decide +kernel
theorem dX7_setting_53 : decode cX7_setting 53 = .ok (.getfield 10, 3) := by decide +kernel
theorem dX7_setting_56 : decode cX7_setting 56 = .ok (.getfield 124, 3) := by decide +kernel
theorem dX7_setting_59 : decode cX7_setting 59 = .ok (.ireturn, 1) := by decide +kernel
theorem dX7_setting_60 : decode cX7_setting 60 = .ok (.aload_n 0, 1) := by decide +kernel
theorem dX7_setting_61 : decode cX7_setting 61 = .ok (.getfield 10, 3) := by decide +kernel
theorem dX7_setting_64 : decode cX7_setting 64 = .ok (.getfield 127, 3) := by decide +kernel
theorem dX7_setting_67 : decode cX7_setting 67 = .ok (.ireturn, 1) := by decide +kernel
theorem dX7_setting_68 : decode cX7_setting 68 = .ok (.aload_n 0, 1) := by decide +kernel
theorem dX7_setting_69 : decode cX7_setting 69 = .ok (.getfield 10, 3) := by decide +kernel
theorem dX7_setting_72 : decode cX7_setting 72 = .ok (.getfield 130, 3) := by decide +kernel
theorem dX7_setting_75 : decode cX7_setting 75 = .ok (.ireturn, 1) := by decide +kernel
theorem dX7_setting_76 : decode cX7_setting 76 = .ok (.new 105, 3) := by decide +kernel
theorem dX7_setting_79 : decode cX7_setting 79 = .ok (.dup, 1) := by decide +kernel
theorem dX7_setting_80 : decode cX7_setting 80 = .ok (.ldc 116, 2) := by decide +kernel
theorem dX7_setting_82 : decode cX7_setting 82 = .ok (.invokespecial 109, 3) := by decide +kernel
theorem dX7_setting_85 : decode cX7_setting 85 = .ok (.athrow, 1) := by decide +kernel
set_option maxRecDepth 20000 in
theorem ggX7_station_X7_needStation : GoodIn wsX7_station wsX7_needStation := goodIn_ca (goodIn_r _ [22, 23, 24, 3, 25, 26, 27, 28, 29, 30, 31, 32, 33, 34, 35, 36, 37, 38, 39, 40, 41, 42, 43, 44, 45, 46, 47, 48, 49, 50, 51, 52, 53, 54] (by decide +kernel) (by decide +kernel)) (goodIn_sub (fun _ h => List.mem_cons_of_mem _ (List.mem_append_right _ h)) (by decide +kernel))
set_option maxRecDepth 20000 in
theorem gX7_station_X7_needStation : GoodIn wsX7_station (wsV RX7 133 RX7 yX7_needStation wsX7_needStation) := goodIn_app (goodIn_of _ (by decide +kernel)) ggX7_station_X7_needStation
theorem dX7_station_0 : decode cX7_station 0 = .ok (.aload_n 0, 1) := by decide +kernel
theorem dX7_station_1 : decode cX7_station 1 = .ok (.iload_n 1, 1) := by decide +kernel
theorem dX7_station_2 : decode cX7_station 2 = .ok (.invokevirtual 133, 3) := by decide +kernel
theorem dX7_station_5 : decode cX7_station 5 = .ok (.aload_n 0, 1) := by decide +kernel
theorem dX7_station_6 : decode cX7_station 6 = .ok (.getfield 10, 3) := by decide +kernel
theorem dX7_station_9 : decode cX7_station 9 = .ok (.getfield 137, 3) := by decide +kernel
theorem dX7_station_12 : decode cX7_station 12 = .ok (.iload_n 1, 1) := by decide +kernel
theorem dX7_station_13 : decode cX7_station 13 = .ok (.aaload, 1) := by decide +kernel
theorem dX7_station_14 : decode cX7_station 14 = .ok (.astore_n 3, 1) := by decide +kernel
theorem dX7_station_15 : decode cX7_station 15 = .ok (.iload_n 2, 1) := by decide +kernel
theorem dX7_station_16 : decode cX7_station 16 = .ok (.tableswitch 153 0 12 #[68, 73, 78, 83, 88, 93, 98, 103, 116, 133, 138, 143, 148], 68) := by decide +kernel
theorem dX7_station_84 : decode cX7_station 84 = .ok (.aload_n 3, 1) := by decide +kernel
theorem dX7_station_85 : decode cX7_station 85 = .ok (.getfield 141, 3) := by decide +kernel
theorem dX7_station_88 : decode cX7_station 88 = .ok (.ireturn, 1) := by decide +kernel
theorem dX7_station_89 : decode cX7_station 89 = .ok (.aload_n 3, 1) := by decide +kernel
theorem dX7_station_90 : decode cX7_station 90 = .ok (.getfield 146, 3) := by decide +kernel
theorem dX7_station_93 : decode cX7_station 93 = .ok (.ireturn, 1) := by decide +kernel
theorem dX7_station_94 : decode cX7_station 94 = .ok (.aload_n 3, 1) := by decide +kernel
theorem dX7_station_95 : decode cX7_station 95 = .ok (.getfield 149, 3) := by decide +kernel
theorem dX7_station_98 : decode cX7_station 98 = .ok (.ireturn, 1) := by decide +kernel
theorem dX7_station_99 : decode cX7_station 99 = .ok (.aload_n 3, 1) := by decide +kernel
theorem dX7_station_100 : decode cX7_station 100 = .ok (.getfield 152, 3) := by decide +kernel
theorem dX7_station_103 : decode cX7_station 103 = .ok (.ireturn, 1) := by decide +kernel
theorem dX7_station_104 : decode cX7_station 104 = .ok (.aload_n 3, 1) := by decide +kernel
theorem dX7_station_105 : decode cX7_station 105 = .ok (.getfield 155, 3) := by decide +kernel
theorem dX7_station_108 : decode cX7_station 108 = .ok (.ireturn, 1) := by decide +kernel
theorem dX7_station_109 : decode cX7_station 109 = .ok (.aload_n 3, 1) := by decide +kernel
theorem dX7_station_110 : decode cX7_station 110 = .ok (.getfield 158, 3) := by decide +kernel
theorem dX7_station_113 : decode cX7_station 113 = .ok (.ireturn, 1) := by decide +kernel
theorem dX7_station_114 : decode cX7_station 114 = .ok (.aload_n 3, 1) := by decide +kernel
theorem dX7_station_115 : decode cX7_station 115 = .ok (.getfield 161, 3) := by decide +kernel
theorem dX7_station_118 : decode cX7_station 118 = .ok (.ireturn, 1) := by decide +kernel
theorem dX7_station_119 : decode cX7_station 119 = .ok (.aload_n 3, 1) := by decide +kernel
theorem dX7_station_120 : decode cX7_station 120 = .ok (.getfield 164, 3) := by decide +kernel
theorem dX7_station_123 : decode cX7_station 123 = .ok (.ifCond .eq 7, 3) := by decide +kernel
theorem dX7_station_126 : decode cX7_station 126 = .ok (.iconst 1, 1) := by decide +kernel
theorem dX7_station_127 : decode cX7_station 127 = .ok (.goto 4, 3) := by decide +kernel
theorem dX7_station_130 : decode cX7_station 130 = .ok (.iconst 0, 1) := by decide +kernel
theorem dX7_station_131 : decode cX7_station 131 = .ok (.ireturn, 1) := by decide +kernel
theorem dX7_station_132 : decode cX7_station 132 = .ok (.aload_n 3, 1) := by decide +kernel
theorem dX7_station_133 : decode cX7_station 133 = .ok (.getfield 141, 3) := by decide +kernel
theorem dX7_station_136 : decode cX7_station 136 = .ok (.iconst 3, 1) := by decide +kernel
theorem dX7_station_137 : decode cX7_station 137 = .ok (.if_icmp .ne 10, 3) := by decide +kernel
theorem dX7_station_140 : decode cX7_station 140 = .ok (.aload_n 3, 1) := by decide +kernel
theorem dX7_station_141 : decode cX7_station 141 = .ok (.getfield 168, 3) := by decide +kernel
theorem dX7_station_144 : decode cX7_station 144 = .ok (.goto 4, 3) := by decide +kernel
theorem dX7_station_147 : decode cX7_station 147 = .ok (.iconst (-1), 1) := by decide +kernel
theorem dX7_station_148 : decode cX7_station 148 = .ok (.ireturn, 1) := by decide +kernel
theorem dX7_station_149 : decode cX7_station 149 = .ok (.aload_n 3, 1) := by decide +kernel
theorem dX7_station_150 : decode cX7_station 150 = .ok (.getfield 171, 3) := by decide +kernel
theorem dX7_station_153 : decode cX7_station 153 = .ok (.ireturn, 1) := by decide +kernel
theorem dX7_station_154 : decode cX7_station 154 = .ok (.aload_n 3, 1) := by decide +kernel
theorem dX7_station_155 : decode cX7_station 155 = .ok (.getfield 174, 3) := by decide +kernel
theorem dX7_station_158 : decode cX7_station 158 = .ok (.ireturn, 1) := by decide +kernel
theorem dX7_station_159 : decode cX7_station 159 = .ok (.aload_n 3, 1) := by decide +kernel
theorem dX7_station_160 : decode cX7_station 160 = .ok (.getfield 177, 3) := by decide +kernel
theorem dX7_station_163 : decode cX7_station 163 = .ok (.ireturn, 1) := by decide +kernel
theorem dX7_station_164 : decode cX7_station 164 = .ok (.aload_n 3, 1) := by decide +kernel
theorem dX7_station_165 : decode cX7_station 165 = .ok (.getfield 180, 3) := by decide +kernel
theorem dX7_station_168 : decode cX7_station 168 = .ok (.ireturn, 1) := by decide +kernel
theorem dX7_station_169 : decode cX7_station 169 = .ok (.new 105, 3) := by decide +kernel
theorem dX7_station_172 : decode cX7_station 172 = .ok (.dup, 1) := by decide +kernel
theorem dX7_station_173 : decode cX7_station 173 = .ok (.ldc 116, 2) := by decide +kernel
theorem dX7_station_175 : decode cX7_station 175 = .ok (.invokespecial 109, 3) := by decide +kernel
theorem dX7_station_178 : decode cX7_station 178 = .ok (.athrow, 1) := by decide +kernel
set_option maxRecDepth 20000 in
theorem ggX7_card_X7_needCard : GoodIn wsX7_card wsX7_needCard := goodIn_ca (goodIn_r _ [17, 18, 19, 3, 20, 21, 22, 23, 24, 25, 26, 27, 28, 29, 30, 31, 32, 33, 34, 35, 36, 37, 38, 39, 40, 41, 42, 43, 44, 45, 46, 47, 48, 49] (by decide +kernel) (by decide +kernel)) (goodIn_sub (fun _ h => List.mem_cons_of_mem _ (List.mem_append_right _ h)) (by decide +kernel))
set_option maxRecDepth 20000 in
theorem gX7_card_X7_needCard : GoodIn wsX7_card (wsV RX7 183 RX7 yX7_needCard wsX7_needCard) := goodIn_app (goodIn_of _ (by decide +kernel)) ggX7_card_X7_needCard
theorem dX7_card_0 : decode cX7_card 0 = .ok (.aload_n 0, 1) := by decide +kernel
theorem dX7_card_1 : decode cX7_card 1 = .ok (.iload_n 1, 1) := by decide +kernel
theorem dX7_card_2 : decode cX7_card 2 = .ok (.invokevirtual 183, 3) := by decide +kernel
theorem dX7_card_5 : decode cX7_card 5 = .ok (.aload_n 0, 1) := by decide +kernel
theorem dX7_card_6 : decode cX7_card 6 = .ok (.getfield 10, 3) := by decide +kernel
theorem dX7_card_9 : decode cX7_card 9 = .ok (.getfield 186, 3) := by decide +kernel
theorem dX7_card_12 : decode cX7_card 12 = .ok (.iload_n 1, 1) := by decide +kernel
theorem dX7_card_13 : decode cX7_card 13 = .ok (.aaload, 1) := by decide +kernel
theorem dX7_card_14 : decode cX7_card 14 = .ok (.astore_n 3, 1) := by decide +kernel
theorem dX7_card_15 : decode cX7_card 15 = .ok (.iload_n 2, 1) := by decide +kernel
theorem dX7_card_16 : decode cX7_card 16 = .ok (.tableswitch 89 0 7 #[48, 53, 58, 64, 69, 74, 79, 84], 48) := by decide +kernel
theorem dX7_card_64 : decode cX7_card 64 = .ok (.aload_n 3, 1) := by decide +kernel
theorem dX7_card_65 : decode cX7_card 65 = .ok (.getfield 190, 3) := by decide +kernel
theorem dX7_card_68 : decode cX7_card 68 = .ok (.ireturn, 1) := by decide +kernel
theorem dX7_card_69 : decode cX7_card 69 = .ok (.aload_n 3, 1) := by decide +kernel
theorem dX7_card_70 : decode cX7_card 70 = .ok (.getfield 195, 3) := by decide +kernel
theorem dX7_card_73 : decode cX7_card 73 = .ok (.ireturn, 1) := by decide +kernel
theorem dX7_card_74 : decode cX7_card 74 = .ok (.aload_n 3, 1) := by decide +kernel
theorem dX7_card_75 : decode cX7_card 75 = .ok (.getfield 198, 3) := by decide +kernel
theorem dX7_card_78 : decode cX7_card 78 = .ok (.arraylength, 1) := by decide +kernel
theorem dX7_card_79 : decode cX7_card 79 = .ok (.ireturn, 1) := by decide +kernel
theorem dX7_card_80 : decode cX7_card 80 = .ok (.aload_n 3, 1) := by decide +kernel
theorem dX7_card_81 : decode cX7_card 81 = .ok (.getfield 201, 3) := by decide +kernel
theorem dX7_card_84 : decode cX7_card 84 = .ok (.ireturn, 1) := by decide +kernel
theorem dX7_card_85 : decode cX7_card 85 = .ok (.aload_n 3, 1) := by decide +kernel
theorem dX7_card_86 : decode cX7_card 86 = .ok (.getfield 204, 3) := by decide +kernel
theorem dX7_card_89 : decode cX7_card 89 = .ok (.ireturn, 1) := by decide +kernel
theorem dX7_card_90 : decode cX7_card 90 = .ok (.aload_n 3, 1) := by decide +kernel
theorem dX7_card_91 : decode cX7_card 91 = .ok (.getfield 207, 3) := by decide +kernel
theorem dX7_card_94 : decode cX7_card 94 = .ok (.ireturn, 1) := by decide +kernel
theorem dX7_card_95 : decode cX7_card 95 = .ok (.aload_n 3, 1) := by decide +kernel
theorem dX7_card_96 : decode cX7_card 96 = .ok (.getfield 208, 3) := by decide +kernel
