theorem dX8_feeds_68 : decode cX8_feeds 68 = .ok (.iconst 5, 1) := by decide +kernel
theorem dX8_feeds_69 : decode cX8_feeds 69 = .ok (.dup2, 1) := by decide +kernel
theorem dX8_feeds_70 : decode cX8_feeds 70 = .ok (.iaload, 1) := by decide +kernel
theorem dX8_feeds_71 : decode cX8_feeds 71 = .ok (.iconst 1, 1) := by decide +kernel
theorem dX8_feeds_72 : decode cX8_feeds 72 = .ok (.isub, 1) := by decide +kernel
theorem dX8_feeds_73 : decode cX8_feeds 73 = .ok (.iastore, 1) := by decide +kernel
theorem dX8_feeds_74 : decode cX8_feeds 74 = .ok (.aload_n 0, 1) := by decide +kernel
theorem dX8_feeds_75 : decode cX8_feeds 75 = .ok (.getfield 9, 3) := by decide +kernel
theorem dX8_feeds_78 : decode cX8_feeds 78 = .ok (.bipush 12, 2) := by decide +kernel
theorem dX8_feeds_80 : decode cX8_feeds 80 = .ok (.dup2, 1) := by decide +kernel
theorem dX8_feeds_81 : decode cX8_feeds 81 = .ok (.iaload, 1) := by decide +kernel
theorem dX8_feeds_82 : decode cX8_feeds 82 = .ok (.iconst 1, 1) := by decide +kernel
theorem dX8_feeds_83 : decode cX8_feeds 83 = .ok (.iadd, 1) := by decide +kernel
theorem dX8_feeds_84 : decode cX8_feeds 84 = .ok (.iastore, 1) := by decide +kernel
theorem dX8_feeds_85 : decode cX8_feeds 85 = .ok (.aload_n 0, 1) := by decide +kernel
theorem dX8_feeds_86 : decode cX8_feeds 86 = .ok (.iload_n 2, 1) := by decide +kernel
theorem dX8_feeds_87 : decode cX8_feeds 87 = .ok (.bipush 8, 2) := by decide +kernel
theorem dX8_feeds_89 : decode cX8_feeds 89 = .ok (.iconst 0, 1) := by decide +kernel
theorem dX8_feeds_90 : decode cX8_feeds 90 = .ok (.invokevirtual 130, 3) := by decide +kernel
theorem dX8_feeds_93 : decode cX8_feeds 93 = .ok (.aload_n 0, 1) := by decide +kernel
theorem dX8_feeds_94 : decode cX8_feeds 94 = .ok (.iconst 0, 1) := by decide +kernel
theorem dX8_feeds_95 : decode cX8_feeds 95 = .ok (.iload_n 2, 1) := by decide +kernel
theorem dX8_feeds_96 : decode cX8_feeds 96 = .ok (.invokevirtual 311, 3) := by decide +kernel
theorem dX8_feeds_99 : decode cX8_feeds 99 = .ok (.return_, 1) := by decide +kernel
set_option maxRecDepth 20000 in
theorem ggX8_clearsTray_X8_nextOf : GoodIn wsX8_clearsTray wsX8_nextOf := goodIn_r _ [6, 1, 7, 8, 9, 5, 10, 11, 12, 13, 14, 23, 24, 25, 26, 27, 28, 29, 30, 31, 32, 33, 34, 35, 36, 37, 38, 39, 40, 41, 42, 43, 44, 45] (by decide +kernel) (by decide +kernel)
set_option maxRecDepth 20000 in
theorem gX8_clearsTray_X8_nextOf : GoodIn wsX8_clearsTray (wsV RX8 267 RX8 yX8_nextOf wsX8_nextOf) := goodIn_app (goodIn_of _ (by decide +kernel)) ggX8_clearsTray_X8_nextOf
set_option maxRecDepth 20000 in
theorem ggX8_clearsTray_X8_ofCard : GoodIn wsX8_clearsTray wsX8_ofCard := goodIn_r _ [10, 1, 23, 24, 25, 26, 27, 28, 29, 30, 31, 32, 33, 34, 35, 36, 37, 38, 39, 40, 41, 42, 43, 44, 45] (by decide +kernel) (by decide +kernel)
set_option maxRecDepth 20000 in
theorem gX8_clearsTray_X8_ofCard : GoodIn wsX8_clearsTray (wsV RX8 233 RX8 yX8_ofCard wsX8_ofCard) := goodIn_app (goodIn_of _ (by decide +kernel)) ggX8_clearsTray_X8_ofCard
set_option maxRecDepth 20000 in
theorem ggX8_clearsTray_X8_leaves : GoodIn wsX8_clearsTray wsX8_leaves := goodIn_r _ [18, 1, 19, 20, 21, 5, 22, 7, 8, 9, 10, 23, 24, 25, 26, 27, 28, 29, 30, 31, 32, 33, 34, 35, 36, 37, 38, 39, 40, 41, 42, 43, 44, 45] (by decide +kernel) (by decide +kernel)
set_option maxRecDepth 20000 in
theorem gX8_clearsTray_X8_leaves : GoodIn wsX8_clearsTray (wsV RX8 314 RX8 yX8_leaves wsX8_leaves) := goodIn_app (goodIn_of _ (by decide +kernel)) ggX8_clearsTray_X8_leaves
theorem dX8_clearsTray_0 : decode cX8_clearsTray 0 = .ok (.iconst 0, 1) := by decide +kernel
theorem dX8_clearsTray_1 : decode cX8_clearsTray 1 = .ok (.istore_n 1, 1) := by decide +kernel
theorem dX8_clearsTray_2 : decode cX8_clearsTray 2 = .ok (.iload_n 1, 1) := by decide +kernel
theorem dX8_clearsTray_3 : decode cX8_clearsTray 3 = .ok (.aload_n 0, 1) := by decide +kernel
theorem dX8_clearsTray_4 : decode cX8_clearsTray 4 = .ok (.getfield 9, 3) := by decide +kernel
theorem dX8_clearsTray_7 : decode cX8_clearsTray 7 = .ok (.bipush 8, 2) := by decide +kernel
theorem dX8_clearsTray_9 : decode cX8_clearsTray 9 = .ok (.iaload, 1) := by decide +kernel
theorem dX8_clearsTray_10 : decode cX8_clearsTray 10 = .ok (.if_icmp .ge 44, 3) := by decide +kernel
theorem dX8_clearsTray_13 : decode cX8_clearsTray 13 = .ok (.aload_n 0, 1) := by decide +kernel
theorem dX8_clearsTray_14 : decode cX8_clearsTray 14 = .ok (.iload_n 1, 1) := by decide +kernel
theorem dX8_clearsTray_15 : decode cX8_clearsTray 15 = .ok (.invokevirtual 267, 3) := by decide +kernel
theorem dX8_clearsTray_18 : decode cX8_clearsTray 18 = .ok (.istore_n 2, 1) := by decide +kernel
theorem dX8_clearsTray_19 : decode cX8_clearsTray 19 = .ok (.iload_n 2, 1) := by decide +kernel
theorem dX8_clearsTray_20 : decode cX8_clearsTray 20 = .ok (.iconst (-1), 1) := by decide +kernel
theorem dX8_clearsTray_21 : decode cX8_clearsTray 21 = .ok (.if_icmp .eq 27, 3) := by decide +kernel
theorem dX8_clearsTray_24 : decode cX8_clearsTray 24 = .ok (.aload_n 0, 1) := by decide +kernel
theorem dX8_clearsTray_25 : decode cX8_clearsTray 25 = .ok (.iload_n 2, 1) := by decide +kernel
theorem dX8_clearsTray_26 : decode cX8_clearsTray 26 = .ok (.iconst 3, 1) := by decide +kernel
theorem dX8_clearsTray_27 : decode cX8_clearsTray 27 = .ok (.invokevirtual 233, 3) := by decide +kernel
theorem dX8_clearsTray_30 : decode cX8_clearsTray 30 = .ok (.iconst 2, 1) := by decide +kernel
theorem dX8_clearsTray_31 : decode cX8_clearsTray 31 = .ok (.if_icmp .ne 17, 3) := by decide +kernel
theorem dX8_clearsTray_34 : decode cX8_clearsTray 34 = .ok (.aload_n 0, 1) := by decide +kernel
theorem dX8_clearsTray_35 : decode cX8_clearsTray 35 = .ok (.iload_n 2, 1) := by decide +kernel
theorem dX8_clearsTray_36 : decode cX8_clearsTray 36 = .ok (.invokevirtual 314, 3) := by decide +kernel
theorem dX8_clearsTray_39 : decode cX8_clearsTray 39 = .ok (.aload_n 0, 1) := by decide +kernel
theorem dX8_clearsTray_40 : decode cX8_clearsTray 40 = .ok (.iload_n 1, 1) := by decide +kernel
theorem dX8_clearsTray_41 : decode cX8_clearsTray 41 = .ok (.invokevirtual 267, 3) := by decide +kernel
theorem dX8_clearsTray_44 : decode cX8_clearsTray 44 = .ok (.istore_n 2, 1) := by decide +kernel
theorem dX8_clearsTray_45 : decode cX8_clearsTray 45 = .ok (.goto (-26), 3) := by decide +kernel
theorem dX8_clearsTray_48 : decode cX8_clearsTray 48 = .ok (.iinc 1 1, 3) := by decide +kernel
theorem dX8_clearsTray_51 : decode cX8_clearsTray 51 = .ok (.goto (-49), 3) := by decide +kernel
theorem dX8_clearsTray_54 : decode cX8_clearsTray 54 = .ok (.return_, 1) := by decide +kernel
set_option maxRecDepth 20000 in
theorem ggX8_dayEnds_X8_ofLot : GoodIn wsX8_dayEnds wsX8_ofLot := goodIn_r _ [10, 1, 11, 12, 13, 14, 15, 16, 17, 18, 19, 20, 21, 22, 23, 24, 25, 26, 27, 28, 29, 30, 31, 32, 33] (by decide +kernel) (by decide +kernel)
set_option maxRecDepth 20000 in
theorem gX8_dayEnds_X8_ofLot : GoodIn wsX8_dayEnds (wsV RX8 134 RX8 yX8_ofLot wsX8_ofLot) := goodIn_app (goodIn_of _ (by decide +kernel)) ggX8_dayEnds_X8_ofLot
theorem dX8_dayEnds_0 : decode cX8_dayEnds 0 = .ok (.bipush 119, 2) := by decide +kernel
theorem dX8_dayEnds_2 : decode cX8_dayEnds 2 = .ok (.istore_n 1, 1) := by decide +kernel
theorem dX8_dayEnds_3 : decode cX8_dayEnds 3 = .ok (.iload_n 1, 1) := by decide +kernel
theorem dX8_dayEnds_4 : decode cX8_dayEnds 4 = .ok (.bipush 12, 2) := by decide +kernel
theorem dX8_dayEnds_6 : decode cX8_dayEnds 6 = .ok (.if_icmp .lt 32, 3) := by decide +kernel
theorem dX8_dayEnds_9 : decode cX8_dayEnds 9 = .ok (.aload_n 0, 1) := by decide +kernel
theorem dX8_dayEnds_10 : decode cX8_dayEnds 10 = .ok (.getfield 9, 3) := by decide +kernel
theorem dX8_dayEnds_13 : decode cX8_dayEnds 13 = .ok (.sipush 917, 3) := by decide +kernel
theorem dX8_dayEnds_16 : decode cX8_dayEnds 16 = .ok (.iload_n 1, 1) := by decide +kernel
theorem dX8_dayEnds_17 : decode cX8_dayEnds 17 = .ok (.iadd, 1) := by decide +kernel
theorem dX8_dayEnds_18 : decode cX8_dayEnds 18 = .ok (.aload_n 0, 1) := by decide +kernel
theorem dX8_dayEnds_19 : decode cX8_dayEnds 19 = .ok (.getfield 9, 3) := by decide +kernel
theorem dX8_dayEnds_22 : decode cX8_dayEnds 22 = .ok (.sipush 917, 3) := by decide +kernel
theorem dX8_dayEnds_25 : decode cX8_dayEnds 25 = .ok (.iload_n 1, 1) := by decide +kernel
theorem dX8_dayEnds_26 : decode cX8_dayEnds 26 = .ok (.iadd, 1) := by decide +kernel
theorem dX8_dayEnds_27 : decode cX8_dayEnds 27 = .ok (.bipush 12, 2) := by decide +kernel
theorem dX8_dayEnds_29 : decode cX8_dayEnds 29 = .ok (.isub, 1) := by decide +kernel
theorem dX8_dayEnds_30 : decode cX8_dayEnds 30 = .ok (.iaload, 1) := by decide +kernel
theorem dX8_dayEnds_31 : decode cX8_dayEnds 31 = .ok (.iastore, 1) := by decide +kernel
theorem dX8_dayEnds_32 : decode cX8_dayEnds 32 = .ok (.iinc 1 (-1), 3) := by decide +kernel
theorem dX8_dayEnds_35 : decode cX8_dayEnds 35 = .ok (.goto (-32), 3) := by decide +kernel
theorem dX8_dayEnds_38 : decode cX8_dayEnds 38 = .ok (.iconst 0, 1) := by decide +kernel
theorem dX8_dayEnds_39 : decode cX8_dayEnds 39 = .ok (.istore_n 1, 1) := by decide +kernel
theorem dX8_dayEnds_40 : decode cX8_dayEnds 40 = .ok (.iload_n 1, 1) := by decide +kernel
theorem dX8_dayEnds_41 : decode cX8_dayEnds 41 = .ok (.bipush 6, 2) := by decide +kernel
theorem dX8_dayEnds_43 : decode cX8_dayEnds 43 = .ok (.if_icmp .ge 60, 3) := by decide +kernel
theorem dX8_dayEnds_46 : decode cX8_dayEnds 46 = .ok (.iconst 0, 1) := by decide +kernel
theorem dX8_dayEnds_47 : decode cX8_dayEnds 47 = .ok (.istore_n 2, 1) := by decide +kernel
theorem dX8_dayEnds_48 : decode cX8_dayEnds 48 = .ok (.iload_n 2, 1) := by decide +kernel
theorem dX8_dayEnds_49 : decode cX8_dayEnds 49 = .ok (.iconst 2, 1) := by decide +kernel
theorem dX8_dayEnds_50 : decode cX8_dayEnds 50 = .ok (.if_icmp .ge 47, 3) := by decide +kernel
theorem dX8_dayEnds_53 : decode cX8_dayEnds 53 = .ok (.aload_n 0, 1) := by decide +kernel
theorem dX8_dayEnds_54 : decode cX8_dayEnds 54 = .ok (.getfield 9, 3) := by decide +kernel
theorem dX8_dayEnds_57 : decode cX8_dayEnds 57 = .ok (.sipush 917, 3) := by decide +kernel
theorem dX8_dayEnds_60 : decode cX8_dayEnds 60 = .ok (.iconst 2, 1) := by decide +kernel
theorem dX8_dayEnds_61 : decode cX8_dayEnds 61 = .ok (.iload_n 1, 1) := by decide +kernel
theorem dX8_dayEnds_62 : decode cX8_dayEnds 62 = .ok (.imul, 1) := by decide +kernel
theorem dX8_dayEnds_63 : decode cX8_dayEnds 63 = .ok (.iadd, 1) := by decide +kernel
theorem dX8_dayEnds_64 : decode cX8_dayEnds 64 = .ok (.iload_n 2, 1) := by decide +kernel
theorem dX8_dayEnds_65 : decode cX8_dayEnds 65 = .ok (.iadd, 1) := by decide +kernel
theorem dX8_dayEnds_66 : decode cX8_dayEnds 66 = .ok (.aload_n 0, 1) := by decide +kernel
theorem dX8_dayEnds_67 : decode cX8_dayEnds 67 = .ok (.iload_n 1, 1) := by decide +kernel
theorem dX8_dayEnds_68 : decode cX8_dayEnds 68 = .ok (.iconst 2, 1) := by decide +kernel
theorem dX8_dayEnds_69 : decode cX8_dayEnds 69 = .ok (.iload_n 2, 1) := by decide +kernel
theorem dX8_dayEnds_70 : decode cX8_dayEnds 70 = .ok (.iadd, 1) := by decide +kernel
theorem dX8_dayEnds_71 : decode cX8_dayEnds 71 = .ok (.invokevirtual 134, 3) := by decide +kernel
theorem dX8_dayEnds_74 : decode cX8_dayEnds 74 = .ok (.iastore, 1) := by decide +kernel
theorem dX8_dayEnds_75 : decode cX8_dayEnds 75 = .ok (.aload_n 0, 1) := by decide +kernel
theorem dX8_dayEnds_76 : decode cX8_dayEnds 76 = .ok (.getfield 9, 3) := by decide +kernel
theorem dX8_dayEnds_79 : decode cX8_dayEnds 79 = .ok (.bipush 113, 2) := by decide +kernel
theorem dX8_dayEnds_81 : decode cX8_dayEnds 81 = .ok (.iconst 4, 1) := by decide +kernel
theorem dX8_dayEnds_82 : decode cX8_dayEnds 82 = .ok (.iload_n 1, 1) := by decide +kernel
theorem dX8_dayEnds_83 : decode cX8_dayEnds 83 = .ok (.imul, 1) := by decide +kernel
theorem dX8_dayEnds_84 : decode cX8_dayEnds 84 = .ok (.iadd, 1) := by decide +kernel
theorem dX8_dayEnds_85 : decode cX8_dayEnds 85 = .ok (.iconst 2, 1) := by decide +kernel
theorem dX8_dayEnds_86 : decode cX8_dayEnds 86 = .ok (.iadd, 1) := by decide +kernel
theorem dX8_dayEnds_87 : decode cX8_dayEnds 87 = .ok (.iload_n 2, 1) := by decide +kernel
theorem dX8_dayEnds_88 : decode cX8_dayEnds 88 = .ok (.iadd, 1) := by decide +kernel
theorem dX8_dayEnds_89 : decode cX8_dayEnds 89 = .ok (.iconst 0, 1) := by decide +kernel
theorem dX8_dayEnds_90 : decode cX8_dayEnds 90 = .ok (.iastore, 1) := by decide +kernel
theorem dX8_dayEnds_91 : decode cX8_dayEnds 91 = .ok (.iinc 2 1, 3) := by decide +kernel
theorem dX8_dayEnds_94 : decode cX8_dayEnds 94 = .ok (.goto (-46), 3) := by decide +kernel
theorem dX8_dayEnds_97 : decode cX8_dayEnds 97 = .ok (.iinc 1 1, 3) := by decide +kernel
theorem dX8_dayEnds_100 : decode cX8_dayEnds 100 = .ok (.goto (-60), 3) := by decide +kernel
theorem dX8_dayEnds_103 : decode cX8_dayEnds 103 = .ok (.aload_n 0, 1) := by decide +kernel
theorem dX8_dayEnds_104 : decode cX8_dayEnds 104 = .ok (.getfield 9, 3) := by decide +kernel
theorem dX8_dayEnds_107 : decode cX8_dayEnds 107 = .ok (.bipush 11, 2) := by decide +kernel
theorem dX8_dayEnds_109 : decode cX8_dayEnds 109 = .ok (.bipush 10, 2) := by decide +kernel
theorem dX8_dayEnds_111 : decode cX8_dayEnds 111 = .ok (.aload_n 0, 1) := by decide +kernel
theorem dX8_dayEnds_112 : decode cX8_dayEnds 112 = .ok (.getfield 9, 3) := by decide +kernel
theorem dX8_dayEnds_115 : decode cX8_dayEnds 115 = .ok (.bipush 11, 2) := by decide +kernel
theorem dX8_dayEnds_117 : decode cX8_dayEnds 117 = .ok (.iaload, 1) := by decide +kernel
theorem dX8_dayEnds_118 : decode cX8_dayEnds 118 = .ok (.iconst 1, 1) := by decide +kernel
theorem dX8_dayEnds_119 : decode cX8_dayEnds 119 = .ok (.iadd, 1) := by decide +kernel
theorem dX8_dayEnds_120 : decode cX8_dayEnds 120 = .ok (.invokestatic 105, 3) := by decide +kernel
theorem dX8_dayEnds_123 : decode cX8_dayEnds 123 = .ok (.iastore, 1) := by decide +kernel
theorem dX8_dayEnds_124 : decode cX8_dayEnds 124 = .ok (.return_, 1) := by decide +kernel
set_option maxRecDepth 20000 in
theorem ggX8_passes_X8_stationPasses : GoodIn wsX8_passes wsX8_stationPasses := goodIn_r _ [6, 7, 8, 9, 5, 10, 1, 11, 12, 13, 14, 15, 16, 17, 18, 19, 20, 21, 22, 23, 24, 25, 26, 27, 28, 29, 30, 31, 32, 33, 34, 35, 36, 37, 38, 39, 40, 41, 42, 43, 44, 45, 46, 47, 48, 49, 50, 51, 52, 53, 54, 55, 56, 57, 58, 59, 60, 61, 62, 63, 64, 65, 66, 67, 68, 69, 70, 71, 72, 73, 74, 75, 76, 77, 78, 79, 80, 81, 82, 83, 84, 117, 118, 119, 120, 121, 122, 123, 124, 125, 126, 127, 128, 129, 130, 131, 132, 133, 134, 135, 136, 137, 138, 139] (by decide +kernel) (by decide +kernel)
set_option maxRecDepth 20000 in
theorem gX8_passes_X8_stationPasses : GoodIn wsX8_passes (wsV RX8 326 RX8 yX8_stationPasses wsX8_stationPasses) := goodIn_app (goodIn_of _ (by decide +kernel)) ggX8_passes_X8_stationPasses
set_option maxRecDepth 20000 in
theorem ggX8_passes_X8_feeds : GoodIn wsX8_passes wsX8_feeds := goodIn_r _ [88, 1, 7, 8, 9, 5, 10, 89, 90, 91, 92, 31, 32, 33, 34, 93, 94, 95, 96, 97, 98, 99, 100, 101, 102, 103, 104, 105, 106, 107, 108, 35, 36, 37, 38, 47, 48, 49, 50, 51, 52, 53, 54, 55, 56, 57, 58, 59, 60, 61, 62, 63, 64, 65, 66, 67, 68, 23, 24, 25, 26, 117, 118, 119, 120, 121, 122, 123, 124, 125, 126, 127, 128, 129, 130, 131, 132, 133, 134, 135, 136, 137, 138, 139] (by decide +kernel) (by decide +kernel)
set_option maxRecDepth 20000 in
theorem gX8_passes_X8_feeds : GoodIn wsX8_passes (wsV RX8 329 RX8 yX8_feeds wsX8_feeds) := goodIn_app (goodIn_of _ (by decide +kernel)) ggX8_passes_X8_feeds
set_option maxRecDepth 20000 in
theorem ggX8_passes_X8_clearsTray : GoodIn wsX8_passes wsX8_clearsTray := goodIn_r _ [112, 1, 69, 70, 71, 5, 72, 31, 32, 33, 34, 73, 74, 75, 76, 77, 78, 79, 80, 35, 36, 37, 38, 117, 118, 119, 120, 121, 122, 123, 124, 125, 126, 127, 128, 129, 130, 131, 132, 133, 134, 135, 136, 137, 138, 139] (by decide +kernel) (by decide +kernel)
set_option maxRecDepth 20000 in
theorem gX8_passes_X8_clearsTray : GoodIn wsX8_passes (wsV RX8 332 RX8 yX8_clearsTray wsX8_clearsTray) := goodIn_app (goodIn_of _ (by decide +kernel)) ggX8_passes_X8_clearsTray
set_option maxRecDepth 20000 in
theorem ggX8_passes_X8_dayEnds : GoodIn wsX8_passes wsX8_dayEnds := goodIn_r _ [116, 1, 66, 67, 64, 68, 105, 106, 107, 5, 108, 117, 118, 119, 120, 121, 122, 123, 124, 125, 126, 127, 128, 129, 130, 131, 132, 133, 134, 135, 136, 137, 138, 139] (by decide +kernel) (by decide +kernel)
set_option maxRecDepth 20000 in
theorem gX8_passes_X8_dayEnds : GoodIn wsX8_passes (wsV RX8 335 RX8 yX8_dayEnds wsX8_dayEnds) := goodIn_app (goodIn_of _ (by decide +kernel)) ggX8_passes_X8_dayEnds
set_option maxRecDepth 20000 in
theorem ggX8_passes_X8_isReady : GoodIn wsX8_passes wsX8_isReady := goodIn_r _ [42, 7, 8, 9, 5, 10, 1, 117, 118, 119, 120, 121, 122, 123, 124, 125, 126, 127, 128, 129, 130, 131, 132, 133, 134, 135, 136, 137, 138, 139] (by decide +kernel) (by decide +kernel)
set_option maxRecDepth 20000 in
theorem gX8_passes_X8_isReady : GoodIn wsX8_passes (wsV RX8 320 RX8 yX8_isReady wsX8_isReady) := goodIn_app (goodIn_of _ (by decide +kernel)) ggX8_passes_X8_isReady
theorem dX8_passes_0 : decode cX8_passes 0 = .ok (.aload_n 0, 1) := by decide +kernel
theorem dX8_passes_1 : decode cX8_passes 1 = .ok (.getfield 9, 3) := by decide +kernel
theorem dX8_passes_4 : decode cX8_passes 4 = .ok (.bipush 7, 2) := by decide +kernel
theorem dX8_passes_6 : decode cX8_passes 6 = .ok (.iaload, 1) := by decide +kernel
theorem dX8_passes_7 : decode cX8_passes 7 = .ok (.iconst 1, 1) := by decide +kernel
theorem dX8_passes_8 : decode cX8_passes 8 = .ok (.isub, 1) := by decide +kernel
theorem dX8_passes_9 : decode cX8_passes 9 = .ok (.istore_n 1, 1) := by decide +kernel
theorem dX8_passes_10 : decode cX8_passes 10 = .ok (.iload_n 1, 1) := by decide +kernel
theorem dX8_passes_11 : decode cX8_passes 11 = .ok (.ifCond .lt 14, 3) := by decide +kernel
theorem dX8_passes_14 : decode cX8_passes 14 = .ok (.aload_n 0, 1) := by decide +kernel
theorem dX8_passes_15 : decode cX8_passes 15 = .ok (.iload_n 1, 1) := by decide +kernel
theorem dX8_passes_16 : decode cX8_passes 16 = .ok (.invokevirtual 326, 3) := by decide +kernel
theorem dX8_passes_19 : decode cX8_passes 19 = .ok (.iinc 1 (-1), 3) := by decide +kernel
theorem dX8_passes_22 : decode cX8_passes 22 = .ok (.goto (-12), 3) := by decide +kernel
theorem dX8_passes_25 : decode cX8_passes 25 = .ok (.aload_n 0, 1) := by decide +kernel
theorem dX8_passes_26 : decode cX8_passes 26 = .ok (.invokevirtual 329, 3) := by decide +kernel
theorem dX8_passes_29 : decode cX8_passes 29 = .ok (.aload_n 0, 1) := by decide +kernel
theorem dX8_passes_30 : decode cX8_passes 30 = .ok (.invokevirtual 332, 3) := by decide +kernel
theorem dX8_passes_33 : decode cX8_passes 33 = .ok (.aload_n 0, 1) := by decide +kernel
theorem dX8_passes_34 : decode cX8_passes 34 = .ok (.getfield 9, 3) := by decide +kernel
theorem dX8_passes_37 : decode cX8_passes 37 = .ok (.bipush 6, 2) := by decide +kernel
theorem dX8_passes_39 : decode cX8_passes 39 = .ok (.dup2, 1) := by decide +kernel
theorem dX8_passes_40 : decode cX8_passes 40 = .ok (.iaload, 1) := by decide +kernel
theorem dX8_passes_41 : decode cX8_passes 41 = .ok (.iconst 1, 1) := by decide +kernel
theorem dX8_passes_42 : decode cX8_passes 42 = .ok (.iadd, 1) := by decide +kernel
theorem dX8_passes_43 : decode cX8_passes 43 = .ok (.iastore, 1) := by decide +kernel
theorem dX8_passes_44 : decode cX8_passes 44 = .ok (.aload_n 0, 1) := by decide +kernel
theorem dX8_passes_45 : decode cX8_passes 45 = .ok (.getfield 9, 3) := by decide +kernel
theorem dX8_passes_48 : decode cX8_passes 48 = .ok (.bipush 6, 2) := by decide +kernel
theorem dX8_passes_50 : decode cX8_passes 50 = .ok (.iaload, 1) := by decide +kernel
theorem dX8_passes_51 : decode cX8_passes 51 = .ok (.aload_n 0, 1) := by decide +kernel
theorem dX8_passes_52 : decode cX8_passes 52 = .ok (.getfield 9, 3) := by decide +kernel
theorem dX8_passes_55 : decode cX8_passes 55 = .ok (.iconst 0, 1) := by decide +kernel
theorem dX8_passes_56 : decode cX8_passes 56 = .ok (.iaload, 1) := by decide +kernel
theorem dX8_passes_57 : decode cX8_passes 57 = .ok (.irem, 1) := by decide +kernel
theorem dX8_passes_58 : decode cX8_passes 58 = .ok (.ifCond .ne 7, 3) := by decide +kernel
theorem dX8_passes_61 : decode cX8_passes 61 = .ok (.aload_n 0, 1) := by decide +kernel
theorem dX8_passes_62 : decode cX8_passes 62 = .ok (.invokevirtual 335, 3) := by decide +kernel
theorem dX8_passes_65 : decode cX8_passes 65 = .ok (.iconst 0, 1) := by decide +kernel
theorem dX8_passes_66 : decode cX8_passes 66 = .ok (.istore_n 1, 1) := by decide +kernel
theorem dX8_passes_67 : decode cX8_passes 67 = .ok (.iload_n 1, 1) := by decide +kernel
theorem dX8_passes_68 : decode cX8_passes 68 = .ok (.aload_n 0, 1) := by decide +kernel
theorem dX8_passes_69 : decode cX8_passes 69 = .ok (.getfield 9, 3) := by decide +kernel
theorem dX8_passes_72 : decode cX8_passes 72 = .ok (.bipush 7, 2) := by decide +kernel
theorem dX8_passes_74 : decode cX8_passes 74 = .ok (.iaload, 1) := by decide +kernel
theorem dX8_passes_75 : decode cX8_passes 75 = .ok (.if_icmp .ge 32, 3) := by decide +kernel
theorem dX8_passes_78 : decode cX8_passes 78 = .ok (.aload_n 0, 1) := by decide +kernel
theorem dX8_passes_79 : decode cX8_passes 79 = .ok (.getfield 9, 3) := by decide +kernel
theorem dX8_passes_82 : decode cX8_passes 82 = .ok (.bipush 16, 2) := by decide +kernel
theorem dX8_passes_84 : decode cX8_passes 84 = .ok (.dup2, 1) := by decide +kernel
theorem dX8_passes_85 : decode cX8_passes 85 = .ok (.iaload, 1) := by decide +kernel
theorem dX8_passes_86 : decode cX8_passes 86 = .ok (.aload_n 0, 1) := by decide +kernel
theorem dX8_passes_87 : decode cX8_passes 87 = .ok (.iload_n 1, 1) := by decide +kernel
theorem dX8_passes_88 : decode cX8_passes 88 = .ok (.invokevirtual 320, 3) := by decide +kernel
theorem dX8_passes_91 : decode cX8_passes 91 = .ok (.ifCond .eq 7, 3) := by decide +kernel
theorem dX8_passes_94 : decode cX8_passes 94 = .ok (.iconst 1, 1) := by decide +kernel
theorem dX8_passes_95 : decode cX8_passes 95 = .ok (.goto 4, 3) := by decide +kernel
theorem dX8_passes_98 : decode cX8_passes 98 = .ok (.iconst 0, 1) := by decide +kernel
theorem dX8_passes_99 : decode cX8_passes 99 = .ok (.iadd, 1) := by decide +kernel
theorem dX8_passes_100 : decode cX8_passes 100 = .ok (.iastore, 1) := by decide +kernel
theorem dX8_passes_101 : decode cX8_passes 101 = .ok (.iinc 1 1, 3) := by decide +kernel
theorem dX8_passes_104 : decode cX8_passes 104 = .ok (.goto (-37), 3) := by decide +kernel
theorem dX8_passes_107 : decode cX8_passes 107 = .ok (.return_, 1) := by decide +kernel
set_option maxRecDepth 20000 in
theorem ggX8_keeps_X8_copies : GoodIn wsX8_keeps wsX8_copies := goodIn_r _ [7] (by decide +kernel) (by decide +kernel)
set_option maxRecDepth 20000 in
theorem gX8_keeps_X8_copies : GoodIn wsX8_keeps (va_wsS RX8 204 yX8_copies wsX8_copies) := goodIn_app (goodIn_of _ (by decide +kernel)) ggX8_keeps_X8_copies
theorem dX8_keeps_0 : decode cX8_keeps 0 = .ok (.aload_n 0, 1) := by decide +kernel
theorem dX8_keeps_1 : decode cX8_keeps 1 = .ok (.getfield 219, 3) := by decide +kernel
theorem dX8_keeps_4 : decode cX8_keeps 4 = .ok (.bipush 8, 2) := by decide +kernel
theorem dX8_keeps_6 : decode cX8_keeps 6 = .ok (.if_icmp .ne 44, 3) := by decide +kernel
theorem dX8_keeps_9 : decode cX8_keeps 9 = .ok (.iconst 0, 1) := by decide +kernel
theorem dX8_keeps_10 : decode cX8_keeps 10 = .ok (.istore_n 1, 1) := by decide +kernel
theorem dX8_keeps_11 : decode cX8_keeps 11 = .ok (.iload_n 1, 1) := by decide +kernel
theorem dX8_keeps_12 : decode cX8_keeps 12 = .ok (.sipush 7259, 3) := by decide +kernel
theorem dX8_keeps_15 : decode cX8_keeps 15 = .ok (.if_icmp .ge 25, 3) := by decide +kernel
theorem dX8_keeps_18 : decode cX8_keeps 18 = .ok (.aload_n 0, 1) := by decide +kernel
theorem dX8_keeps_19 : decode cX8_keeps 19 = .ok (.getfield 16, 3) := by decide +kernel
theorem dX8_keeps_22 : decode cX8_keeps 22 = .ok (.iload_n 1, 1) := by decide +kernel
theorem dX8_keeps_23 : decode cX8_keeps 23 = .ok (.aload_n 0, 1) := by decide +kernel
theorem dX8_keeps_24 : decode cX8_keeps 24 = .ok (.getfield 16, 3) := by decide +kernel
theorem dX8_keeps_27 : decode cX8_keeps 27 = .ok (.iload_n 1, 1) := by decide +kernel
theorem dX8_keeps_28 : decode cX8_keeps 28 = .ok (.sipush 1037, 3) := by decide +kernel
theorem dX8_keeps_31 : decode cX8_keeps 31 = .ok (.iadd, 1) := by decide +kernel
theorem dX8_keeps_32 : decode cX8_keeps 32 = .ok (.iaload, 1) := by decide +kernel
theorem dX8_keeps_33 : decode cX8_keeps 33 = .ok (.iastore, 1) := by decide +kernel
theorem dX8_keeps_34 : decode cX8_keeps 34 = .ok (.iinc 1 1, 3) := by decide +kernel
theorem dX8_keeps_37 : decode cX8_keeps 37 = .ok (.goto (-26), 3) := by decide +kernel
theorem dX8_keeps_40 : decode cX8_keeps 40 = .ok (.aload_n 0, 1) := by decide +kernel
theorem dX8_keeps_41 : decode cX8_keeps 41 = .ok (.dup, 1) := by decide +kernel
theorem dX8_keeps_42 : decode cX8_keeps 42 = .ok (.getfield 219, 3) := by decide +kernel
theorem dX8_keeps_45 : decode cX8_keeps 45 = .ok (.iconst 1, 1) := by decide +kernel
theorem dX8_keeps_46 : decode cX8_keeps 46 = .ok (.isub, 1) := by decide +kernel
theorem dX8_keeps_47 : decode cX8_keeps 47 = .ok (.putfield 219, 3) := by decide +kernel
theorem dX8_keeps_50 : decode cX8_keeps 50 = .ok (.aload_n 0, 1) := by decide +kernel
theorem dX8_keeps_51 : decode cX8_keeps 51 = .ok (.getfield 9, 3) := by decide +kernel
theorem dX8_keeps_54 : decode cX8_keeps 54 = .ok (.iconst 0, 1) := by decide +kernel
theorem dX8_keeps_55 : decode cX8_keeps 55 = .ok (.aload_n 0, 1) := by decide +kernel
theorem dX8_keeps_56 : decode cX8_keeps 56 = .ok (.getfield 16, 3) := by decide +kernel
theorem dX8_keeps_59 : decode cX8_keeps 59 = .ok (.aload_n 0, 1) := by decide +kernel
theorem dX8_keeps_60 : decode cX8_keeps 60 = .ok (.getfield 219, 3) := by decide +kernel
theorem dX8_keeps_63 : decode cX8_keeps 63 = .ok (.invokestatic 204, 3) := by decide +kernel
theorem dX8_keeps_66 : decode cX8_keeps 66 = .ok (.aload_n 0, 1) := by decide +kernel
theorem dX8_keeps_67 : decode cX8_keeps 67 = .ok (.dup, 1) := by decide +kernel
theorem dX8_keeps_68 : decode cX8_keeps 68 = .ok (.getfield 219, 3) := by decide +kernel
theorem dX8_keeps_71 : decode cX8_keeps 71 = .ok (.iconst 1, 1) := by decide +kernel
theorem dX8_keeps_72 : decode cX8_keeps 72 = .ok (.iadd, 1) := by decide +kernel
theorem dX8_keeps_73 : decode cX8_keeps 73 = .ok (.putfield 219, 3) := by decide +kernel
theorem dX8_keeps_76 : decode cX8_keeps 76 = .ok (.return_, 1) := by decide +kernel
set_option maxRecDepth 20000 in
theorem ggX8_undo_X8_copies : GoodIn wsX8_undo wsX8_copies := goodIn_r _ [8] (by decide +kernel) (by decide +kernel)
set_option maxRecDepth 20000 in
theorem gX8_undo_X8_copies : GoodIn wsX8_undo (va_wsS RX8 204 yX8_copies wsX8_copies) := goodIn_app (goodIn_of _ (by decide +kernel)) ggX8_undo_X8_copies
theorem dX8_undo_0 : decode cX8_undo 0 = .ok (.aload_n 0, 1) := by decide +kernel
theorem dX8_undo_1 : decode cX8_undo 1 = .ok (.iconst 0, 1) := by decide +kernel
theorem dX8_undo_2 : decode cX8_undo 2 = .ok (.putfield 49, 3) := by decide +kernel
theorem dX8_undo_5 : decode cX8_undo 5 = .ok (.aload_n 0, 1) := by decide +kernel
theorem dX8_undo_6 : decode cX8_undo 6 = .ok (.getfield 219, 3) := by decide +kernel
theorem dX8_undo_9 : decode cX8_undo 9 = .ok (.ifCond .ne 5, 3) := by decide +kernel
theorem dX8_undo_12 : decode cX8_undo 12 = .ok (.iconst (-1), 1) := by decide +kernel
theorem dX8_undo_13 : decode cX8_undo 13 = .ok (.ireturn, 1) := by decide +kernel
theorem dX8_undo_14 : decode cX8_undo 14 = .ok (.aload_n 0, 1) := by decide +kernel
theorem dX8_undo_15 : decode cX8_undo 15 = .ok (.dup, 1) := by decide +kernel
theorem dX8_undo_16 : decode cX8_undo 16 = .ok (.getfield 219, 3) := by decide +kernel
theorem dX8_undo_19 : decode cX8_undo 19 = .ok (.iconst 1, 1) := by decide +kernel
theorem dX8_undo_20 : decode cX8_undo 20 = .ok (.isub, 1) := by decide +kernel
theorem dX8_undo_21 : decode cX8_undo 21 = .ok (.putfield 219, 3) := by decide +kernel
theorem dX8_undo_24 : decode cX8_undo 24 = .ok (.aload_n 0, 1) := by decide +kernel
theorem dX8_undo_25 : decode cX8_undo 25 = .ok (.getfield 16, 3) := by decide +kernel
theorem dX8_undo_28 : decode cX8_undo 28 = .ok (.aload_n 0, 1) := by decide +kernel
theorem dX8_undo_29 : decode cX8_undo 29 = .ok (.getfield 219, 3) := by decide +kernel
theorem dX8_undo_32 : decode cX8_undo 32 = .ok (.aload_n 0, 1) := by decide +kernel
theorem dX8_undo_33 : decode cX8_undo 33 = .ok (.getfield 9, 3) := by decide +kernel
theorem dX8_undo_36 : decode cX8_undo 36 = .ok (.iconst 0, 1) := by decide +kernel
theorem dX8_undo_37 : decode cX8_undo 37 = .ok (.invokestatic 204, 3) := by decide +kernel
theorem dX8_undo_40 : decode cX8_undo 40 = .ok (.aload_n 0, 1) := by decide +kernel
theorem dX8_undo_41 : decode cX8_undo 41 = .ok (.getfield 219, 3) := by decide +kernel
theorem dX8_undo_44 : decode cX8_undo 44 = .ok (.ireturn, 1) := by decide +kernel
set_option maxRecDepth 20000 in
theorem ggX8_giveUp_X8_isCard : GoodIn wsX8_giveUp wsX8_isCard := goodIn_r _ [5, 6, 7, 8, 4, 9, 36, 37, 38, 39, 40, 41, 42, 43, 44, 45, 46, 47, 48, 49, 50, 51, 52, 53, 54, 55, 56, 57, 58] (by decide +kernel) (by decide +kernel)
set_option maxRecDepth 20000 in
theorem gX8_giveUp_X8_isCard : GoodIn wsX8_giveUp (wsV RX8 251 RX8 yX8_isCard wsX8_isCard) := goodIn_app (goodIn_of _ (by decide +kernel)) ggX8_giveUp_X8_isCard
set_option maxRecDepth 20000 in
theorem ggX8_giveUp_X8_isThrown : GoodIn wsX8_giveUp wsX8_isThrown := goodIn_r _ [13, 14, 36, 37, 38, 39, 40, 41, 42, 43, 44, 45, 46, 47, 48, 49, 50, 51, 52, 53, 54, 55, 56, 57, 58] (by decide +kernel) (by decide +kernel)
set_option maxRecDepth 20000 in
theorem gX8_giveUp_X8_isThrown : GoodIn wsX8_giveUp (wsV RX8 226 RX8 yX8_isThrown wsX8_isThrown) := goodIn_app (goodIn_of _ (by decide +kernel)) ggX8_giveUp_X8_isThrown
set_option maxRecDepth 20000 in
theorem ggX8_giveUp_X8_ofCard : GoodIn wsX8_giveUp wsX8_ofCard := goodIn_r _ [18, 6, 36, 37, 38, 39, 40, 41, 42, 43, 44, 45, 46, 47, 48, 49, 50, 51, 52, 53, 54, 55, 56, 57, 58] (by decide +kernel) (by decide +kernel)
set_option maxRecDepth 20000 in
theorem gX8_giveUp_X8_ofCard : GoodIn wsX8_giveUp (wsV RX8 233 RX8 yX8_ofCard wsX8_ofCard) := goodIn_app (goodIn_of _ (by decide +kernel)) ggX8_giveUp_X8_ofCard
set_option maxRecDepth 20000 in
theorem ggX8_giveUp_X8_keeps : GoodIn wsX8_giveUp wsX8_keeps := goodIn_r _ [22, 23, 24, 6, 25, 26, 4, 27, 36, 37, 38, 39, 40, 41, 42, 43, 44, 45, 46, 47, 48, 49, 50, 51, 52, 53, 54, 55, 56, 57, 58] (by decide +kernel) (by decide +kernel)
set_option maxRecDepth 20000 in
theorem gX8_giveUp_X8_keeps : GoodIn wsX8_giveUp (wsV RX8 230 RX8 yX8_keeps wsX8_keeps) := goodIn_app (goodIn_of _ (by decide +kernel)) ggX8_giveUp_X8_keeps
set_option maxRecDepth 20000 in
theorem ggX8_giveUp_X8_setsCard : GoodIn wsX8_giveUp wsX8_setsCard := goodIn_r _ [31, 6, 36, 37, 38, 39, 40, 41, 42, 43, 44, 45, 46, 47, 48, 49, 50, 51, 52, 53, 54, 55, 56, 57, 58] (by decide +kernel) (by decide +kernel)
set_option maxRecDepth 20000 in
theorem gX8_giveUp_X8_setsCard : GoodIn wsX8_giveUp (wsV RX8 130 RX8 yX8_setsCard wsX8_setsCard) := goodIn_app (goodIn_of _ (by decide +kernel)) ggX8_giveUp_X8_setsCard
set_option maxRecDepth 20000 in
theorem ggX8_giveUp_X8_inState : GoodIn wsX8_giveUp wsX8_inState := goodIn_r _ [35, 6, 15, 16, 17, 4, 18, 36, 37, 38, 39, 40, 41, 42, 43, 44, 45, 46, 47, 48, 49, 50, 51, 52, 53, 54, 55, 56, 57, 58] (by decide +kernel) (by decide +kernel)
set_option maxRecDepth 20000 in
theorem gX8_giveUp_X8_inState : GoodIn wsX8_giveUp (wsV RX8 238 RX8 yX8_inState wsX8_inState) := goodIn_app (goodIn_of _ (by decide +kernel)) ggX8_giveUp_X8_inState
theorem dX8_giveUp_0 : decode cX8_giveUp 0 = .ok (.aload_n 0, 1) := by decide +kernel
theorem dX8_giveUp_1 : decode cX8_giveUp 1 = .ok (.aload_n 0, 1) := by decide +kernel
theorem dX8_giveUp_2 : decode cX8_giveUp 2 = .ok (.iload_n 1, 1) := by decide +kernel
theorem dX8_giveUp_3 : decode cX8_giveUp 3 = .ok (.invokevirtual 251, 3) := by decide +kernel
theorem dX8_giveUp_6 : decode cX8_giveUp 6 = .ok (.iconst 1, 1) := by decide +kernel
theorem dX8_giveUp_7 : decode cX8_giveUp 7 = .ok (.invokevirtual 226, 3) := by decide +kernel
theorem dX8_giveUp_10 : decode cX8_giveUp 10 = .ok (.ifCond .eq 5, 3) := by decide +kernel
theorem dX8_giveUp_13 : decode cX8_giveUp 13 = .ok (.iconst 0, 1) := by decide +kernel
theorem dX8_giveUp_14 : decode cX8_giveUp 14 = .ok (.ireturn, 1) := by decide +kernel
theorem dX8_giveUp_15 : decode cX8_giveUp 15 = .ok (.aload_n 0, 1) := by decide +kernel
theorem dX8_giveUp_16 : decode cX8_giveUp 16 = .ok (.iload_n 1, 1) := by decide +kernel
theorem dX8_giveUp_17 : decode cX8_giveUp 17 = .ok (.iconst 3, 1) := by decide +kernel
theorem dX8_giveUp_18 : decode cX8_giveUp 18 = .ok (.invokevirtual 233, 3) := by decide +kernel
theorem dX8_giveUp_21 : decode cX8_giveUp 21 = .ok (.ifCond .eq 6, 3) := by decide +kernel
theorem dX8_giveUp_24 : decode cX8_giveUp 24 = .ok (.bipush (-3), 2) := by decide +kernel
theorem dX8_giveUp_26 : decode cX8_giveUp 26 = .ok (.ireturn, 1) := by decide +kernel
theorem dX8_giveUp_27 : decode cX8_giveUp 27 = .ok (.aload_n 0, 1) := by decide +kernel
theorem dX8_giveUp_28 : decode cX8_giveUp 28 = .ok (.invokevirtual 230, 3) := by decide +kernel
theorem dX8_giveUp_31 : decode cX8_giveUp 31 = .ok (.aload_n 0, 1) := by decide +kernel
theorem dX8_giveUp_32 : decode cX8_giveUp 32 = .ok (.iload_n 1, 1) := by decide +kernel
theorem dX8_giveUp_33 : decode cX8_giveUp 33 = .ok (.iconst 3, 1) := by decide +kernel
theorem dX8_giveUp_34 : decode cX8_giveUp 34 = .ok (.iconst 4, 1) := by decide +kernel
theorem dX8_giveUp_35 : decode cX8_giveUp 35 = .ok (.invokevirtual 130, 3) := by decide +kernel
theorem dX8_giveUp_38 : decode cX8_giveUp 38 = .ok (.aload_n 0, 1) := by decide +kernel
theorem dX8_giveUp_39 : decode cX8_giveUp 39 = .ok (.iload_n 1, 1) := by decide +kernel
theorem dX8_giveUp_40 : decode cX8_giveUp 40 = .ok (.bipush 8, 2) := by decide +kernel
theorem dX8_giveUp_42 : decode cX8_giveUp 42 = .ok (.iconst 0, 1) := by decide +kernel
theorem dX8_giveUp_43 : decode cX8_giveUp 43 = .ok (.invokevirtual 130, 3) := by decide +kernel
theorem dX8_giveUp_46 : decode cX8_giveUp 46 = .ok (.aload_n 0, 1) := by decide +kernel
theorem dX8_giveUp_47 : decode cX8_giveUp 47 = .ok (.iconst 0, 1) := by decide +kernel
theorem dX8_giveUp_48 : decode cX8_giveUp 48 = .ok (.invokevirtual 238, 3) := by decide +kernel
theorem dX8_giveUp_51 : decode cX8_giveUp 51 = .ok (.ireturn, 1) := by decide +kernel
set_option maxRecDepth 20000 in
theorem ggX8_puts_X8_keeps : GoodIn wsX8_puts wsX8_keeps := goodIn_r _ [6, 7, 8, 1, 9, 10, 5, 11, 12, 13, 14, 15, 16, 17, 18, 19, 20, 21, 22, 23, 24, 25, 26, 27, 28, 29, 30, 31, 32, 33, 34] (by decide +kernel) (by decide +kernel)
set_option maxRecDepth 20000 in
theorem gX8_puts_X8_keeps : GoodIn wsX8_puts (wsV RX8 230 RX8 yX8_keeps wsX8_keeps) := goodIn_app (goodIn_of _ (by decide +kernel)) ggX8_puts_X8_keeps
theorem dX8_puts_0 : decode cX8_puts 0 = .ok (.aload_n 0, 1) := by decide +kernel
theorem dX8_puts_1 : decode cX8_puts 1 = .ok (.invokevirtual 230, 3) := by decide +kernel
theorem dX8_puts_4 : decode cX8_puts 4 = .ok (.aload_n 0, 1) := by decide +kernel
theorem dX8_puts_5 : decode cX8_puts 5 = .ok (.getfield 9, 3) := by decide +kernel
theorem dX8_puts_8 : decode cX8_puts 8 = .ok (.iload_n 1, 1) := by decide +kernel
theorem dX8_puts_9 : decode cX8_puts 9 = .ok (.iaload, 1) := by decide +kernel
theorem dX8_puts_10 : decode cX8_puts 10 = .ok (.istore_n 3, 1) := by decide +kernel
theorem dX8_puts_11 : decode cX8_puts 11 = .ok (.aload_n 0, 1) := by decide +kernel
theorem dX8_puts_12 : decode cX8_puts 12 = .ok (.getfield 9, 3) := by decide +kernel
theorem dX8_puts_15 : decode cX8_puts 15 = .ok (.iload_n 1, 1) := by decide +kernel
theorem dX8_puts_16 : decode cX8_puts 16 = .ok (.iload_n 2, 1) := by decide +kernel
theorem dX8_puts_17 : decode cX8_puts 17 = .ok (.iastore, 1) := by decide +kernel
theorem dX8_puts_18 : decode cX8_puts 18 = .ok (.iload_n 3, 1) := by decide +kernel
theorem dX8_puts_19 : decode cX8_puts 19 = .ok (.ireturn, 1) := by decide +kernel
set_option maxRecDepth 20000 in
theorem ggX8_setRank_X8_isLot : GoodIn wsX8_setRank wsX8_isLot := goodIn_r _ [6, 7, 8, 9, 5, 10, 29, 30, 31, 32, 33, 34, 35, 36, 37, 38, 39, 40, 41, 42, 43, 44, 45, 46, 47, 48, 49, 50, 51] (by decide +kernel) (by decide +kernel)
set_option maxRecDepth 20000 in
theorem gX8_setRank_X8_isLot : GoodIn wsX8_setRank (wsV RX8 222 RX8 yX8_isLot wsX8_isLot) := goodIn_app (goodIn_of _ (by decide +kernel)) ggX8_setRank_X8_isLot
set_option maxRecDepth 20000 in
theorem ggX8_setRank_X8_isThrown : GoodIn wsX8_setRank wsX8_isThrown := goodIn_r _ [14, 15, 29, 30, 31, 32, 33, 34, 35, 36, 37, 38, 39, 40, 41, 42, 43, 44, 45, 46, 47, 48, 49, 50, 51] (by decide +kernel) (by decide +kernel)
set_option maxRecDepth 20000 in
theorem gX8_setRank_X8_isThrown : GoodIn wsX8_setRank (wsV RX8 226 RX8 yX8_isThrown wsX8_isThrown) := goodIn_app (goodIn_of _ (by decide +kernel)) ggX8_setRank_X8_isThrown
set_option maxRecDepth 20000 in
theorem ggX8_setRank_X8_in : GoodIn wsX8_setRank wsX8_in := goodIn_r _ [10] (by decide +kernel) (by decide +kernel)
set_option maxRecDepth 20000 in
theorem gX8_setRank_X8_in : GoodIn wsX8_setRank (va_wsS RX8 52 yX8_in wsX8_in) := goodIn_app (goodIn_of _ (by decide +kernel)) ggX8_setRank_X8_in
set_option maxRecDepth 20000 in
theorem ggX8_setRank_X8_puts : GoodIn wsX8_setRank wsX8_puts := goodIn_r _ [19, 7, 20, 21, 22, 5, 23, 24, 25, 26, 27, 28, 29, 30, 31, 32, 33, 34, 35, 36, 37, 38, 39, 40, 41, 42, 43, 44, 45, 46, 47, 48, 49, 50, 51] (by decide +kernel) (by decide +kernel)
set_option maxRecDepth 20000 in
theorem gX8_setRank_X8_puts : GoodIn wsX8_setRank (wsV RX8 338 RX8 yX8_puts wsX8_puts) := goodIn_app (goodIn_of _ (by decide +kernel)) ggX8_setRank_X8_puts
theorem dX8_setRank_0 : decode cX8_setRank 0 = .ok (.aload_n 0, 1) := by decide +kernel
theorem dX8_setRank_1 : decode cX8_setRank 1 = .ok (.aload_n 0, 1) := by decide +kernel
theorem dX8_setRank_2 : decode cX8_setRank 2 = .ok (.iload_n 1, 1) := by decide +kernel
theorem dX8_setRank_3 : decode cX8_setRank 3 = .ok (.invokevirtual 222, 3) := by decide +kernel
theorem dX8_setRank_6 : decode cX8_setRank 6 = .ok (.iconst 1, 1) := by decide +kernel
theorem dX8_setRank_7 : decode cX8_setRank 7 = .ok (.invokevirtual 226, 3) := by decide +kernel
theorem dX8_setRank_10 : decode cX8_setRank 10 = .ok (.ifCond .ne 20, 3) := by decide +kernel
theorem dX8_setRank_13 : decode cX8_setRank 13 = .ok (.aload_n 0, 1) := by decide +kernel
theorem dX8_setRank_14 : decode cX8_setRank 14 = .ok (.iload_n 2, 1) := by decide +kernel
theorem dX8_setRank_15 : decode cX8_setRank 15 = .ok (.i2l, 1) := by decide +kernel
theorem dX8_setRank_16 : decode cX8_setRank 16 = .ok (.lconst 0, 1) := by decide +kernel
theorem dX8_setRank_17 : decode cX8_setRank 17 = .ok (.ldc2_w 236, 3) := by decide +kernel
theorem dX8_setRank_20 : decode cX8_setRank 20 = .ok (.invokestatic 52, 3) := by decide +kernel
theorem dX8_setRank_23 : decode cX8_setRank 23 = .ok (.iconst 2, 1) := by decide +kernel
theorem dX8_setRank_24 : decode cX8_setRank 24 = .ok (.invokevirtual 226, 3) := by decide +kernel
theorem dX8_setRank_27 : decode cX8_setRank 27 = .ok (.ifCond .eq 5, 3) := by decide +kernel
theorem dX8_setRank_30 : decode cX8_setRank 30 = .ok (.iconst 0, 1) := by decide +kernel
theorem dX8_setRank_31 : decode cX8_setRank 31 = .ok (.ireturn, 1) := by decide +kernel
theorem dX8_setRank_32 : decode cX8_setRank 32 = .ok (.aload_n 0, 1) := by decide +kernel
theorem dX8_setRank_33 : decode cX8_setRank 33 = .ok (.bipush 113, 2) := by decide +kernel
theorem dX8_setRank_35 : decode cX8_setRank 35 = .ok (.iconst 4, 1) := by decide +kernel
theorem dX8_setRank_36 : decode cX8_setRank 36 = .ok (.iload_n 1, 1) := by decide +kernel
theorem dX8_setRank_37 : decode cX8_setRank 37 = .ok (.imul, 1) := by decide +kernel
theorem dX8_setRank_38 : decode cX8_setRank 38 = .ok (.iadd, 1) := by decide +kernel
theorem dX8_setRank_39 : decode cX8_setRank 39 = .ok (.iconst 0, 1) := by decide +kernel
theorem dX8_setRank_40 : decode cX8_setRank 40 = .ok (.iadd, 1) := by decide +kernel
theorem dX8_setRank_41 : decode cX8_setRank 41 = .ok (.iload_n 2, 1) := by decide +kernel
theorem dX8_setRank_42 : decode cX8_setRank 42 = .ok (.invokevirtual 338, 3) := by decide +kernel
theorem dX8_setRank_45 : decode cX8_setRank 45 = .ok (.ireturn, 1) := by decide +kernel
set_option maxRecDepth 20000 in
theorem ggX8_refill_X8_in : GoodIn wsX8_refill wsX8_in := goodIn_r _ [6] (by decide +kernel) (by decide +kernel)
set_option maxRecDepth 20000 in
theorem gX8_refill_X8_in : GoodIn wsX8_refill (va_wsS RX8 52 yX8_in wsX8_in) := goodIn_app (goodIn_of _ (by decide +kernel)) ggX8_refill_X8_in
set_option maxRecDepth 20000 in
theorem ggX8_refill_X8_isThrown : GoodIn wsX8_refill wsX8_isThrown := goodIn_r _ [10, 11, 21, 22, 23, 24, 25, 26, 27, 28, 29, 30, 31, 32, 33, 34, 35, 36, 37, 38, 39, 40, 41, 42, 43] (by decide +kernel) (by decide +kernel)
set_option maxRecDepth 20000 in
theorem gX8_refill_X8_isThrown : GoodIn wsX8_refill (wsV RX8 226 RX8 yX8_isThrown wsX8_isThrown) := goodIn_app (goodIn_of _ (by decide +kernel)) ggX8_refill_X8_isThrown
set_option maxRecDepth 20000 in
theorem ggX8_refill_X8_keeps : GoodIn wsX8_refill wsX8_keeps := goodIn_r _ [15, 16, 17, 2, 18, 19, 5, 20, 21, 22, 23, 24, 25, 26, 27, 28, 29, 30, 31, 32, 33, 34, 35, 36, 37, 38, 39, 40, 41, 42, 43] (by decide +kernel) (by decide +kernel)
set_option maxRecDepth 20000 in
theorem gX8_refill_X8_keeps : GoodIn wsX8_refill (wsV RX8 230 RX8 yX8_keeps wsX8_keeps) := goodIn_app (goodIn_of _ (by decide +kernel)) ggX8_refill_X8_keeps
theorem dX8_refill_0 : decode cX8_refill 0 = .ok (.aload_n 0, 1) := by decide +kernel
theorem dX8_refill_1 : decode cX8_refill 1 = .ok (.iload_n 1, 1) := by decide +kernel
theorem dX8_refill_2 : decode cX8_refill 2 = .ok (.i2l, 1) := by decide +kernel
theorem dX8_refill_3 : decode cX8_refill 3 = .ok (.lconst 1, 1) := by decide +kernel
theorem dX8_refill_4 : decode cX8_refill 4 = .ok (.ldc2_w 341, 3) := by decide +kernel
theorem dX8_refill_7 : decode cX8_refill 7 = .ok (.invokestatic 52, 3) := by decide +kernel
theorem dX8_refill_10 : decode cX8_refill 10 = .ok (.iconst 1, 1) := by decide +kernel
theorem dX8_refill_11 : decode cX8_refill 11 = .ok (.invokevirtual 226, 3) := by decide +kernel
theorem dX8_refill_14 : decode cX8_refill 14 = .ok (.ifCond .eq 5, 3) := by decide +kernel
theorem dX8_refill_17 : decode cX8_refill 17 = .ok (.iconst 0, 1) := by decide +kernel
theorem dX8_refill_18 : decode cX8_refill 18 = .ok (.ireturn, 1) := by decide +kernel
theorem dX8_refill_19 : decode cX8_refill 19 = .ok (.aload_n 0, 1) := by decide +kernel
theorem dX8_refill_20 : decode cX8_refill 20 = .ok (.getfield 9, 3) := by decide +kernel
theorem dX8_refill_23 : decode cX8_refill 23 = .ok (.iconst 5, 1) := by decide +kernel
theorem dX8_refill_24 : decode cX8_refill 24 = .ok (.iaload, 1) := by decide +kernel
theorem dX8_refill_25 : decode cX8_refill 25 = .ok (.iload_n 1, 1) := by decide +kernel
theorem dX8_refill_26 : decode cX8_refill 26 = .ok (.iadd, 1) := by decide +kernel
theorem dX8_refill_27 : decode cX8_refill 27 = .ok (.sipush 9999, 3) := by decide +kernel
theorem dX8_refill_30 : decode cX8_refill 30 = .ok (.if_icmp .le 6, 3) := by decide +kernel
theorem dX8_refill_33 : decode cX8_refill 33 = .ok (.bipush (-2), 2) := by decide +kernel
theorem dX8_refill_35 : decode cX8_refill 35 = .ok (.ireturn, 1) := by decide +kernel
theorem dX8_refill_36 : decode cX8_refill 36 = .ok (.aload_n 0, 1) := by decide +kernel
theorem dX8_refill_37 : decode cX8_refill 37 = .ok (.invokevirtual 230, 3) := by decide +kernel
theorem dX8_refill_40 : decode cX8_refill 40 = .ok (.aload_n 0, 1) := by decide +kernel
theorem dX8_refill_41 : decode cX8_refill 41 = .ok (.getfield 9, 3) := by decide +kernel
theorem dX8_refill_44 : decode cX8_refill 44 = .ok (.iconst 5, 1) := by decide +kernel
theorem dX8_refill_45 : decode cX8_refill 45 = .ok (.dup2, 1) := by decide +kernel
theorem dX8_refill_46 : decode cX8_refill 46 = .ok (.iaload, 1) := by decide +kernel
theorem dX8_refill_47 : decode cX8_refill 47 = .ok (.iload_n 1, 1) := by decide +kernel
theorem dX8_refill_48 : decode cX8_refill 48 = .ok (.iadd, 1) := by decide +kernel
theorem dX8_refill_49 : decode cX8_refill 49 = .ok (.iastore, 1) := by decide +kernel
theorem dX8_refill_50 : decode cX8_refill 50 = .ok (.aload_n 0, 1) := by decide +kernel
theorem dX8_refill_51 : decode cX8_refill 51 = .ok (.getfield 9, 3) := by decide +kernel
theorem dX8_refill_54 : decode cX8_refill 54 = .ok (.iconst 4, 1) := by decide +kernel
theorem dX8_refill_55 : decode cX8_refill 55 = .ok (.dup2, 1) := by decide +kernel
theorem dX8_refill_56 : decode cX8_refill 56 = .ok (.iaload, 1) := by decide +kernel
theorem dX8_refill_57 : decode cX8_refill 57 = .ok (.iload_n 1, 1) := by decide +kernel
theorem dX8_refill_58 : decode cX8_refill 58 = .ok (.iadd, 1) := by decide +kernel
theorem dX8_refill_59 : decode cX8_refill 59 = .ok (.iastore, 1) := by decide +kernel
theorem dX8_refill_60 : decode cX8_refill 60 = .ok (.aload_n 0, 1) := by decide +kernel
theorem dX8_refill_61 : decode cX8_refill 61 = .ok (.getfield 9, 3) := by decide +kernel
theorem dX8_refill_64 : decode cX8_refill 64 = .ok (.iconst 5, 1) := by decide +kernel
theorem dX8_refill_65 : decode cX8_refill 65 = .ok (.iaload, 1) := by decide +kernel
theorem dX8_refill_66 : decode cX8_refill 66 = .ok (.ireturn, 1) := by decide +kernel
set_option maxRecDepth 20000 in
theorem ggX8_setPace_X8_isStation : GoodIn wsX8_setPace wsX8_isStation := goodIn_r _ [5, 6, 7, 8, 4, 9, 35, 36, 37, 38, 39, 40, 41, 42, 43, 44, 45, 46, 47, 48, 49, 50, 51, 52, 53, 54, 55, 56, 57] (by decide +kernel) (by decide +kernel)
set_option maxRecDepth 20000 in
theorem gX8_setPace_X8_isStation : GoodIn wsX8_setPace (wsV RX8 243 RX8 yX8_isStation wsX8_isStation) := goodIn_app (goodIn_of _ (by decide +kernel)) ggX8_setPace_X8_isStation
set_option maxRecDepth 20000 in
theorem ggX8_setPace_X8_isThrown : GoodIn wsX8_setPace wsX8_isThrown := goodIn_r _ [13, 14, 35, 36, 37, 38, 39, 40, 41, 42, 43, 44, 45, 46, 47, 48, 49, 50, 51, 52, 53, 54, 55, 56, 57] (by decide +kernel) (by decide +kernel)
set_option maxRecDepth 20000 in
theorem gX8_setPace_X8_isThrown : GoodIn wsX8_setPace (wsV RX8 226 RX8 yX8_isThrown wsX8_isThrown) := goodIn_app (goodIn_of _ (by decide +kernel)) ggX8_setPace_X8_isThrown
set_option maxRecDepth 20000 in
theorem ggX8_setPace_X8_of : GoodIn wsX8_setPace wsX8_of := goodIn_r _ [18, 6, 35, 36, 37, 38, 39, 40, 41, 42, 43, 44, 45, 46, 47, 48, 49, 50, 51, 52, 53, 54, 55, 56, 57] (by decide +kernel) (by decide +kernel)
set_option maxRecDepth 20000 in
theorem gX8_setPace_X8_of : GoodIn wsX8_setPace (wsV RX8 248 RX8 yX8_of wsX8_of) := goodIn_app (goodIn_of _ (by decide +kernel)) ggX8_setPace_X8_of
set_option maxRecDepth 20000 in
theorem ggX8_setPace_X8_mostPace : GoodIn wsX8_setPace wsX8_mostPace := goodIn_r _ [21] (by decide +kernel) (by decide +kernel)
set_option maxRecDepth 20000 in
theorem gX8_setPace_X8_mostPace : GoodIn wsX8_setPace (va_wsS RX8 156 yX8_mostPace wsX8_mostPace) := goodIn_app (goodIn_of _ (by decide +kernel)) ggX8_setPace_X8_mostPace
set_option maxRecDepth 20000 in
theorem ggX8_setPace_X8_in : GoodIn wsX8_setPace wsX8_in := goodIn_r _ [9] (by decide +kernel) (by decide +kernel)
set_option maxRecDepth 20000 in
theorem gX8_setPace_X8_in : GoodIn wsX8_setPace (va_wsS RX8 52 yX8_in wsX8_in) := goodIn_app (goodIn_of _ (by decide +kernel)) ggX8_setPace_X8_in
set_option maxRecDepth 20000 in
theorem ggX8_setPace_X8_puts : GoodIn wsX8_setPace wsX8_puts := goodIn_r _ [25, 6, 26, 27, 28, 4, 29, 30, 31, 32, 33, 34, 35, 36, 37, 38, 39, 40, 41, 42, 43, 44, 45, 46, 47, 48, 49, 50, 51, 52, 53, 54, 55, 56, 57] (by decide +kernel) (by decide +kernel)
set_option maxRecDepth 20000 in
theorem gX8_setPace_X8_puts : GoodIn wsX8_setPace (wsV RX8 338 RX8 yX8_puts wsX8_puts) := goodIn_app (goodIn_of _ (by decide +kernel)) ggX8_setPace_X8_puts
theorem dX8_setPace_0 : decode cX8_setPace 0 = .ok (.aload_n 0, 1) := by decide +kernel
theorem dX8_setPace_1 : decode cX8_setPace 1 = .ok (.aload_n 0, 1) := by decide +kernel
theorem dX8_setPace_2 : decode cX8_setPace 2 = .ok (.iload_n 1, 1) := by decide +kernel
theorem dX8_setPace_3 : decode cX8_setPace 3 = .ok (.invokevirtual 243, 3) := by decide +kernel
theorem dX8_setPace_6 : decode cX8_setPace 6 = .ok (.iconst 1, 1) := by decide +kernel
theorem dX8_setPace_7 : decode cX8_setPace 7 = .ok (.invokevirtual 226, 3) := by decide +kernel
theorem dX8_setPace_10 : decode cX8_setPace 10 = .ok (.ifCond .ne 27, 3) := by decide +kernel
theorem dX8_setPace_13 : decode cX8_setPace 13 = .ok (.aload_n 0, 1) := by decide +kernel
theorem dX8_setPace_14 : decode cX8_setPace 14 = .ok (.iload_n 2, 1) := by decide +kernel
theorem dX8_setPace_15 : decode cX8_setPace 15 = .ok (.i2l, 1) := by decide +kernel
theorem dX8_setPace_16 : decode cX8_setPace 16 = .ok (.lconst 1, 1) := by decide +kernel
theorem dX8_setPace_17 : decode cX8_setPace 17 = .ok (.aload_n 0, 1) := by decide +kernel
theorem dX8_setPace_18 : decode cX8_setPace 18 = .ok (.iload_n 1, 1) := by decide +kernel
theorem dX8_setPace_19 : decode cX8_setPace 19 = .ok (.iconst 0, 1) := by decide +kernel
theorem dX8_setPace_20 : decode cX8_setPace 20 = .ok (.invokevirtual 248, 3) := by decide +kernel
theorem dX8_setPace_23 : decode cX8_setPace 23 = .ok (.invokestatic 156, 3) := by decide +kernel
theorem dX8_setPace_26 : decode cX8_setPace 26 = .ok (.i2l, 1) := by decide +kernel
theorem dX8_setPace_27 : decode cX8_setPace 27 = .ok (.invokestatic 52, 3) := by decide +kernel
theorem dX8_setPace_30 : decode cX8_setPace 30 = .ok (.iconst 2, 1) := by decide +kernel
theorem dX8_setPace_31 : decode cX8_setPace 31 = .ok (.invokevirtual 226, 3) := by decide +kernel
theorem dX8_setPace_34 : decode cX8_setPace 34 = .ok (.ifCond .eq 5, 3) := by decide +kernel
theorem dX8_setPace_37 : decode cX8_setPace 37 = .ok (.iconst 0, 1) := by decide +kernel
theorem dX8_setPace_38 : decode cX8_setPace 38 = .ok (.ireturn, 1) := by decide +kernel
theorem dX8_setPace_39 : decode cX8_setPace 39 = .ok (.aload_n 0, 1) := by decide +kernel
theorem dX8_setPace_40 : decode cX8_setPace 40 = .ok (.bipush 17, 2) := by decide +kernel
theorem dX8_setPace_42 : decode cX8_setPace 42 = .ok (.bipush 16, 2) := by decide +kernel
theorem dX8_setPace_44 : decode cX8_setPace 44 = .ok (.iload_n 1, 1) := by decide +kernel
theorem dX8_setPace_45 : decode cX8_setPace 45 = .ok (.imul, 1) := by decide +kernel
theorem dX8_setPace_46 : decode cX8_setPace 46 = .ok (.iadd, 1) := by decide +kernel
theorem dX8_setPace_47 : decode cX8_setPace 47 = .ok (.iconst 1, 1) := by decide +kernel
theorem dX8_setPace_48 : decode cX8_setPace 48 = .ok (.iadd, 1) := by decide +kernel
theorem dX8_setPace_49 : decode cX8_setPace 49 = .ok (.iload_n 2, 1) := by decide +kernel
theorem dX8_setPace_50 : decode cX8_setPace 50 = .ok (.invokevirtual 338, 3) := by decide +kernel
theorem dX8_setPace_53 : decode cX8_setPace 53 = .ok (.ireturn, 1) := by decide +kernel
set_option maxRecDepth 20000 in
theorem ggX8_stop_X8_isStation : GoodIn wsX8_stop wsX8_isStation := goodIn_r _ [6, 1, 7, 8, 5, 9, 32, 33, 34, 35, 36, 37, 38, 39, 40, 41, 42, 43, 44, 45, 46, 47, 48, 49, 50, 51, 52, 53, 54] (by decide +kernel) (by decide +kernel)
set_option maxRecDepth 20000 in
theorem gX8_stop_X8_isStation : GoodIn wsX8_stop (wsV RX8 243 RX8 yX8_isStation wsX8_isStation) := goodIn_app (goodIn_of _ (by decide +kernel)) ggX8_stop_X8_isStation
set_option maxRecDepth 20000 in
theorem ggX8_stop_X8_isThrown : GoodIn wsX8_stop wsX8_isThrown := goodIn_r _ [13, 14, 32, 33, 34, 35, 36, 37, 38, 39, 40, 41, 42, 43, 44, 45, 46, 47, 48, 49, 50, 51, 52, 53, 54] (by decide +kernel) (by decide +kernel)
set_option maxRecDepth 20000 in
theorem gX8_stop_X8_isThrown : GoodIn wsX8_stop (wsV RX8 226 RX8 yX8_isThrown wsX8_isThrown) := goodIn_app (goodIn_of _ (by decide +kernel)) ggX8_stop_X8_isThrown
set_option maxRecDepth 20000 in
theorem ggX8_stop_X8_keeps : GoodIn wsX8_stop wsX8_keeps := goodIn_r _ [18, 19, 20, 1, 21, 22, 5, 23, 32, 33, 34, 35, 36, 37, 38, 39, 40, 41, 42, 43, 44, 45, 46, 47, 48, 49, 50, 51, 52, 53, 54] (by decide +kernel) (by decide +kernel)
set_option maxRecDepth 20000 in
theorem gX8_stop_X8_keeps : GoodIn wsX8_stop (wsV RX8 230 RX8 yX8_keeps wsX8_keeps) := goodIn_app (goodIn_of _ (by decide +kernel)) ggX8_stop_X8_keeps
set_option maxRecDepth 20000 in
theorem ggX8_stop_X8_sets : GoodIn wsX8_stop wsX8_sets := goodIn_r _ [27, 1, 32, 33, 34, 35, 36, 37, 38, 39, 40, 41, 42, 43, 44, 45, 46, 47, 48, 49, 50, 51, 52, 53, 54] (by decide +kernel) (by decide +kernel)
set_option maxRecDepth 20000 in
theorem gX8_stop_X8_sets : GoodIn wsX8_stop (wsV RX8 149 RX8 yX8_sets wsX8_sets) := goodIn_app (goodIn_of _ (by decide +kernel)) ggX8_stop_X8_sets
set_option maxRecDepth 20000 in
theorem ggX8_stop_X8_of : GoodIn wsX8_stop wsX8_of := goodIn_r _ [31, 1, 32, 33, 34, 35, 36, 37, 38, 39, 40, 41, 42, 43, 44, 45, 46, 47, 48, 49, 50, 51, 52, 53, 54] (by decide +kernel) (by decide +kernel)
set_option maxRecDepth 20000 in
theorem gX8_stop_X8_of : GoodIn wsX8_stop (wsV RX8 248 RX8 yX8_of wsX8_of) := goodIn_app (goodIn_of _ (by decide +kernel)) ggX8_stop_X8_of
theorem dX8_stop_0 : decode cX8_stop 0 = .ok (.aload_n 0, 1) := by decide +kernel
theorem dX8_stop_1 : decode cX8_stop 1 = .ok (.aload_n 0, 1) := by decide +kernel
theorem dX8_stop_2 : decode cX8_stop 2 = .ok (.iload_n 1, 1) := by decide +kernel
theorem dX8_stop_3 : decode cX8_stop 3 = .ok (.invokevirtual 243, 3) := by decide +kernel
theorem dX8_stop_6 : decode cX8_stop 6 = .ok (.iconst 1, 1) := by decide +kernel
theorem dX8_stop_7 : decode cX8_stop 7 = .ok (.invokevirtual 226, 3) := by decide +kernel
theorem dX8_stop_10 : decode cX8_stop 10 = .ok (.ifCond .eq 5, 3) := by decide +kernel
theorem dX8_stop_13 : decode cX8_stop 13 = .ok (.iconst 0, 1) := by decide +kernel
theorem dX8_stop_14 : decode cX8_stop 14 = .ok (.ireturn, 1) := by decide +kernel
theorem dX8_stop_15 : decode cX8_stop 15 = .ok (.aload_n 0, 1) := by decide +kernel
theorem dX8_stop_16 : decode cX8_stop 16 = .ok (.invokevirtual 230, 3) := by decide +kernel
theorem dX8_stop_19 : decode cX8_stop 19 = .ok (.aload_n 0, 1) := by decide +kernel
theorem dX8_stop_20 : decode cX8_stop 20 = .ok (.iload_n 1, 1) := by decide +kernel
theorem dX8_stop_21 : decode cX8_stop 21 = .ok (.bipush 7, 2) := by decide +kernel
theorem dX8_stop_23 : decode cX8_stop 23 = .ok (.iload_n 2, 1) := by decide +kernel
theorem dX8_stop_24 : decode cX8_stop 24 = .ok (.ifCond .eq 7, 3) := by decide +kernel
theorem dX8_stop_27 : decode cX8_stop 27 = .ok (.iconst 1, 1) := by decide +kernel
theorem dX8_stop_28 : decode cX8_stop 28 = .ok (.goto 4, 3) := by decide +kernel
theorem dX8_stop_31 : decode cX8_stop 31 = .ok (.iconst 0, 1) := by decide +kernel
theorem dX8_stop_32 : decode cX8_stop 32 = .ok (.invokevirtual 149, 3) := by decide +kernel
theorem dX8_stop_35 : decode cX8_stop 35 = .ok (.iconst 0, 1) := by decide +kernel
theorem dX8_stop_36 : decode cX8_stop 36 = .ok (.istore_n 3, 1) := by decide +kernel
theorem dX8_stop_37 : decode cX8_stop 37 = .ok (.iconst 0, 1) := by decide +kernel
theorem dX8_stop_38 : decode cX8_stop 38 = .ok (.istore 4, 2) := by decide +kernel
theorem dX8_stop_40 : decode cX8_stop 40 = .ok (.iload 4, 2) := by decide +kernel
theorem dX8_stop_42 : decode cX8_stop 42 = .ok (.aload_n 0, 1) := by decide +kernel
theorem dX8_stop_43 : decode cX8_stop 43 = .ok (.getfield 9, 3) := by decide +kernel
theorem dX8_stop_46 : decode cX8_stop 46 = .ok (.bipush 7, 2) := by decide +kernel
theorem dX8_stop_48 : decode cX8_stop 48 = .ok (.iaload, 1) := by decide +kernel
theorem dX8_stop_49 : decode cX8_stop 49 = .ok (.if_icmp .ge 20, 3) := by decide +kernel
theorem dX8_stop_52 : decode cX8_stop 52 = .ok (.iload_n 3, 1) := by decide +kernel
theorem dX8_stop_53 : decode cX8_stop 53 = .ok (.aload_n 0, 1) := by decide +kernel
theorem dX8_stop_54 : decode cX8_stop 54 = .ok (.iload 4, 2) := by decide +kernel
theorem dX8_stop_56 : decode cX8_stop 56 = .ok (.bipush 7, 2) := by decide +kernel
theorem dX8_stop_58 : decode cX8_stop 58 = .ok (.invokevirtual 248, 3) := by decide +kernel
theorem dX8_stop_61 : decode cX8_stop 61 = .ok (.iadd, 1) := by decide +kernel
theorem dX8_stop_62 : decode cX8_stop 62 = .ok (.istore_n 3, 1) := by decide +kernel
theorem dX8_stop_63 : decode cX8_stop 63 = .ok (.iinc 4 1, 3) := by decide +kernel
theorem dX8_stop_66 : decode cX8_stop 66 = .ok (.goto (-26), 3) := by decide +kernel
theorem dX8_stop_69 : decode cX8_stop 69 = .ok (.iload_n 3, 1) := by decide +kernel
theorem dX8_stop_70 : decode cX8_stop 70 = .ok (.ireturn, 1) := by decide +kernel
set_option maxRecDepth 20000 in
theorem ggX8_setRest_X8_in : GoodIn wsX8_setRest wsX8_in := goodIn_r _ [5] (by decide +kernel) (by decide +kernel)
set_option maxRecDepth 20000 in
theorem gX8_setRest_X8_in : GoodIn wsX8_setRest (va_wsS RX8 52 yX8_in wsX8_in) := goodIn_app (goodIn_of _ (by decide +kernel)) ggX8_setRest_X8_in
set_option maxRecDepth 20000 in
theorem ggX8_setRest_X8_isStation : GoodIn wsX8_setRest wsX8_isStation := goodIn_r _ [9, 10, 2, 3, 4, 5, 33, 34, 35, 36, 37, 38, 39, 40, 41, 42, 43, 44, 45, 46, 47, 48, 49, 50, 51, 52, 53, 54, 55] (by decide +kernel) (by decide +kernel)
set_option maxRecDepth 20000 in
theorem gX8_setRest_X8_isStation : GoodIn wsX8_setRest (wsV RX8 243 RX8 yX8_isStation wsX8_isStation) := goodIn_app (goodIn_of _ (by decide +kernel)) ggX8_setRest_X8_isStation
set_option maxRecDepth 20000 in
theorem ggX8_setRest_X8_isThrown : GoodIn wsX8_setRest wsX8_isThrown := goodIn_r _ [14, 15, 33, 34, 35, 36, 37, 38, 39, 40, 41, 42, 43, 44, 45, 46, 47, 48, 49, 50, 51, 52, 53, 54, 55] (by decide +kernel) (by decide +kernel)
set_option maxRecDepth 20000 in
theorem gX8_setRest_X8_isThrown : GoodIn wsX8_setRest (wsV RX8 226 RX8 yX8_isThrown wsX8_isThrown) := goodIn_app (goodIn_of _ (by decide +kernel)) ggX8_setRest_X8_isThrown
set_option maxRecDepth 20000 in
theorem ggX8_setRest_X8_keeps : GoodIn wsX8_setRest wsX8_keeps := goodIn_r _ [19, 20, 21, 10, 22, 23, 4, 24, 33, 34, 35, 36, 37, 38, 39, 40, 41, 42, 43, 44, 45, 46, 47, 48, 49, 50, 51, 52, 53, 54, 55] (by decide +kernel) (by decide +kernel)
set_option maxRecDepth 20000 in
theorem gX8_setRest_X8_keeps : GoodIn wsX8_setRest (wsV RX8 230 RX8 yX8_keeps wsX8_keeps) := goodIn_app (goodIn_of _ (by decide +kernel)) ggX8_setRest_X8_keeps
set_option maxRecDepth 20000 in
theorem ggX8_setRest_X8_of : GoodIn wsX8_setRest wsX8_of := goodIn_r _ [28, 10, 33, 34, 35, 36, 37, 38, 39, 40, 41, 42, 43, 44, 45, 46, 47, 48, 49, 50, 51, 52, 53, 54, 55] (by decide +kernel) (by decide +kernel)
set_option maxRecDepth 20000 in
theorem gX8_setRest_X8_of : GoodIn wsX8_setRest (wsV RX8 248 RX8 yX8_of wsX8_of) := goodIn_app (goodIn_of _ (by decide +kernel)) ggX8_setRest_X8_of
set_option maxRecDepth 20000 in
theorem ggX8_setRest_X8_sets : GoodIn wsX8_setRest wsX8_sets := goodIn_r _ [32, 10, 33, 34, 35, 36, 37, 38, 39, 40, 41, 42, 43, 44, 45, 46, 47, 48, 49, 50, 51, 52, 53, 54, 55] (by decide +kernel) (by decide +kernel)
set_option maxRecDepth 20000 in
theorem gX8_setRest_X8_sets : GoodIn wsX8_setRest (wsV RX8 149 RX8 yX8_sets wsX8_sets) := goodIn_app (goodIn_of _ (by decide +kernel)) ggX8_setRest_X8_sets
theorem dX8_setRest_0 : decode cX8_setRest 0 = .ok (.iload_n 2, 1) := by decide +kernel
theorem dX8_setRest_1 : decode cX8_setRest 1 = .ok (.ifCond .eq 27, 3) := by decide +kernel
theorem dX8_setRest_4 : decode cX8_setRest 4 = .ok (.iload_n 2, 1) := by decide +kernel
theorem dX8_setRest_5 : decode cX8_setRest 5 = .ok (.i2l, 1) := by decide +kernel
theorem dX8_setRest_6 : decode cX8_setRest 6 = .ok (.lconst 1, 1) := by decide +kernel
theorem dX8_setRest_7 : decode cX8_setRest 7 = .ok (.ldc2_w 343, 3) := by decide +kernel
theorem dX8_setRest_10 : decode cX8_setRest 10 = .ok (.invokestatic 52, 3) := by decide +kernel
theorem dX8_setRest_13 : decode cX8_setRest 13 = .ok (.ifCond .eq 19, 3) := by decide +kernel
theorem dX8_setRest_16 : decode cX8_setRest 16 = .ok (.iload_n 3, 1) := by decide +kernel
theorem dX8_setRest_17 : decode cX8_setRest 17 = .ok (.i2l, 1) := by decide +kernel
theorem dX8_setRest_18 : decode cX8_setRest 18 = .ok (.lconst 1, 1) := by decide +kernel
theorem dX8_setRest_19 : decode cX8_setRest 19 = .ok (.ldc2_w 343, 3) := by decide +kernel
theorem dX8_setRest_22 : decode cX8_setRest 22 = .ok (.invokestatic 52, 3) := by decide +kernel
theorem dX8_setRest_25 : decode cX8_setRest 25 = .ok (.ifCond .eq 7, 3) := by decide +kernel
theorem dX8_setRest_28 : decode cX8_setRest 28 = .ok (.iconst 1, 1) := by decide +kernel
theorem dX8_setRest_29 : decode cX8_setRest 29 = .ok (.goto 4, 3) := by decide +kernel
theorem dX8_setRest_32 : decode cX8_setRest 32 = .ok (.iconst 0, 1) := by decide +kernel
theorem dX8_setRest_33 : decode cX8_setRest 33 = .ok (.istore 4, 2) := by decide +kernel
theorem dX8_setRest_35 : decode cX8_setRest 35 = .ok (.aload_n 0, 1) := by decide +kernel
theorem dX8_setRest_36 : decode cX8_setRest 36 = .ok (.aload_n 0, 1) := by decide +kernel
theorem dX8_setRest_37 : decode cX8_setRest 37 = .ok (.iload_n 1, 1) := by decide +kernel
theorem dX8_setRest_38 : decode cX8_setRest 38 = .ok (.invokevirtual 243, 3) := by decide +kernel
theorem dX8_setRest_41 : decode cX8_setRest 41 = .ok (.iconst 1, 1) := by decide +kernel
theorem dX8_setRest_42 : decode cX8_setRest 42 = .ok (.invokevirtual 226, 3) := by decide +kernel
theorem dX8_setRest_45 : decode cX8_setRest 45 = .ok (.ifCond .ne 13, 3) := by decide +kernel
theorem dX8_setRest_48 : decode cX8_setRest 48 = .ok (.aload_n 0, 1) := by decide +kernel
theorem dX8_setRest_49 : decode cX8_setRest 49 = .ok (.iload 4, 2) := by decide +kernel
theorem dX8_setRest_51 : decode cX8_setRest 51 = .ok (.iconst 2, 1) := by decide +kernel
theorem dX8_setRest_52 : decode cX8_setRest 52 = .ok (.invokevirtual 226, 3) := by decide +kernel
theorem dX8_setRest_55 : decode cX8_setRest 55 = .ok (.ifCond .eq 5, 3) := by decide +kernel
theorem dX8_setRest_58 : decode cX8_setRest 58 = .ok (.iconst 0, 1) := by decide +kernel
theorem dX8_setRest_59 : decode cX8_setRest 59 = .ok (.ireturn, 1) := by decide +kernel
theorem dX8_setRest_60 : decode cX8_setRest 60 = .ok (.aload_n 0, 1) := by decide +kernel
theorem dX8_setRest_61 : decode cX8_setRest 61 = .ok (.invokevirtual 230, 3) := by decide +kernel
theorem dX8_setRest_64 : decode cX8_setRest 64 = .ok (.aload_n 0, 1) := by decide +kernel
theorem dX8_setRest_65 : decode cX8_setRest 65 = .ok (.iload_n 1, 1) := by decide +kernel
theorem dX8_setRest_66 : decode cX8_setRest 66 = .ok (.bipush 9, 2) := by decide +kernel
theorem dX8_setRest_68 : decode cX8_setRest 68 = .ok (.invokevirtual 248, 3) := by decide +kernel
theorem dX8_setRest_71 : decode cX8_setRest 71 = .ok (.istore 5, 2) := by decide +kernel
theorem dX8_setRest_73 : decode cX8_setRest 73 = .ok (.aload_n 0, 1) := by decide +kernel
theorem dX8_setRest_74 : decode cX8_setRest 74 = .ok (.iload_n 1, 1) := by decide +kernel
theorem dX8_setRest_75 : decode cX8_setRest 75 = .ok (.bipush 9, 2) := by decide +kernel
theorem dX8_setRest_77 : decode cX8_setRest 77 = .ok (.iload_n 2, 1) := by decide +kernel
theorem dX8_setRest_78 : decode cX8_setRest 78 = .ok (.invokevirtual 149, 3) := by decide +kernel
theorem dX8_setRest_81 : decode cX8_setRest 81 = .ok (.aload_n 0, 1) := by decide +kernel
theorem dX8_setRest_82 : decode cX8_setRest 82 = .ok (.iload_n 1, 1) := by decide +kernel
theorem dX8_setRest_83 : decode cX8_setRest 83 = .ok (.bipush 10, 2) := by decide +kernel
theorem dX8_setRest_85 : decode cX8_setRest 85 = .ok (.iload_n 2, 1) := by decide +kernel
theorem dX8_setRest_86 : decode cX8_setRest 86 = .ok (.ifCond .ne 7, 3) := by decide +kernel
theorem dX8_setRest_89 : decode cX8_setRest 89 = .ok (.iconst 0, 1) := by decide +kernel
theorem dX8_setRest_90 : decode cX8_setRest 90 = .ok (.goto 4, 3) := by decide +kernel
theorem dX8_setRest_93 : decode cX8_setRest 93 = .ok (.iload_n 3, 1) := by decide +kernel
theorem dX8_setRest_94 : decode cX8_setRest 94 = .ok (.invokevirtual 149, 3) := by decide +kernel
theorem dX8_setRest_97 : decode cX8_setRest 97 = .ok (.iload 5, 2) := by decide +kernel
theorem dX8_setRest_99 : decode cX8_setRest 99 = .ok (.ireturn, 1) := by decide +kernel
set_option maxRecDepth 20000 in
theorem ggX8_rush_X8_isCard : GoodIn wsX8_rush wsX8_isCard := goodIn_r _ [6, 1, 7, 8, 5, 9, 32, 33, 34, 35, 36, 37, 38, 39, 40, 41, 42, 43, 44, 45, 46, 47, 48, 49, 50, 51, 52, 53, 54] (by decide +kernel) (by decide +kernel)
set_option maxRecDepth 20000 in
theorem gX8_rush_X8_isCard : GoodIn wsX8_rush (wsV RX8 251 RX8 yX8_isCard wsX8_isCard) := goodIn_app (goodIn_of _ (by decide +kernel)) ggX8_rush_X8_isCard
set_option maxRecDepth 20000 in
theorem ggX8_rush_X8_isThrown : GoodIn wsX8_rush wsX8_isThrown := goodIn_r _ [13, 14, 32, 33, 34, 35, 36, 37, 38, 39, 40, 41, 42, 43, 44, 45, 46, 47, 48, 49, 50, 51, 52, 53, 54] (by decide +kernel) (by decide +kernel)
set_option maxRecDepth 20000 in
theorem gX8_rush_X8_isThrown : GoodIn wsX8_rush (wsV RX8 226 RX8 yX8_isThrown wsX8_isThrown) := goodIn_app (goodIn_of _ (by decide +kernel)) ggX8_rush_X8_isThrown
set_option maxRecDepth 20000 in
theorem ggX8_rush_X8_ofCard : GoodIn wsX8_rush wsX8_ofCard := goodIn_r _ [18, 1, 32, 33, 34, 35, 36, 37, 38, 39, 40, 41, 42, 43, 44, 45, 46, 47, 48, 49, 50, 51, 52, 53, 54] (by decide +kernel) (by decide +kernel)
set_option maxRecDepth 20000 in
theorem gX8_rush_X8_ofCard : GoodIn wsX8_rush (wsV RX8 233 RX8 yX8_ofCard wsX8_ofCard) := goodIn_app (goodIn_of _ (by decide +kernel)) ggX8_rush_X8_ofCard
set_option maxRecDepth 20000 in
theorem ggX8_rush_X8_keeps : GoodIn wsX8_rush wsX8_keeps := goodIn_r _ [22, 23, 24, 1, 25, 26, 5, 27, 32, 33, 34, 35, 36, 37, 38, 39, 40, 41, 42, 43, 44, 45, 46, 47, 48, 49, 50, 51, 52, 53, 54] (by decide +kernel) (by decide +kernel)
set_option maxRecDepth 20000 in
theorem gX8_rush_X8_keeps : GoodIn wsX8_rush (wsV RX8 230 RX8 yX8_keeps wsX8_keeps) := goodIn_app (goodIn_of _ (by decide +kernel)) ggX8_rush_X8_keeps
set_option maxRecDepth 20000 in
theorem ggX8_rush_X8_setsCard : GoodIn wsX8_rush wsX8_setsCard := goodIn_r _ [31, 1, 32, 33, 34, 35, 36, 37, 38, 39, 40, 41, 42, 43, 44, 45, 46, 47, 48, 49, 50, 51, 52, 53, 54] (by decide +kernel) (by decide +kernel)
set_option maxRecDepth 20000 in
theorem gX8_rush_X8_setsCard : GoodIn wsX8_rush (wsV RX8 130 RX8 yX8_setsCard wsX8_setsCard) := goodIn_app (goodIn_of _ (by decide +kernel)) ggX8_rush_X8_setsCard
theorem dX8_rush_0 : decode cX8_rush 0 = .ok (.aload_n 0, 1) := by decide +kernel
theorem dX8_rush_1 : decode cX8_rush 1 = .ok (.aload_n 0, 1) := by decide +kernel
theorem dX8_rush_2 : decode cX8_rush 2 = .ok (.iload_n 1, 1) := by decide +kernel
theorem dX8_rush_3 : decode cX8_rush 3 = .ok (.invokevirtual 251, 3) := by decide +kernel
theorem dX8_rush_6 : decode cX8_rush 6 = .ok (.iconst 1, 1) := by decide +kernel
theorem dX8_rush_7 : decode cX8_rush 7 = .ok (.invokevirtual 226, 3) := by decide +kernel
theorem dX8_rush_10 : decode cX8_rush 10 = .ok (.ifCond .eq 5, 3) := by decide +kernel
theorem dX8_rush_13 : decode cX8_rush 13 = .ok (.iconst 0, 1) := by decide +kernel
theorem dX8_rush_14 : decode cX8_rush 14 = .ok (.ireturn, 1) := by decide +kernel
theorem dX8_rush_15 : decode cX8_rush 15 = .ok (.aload_n 0, 1) := by decide +kernel
theorem dX8_rush_16 : decode cX8_rush 16 = .ok (.iload_n 1, 1) := by decide +kernel
theorem dX8_rush_17 : decode cX8_rush 17 = .ok (.iconst 3, 1) := by decide +kernel
theorem dX8_rush_18 : decode cX8_rush 18 = .ok (.invokevirtual 233, 3) := by decide +kernel
theorem dX8_rush_21 : decode cX8_rush 21 = .ok (.ifCond .eq 6, 3) := by decide +kernel
theorem dX8_rush_24 : decode cX8_rush 24 = .ok (.bipush (-3), 2) := by decide +kernel
theorem dX8_rush_26 : decode cX8_rush 26 = .ok (.ireturn, 1) := by decide +kernel
theorem dX8_rush_27 : decode cX8_rush 27 = .ok (.aload_n 0, 1) := by decide +kernel
theorem dX8_rush_28 : decode cX8_rush 28 = .ok (.invokevirtual 230, 3) := by decide +kernel
theorem dX8_rush_31 : decode cX8_rush 31 = .ok (.aload_n 0, 1) := by decide +kernel
theorem dX8_rush_32 : decode cX8_rush 32 = .ok (.iload_n 1, 1) := by decide +kernel
theorem dX8_rush_33 : decode cX8_rush 33 = .ok (.bipush 8, 2) := by decide +kernel
theorem dX8_rush_35 : decode cX8_rush 35 = .ok (.iconst 1, 1) := by decide +kernel
theorem dX8_rush_36 : decode cX8_rush 36 = .ok (.invokevirtual 130, 3) := by decide +kernel
theorem dX8_rush_39 : decode cX8_rush 39 = .ok (.iconst 0, 1) := by decide +kernel
theorem dX8_rush_40 : decode cX8_rush 40 = .ok (.istore_n 2, 1) := by decide +kernel
theorem dX8_rush_41 : decode cX8_rush 41 = .ok (.iconst 0, 1) := by decide +kernel
theorem dX8_rush_42 : decode cX8_rush 42 = .ok (.istore_n 3, 1) := by decide +kernel
theorem dX8_rush_43 : decode cX8_rush 43 = .ok (.iload_n 3, 1) := by decide +kernel
theorem dX8_rush_44 : decode cX8_rush 44 = .ok (.aload_n 0, 1) := by decide +kernel
theorem dX8_rush_45 : decode cX8_rush 45 = .ok (.getfield 9, 3) := by decide +kernel
theorem dX8_rush_48 : decode cX8_rush 48 = .ok (.bipush 9, 2) := by decide +kernel
theorem dX8_rush_50 : decode cX8_rush 50 = .ok (.iaload, 1) := by decide +kernel
theorem dX8_rush_51 : decode cX8_rush 51 = .ok (.if_icmp .ge 19, 3) := by decide +kernel
theorem dX8_rush_54 : decode cX8_rush 54 = .ok (.iload_n 2, 1) := by decide +kernel
theorem dX8_rush_55 : decode cX8_rush 55 = .ok (.aload_n 0, 1) := by decide +kernel
theorem dX8_rush_56 : decode cX8_rush 56 = .ok (.iload_n 3, 1) := by decide +kernel
theorem dX8_rush_57 : decode cX8_rush 57 = .ok (.bipush 8, 2) := by decide +kernel
theorem dX8_rush_59 : decode cX8_rush 59 = .ok (.invokevirtual 233, 3) := by decide +kernel
theorem dX8_rush_62 : decode cX8_rush 62 = .ok (.iadd, 1) := by decide +kernel
theorem dX8_rush_63 : decode cX8_rush 63 = .ok (.istore_n 2, 1) := by decide +kernel
theorem dX8_rush_64 : decode cX8_rush 64 = .ok (.iinc 3 1, 3) := by decide +kernel
theorem dX8_rush_67 : decode cX8_rush 67 = .ok (.goto (-24), 3) := by decide +kernel
theorem dX8_rush_70 : decode cX8_rush 70 = .ok (.iload_n 2, 1) := by decide +kernel
theorem dX8_rush_71 : decode cX8_rush 71 = .ok (.ireturn, 1) := by decide +kernel
set_option maxRecDepth 20000 in
theorem ggX8_swap_X8_isCard : GoodIn wsX8_swap wsX8_isCard := goodIn_r _ [5, 6, 7, 8, 4, 9, 32, 33, 34, 35, 36, 37, 38, 39, 40, 41, 42, 43, 44, 45, 46, 47, 48, 49, 50, 51, 52, 53, 54] (by decide +kernel) (by decide +kernel)
set_option maxRecDepth 20000 in
theorem gX8_swap_X8_isCard : GoodIn wsX8_swap (wsV RX8 251 RX8 yX8_isCard wsX8_isCard) := goodIn_app (goodIn_of _ (by decide +kernel)) ggX8_swap_X8_isCard
set_option maxRecDepth 20000 in
theorem ggX8_swap_X8_isThrown : GoodIn wsX8_swap wsX8_isThrown := goodIn_r _ [13, 14, 32, 33, 34, 35, 36, 37, 38, 39, 40, 41, 42, 43, 44, 45, 46, 47, 48, 49, 50, 51, 52, 53, 54] (by decide +kernel) (by decide +kernel)
set_option maxRecDepth 20000 in
theorem gX8_swap_X8_isThrown : GoodIn wsX8_swap (wsV RX8 226 RX8 yX8_isThrown wsX8_isThrown) := goodIn_app (goodIn_of _ (by decide +kernel)) ggX8_swap_X8_isThrown
set_option maxRecDepth 20000 in
theorem ggX8_swap_X8_ofCard : GoodIn wsX8_swap wsX8_ofCard := goodIn_r _ [18, 6, 32, 33, 34, 35, 36, 37, 38, 39, 40, 41, 42, 43, 44, 45, 46, 47, 48, 49, 50, 51, 52, 53, 54] (by decide +kernel) (by decide +kernel)
set_option maxRecDepth 20000 in
theorem gX8_swap_X8_ofCard : GoodIn wsX8_swap (wsV RX8 233 RX8 yX8_ofCard wsX8_ofCard) := goodIn_app (goodIn_of _ (by decide +kernel)) ggX8_swap_X8_ofCard
set_option maxRecDepth 20000 in
theorem ggX8_swap_X8_keeps : GoodIn wsX8_swap wsX8_keeps := goodIn_r _ [22, 23, 24, 6, 25, 26, 4, 27, 32, 33, 34, 35, 36, 37, 38, 39, 40, 41, 42, 43, 44, 45, 46, 47, 48, 49, 50, 51, 52, 53, 54] (by decide +kernel) (by decide +kernel)
set_option maxRecDepth 20000 in
theorem gX8_swap_X8_keeps : GoodIn wsX8_swap (wsV RX8 230 RX8 yX8_keeps wsX8_keeps) := goodIn_app (goodIn_of _ (by decide +kernel)) ggX8_swap_X8_keeps
set_option maxRecDepth 20000 in
theorem ggX8_swap_X8_setsCard : GoodIn wsX8_swap wsX8_setsCard := goodIn_r _ [31, 6, 32, 33, 34, 35, 36, 37, 38, 39, 40, 41, 42, 43, 44, 45, 46, 47, 48, 49, 50, 51, 52, 53, 54] (by decide +kernel) (by decide +kernel)
set_option maxRecDepth 20000 in
theorem gX8_swap_X8_setsCard : GoodIn wsX8_swap (wsV RX8 130 RX8 yX8_setsCard wsX8_setsCard) := goodIn_app (goodIn_of _ (by decide +kernel)) ggX8_swap_X8_setsCard
theorem dX8_swap_0 : decode cX8_swap 0 = .ok (.aload_n 0, 1) := by decide +kernel
theorem dX8_swap_1 : decode cX8_swap 1 = .ok (.aload_n 0, 1) := by decide +kernel
theorem dX8_swap_2 : decode cX8_swap 2 = .ok (.iload_n 1, 1) := by decide +kernel
theorem dX8_swap_3 : decode cX8_swap 3 = .ok (.invokevirtual 251, 3) := by decide +kernel
theorem dX8_swap_6 : decode cX8_swap 6 = .ok (.ifCond .eq 15, 3) := by decide +kernel
theorem dX8_swap_9 : decode cX8_swap 9 = .ok (.aload_n 0, 1) := by decide +kernel
theorem dX8_swap_10 : decode cX8_swap 10 = .ok (.iload_n 2, 1) := by decide +kernel
theorem dX8_swap_11 : decode cX8_swap 11 = .ok (.invokevirtual 251, 3) := by decide +kernel
theorem dX8_swap_14 : decode cX8_swap 14 = .ok (.ifCond .eq 7, 3) := by decide +kernel
theorem dX8_swap_17 : decode cX8_swap 17 = .ok (.iconst 1, 1) := by decide +kernel
theorem dX8_swap_18 : decode cX8_swap 18 = .ok (.goto 4, 3) := by decide +kernel
theorem dX8_swap_21 : decode cX8_swap 21 = .ok (.iconst 0, 1) := by decide +kernel
theorem dX8_swap_22 : decode cX8_swap 22 = .ok (.iconst 1, 1) := by decide +kernel
theorem dX8_swap_23 : decode cX8_swap 23 = .ok (.invokevirtual 226, 3) := by decide +kernel
theorem dX8_swap_26 : decode cX8_swap 26 = .ok (.ifCond .ne 36, 3) := by decide +kernel
theorem dX8_swap_29 : decode cX8_swap 29 = .ok (.aload_n 0, 1) := by decide +kernel
theorem dX8_swap_30 : decode cX8_swap 30 = .ok (.iload_n 1, 1) := by decide +kernel
theorem dX8_swap_31 : decode cX8_swap 31 = .ok (.iload_n 2, 1) := by decide +kernel
theorem dX8_swap_32 : decode cX8_swap 32 = .ok (.if_icmp .eq 22, 3) := by decide +kernel
theorem dX8_swap_35 : decode cX8_swap 35 = .ok (.aload_n 0, 1) := by decide +kernel
theorem dX8_swap_36 : decode cX8_swap 36 = .ok (.iload_n 1, 1) := by decide +kernel
theorem dX8_swap_37 : decode cX8_swap 37 = .ok (.iconst 0, 1) := by decide +kernel
theorem dX8_swap_38 : decode cX8_swap 38 = .ok (.invokevirtual 233, 3) := by decide +kernel
theorem dX8_swap_41 : decode cX8_swap 41 = .ok (.aload_n 0, 1) := by decide +kernel
theorem dX8_swap_42 : decode cX8_swap 42 = .ok (.iload_n 2, 1) := by decide +kernel
theorem dX8_swap_43 : decode cX8_swap 43 = .ok (.iconst 0, 1) := by decide +kernel
theorem dX8_swap_44 : decode cX8_swap 44 = .ok (.invokevirtual 233, 3) := by decide +kernel
theorem dX8_swap_47 : decode cX8_swap 47 = .ok (.if_icmp .ne 7, 3) := by decide +kernel
theorem dX8_swap_50 : decode cX8_swap 50 = .ok (.iconst 1, 1) := by decide +kernel
theorem dX8_swap_51 : decode cX8_swap 51 = .ok (.goto 4, 3) := by decide +kernel
theorem dX8_swap_54 : decode cX8_swap 54 = .ok (.iconst 0, 1) := by decide +kernel
theorem dX8_swap_55 : decode cX8_swap 55 = .ok (.iconst 2, 1) := by decide +kernel
theorem dX8_swap_56 : decode cX8_swap 56 = .ok (.invokevirtual 226, 3) := by decide +kernel
theorem dX8_swap_59 : decode cX8_swap 59 = .ok (.ifCond .eq 5, 3) := by decide +kernel
theorem dX8_swap_62 : decode cX8_swap 62 = .ok (.iconst 0, 1) := by decide +kernel
theorem dX8_swap_63 : decode cX8_swap 63 = .ok (.ireturn, 1) := by decide +kernel
theorem dX8_swap_64 : decode cX8_swap 64 = .ok (.aload_n 0, 1) := by decide +kernel
theorem dX8_swap_65 : decode cX8_swap 65 = .ok (.iload_n 1, 1) := by decide +kernel
theorem dX8_swap_66 : decode cX8_swap 66 = .ok (.iconst 3, 1) := by decide +kernel
theorem dX8_swap_67 : decode cX8_swap 67 = .ok (.invokevirtual 233, 3) := by decide +kernel
theorem dX8_swap_70 : decode cX8_swap 70 = .ok (.ifCond .ne 12, 3) := by decide +kernel
theorem dX8_swap_73 : decode cX8_swap 73 = .ok (.aload_n 0, 1) := by decide +kernel
theorem dX8_swap_74 : decode cX8_swap 74 = .ok (.iload_n 2, 1) := by decide +kernel
theorem dX8_swap_75 : decode cX8_swap 75 = .ok (.iconst 3, 1) := by decide +kernel
theorem dX8_swap_76 : decode cX8_swap 76 = .ok (.invokevirtual 233, 3) := by decide +kernel
theorem dX8_swap_79 : decode cX8_swap 79 = .ok (.ifCond .eq 6, 3) := by decide +kernel
theorem dX8_swap_82 : decode cX8_swap 82 = .ok (.bipush (-3), 2) := by decide +kernel
theorem dX8_swap_84 : decode cX8_swap 84 = .ok (.ireturn, 1) := by decide +kernel
theorem dX8_swap_85 : decode cX8_swap 85 = .ok (.aload_n 0, 1) := by decide +kernel
theorem dX8_swap_86 : decode cX8_swap 86 = .ok (.invokevirtual 230, 3) := by decide +kernel
theorem dX8_swap_89 : decode cX8_swap 89 = .ok (.aload_n 0, 1) := by decide +kernel
theorem dX8_swap_90 : decode cX8_swap 90 = .ok (.iload_n 1, 1) := by decide +kernel
theorem dX8_swap_91 : decode cX8_swap 91 = .ok (.iconst 1, 1) := by decide +kernel
theorem dX8_swap_92 : decode cX8_swap 92 = .ok (.invokevirtual 233, 3) := by decide +kernel
theorem dX8_swap_95 : decode cX8_swap 95 = .ok (.istore_n 3, 1) := by decide +kernel
theorem dX8_swap_96 : decode cX8_swap 96 = .ok (.aload_n 0, 1) := by decide +kernel
theorem dX8_swap_97 : decode cX8_swap 97 = .ok (.iload_n 1, 1) := by decide +kernel
theorem dX8_swap_98 : decode cX8_swap 98 = .ok (.iconst 1, 1) := by decide +kernel
theorem dX8_swap_99 : decode cX8_swap 99 = .ok (.aload_n 0, 1) := by decide +kernel
theorem dX8_swap_100 : decode cX8_swap 100 = .ok (.iload_n 2, 1) := by decide +kernel
theorem dX8_swap_101 : decode cX8_swap 101 = .ok (.iconst 1, 1) := by decide +kernel
theorem dX8_swap_102 : decode cX8_swap 102 = .ok (.invokevirtual 233, 3) := by decide +kernel
theorem dX8_swap_105 : decode cX8_swap 105 = .ok (.invokevirtual 130, 3) := by decide +kernel
theorem dX8_swap_108 : decode cX8_swap 108 = .ok (.aload_n 0, 1) := by decide +kernel
theorem dX8_swap_109 : decode cX8_swap 109 = .ok (.iload_n 2, 1) := by decide +kernel
theorem dX8_swap_110 : decode cX8_swap 110 = .ok (.iconst 1, 1) := by decide +kernel
theorem dX8_swap_111 : decode cX8_swap 111 = .ok (.iload_n 3, 1) := by decide +kernel
theorem dX8_swap_112 : decode cX8_swap 112 = .ok (.invokevirtual 130, 3) := by decide +kernel
theorem dX8_swap_115 : decode cX8_swap 115 = .ok (.aload_n 0, 1) := by decide +kernel
theorem dX8_swap_116 : decode cX8_swap 116 = .ok (.iload_n 1, 1) := by decide +kernel
theorem dX8_swap_117 : decode cX8_swap 117 = .ok (.iconst 1, 1) := by decide +kernel
theorem dX8_swap_118 : decode cX8_swap 118 = .ok (.invokevirtual 233, 3) := by decide +kernel
theorem dX8_swap_121 : decode cX8_swap 121 = .ok (.ireturn, 1) := by decide +kernel
set_option maxRecDepth 20000 in
theorem ggX8_setTries_X8_in : GoodIn wsX8_setTries wsX8_in := goodIn_r _ [5] (by decide +kernel) (by decide +kernel)
set_option maxRecDepth 20000 in
theorem gX8_setTries_X8_in : GoodIn wsX8_setTries (va_wsS RX8 52 yX8_in wsX8_in) := goodIn_app (goodIn_of _ (by decide +kernel)) ggX8_setTries_X8_in
set_option maxRecDepth 20000 in
theorem ggX8_setTries_X8_isThrown : GoodIn wsX8_setTries wsX8_isThrown := goodIn_r _ [9, 10, 25, 26, 27, 28, 29, 30, 31, 32, 33, 34, 35, 36, 37, 38, 39, 40, 41, 42, 43, 44, 45, 46, 47] (by decide +kernel) (by decide +kernel)
set_option maxRecDepth 20000 in
theorem gX8_setTries_X8_isThrown : GoodIn wsX8_setTries (wsV RX8 226 RX8 yX8_isThrown wsX8_isThrown) := goodIn_app (goodIn_of _ (by decide +kernel)) ggX8_setTries_X8_isThrown
set_option maxRecDepth 20000 in
theorem ggX8_setTries_X8_puts : GoodIn wsX8_setTries wsX8_puts := goodIn_r _ [14, 15, 16, 17, 18, 4, 19, 20, 21, 22, 23, 24, 25, 26, 27, 28, 29, 30, 31, 32, 33, 34, 35, 36, 37, 38, 39, 40, 41, 42, 43, 44, 45, 46, 47] (by decide +kernel) (by decide +kernel)
set_option maxRecDepth 20000 in
theorem gX8_setTries_X8_puts : GoodIn wsX8_setTries (wsV RX8 338 RX8 yX8_puts wsX8_puts) := goodIn_app (goodIn_of _ (by decide +kernel)) ggX8_setTries_X8_puts
theorem dX8_setTries_0 : decode cX8_setTries 0 = .ok (.aload_n 0, 1) := by decide +kernel
theorem dX8_setTries_1 : decode cX8_setTries 1 = .ok (.iload_n 1, 1) := by decide +kernel
theorem dX8_setTries_2 : decode cX8_setTries 2 = .ok (.i2l, 1) := by decide +kernel
theorem dX8_setTries_3 : decode cX8_setTries 3 = .ok (.lconst 1, 1) := by decide +kernel
theorem dX8_setTries_4 : decode cX8_setTries 4 = .ok (.ldc2_w 236, 3) := by decide +kernel
theorem dX8_setTries_7 : decode cX8_setTries 7 = .ok (.invokestatic 52, 3) := by decide +kernel
theorem dX8_setTries_10 : decode cX8_setTries 10 = .ok (.iconst 1, 1) := by decide +kernel
theorem dX8_setTries_11 : decode cX8_setTries 11 = .ok (.invokevirtual 226, 3) := by decide +kernel
theorem dX8_setTries_14 : decode cX8_setTries 14 = .ok (.ifCond .eq 7, 3) := by decide +kernel
theorem dX8_setTries_17 : decode cX8_setTries 17 = .ok (.iconst 0, 1) := by decide +kernel
theorem dX8_setTries_18 : decode cX8_setTries 18 = .ok (.goto 9, 3) := by decide +kernel
theorem dX8_setTries_21 : decode cX8_setTries 21 = .ok (.aload_n 0, 1) := by decide +kernel
theorem dX8_setTries_22 : decode cX8_setTries 22 = .ok (.iconst 2, 1) := by decide +kernel
theorem dX8_setTries_23 : decode cX8_setTries 23 = .ok (.iload_n 1, 1) := by decide +kernel
theorem dX8_setTries_24 : decode cX8_setTries 24 = .ok (.invokevirtual 338, 3) := by decide +kernel
theorem dX8_setTries_27 : decode cX8_setTries 27 = .ok (.ireturn, 1) := by decide +kernel
set_option maxRecDepth 20000 in
theorem ggX8_setTray_X8_in : GoodIn wsX8_setTray wsX8_in := goodIn_r _ [5] (by decide +kernel) (by decide +kernel)
set_option maxRecDepth 20000 in
theorem gX8_setTray_X8_in : GoodIn wsX8_setTray (va_wsS RX8 52 yX8_in wsX8_in) := goodIn_app (goodIn_of _ (by decide +kernel)) ggX8_setTray_X8_in
set_option maxRecDepth 20000 in
theorem ggX8_setTray_X8_isThrown : GoodIn wsX8_setTray wsX8_isThrown := goodIn_r _ [9, 10, 25, 26, 27, 28, 29, 30, 31, 32, 33, 34, 35, 36, 37, 38, 39, 40, 41, 42, 43, 44, 45, 46, 47] (by decide +kernel) (by decide +kernel)
set_option maxRecDepth 20000 in
theorem gX8_setTray_X8_isThrown : GoodIn wsX8_setTray (wsV RX8 226 RX8 yX8_isThrown wsX8_isThrown) := goodIn_app (goodIn_of _ (by decide +kernel)) ggX8_setTray_X8_isThrown
set_option maxRecDepth 20000 in
theorem ggX8_setTray_X8_puts : GoodIn wsX8_setTray wsX8_puts := goodIn_r _ [14, 15, 16, 17, 18, 4, 19, 20, 21, 22, 23, 24, 25, 26, 27, 28, 29, 30, 31, 32, 33, 34, 35, 36, 37, 38, 39, 40, 41, 42, 43, 44, 45, 46, 47] (by decide +kernel) (by decide +kernel)
set_option maxRecDepth 20000 in
theorem gX8_setTray_X8_puts : GoodIn wsX8_setTray (wsV RX8 338 RX8 yX8_puts wsX8_puts) := goodIn_app (goodIn_of _ (by decide +kernel)) ggX8_setTray_X8_puts
theorem dX8_setTray_0 : decode cX8_setTray 0 = .ok (.aload_n 0, 1) := by decide +kernel
theorem dX8_setTray_1 : decode cX8_setTray 1 = .ok (.iload_n 1, 1) := by decide +kernel
theorem dX8_setTray_2 : decode cX8_setTray 2 = .ok (.i2l, 1) := by decide +kernel
theorem dX8_setTray_3 : decode cX8_setTray 3 = .ok (.lconst 1, 1) := by decide +kernel
theorem dX8_setTray_4 : decode cX8_setTray 4 = .ok (.ldc2_w 345, 3) := by decide +kernel
theorem dX8_setTray_7 : decode cX8_setTray 7 = .ok (.invokestatic 52, 3) := by decide +kernel
theorem dX8_setTray_10 : decode cX8_setTray 10 = .ok (.iconst 1, 1) := by decide +kernel
theorem dX8_setTray_11 : decode cX8_setTray 11 = .ok (.invokevirtual 226, 3) := by decide +kernel
theorem dX8_setTray_14 : decode cX8_setTray 14 = .ok (.ifCond .eq 7, 3) := by decide +kernel
theorem dX8_setTray_17 : decode cX8_setTray 17 = .ok (.iconst 0, 1) := by decide +kernel
theorem dX8_setTray_18 : decode cX8_setTray 18 = .ok (.goto 9, 3) := by decide +kernel
theorem dX8_setTray_21 : decode cX8_setTray 21 = .ok (.aload_n 0, 1) := by decide +kernel
theorem dX8_setTray_22 : decode cX8_setTray 22 = .ok (.iconst 1, 1) := by decide +kernel
theorem dX8_setTray_23 : decode cX8_setTray 23 = .ok (.iload_n 1, 1) := by decide +kernel
theorem dX8_setTray_24 : decode cX8_setTray 24 = .ok (.invokevirtual 338, 3) := by decide +kernel
theorem dX8_setTray_27 : decode cX8_setTray 27 = .ok (.ireturn, 1) := by decide +kernel
set_option maxRecDepth 20000 in
theorem ggX8_run_X8_in : GoodIn wsX8_run wsX8_in := goodIn_r _ [6] (by decide +kernel) (by decide +kernel)
set_option maxRecDepth 20000 in
theorem gX8_run_X8_in : GoodIn wsX8_run (va_wsS RX8 52 yX8_in wsX8_in) := goodIn_app (goodIn_of _ (by decide +kernel)) ggX8_run_X8_in
set_option maxRecDepth 20000 in
theorem ggX8_run_X8_isThrown : GoodIn wsX8_run wsX8_isThrown := goodIn_r _ [10, 11, 139, 140, 141, 142, 143, 144, 145, 146, 147, 148, 149, 150, 151, 152, 153, 154, 155, 156, 157, 158, 159, 160, 161] (by decide +kernel) (by decide +kernel)
set_option maxRecDepth 20000 in
theorem gX8_run_X8_isThrown : GoodIn wsX8_run (wsV RX8 226 RX8 yX8_isThrown wsX8_isThrown) := goodIn_app (goodIn_of _ (by decide +kernel)) ggX8_run_X8_isThrown
set_option maxRecDepth 20000 in
theorem ggX8_run_X8_keeps : GoodIn wsX8_run wsX8_keeps := goodIn_r _ [15, 16, 17, 2, 18, 19, 5, 20, 139, 140, 141, 142, 143, 144, 145, 146, 147, 148, 149, 150, 151, 152, 153, 154, 155, 156, 157, 158, 159, 160, 161] (by decide +kernel) (by decide +kernel)
set_option maxRecDepth 20000 in
theorem gX8_run_X8_keeps : GoodIn wsX8_run (wsV RX8 230 RX8 yX8_keeps wsX8_keeps) := goodIn_app (goodIn_of _ (by decide +kernel)) ggX8_run_X8_keeps
set_option maxRecDepth 20000 in
theorem ggX8_run_X8_passes : GoodIn wsX8_run wsX8_passes := goodIn_r _ [24, 2, 25, 26, 27, 5, 28, 29, 30, 31, 32, 33, 34, 35, 36, 37, 38, 39, 40, 41, 42, 43, 44, 45, 46, 47, 48, 49, 50, 51, 52, 53, 54, 55, 56, 57, 58, 59, 60, 61, 62, 63, 64, 65, 66, 67, 68, 69, 70, 71, 72, 73, 74, 75, 76, 77, 78, 79, 80, 81, 82, 83, 84, 85, 86, 87, 88, 89, 90, 91, 92, 93, 94, 95, 96, 97, 98, 99, 100, 101, 102, 103, 104, 105, 106, 107, 108, 109, 110, 111, 112, 113, 114, 115, 116, 117, 118, 119, 120, 121, 122, 123, 124, 125, 126, 127, 128, 129, 130, 131, 132, 133, 134, 135, 136, 137, 138, 139, 140, 141, 142, 143, 144, 145, 146, 147, 148, 149, 150, 151, 152, 153, 154, 155, 156, 157, 158, 159, 160, 161] (by decide +kernel) (by decide +kernel)
set_option maxRecDepth 20000 in
theorem gX8_run_X8_passes : GoodIn wsX8_run (wsV RX8 349 RX8 yX8_passes wsX8_passes) := goodIn_app (goodIn_of _ (by decide +kernel)) ggX8_run_X8_passes
theorem dX8_run_0 : decode cX8_run 0 = .ok (.aload_n 0, 1) := by decide +kernel
theorem dX8_run_1 : decode cX8_run 1 = .ok (.iload_n 1, 1) := by decide +kernel
theorem dX8_run_2 : decode cX8_run 2 = .ok (.i2l, 1) := by decide +kernel
theorem dX8_run_3 : decode cX8_run 3 = .ok (.lconst 1, 1) := by decide +kernel
theorem dX8_run_4 : decode cX8_run 4 = .ok (.ldc2_w 347, 3) := by decide +kernel
theorem dX8_run_7 : decode cX8_run 7 = .ok (.invokestatic 52, 3) := by decide +kernel
theorem dX8_run_10 : decode cX8_run 10 = .ok (.iconst 1, 1) := by decide +kernel
theorem dX8_run_11 : decode cX8_run 11 = .ok (.invokevirtual 226, 3) := by decide +kernel
theorem dX8_run_14 : decode cX8_run 14 = .ok (.ifCond .eq 5, 3) := by decide +kernel
theorem dX8_run_17 : decode cX8_run 17 = .ok (.iconst 0, 1) := by decide +kernel
theorem dX8_run_18 : decode cX8_run 18 = .ok (.ireturn, 1) := by decide +kernel
theorem dX8_run_19 : decode cX8_run 19 = .ok (.aload_n 0, 1) := by decide +kernel
theorem dX8_run_20 : decode cX8_run 20 = .ok (.invokevirtual 230, 3) := by decide +kernel
theorem dX8_run_23 : decode cX8_run 23 = .ok (.iconst 0, 1) := by decide +kernel
theorem dX8_run_24 : decode cX8_run 24 = .ok (.istore_n 2, 1) := by decide +kernel
theorem dX8_run_25 : decode cX8_run 25 = .ok (.iload_n 2, 1) := by decide +kernel
theorem dX8_run_26 : decode cX8_run 26 = .ok (.iload_n 1, 1) := by decide +kernel
theorem dX8_run_27 : decode cX8_run 27 = .ok (.if_icmp .ge 13, 3) := by decide +kernel
theorem dX8_run_30 : decode cX8_run 30 = .ok (.aload_n 0, 1) := by decide +kernel
theorem dX8_run_31 : decode cX8_run 31 = .ok (.invokevirtual 349, 3) := by decide +kernel
theorem dX8_run_34 : decode cX8_run 34 = .ok (.iinc 2 1, 3) := by decide +kernel
theorem dX8_run_37 : decode cX8_run 37 = .ok (.goto (-12), 3) := by decide +kernel
theorem dX8_run_40 : decode cX8_run 40 = .ok (.aload_n 0, 1) := by decide +kernel
theorem dX8_run_41 : decode cX8_run 41 = .ok (.getfield 9, 3) := by decide +kernel
theorem dX8_run_44 : decode cX8_run 44 = .ok (.bipush 10, 2) := by decide +kernel
theorem dX8_run_46 : decode cX8_run 46 = .ok (.iaload, 1) := by decide +kernel
theorem dX8_run_47 : decode cX8_run 47 = .ok (.ireturn, 1) := by decide +kernel
set_option maxRecDepth 20000 in
theorem ggX8_runToLeave_X8_in : GoodIn wsX8_runToLeave wsX8_in := goodIn_r _ [6] (by decide +kernel) (by decide +kernel)
set_option maxRecDepth 20000 in
theorem gX8_runToLeave_X8_in : GoodIn wsX8_runToLeave (va_wsS RX8 52 yX8_in wsX8_in) := goodIn_app (goodIn_of _ (by decide +kernel)) ggX8_runToLeave_X8_in
set_option maxRecDepth 20000 in
theorem ggX8_runToLeave_X8_isThrown : GoodIn wsX8_runToLeave wsX8_isThrown := goodIn_r _ [10, 11, 139, 140, 141, 142, 143, 144, 145, 146, 147, 148, 149, 150, 151, 152, 153, 154, 155, 156, 157, 158, 159, 160, 161] (by decide +kernel) (by decide +kernel)
set_option maxRecDepth 20000 in
theorem gX8_runToLeave_X8_isThrown : GoodIn wsX8_runToLeave (wsV RX8 226 RX8 yX8_isThrown wsX8_isThrown) := goodIn_app (goodIn_of _ (by decide +kernel)) ggX8_runToLeave_X8_isThrown
set_option maxRecDepth 20000 in
theorem ggX8_runToLeave_X8_keeps : GoodIn wsX8_runToLeave wsX8_keeps := goodIn_r _ [15, 16, 17, 2, 18, 19, 5, 20, 139, 140, 141, 142, 143, 144, 145, 146, 147, 148, 149, 150, 151, 152, 153, 154, 155, 156, 157, 158, 159, 160, 161] (by decide +kernel) (by decide +kernel)
set_option maxRecDepth 20000 in
theorem gX8_runToLeave_X8_keeps : GoodIn wsX8_runToLeave (wsV RX8 230 RX8 yX8_keeps wsX8_keeps) := goodIn_app (goodIn_of _ (by decide +kernel)) ggX8_runToLeave_X8_keeps
set_option maxRecDepth 20000 in
theorem ggX8_runToLeave_X8_passes : GoodIn wsX8_runToLeave wsX8_passes := goodIn_r _ [24, 2, 25, 26, 27, 5, 28, 29, 30, 31, 32, 33, 34, 35, 36, 37, 38, 39, 40, 41, 42, 43, 44, 45, 46, 47, 48, 49, 50, 51, 52, 53, 54, 55, 56, 57, 58, 59, 60, 61, 62, 63, 64, 65, 66, 67, 68, 69, 70, 71, 72, 73, 74, 75, 76, 77, 78, 79, 80, 81, 82, 83, 84, 85, 86, 87, 88, 89, 90, 91, 92, 93, 94, 95, 96, 97, 98, 99, 100, 101, 102, 103, 104, 105, 106, 107, 108, 109, 110, 111, 112, 113, 114, 115, 116, 117, 118, 119, 120, 121, 122, 123, 124, 125, 126, 127, 128, 129, 130, 131, 132, 133, 134, 135, 136, 137, 138, 139, 140, 141, 142, 143, 144, 145, 146, 147, 148, 149, 150, 151, 152, 153, 154, 155, 156, 157, 158, 159, 160, 161] (by decide +kernel) (by decide +kernel)
set_option maxRecDepth 20000 in
theorem gX8_runToLeave_X8_passes : GoodIn wsX8_runToLeave (wsV RX8 349 RX8 yX8_passes wsX8_passes) := goodIn_app (goodIn_of _ (by decide +kernel)) ggX8_runToLeave_X8_passes
theorem dX8_runToLeave_0 : decode cX8_runToLeave 0 = .ok (.aload_n 0, 1) := by decide +kernel
theorem dX8_runToLeave_1 : decode cX8_runToLeave 1 = .ok (.iload_n 1, 1) := by decide +kernel
theorem dX8_runToLeave_2 : decode cX8_runToLeave 2 = .ok (.i2l, 1) := by decide +kernel
theorem dX8_runToLeave_3 : decode cX8_runToLeave 3 = .ok (.lconst 1, 1) := by decide +kernel
theorem dX8_runToLeave_4 : decode cX8_runToLeave 4 = .ok (.ldc2_w 347, 3) := by decide +kernel
theorem dX8_runToLeave_7 : decode cX8_runToLeave 7 = .ok (.invokestatic 52, 3) := by decide +kernel
theorem dX8_runToLeave_10 : decode cX8_runToLeave 10 = .ok (.iconst 1, 1) := by decide +kernel
theorem dX8_runToLeave_11 : decode cX8_runToLeave 11 = .ok (.invokevirtual 226, 3) := by decide +kernel
theorem dX8_runToLeave_14 : decode cX8_runToLeave 14 = .ok (.ifCond .eq 5, 3) := by decide +kernel
theorem dX8_runToLeave_17 : decode cX8_runToLeave 17 = .ok (.iconst 0, 1) := by decide +kernel
theorem dX8_runToLeave_18 : decode cX8_runToLeave 18 = .ok (.ireturn, 1) := by decide +kernel
theorem dX8_runToLeave_19 : decode cX8_runToLeave 19 = .ok (.aload_n 0, 1) := by decide +kernel
theorem dX8_runToLeave_20 : decode cX8_runToLeave 20 = .ok (.invokevirtual 230, 3) := by decide +kernel
theorem dX8_runToLeave_23 : decode cX8_runToLeave 23 = .ok (.aload_n 0, 1) := by decide +kernel
theorem dX8_runToLeave_24 : decode cX8_runToLeave 24 = .ok (.getfield 9, 3) := by decide +kernel
theorem dX8_runToLeave_27 : decode cX8_runToLeave 27 = .ok (.bipush 10, 2) := by decide +kernel
theorem dX8_runToLeave_29 : decode cX8_runToLeave 29 = .ok (.iaload, 1) := by decide +kernel
theorem dX8_runToLeave_30 : decode cX8_runToLeave 30 = .ok (.istore_n 2, 1) := by decide +kernel
theorem dX8_runToLeave_31 : decode cX8_runToLeave 31 = .ok (.iconst 1, 1) := by decide +kernel
theorem dX8_runToLeave_32 : decode cX8_runToLeave 32 = .ok (.istore_n 3, 1) := by decide +kernel
theorem dX8_runToLeave_33 : decode cX8_runToLeave 33 = .ok (.iload_n 3, 1) := by decide +kernel
theorem dX8_runToLeave_34 : decode cX8_runToLeave 34 = .ok (.iload_n 1, 1) := by decide +kernel
theorem dX8_runToLeave_35 : decode cX8_runToLeave 35 = .ok (.if_icmp .gt 26, 3) := by decide +kernel
theorem dX8_runToLeave_38 : decode cX8_runToLeave 38 = .ok (.aload_n 0, 1) := by decide +kernel
theorem dX8_runToLeave_39 : decode cX8_runToLeave 39 = .ok (.invokevirtual 349, 3) := by decide +kernel
theorem dX8_runToLeave_42 : decode cX8_runToLeave 42 = .ok (.aload_n 0, 1) := by decide +kernel
theorem dX8_runToLeave_43 : decode cX8_runToLeave 43 = .ok (.getfield 9, 3) := by decide +kernel
theorem dX8_runToLeave_46 : decode cX8_runToLeave 46 = .ok (.bipush 10, 2) := by decide +kernel
theorem dX8_runToLeave_48 : decode cX8_runToLeave 48 = .ok (.iaload, 1) := by decide +kernel
theorem dX8_runToLeave_49 : decode cX8_runToLeave 49 = .ok (.iload_n 2, 1) := by decide +kernel
theorem dX8_runToLeave_50 : decode cX8_runToLeave 50 = .ok (.if_icmp .le 5, 3) := by decide +kernel
theorem dX8_runToLeave_53 : decode cX8_runToLeave 53 = .ok (.iload_n 3, 1) := by decide +kernel
theorem dX8_runToLeave_54 : decode cX8_runToLeave 54 = .ok (.ireturn, 1) := by decide +kernel
theorem dX8_runToLeave_55 : decode cX8_runToLeave 55 = .ok (.iinc 3 1, 3) := by decide +kernel
theorem dX8_runToLeave_58 : decode cX8_runToLeave 58 = .ok (.goto (-25), 3) := by decide +kernel
theorem dX8_runToLeave_61 : decode cX8_runToLeave 61 = .ok (.iconst (-1), 1) := by decide +kernel
theorem dX8_runToLeave_62 : decode cX8_runToLeave 62 = .ok (.ireturn, 1) := by decide +kernel
set_option maxRecDepth 20000 in
theorem ggX8_areFinished_X8_ofCard : GoodIn wsX8_areFinished wsX8_ofCard := goodIn_r _ [6, 1, 11, 12, 13, 14, 15, 16, 17, 18, 19, 20, 21, 22, 23, 24, 25, 26, 27, 28, 29, 30, 31, 32, 33] (by decide +kernel) (by decide +kernel)
set_option maxRecDepth 20000 in
theorem gX8_areFinished_X8_ofCard : GoodIn wsX8_areFinished (wsV RX8 233 RX8 yX8_ofCard wsX8_ofCard) := goodIn_app (goodIn_of _ (by decide +kernel)) ggX8_areFinished_X8_ofCard
set_option maxRecDepth 20000 in
theorem ggX8_areFinished_X8_isFinished : GoodIn wsX8_areFinished wsX8_isFinished := goodIn_r _ [10, 2, 3, 4, 5, 6, 1, 11, 12, 13, 14, 15, 16, 17, 18, 19, 20, 21, 22, 23, 24, 25, 26, 27, 28, 29, 30, 31, 32, 33] (by decide +kernel) (by decide +kernel)
set_option maxRecDepth 20000 in
theorem gX8_areFinished_X8_isFinished : GoodIn wsX8_areFinished (wsV RX8 256 RX8 yX8_isFinished wsX8_isFinished) := goodIn_app (goodIn_of _ (by decide +kernel)) ggX8_areFinished_X8_isFinished
theorem dX8_areFinished_0 : decode cX8_areFinished 0 = .ok (.iconst 0, 1) := by decide +kernel
theorem dX8_areFinished_1 : decode cX8_areFinished 1 = .ok (.istore_n 2, 1) := by decide +kernel
theorem dX8_areFinished_2 : decode cX8_areFinished 2 = .ok (.iload_n 2, 1) := by decide +kernel
theorem dX8_areFinished_3 : decode cX8_areFinished 3 = .ok (.aload_n 0, 1) := by decide +kernel
theorem dX8_areFinished_4 : decode cX8_areFinished 4 = .ok (.getfield 9, 3) := by decide +kernel
theorem dX8_areFinished_7 : decode cX8_areFinished 7 = .ok (.bipush 9, 2) := by decide +kernel
theorem dX8_areFinished_9 : decode cX8_areFinished 9 = .ok (.iaload, 1) := by decide +kernel
theorem dX8_areFinished_10 : decode cX8_areFinished 10 = .ok (.if_icmp .ge 34, 3) := by decide +kernel
theorem dX8_areFinished_13 : decode cX8_areFinished 13 = .ok (.iload_n 1, 1) := by decide +kernel
theorem dX8_areFinished_14 : decode cX8_areFinished 14 = .ok (.iconst (-1), 1) := by decide +kernel
theorem dX8_areFinished_15 : decode cX8_areFinished 15 = .ok (.if_icmp .eq 13, 3) := by decide +kernel
theorem dX8_areFinished_18 : decode cX8_areFinished 18 = .ok (.aload_n 0, 1) := by decide +kernel
theorem dX8_areFinished_19 : decode cX8_areFinished 19 = .ok (.iload_n 2, 1) := by decide +kernel
theorem dX8_areFinished_20 : decode cX8_areFinished 20 = .ok (.iconst 0, 1) := by decide +kernel
theorem dX8_areFinished_21 : decode cX8_areFinished 21 = .ok (.invokevirtual 233, 3) := by decide +kernel
theorem dX8_areFinished_24 : decode cX8_areFinished 24 = .ok (.iload_n 1, 1) := by decide +kernel
theorem dX8_areFinished_25 : decode cX8_areFinished 25 = .ok (.if_icmp .ne 13, 3) := by decide +kernel
theorem dX8_areFinished_28 : decode cX8_areFinished 28 = .ok (.aload_n 0, 1) := by decide +kernel
theorem dX8_areFinished_29 : decode cX8_areFinished 29 = .ok (.iload_n 2, 1) := by decide +kernel
theorem dX8_areFinished_30 : decode cX8_areFinished 30 = .ok (.invokevirtual 256, 3) := by decide +kernel
theorem dX8_areFinished_33 : decode cX8_areFinished 33 = .ok (.ifCond .ne 5, 3) := by decide +kernel
theorem dX8_areFinished_36 : decode cX8_areFinished 36 = .ok (.iconst 0, 1) := by decide +kernel
theorem dX8_areFinished_37 : decode cX8_areFinished 37 = .ok (.ireturn, 1) := by decide +kernel
theorem dX8_areFinished_38 : decode cX8_areFinished 38 = .ok (.iinc 2 1, 3) := by decide +kernel
theorem dX8_areFinished_41 : decode cX8_areFinished 41 = .ok (.goto (-39), 3) := by decide +kernel
theorem dX8_areFinished_44 : decode cX8_areFinished 44 = .ok (.iconst 1, 1) := by decide +kernel
theorem dX8_areFinished_45 : decode cX8_areFinished 45 = .ok (.ireturn, 1) := by decide +kernel
set_option maxRecDepth 20000 in
theorem ggX8_isMet_X8_ofCard : GoodIn wsX8_isMet wsX8_ofCard := goodIn_r _ [5, 6, 19, 20, 21, 22, 23, 24, 25, 26, 27, 28, 29, 30, 31, 32, 33, 34, 35, 36, 37, 38, 39, 40, 41] (by decide +kernel) (by decide +kernel)
set_option maxRecDepth 20000 in
theorem gX8_isMet_X8_ofCard : GoodIn wsX8_isMet (wsV RX8 233 RX8 yX8_ofCard wsX8_ofCard) := goodIn_app (goodIn_of _ (by decide +kernel)) ggX8_isMet_X8_ofCard
set_option maxRecDepth 20000 in
theorem ggX8_isMet_X8_areFinished : GoodIn wsX8_isMet wsX8_areFinished := goodIn_r _ [10, 6, 1, 2, 3, 4, 5, 11, 12, 13, 14, 19, 20, 21, 22, 23, 24, 25, 26, 27, 28, 29, 30, 31, 32, 33, 34, 35, 36, 37, 38, 39, 40, 41] (by decide +kernel) (by decide +kernel)
set_option maxRecDepth 20000 in
theorem gX8_isMet_X8_areFinished : GoodIn wsX8_isMet (wsV RX8 352 RX8 yX8_areFinished wsX8_areFinished) := goodIn_app (goodIn_of _ (by decide +kernel)) ggX8_isMet_X8_areFinished
set_option maxRecDepth 20000 in
theorem ggX8_isMet_X8_of : GoodIn wsX8_isMet wsX8_of := goodIn_r _ [18, 6, 19, 20, 21, 22, 23, 24, 25, 26, 27, 28, 29, 30, 31, 32, 33, 34, 35, 36, 37, 38, 39, 40, 41] (by decide +kernel) (by decide +kernel)
set_option maxRecDepth 20000 in
theorem gX8_isMet_X8_of : GoodIn wsX8_isMet (wsV RX8 248 RX8 yX8_of wsX8_of) := goodIn_app (goodIn_of _ (by decide +kernel)) ggX8_isMet_X8_of
theorem dX8_isMet_0 : decode cX8_isMet 0 = .ok (.iload_n 1, 1) := by decide +kernel
theorem dX8_isMet_1 : decode cX8_isMet 1 = .ok (.tableswitch 75 0 3 #[31, 47, 53, 59], 31) := by decide +kernel
theorem dX8_isMet_32 : decode cX8_isMet 32 = .ok (.aload_n 0, 1) := by decide +kernel
theorem dX8_isMet_33 : decode cX8_isMet 33 = .ok (.iload_n 2, 1) := by decide +kernel
theorem dX8_isMet_34 : decode cX8_isMet 34 = .ok (.iconst 3, 1) := by decide +kernel
theorem dX8_isMet_35 : decode cX8_isMet 35 = .ok (.invokevirtual 233, 3) := by decide +kernel
theorem dX8_isMet_38 : decode cX8_isMet 38 = .ok (.iconst 3, 1) := by decide +kernel
theorem dX8_isMet_39 : decode cX8_isMet 39 = .ok (.if_icmp .ne 7, 3) := by decide +kernel
theorem dX8_isMet_42 : decode cX8_isMet 42 = .ok (.iconst 1, 1) := by decide +kernel
theorem dX8_isMet_43 : decode cX8_isMet 43 = .ok (.goto 4, 3) := by decide +kernel
theorem dX8_isMet_46 : decode cX8_isMet 46 = .ok (.iconst 0, 1) := by decide +kernel
theorem dX8_isMet_47 : decode cX8_isMet 47 = .ok (.ireturn, 1) := by decide +kernel
theorem dX8_isMet_48 : decode cX8_isMet 48 = .ok (.aload_n 0, 1) := by decide +kernel
theorem dX8_isMet_49 : decode cX8_isMet 49 = .ok (.iload_n 2, 1) := by decide +kernel
theorem dX8_isMet_50 : decode cX8_isMet 50 = .ok (.invokevirtual 352, 3) := by decide +kernel
theorem dX8_isMet_53 : decode cX8_isMet 53 = .ok (.ireturn, 1) := by decide +kernel
theorem dX8_isMet_54 : decode cX8_isMet 54 = .ok (.aload_n 0, 1) := by decide +kernel
theorem dX8_isMet_55 : decode cX8_isMet 55 = .ok (.iconst (-1), 1) := by decide +kernel
theorem dX8_isMet_56 : decode cX8_isMet 56 = .ok (.invokevirtual 352, 3) := by decide +kernel
theorem dX8_isMet_59 : decode cX8_isMet 59 = .ok (.ireturn, 1) := by decide +kernel
theorem dX8_isMet_60 : decode cX8_isMet 60 = .ok (.aload_n 0, 1) := by decide +kernel
theorem dX8_isMet_61 : decode cX8_isMet 61 = .ok (.iload_n 2, 1) := by decide +kernel
theorem dX8_isMet_62 : decode cX8_isMet 62 = .ok (.iconst 5, 1) := by decide +kernel
theorem dX8_isMet_63 : decode cX8_isMet 63 = .ok (.invokevirtual 248, 3) := by decide +kernel
theorem dX8_isMet_66 : decode cX8_isMet 66 = .ok (.iload_n 3, 1) := by decide +kernel
theorem dX8_isMet_67 : decode cX8_isMet 67 = .ok (.if_icmp .le 7, 3) := by decide +kernel
theorem dX8_isMet_70 : decode cX8_isMet 70 = .ok (.iconst 1, 1) := by decide +kernel
theorem dX8_isMet_71 : decode cX8_isMet 71 = .ok (.goto 4, 3) := by decide +kernel
theorem dX8_isMet_74 : decode cX8_isMet 74 = .ok (.iconst 0, 1) := by decide +kernel
theorem dX8_isMet_75 : decode cX8_isMet 75 = .ok (.ireturn, 1) := by decide +kernel
theorem dX8_isMet_76 : decode cX8_isMet 76 = .ok (.aload_n 0, 1) := by decide +kernel
theorem dX8_isMet_77 : decode cX8_isMet 77 = .ok (.iload_n 2, 1) := by decide +kernel
theorem dX8_isMet_78 : decode cX8_isMet 78 = .ok (.bipush 11, 2) := by decide +kernel
theorem dX8_isMet_80 : decode cX8_isMet 80 = .ok (.invokevirtual 248, 3) := by decide +kernel
theorem dX8_isMet_83 : decode cX8_isMet 83 = .ok (.ifCond .le 7, 3) := by decide +kernel
theorem dX8_isMet_86 : decode cX8_isMet 86 = .ok (.iconst 1, 1) := by decide +kernel
theorem dX8_isMet_87 : decode cX8_isMet 87 = .ok (.goto 4, 3) := by decide +kernel
theorem dX8_isMet_90 : decode cX8_isMet 90 = .ok (.iconst 0, 1) := by decide +kernel
theorem dX8_isMet_91 : decode cX8_isMet 91 = .ok (.ireturn, 1) := by decide +kernel
set_option maxRecDepth 20000 in
theorem ggX8_goes_X8_of : GoodIn wsX8_goes wsX8_of := goodIn_r _ [5, 6, 129, 130, 131, 132, 133, 134, 135, 136, 137, 138, 139, 140, 141, 142, 143, 144, 145, 146, 147, 148, 149, 150, 151] (by decide +kernel) (by decide +kernel)
set_option maxRecDepth 20000 in
theorem gX8_goes_X8_of : GoodIn wsX8_goes (wsV RX8 248 RX8 yX8_of wsX8_of) := goodIn_app (goodIn_of _ (by decide +kernel)) ggX8_goes_X8_of
set_option maxRecDepth 20000 in
theorem ggX8_goes_X8_isMet : GoodIn wsX8_goes wsX8_isMet := goodIn_r _ [10, 11, 12, 13, 4, 14, 6, 15, 16, 17, 18, 19, 20, 21, 22, 1, 2, 3, 5, 129, 130, 131, 132, 133, 134, 135, 136, 137, 138, 139, 140, 141, 142, 143, 144, 145, 146, 147, 148, 149, 150, 151] (by decide +kernel) (by decide +kernel)
set_option maxRecDepth 20000 in
theorem gX8_goes_X8_isMet : GoodIn wsX8_goes (wsV RX8 355 RX8 yX8_isMet wsX8_isMet) := goodIn_app (goodIn_of _ (by decide +kernel)) ggX8_goes_X8_isMet
set_option maxRecDepth 20000 in
theorem ggX8_goes_X8_passes : GoodIn wsX8_goes wsX8_passes := goodIn_r _ [26, 6, 27, 28, 29, 4, 30, 1, 2, 3, 5, 31, 32, 33, 34, 35, 36, 37, 38, 39, 40, 41, 42, 43, 44, 45, 46, 47, 48, 49, 50, 11, 12, 13, 14, 51, 52, 53, 54, 55, 56, 57, 58, 59, 60, 61, 62, 63, 64, 65, 66, 67, 68, 69, 70, 71, 72, 73, 74, 75, 76, 77, 78, 79, 80, 81, 82, 83, 84, 85, 86, 87, 88, 19, 20, 21, 22, 89, 90, 91, 92, 93, 94, 95, 96, 97, 98, 99, 100, 101, 102, 103, 104, 105, 106, 107, 108, 109, 110, 111, 112, 113, 114, 115, 116, 117, 118, 119, 120, 121, 122, 123, 124, 125, 126, 127, 128, 129, 130, 131, 132, 133, 134, 135, 136, 137, 138, 139, 140, 141, 142, 143, 144, 145, 146, 147, 148, 149, 150, 151] (by decide +kernel) (by decide +kernel)
set_option maxRecDepth 20000 in
theorem gX8_goes_X8_passes : GoodIn wsX8_goes (wsV RX8 349 RX8 yX8_passes wsX8_passes) := goodIn_app (goodIn_of _ (by decide +kernel)) ggX8_goes_X8_passes
theorem dX8_goes_0 : decode cX8_goes 0 = .ok (.iload_n 1, 1) := by decide +kernel
theorem dX8_goes_1 : decode cX8_goes 1 = .ok (.iconst 3, 1) := by decide +kernel
theorem dX8_goes_2 : decode cX8_goes 2 = .ok (.if_icmp .ne 12, 3) := by decide +kernel
theorem dX8_goes_5 : decode cX8_goes 5 = .ok (.aload_n 0, 1) := by decide +kernel
theorem dX8_goes_6 : decode cX8_goes 6 = .ok (.iload_n 2, 1) := by decide +kernel
theorem dX8_goes_7 : decode cX8_goes 7 = .ok (.iconst 5, 1) := by decide +kernel
theorem dX8_goes_8 : decode cX8_goes 8 = .ok (.invokevirtual 248, 3) := by decide +kernel
theorem dX8_goes_11 : decode cX8_goes 11 = .ok (.goto 4, 3) := by decide +kernel
theorem dX8_goes_14 : decode cX8_goes 14 = .ok (.iconst 0, 1) := by decide +kernel
theorem dX8_goes_15 : decode cX8_goes 15 = .ok (.istore_n 3, 1) := by decide +kernel
theorem dX8_goes_16 : decode cX8_goes 16 = .ok (.iconst 0, 1) := by decide +kernel
theorem dX8_goes_17 : decode cX8_goes 17 = .ok (.istore 4, 2) := by decide +kernel
theorem dX8_goes_19 : decode cX8_goes 19 = .ok (.iload 4, 2) := by decide +kernel
theorem dX8_goes_21 : decode cX8_goes 21 = .ok (.sipush 2000, 3) := by decide +kernel
theorem dX8_goes_24 : decode cX8_goes 24 = .ok (.if_icmp .gt 34, 3) := by decide +kernel
theorem dX8_goes_27 : decode cX8_goes 27 = .ok (.aload_n 0, 1) := by decide +kernel
theorem dX8_goes_28 : decode cX8_goes 28 = .ok (.iload_n 1, 1) := by decide +kernel
theorem dX8_goes_29 : decode cX8_goes 29 = .ok (.iload_n 2, 1) := by decide +kernel
theorem dX8_goes_30 : decode cX8_goes 30 = .ok (.iload_n 3, 1) := by decide +kernel
theorem dX8_goes_31 : decode cX8_goes 31 = .ok (.invokevirtual 355, 3) := by decide +kernel
theorem dX8_goes_34 : decode cX8_goes 34 = .ok (.ifCond .eq 6, 3) := by decide +kernel
theorem dX8_goes_37 : decode cX8_goes 37 = .ok (.iload 4, 2) := by decide +kernel
theorem dX8_goes_39 : decode cX8_goes 39 = .ok (.ireturn, 1) := by decide +kernel
theorem dX8_goes_40 : decode cX8_goes 40 = .ok (.iload 4, 2) := by decide +kernel
theorem dX8_goes_42 : decode cX8_goes 42 = .ok (.sipush 2000, 3) := by decide +kernel
theorem dX8_goes_45 : decode cX8_goes 45 = .ok (.if_icmp .ge 7, 3) := by decide +kernel
theorem dX8_goes_48 : decode cX8_goes 48 = .ok (.aload_n 0, 1) := by decide +kernel
theorem dX8_goes_49 : decode cX8_goes 49 = .ok (.invokevirtual 349, 3) := by decide +kernel
theorem dX8_goes_52 : decode cX8_goes 52 = .ok (.iinc 4 1, 3) := by decide +kernel
theorem dX8_goes_55 : decode cX8_goes 55 = .ok (.goto (-36), 3) := by decide +kernel
theorem dX8_goes_58 : decode cX8_goes 58 = .ok (.iconst (-1), 1) := by decide +kernel
theorem dX8_goes_59 : decode cX8_goes 59 = .ok (.ireturn, 1) := by decide +kernel
set_option maxRecDepth 20000 in
theorem ggX8_behind_X8_copies : GoodIn wsX8_behind wsX8_copies := goodIn_r _ [6] (by decide +kernel) (by decide +kernel)
set_option maxRecDepth 20000 in
theorem gX8_behind_X8_copies : GoodIn wsX8_behind (va_wsS RX8 204 yX8_copies wsX8_copies) := goodIn_app (goodIn_of _ (by decide +kernel)) ggX8_behind_X8_copies
set_option maxRecDepth 20000 in
theorem ggX8_behind_X8_goes : GoodIn wsX8_behind wsX8_goes := goodIn_r _ [10, 11, 12, 13, 5, 14, 1, 15, 16, 17, 18, 19, 20, 21, 22, 23, 24, 25, 26, 27, 28, 29, 30, 31, 32, 33, 34, 35, 36, 37, 38, 39, 40, 41, 42, 43, 44, 45, 46, 47, 48, 49, 50, 51, 52, 53, 54, 55, 56, 57, 58, 59, 60, 61, 62, 63, 64, 65, 66, 67, 68, 69, 70, 71, 72, 73, 74, 75, 76, 77, 78, 79, 80, 81, 82, 83, 84, 85, 86, 87, 88, 89, 90, 91, 92, 93, 94, 95, 96, 97, 98, 99, 100, 101, 102, 103, 104, 105, 106, 107, 108, 109, 110, 111, 112, 113, 114, 115, 116, 117, 118, 119, 120, 121, 122, 123, 124, 125, 126, 127, 128, 129, 130, 131, 132, 133, 134, 135, 136, 137, 138, 139, 140, 141, 142, 143, 144, 145, 146, 147, 148, 149, 150, 151, 152, 153, 154, 155, 156, 157, 158, 159] (by decide +kernel) (by decide +kernel)
set_option maxRecDepth 20000 in
theorem gX8_behind_X8_goes : GoodIn wsX8_behind (wsV RX8 359 RX8 yX8_goes wsX8_goes) := goodIn_app (goodIn_of _ (by decide +kernel)) ggX8_behind_X8_goes
theorem dX8_behind_0 : decode cX8_behind 0 = .ok (.aload_n 0, 1) := by decide +kernel
theorem dX8_behind_1 : decode cX8_behind 1 = .ok (.getfield 9, 3) := by decide +kernel
theorem dX8_behind_4 : decode cX8_behind 4 = .ok (.iconst 0, 1) := by decide +kernel
theorem dX8_behind_5 : decode cX8_behind 5 = .ok (.aload_n 0, 1) := by decide +kernel
theorem dX8_behind_6 : decode cX8_behind 6 = .ok (.getfield 13, 3) := by decide +kernel
theorem dX8_behind_9 : decode cX8_behind 9 = .ok (.iconst 0, 1) := by decide +kernel
theorem dX8_behind_10 : decode cX8_behind 10 = .ok (.invokestatic 204, 3) := by decide +kernel
theorem dX8_behind_13 : decode cX8_behind 13 = .ok (.aload_n 0, 1) := by decide +kernel
theorem dX8_behind_14 : decode cX8_behind 14 = .ok (.iload_n 1, 1) := by decide +kernel
theorem dX8_behind_15 : decode cX8_behind 15 = .ok (.iload_n 2, 1) := by decide +kernel
theorem dX8_behind_16 : decode cX8_behind 16 = .ok (.invokevirtual 359, 3) := by decide +kernel
theorem dX8_behind_19 : decode cX8_behind 19 = .ok (.istore_n 3, 1) := by decide +kernel
theorem dX8_behind_20 : decode cX8_behind 20 = .ok (.aload_n 0, 1) := by decide +kernel
theorem dX8_behind_21 : decode cX8_behind 21 = .ok (.getfield 13, 3) := by decide +kernel
theorem dX8_behind_24 : decode cX8_behind 24 = .ok (.iconst 0, 1) := by decide +kernel
theorem dX8_behind_25 : decode cX8_behind 25 = .ok (.aload_n 0, 1) := by decide +kernel
theorem dX8_behind_26 : decode cX8_behind 26 = .ok (.getfield 9, 3) := by decide +kernel
theorem dX8_behind_29 : decode cX8_behind 29 = .ok (.iconst 0, 1) := by decide +kernel
theorem dX8_behind_30 : decode cX8_behind 30 = .ok (.invokestatic 204, 3) := by decide +kernel
theorem dX8_behind_33 : decode cX8_behind 33 = .ok (.iload_n 3, 1) := by decide +kernel
theorem dX8_behind_34 : decode cX8_behind 34 = .ok (.ireturn, 1) := by decide +kernel
set_option maxRecDepth 20000 in
theorem ggX8_leavesIn_X8_isCard : GoodIn wsX8_leavesIn wsX8_isCard := goodIn_r _ [5, 6, 7, 8, 4, 9, 153, 154, 155, 156, 157, 158, 159, 160, 161, 162, 163, 164, 165, 166, 167, 168, 169, 170, 171, 172, 173, 174, 175] (by decide +kernel) (by decide +kernel)
set_option maxRecDepth 20000 in
theorem gX8_leavesIn_X8_isCard : GoodIn wsX8_leavesIn (wsV RX8 251 RX8 yX8_isCard wsX8_isCard) := goodIn_app (goodIn_of _ (by decide +kernel)) ggX8_leavesIn_X8_isCard
set_option maxRecDepth 20000 in
theorem ggX8_leavesIn_X8_isThrown : GoodIn wsX8_leavesIn wsX8_isThrown := goodIn_r _ [13, 14, 153, 154, 155, 156, 157, 158, 159, 160, 161, 162, 163, 164, 165, 166, 167, 168, 169, 170, 171, 172, 173, 174, 175] (by decide +kernel) (by decide +kernel)
set_option maxRecDepth 20000 in
theorem gX8_leavesIn_X8_isThrown : GoodIn wsX8_leavesIn (wsV RX8 226 RX8 yX8_isThrown wsX8_isThrown) := goodIn_app (goodIn_of _ (by decide +kernel)) ggX8_leavesIn_X8_isThrown
set_option maxRecDepth 20000 in
theorem ggX8_leavesIn_X8_behind : GoodIn wsX8_leavesIn wsX8_behind := goodIn_r _ [18, 6, 19, 20, 21, 4, 22, 23, 24, 25, 26, 27, 28, 29, 30, 31, 32, 33, 34, 35, 36, 37, 38, 39, 40, 41, 42, 43, 44, 45, 46, 47, 48, 49, 50, 51, 52, 53, 54, 55, 56, 57, 58, 59, 60, 61, 62, 63, 64, 65, 66, 67, 68, 69, 70, 71, 72, 73, 74, 75, 76, 77, 78, 79, 80, 81, 82, 83, 84, 85, 86, 87, 88, 89, 90, 91, 92, 93, 94, 95, 96, 97, 98, 99, 100, 101, 102, 103, 104, 105, 106, 107, 108, 109, 110, 111, 112, 113, 114, 115, 116, 117, 118, 119, 120, 121, 122, 123, 124, 125, 126, 127, 128, 129, 130, 131, 132, 133, 134, 135, 136, 137, 138, 139, 140, 141, 142, 143, 144, 145, 146, 147, 148, 149, 150, 151, 152, 153, 154, 155, 156, 157, 158, 159, 160, 161, 162, 163, 164, 165, 166, 167, 168, 169, 170, 171, 172, 173, 174, 175] (by decide +kernel) (by decide +kernel)
set_option maxRecDepth 20000 in
theorem gX8_leavesIn_X8_behind : GoodIn wsX8_leavesIn (wsV RX8 362 RX8 yX8_behind wsX8_behind) := goodIn_app (goodIn_of _ (by decide +kernel)) ggX8_leavesIn_X8_behind
theorem dX8_leavesIn_0 : decode cX8_leavesIn 0 = .ok (.aload_n 0, 1) := by decide +kernel
theorem dX8_leavesIn_1 : decode cX8_leavesIn 1 = .ok (.aload_n 0, 1) := by decide +kernel
theorem dX8_leavesIn_2 : decode cX8_leavesIn 2 = .ok (.iload_n 1, 1) := by decide +kernel
theorem dX8_leavesIn_3 : decode cX8_leavesIn 3 = .ok (.invokevirtual 251, 3) := by decide +kernel
theorem dX8_leavesIn_6 : decode cX8_leavesIn 6 = .ok (.iconst 1, 1) := by decide +kernel
theorem dX8_leavesIn_7 : decode cX8_leavesIn 7 = .ok (.invokevirtual 226, 3) := by decide +kernel
theorem dX8_leavesIn_10 : decode cX8_leavesIn 10 = .ok (.ifCond .eq 7, 3) := by decide +kernel
theorem dX8_leavesIn_13 : decode cX8_leavesIn 13 = .ok (.iconst 0, 1) := by decide +kernel
theorem dX8_leavesIn_14 : decode cX8_leavesIn 14 = .ok (.goto 9, 3) := by decide +kernel
theorem dX8_leavesIn_17 : decode cX8_leavesIn 17 = .ok (.aload_n 0, 1) := by decide +kernel
theorem dX8_leavesIn_18 : decode cX8_leavesIn 18 = .ok (.iconst 0, 1) := by decide +kernel
theorem dX8_leavesIn_19 : decode cX8_leavesIn 19 = .ok (.iload_n 1, 1) := by decide +kernel
theorem dX8_leavesIn_20 : decode cX8_leavesIn 20 = .ok (.invokevirtual 362, 3) := by decide +kernel
theorem dX8_leavesIn_23 : decode cX8_leavesIn 23 = .ok (.ireturn, 1) := by decide +kernel
set_option maxRecDepth 20000 in
theorem ggX8_lotIn_X8_isLot : GoodIn wsX8_lotIn wsX8_isLot := goodIn_r _ [5, 6, 7, 8, 4, 9, 153, 154, 155, 156, 157, 158, 159, 160, 161, 162, 163, 164, 165, 166, 167, 168, 169, 170, 171, 172, 173, 174, 175] (by decide +kernel) (by decide +kernel)
set_option maxRecDepth 20000 in
theorem gX8_lotIn_X8_isLot : GoodIn wsX8_lotIn (wsV RX8 222 RX8 yX8_isLot wsX8_isLot) := goodIn_app (goodIn_of _ (by decide +kernel)) ggX8_lotIn_X8_isLot
set_option maxRecDepth 20000 in
theorem ggX8_lotIn_X8_isThrown : GoodIn wsX8_lotIn wsX8_isThrown := goodIn_r _ [13, 14, 153, 154, 155, 156, 157, 158, 159, 160, 161, 162, 163, 164, 165, 166, 167, 168, 169, 170, 171, 172, 173, 174, 175] (by decide +kernel) (by decide +kernel)
set_option maxRecDepth 20000 in
theorem gX8_lotIn_X8_isThrown : GoodIn wsX8_lotIn (wsV RX8 226 RX8 yX8_isThrown wsX8_isThrown) := goodIn_app (goodIn_of _ (by decide +kernel)) ggX8_lotIn_X8_isThrown
set_option maxRecDepth 20000 in
theorem ggX8_lotIn_X8_behind : GoodIn wsX8_lotIn wsX8_behind := goodIn_r _ [18, 6, 19, 20, 21, 4, 22, 23, 24, 25, 26, 27, 28, 29, 30, 31, 32, 33, 34, 35, 36, 37, 38, 39, 40, 41, 42, 43, 44, 45, 46, 47, 48, 49, 50, 51, 52, 53, 54, 55, 56, 57, 58, 59, 60, 61, 62, 63, 64, 65, 66, 67, 68, 69, 70, 71, 72, 73, 74, 75, 76, 77, 78, 79, 80, 81, 82, 83, 84, 85, 86, 87, 88, 89, 90, 91, 92, 93, 94, 95, 96, 97, 98, 99, 100, 101, 102, 103, 104, 105, 106, 107, 108, 109, 110, 111, 112, 113, 114, 115, 116, 117, 118, 119, 120, 121, 122, 123, 124, 125, 126, 127, 128, 129, 130, 131, 132, 133, 134, 135, 136, 137, 138, 139, 140, 141, 142, 143, 144, 145, 146, 147, 148, 149, 150, 151, 152, 153, 154, 155, 156, 157, 158, 159, 160, 161, 162, 163, 164, 165, 166, 167, 168, 169, 170, 171, 172, 173, 174, 175] (by decide +kernel) (by decide +kernel)
set_option maxRecDepth 20000 in
theorem gX8_lotIn_X8_behind : GoodIn wsX8_lotIn (wsV RX8 362 RX8 yX8_behind wsX8_behind) := goodIn_app (goodIn_of _ (by decide +kernel)) ggX8_lotIn_X8_behind
theorem dX8_lotIn_0 : decode cX8_lotIn 0 = .ok (.aload_n 0, 1) := by decide +kernel
theorem dX8_lotIn_1 : decode cX8_lotIn 1 = .ok (.aload_n 0, 1) := by decide +kernel
theorem dX8_lotIn_2 : decode cX8_lotIn 2 = .ok (.iload_n 1, 1) := by decide +kernel
theorem dX8_lotIn_3 : decode cX8_lotIn 3 = .ok (.invokevirtual 222, 3) := by decide +kernel
theorem dX8_lotIn_6 : decode cX8_lotIn 6 = .ok (.iconst 1, 1) := by decide +kernel
theorem dX8_lotIn_7 : decode cX8_lotIn 7 = .ok (.invokevirtual 226, 3) := by decide +kernel
theorem dX8_lotIn_10 : decode cX8_lotIn 10 = .ok (.ifCond .eq 7, 3) := by decide +kernel
theorem dX8_lotIn_13 : decode cX8_lotIn 13 = .ok (.iconst 0, 1) := by decide +kernel
theorem dX8_lotIn_14 : decode cX8_lotIn 14 = .ok (.goto 9, 3) := by decide +kernel
theorem dX8_lotIn_17 : decode cX8_lotIn 17 = .ok (.aload_n 0, 1) := by decide +kernel
theorem dX8_lotIn_18 : decode cX8_lotIn 18 = .ok (.iconst 1, 1) := by decide +kernel
theorem dX8_lotIn_19 : decode cX8_lotIn 19 = .ok (.iload_n 1, 1) := by decide +kernel
theorem dX8_lotIn_20 : decode cX8_lotIn 20 = .ok (.invokevirtual 362, 3) := by decide +kernel
theorem dX8_lotIn_23 : decode cX8_lotIn 23 = .ok (.ireturn, 1) := by decide +kernel
set_option maxRecDepth 20000 in
theorem ggX8_allIn_X8_behind : GoodIn wsX8_allIn wsX8_behind := goodIn_r _ [6, 7, 8, 9, 10, 5, 11, 12, 13, 14, 15, 16, 17, 18, 19, 20, 21, 22, 23, 24, 25, 26, 27, 28, 29, 30, 31, 32, 33, 34, 35, 36, 37, 38, 39, 40, 41, 42, 43, 44, 45, 46, 47, 48, 49, 50, 51, 52, 53, 54, 55, 56, 57, 58, 59, 60, 61, 62, 63, 64, 65, 66, 67, 68, 69, 70, 71, 72, 73, 74, 75, 76, 77, 78, 79, 80, 81, 82, 83, 84, 85, 86, 87, 88, 89, 90, 91, 92, 93, 94, 95, 96, 97, 98, 99, 100, 101, 102, 103, 104, 105, 106, 107, 108, 109, 110, 111, 112, 113, 114, 115, 116, 117, 118, 119, 120, 121, 122, 123, 124, 125, 126, 127, 128, 129, 130, 131, 132, 133, 134, 135, 136, 137, 138, 139, 140, 141, 142, 143, 144, 145, 146, 147, 148, 149, 150, 151, 152, 153, 154, 155, 156, 157, 158, 159, 160, 161, 162, 163, 164] (by decide +kernel) (by decide +kernel)
set_option maxRecDepth 20000 in
theorem gX8_allIn_X8_behind : GoodIn wsX8_allIn (wsV RX8 362 RX8 yX8_behind wsX8_behind) := goodIn_app (goodIn_of _ (by decide +kernel)) ggX8_allIn_X8_behind
theorem dX8_allIn_0 : decode cX8_allIn 0 = .ok (.aload_n 0, 1) := by decide +kernel
theorem dX8_allIn_1 : decode cX8_allIn 1 = .ok (.iconst 0, 1) := by decide +kernel
theorem dX8_allIn_2 : decode cX8_allIn 2 = .ok (.putfield 49, 3) := by decide +kernel
theorem dX8_allIn_5 : decode cX8_allIn 5 = .ok (.aload_n 0, 1) := by decide +kernel
theorem dX8_allIn_6 : decode cX8_allIn 6 = .ok (.iconst 2, 1) := by decide +kernel
theorem dX8_allIn_7 : decode cX8_allIn 7 = .ok (.iconst (-1), 1) := by decide +kernel
theorem dX8_allIn_8 : decode cX8_allIn 8 = .ok (.invokevirtual 362, 3) := by decide +kernel
theorem dX8_allIn_11 : decode cX8_allIn 11 = .ok (.ireturn, 1) := by decide +kernel
set_option maxRecDepth 20000 in
theorem ggX8_then_X8_copies : GoodIn wsX8_then wsX8_copies := goodIn_r _ [6] (by decide +kernel) (by decide +kernel)
set_option maxRecDepth 20000 in
theorem gX8_then_X8_copies : GoodIn wsX8_then (va_wsS RX8 204 yX8_copies wsX8_copies) := goodIn_app (goodIn_of _ (by decide +kernel)) ggX8_then_X8_copies
set_option maxRecDepth 20000 in
theorem ggX8_then_X8_passes : GoodIn wsX8_then wsX8_passes := goodIn_r _ [10, 1, 11, 12, 13, 5, 14, 15, 16, 17, 18, 19, 20, 21, 22, 23, 24, 25, 26, 27, 28, 29, 30, 31, 32, 33, 34, 35, 36, 37, 38, 39, 40, 41, 42, 43, 44, 45, 46, 47, 48, 49, 50, 51, 52, 53, 54, 55, 56, 57, 58, 59, 60, 61, 62, 63, 64, 65, 66, 67, 68, 69, 70, 71, 72, 73, 74, 75, 76, 77, 78, 79, 80, 81, 82, 83, 84, 85, 86, 87, 88, 89, 90, 91, 92, 93, 94, 95, 96, 97, 98, 99, 100, 101, 102, 103, 104, 105, 106, 107, 108, 109, 110, 111, 112, 113, 114, 115, 116, 117, 118, 119, 120, 121, 122, 123, 124, 125, 126, 127, 128, 129, 130, 131, 132, 133, 134, 135, 136, 137, 138, 139, 140, 141, 142, 143, 144, 145, 146, 147] (by decide +kernel) (by decide +kernel)
set_option maxRecDepth 20000 in
theorem gX8_then_X8_passes : GoodIn wsX8_then (wsV RX8 349 RX8 yX8_passes wsX8_passes) := goodIn_app (goodIn_of _ (by decide +kernel)) ggX8_then_X8_passes
theorem dX8_then_0 : decode cX8_then 0 = .ok (.aload_n 0, 1) := by decide +kernel
theorem dX8_then_1 : decode cX8_then 1 = .ok (.getfield 9, 3) := by decide +kernel
theorem dX8_then_4 : decode cX8_then 4 = .ok (.iconst 0, 1) := by decide +kernel
theorem dX8_then_5 : decode cX8_then 5 = .ok (.aload_n 0, 1) := by decide +kernel
theorem dX8_then_6 : decode cX8_then 6 = .ok (.getfield 13, 3) := by decide +kernel
theorem dX8_then_9 : decode cX8_then 9 = .ok (.iconst 0, 1) := by decide +kernel
theorem dX8_then_10 : decode cX8_then 10 = .ok (.invokestatic 204, 3) := by decide +kernel
theorem dX8_then_13 : decode cX8_then 13 = .ok (.iconst 0, 1) := by decide +kernel
theorem dX8_then_14 : decode cX8_then 14 = .ok (.istore_n 3, 1) := by decide +kernel
theorem dX8_then_15 : decode cX8_then 15 = .ok (.iload_n 3, 1) := by decide +kernel
theorem dX8_then_16 : decode cX8_then 16 = .ok (.iload_n 2, 1) := by decide +kernel
theorem dX8_then_17 : decode cX8_then 17 = .ok (.if_icmp .ge 13, 3) := by decide +kernel
theorem dX8_then_20 : decode cX8_then 20 = .ok (.aload_n 0, 1) := by decide +kernel
theorem dX8_then_21 : decode cX8_then 21 = .ok (.invokevirtual 349, 3) := by decide +kernel
theorem dX8_then_24 : decode cX8_then 24 = .ok (.iinc 3 1, 3) := by decide +kernel
theorem dX8_then_27 : decode cX8_then 27 = .ok (.goto (-12), 3) := by decide +kernel
theorem dX8_then_30 : decode cX8_then 30 = .ok (.aload_n 0, 1) := by decide +kernel
theorem dX8_then_31 : decode cX8_then 31 = .ok (.getfield 9, 3) := by decide +kernel
theorem dX8_then_34 : decode cX8_then 34 = .ok (.iload_n 1, 1) := by decide +kernel
theorem dX8_then_35 : decode cX8_then 35 = .ok (.iaload, 1) := by decide +kernel
theorem dX8_then_36 : decode cX8_then 36 = .ok (.istore_n 3, 1) := by decide +kernel
theorem dX8_then_37 : decode cX8_then 37 = .ok (.aload_n 0, 1) := by decide +kernel
theorem dX8_then_38 : decode cX8_then 38 = .ok (.getfield 13, 3) := by decide +kernel
theorem dX8_then_41 : decode cX8_then 41 = .ok (.iconst 0, 1) := by decide +kernel
theorem dX8_then_42 : decode cX8_then 42 = .ok (.aload_n 0, 1) := by decide +kernel
theorem dX8_then_43 : decode cX8_then 43 = .ok (.getfield 9, 3) := by decide +kernel
theorem dX8_then_46 : decode cX8_then 46 = .ok (.iconst 0, 1) := by decide +kernel
theorem dX8_then_47 : decode cX8_then 47 = .ok (.invokestatic 204, 3) := by decide +kernel
theorem dX8_then_50 : decode cX8_then 50 = .ok (.iload_n 3, 1) := by decide +kernel
theorem dX8_then_51 : decode cX8_then 51 = .ok (.ireturn, 1) := by decide +kernel
set_option maxRecDepth 20000 in
theorem ggX8_leftIn_X8_in : GoodIn wsX8_leftIn wsX8_in := goodIn_r _ [5] (by decide +kernel) (by decide +kernel)
set_option maxRecDepth 20000 in
theorem gX8_leftIn_X8_in : GoodIn wsX8_leftIn (va_wsS RX8 52 yX8_in wsX8_in) := goodIn_app (goodIn_of _ (by decide +kernel)) ggX8_leftIn_X8_in
set_option maxRecDepth 20000 in
theorem ggX8_leftIn_X8_isThrown : GoodIn wsX8_leftIn wsX8_isThrown := goodIn_r _ [9, 10, 138, 139, 140, 141, 142, 143, 144, 145, 146, 147, 148, 149, 150, 151, 152, 153, 154, 155, 156, 157, 158, 159, 160] (by decide +kernel) (by decide +kernel)
set_option maxRecDepth 20000 in
theorem gX8_leftIn_X8_isThrown : GoodIn wsX8_leftIn (wsV RX8 226 RX8 yX8_isThrown wsX8_isThrown) := goodIn_app (goodIn_of _ (by decide +kernel)) ggX8_leftIn_X8_isThrown
set_option maxRecDepth 20000 in
theorem ggX8_leftIn_X8_then : GoodIn wsX8_leftIn wsX8_then := goodIn_r _ [14, 15, 16, 17, 18, 4, 19, 20, 21, 22, 23, 24, 25, 26, 27, 28, 29, 30, 31, 32, 33, 34, 35, 36, 37, 38, 39, 40, 41, 42, 43, 44, 45, 46, 47, 48, 49, 50, 51, 52, 53, 54, 55, 56, 57, 58, 59, 60, 61, 62, 63, 64, 65, 66, 67, 68, 69, 70, 71, 72, 73, 74, 75, 76, 77, 78, 79, 80, 81, 82, 83, 84, 85, 86, 87, 88, 89, 90, 91, 92, 93, 94, 95, 96, 97, 98, 99, 100, 101, 102, 103, 104, 105, 106, 107, 108, 109, 110, 111, 112, 113, 114, 115, 116, 117, 118, 119, 120, 121, 122, 123, 124, 125, 126, 127, 128, 129, 130, 131, 132, 133, 134, 135, 136, 137, 138, 139, 140, 141, 142, 143, 144, 145, 146, 147, 148, 149, 150, 151, 152, 153, 154, 155, 156, 157, 158, 159, 160] (by decide +kernel) (by decide +kernel)
set_option maxRecDepth 20000 in
theorem gX8_leftIn_X8_then : GoodIn wsX8_leftIn (wsV RX8 365 RX8 yX8_then wsX8_then) := goodIn_app (goodIn_of _ (by decide +kernel)) ggX8_leftIn_X8_then
theorem dX8_leftIn_0 : decode cX8_leftIn 0 = .ok (.aload_n 0, 1) := by decide +kernel
theorem dX8_leftIn_1 : decode cX8_leftIn 1 = .ok (.iload_n 1, 1) := by decide +kernel
theorem dX8_leftIn_2 : decode cX8_leftIn 2 = .ok (.i2l, 1) := by decide +kernel
theorem dX8_leftIn_3 : decode cX8_leftIn 3 = .ok (.lconst 1, 1) := by decide +kernel
theorem dX8_leftIn_4 : decode cX8_leftIn 4 = .ok (.ldc2_w 347, 3) := by decide +kernel
theorem dX8_leftIn_7 : decode cX8_leftIn 7 = .ok (.invokestatic 52, 3) := by decide +kernel
theorem dX8_leftIn_10 : decode cX8_leftIn 10 = .ok (.iconst 1, 1) := by decide +kernel
theorem dX8_leftIn_11 : decode cX8_leftIn 11 = .ok (.invokevirtual 226, 3) := by decide +kernel
theorem dX8_leftIn_14 : decode cX8_leftIn 14 = .ok (.ifCond .eq 7, 3) := by decide +kernel
theorem dX8_leftIn_17 : decode cX8_leftIn 17 = .ok (.iconst 0, 1) := by decide +kernel
theorem dX8_leftIn_18 : decode cX8_leftIn 18 = .ok (.goto 10, 3) := by decide +kernel
theorem dX8_leftIn_21 : decode cX8_leftIn 21 = .ok (.aload_n 0, 1) := by decide +kernel
theorem dX8_leftIn_22 : decode cX8_leftIn 22 = .ok (.bipush 10, 2) := by decide +kernel
theorem dX8_leftIn_24 : decode cX8_leftIn 24 = .ok (.iload_n 1, 1) := by decide +kernel
theorem dX8_leftIn_25 : decode cX8_leftIn 25 = .ok (.invokevirtual 365, 3) := by decide +kernel
theorem dX8_leftIn_28 : decode cX8_leftIn 28 = .ok (.ireturn, 1) := by decide +kernel
set_option maxRecDepth 20000 in
theorem ggX8_failIn_X8_isStation : GoodIn wsX8_failIn wsX8_isStation := goodIn_r _ [5, 6, 7, 8, 4, 9, 153, 154, 155, 156, 157, 158, 159, 160, 161, 162, 163, 164, 165, 166, 167, 168, 169, 170, 171, 172, 173, 174, 175] (by decide +kernel) (by decide +kernel)
set_option maxRecDepth 20000 in
theorem gX8_failIn_X8_isStation : GoodIn wsX8_failIn (wsV RX8 243 RX8 yX8_isStation wsX8_isStation) := goodIn_app (goodIn_of _ (by decide +kernel)) ggX8_failIn_X8_isStation
set_option maxRecDepth 20000 in
theorem ggX8_failIn_X8_isThrown : GoodIn wsX8_failIn wsX8_isThrown := goodIn_r _ [13, 14, 153, 154, 155, 156, 157, 158, 159, 160, 161, 162, 163, 164, 165, 166, 167, 168, 169, 170, 171, 172, 173, 174, 175] (by decide +kernel) (by decide +kernel)
set_option maxRecDepth 20000 in
theorem gX8_failIn_X8_isThrown : GoodIn wsX8_failIn (wsV RX8 226 RX8 yX8_isThrown wsX8_isThrown) := goodIn_app (goodIn_of _ (by decide +kernel)) ggX8_failIn_X8_isThrown
set_option maxRecDepth 20000 in
theorem ggX8_failIn_X8_behind : GoodIn wsX8_failIn wsX8_behind := goodIn_r _ [18, 6, 19, 20, 21, 4, 22, 23, 24, 25, 26, 27, 28, 29, 30, 31, 32, 33, 34, 35, 36, 37, 38, 39, 40, 41, 42, 43, 44, 45, 46, 47, 48, 49, 50, 51, 52, 53, 54, 55, 56, 57, 58, 59, 60, 61, 62, 63, 64, 65, 66, 67, 68, 69, 70, 71, 72, 73, 74, 75, 76, 77, 78, 79, 80, 81, 82, 83, 84, 85, 86, 87, 88, 89, 90, 91, 92, 93, 94, 95, 96, 97, 98, 99, 100, 101, 102, 103, 104, 105, 106, 107, 108, 109, 110, 111, 112, 113, 114, 115, 116, 117, 118, 119, 120, 121, 122, 123, 124, 125, 126, 127, 128, 129, 130, 131, 132, 133, 134, 135, 136, 137, 138, 139, 140, 141, 142, 143, 144, 145, 146, 147, 148, 149, 150, 151, 152, 153, 154, 155, 156, 157, 158, 159, 160, 161, 162, 163, 164, 165, 166, 167, 168, 169, 170, 171, 172, 173, 174, 175] (by decide +kernel) (by decide +kernel)
set_option maxRecDepth 20000 in
theorem gX8_failIn_X8_behind : GoodIn wsX8_failIn (wsV RX8 362 RX8 yX8_behind wsX8_behind) := goodIn_app (goodIn_of _ (by decide +kernel)) ggX8_failIn_X8_behind
theorem dX8_failIn_0 : decode cX8_failIn 0 = .ok (.aload_n 0, 1) := by decide +kernel
theorem dX8_failIn_1 : decode cX8_failIn 1 = .ok (.aload_n 0, 1) := by decide +kernel
theorem dX8_failIn_2 : decode cX8_failIn 2 = .ok (.iload_n 1, 1) := by decide +kernel
theorem dX8_failIn_3 : decode cX8_failIn 3 = .ok (.invokevirtual 243, 3) := by decide +kernel
theorem dX8_failIn_6 : decode cX8_failIn 6 = .ok (.iconst 1, 1) := by decide +kernel
theorem dX8_failIn_7 : decode cX8_failIn 7 = .ok (.invokevirtual 226, 3) := by decide +kernel
theorem dX8_failIn_10 : decode cX8_failIn 10 = .ok (.ifCond .eq 7, 3) := by decide +kernel
theorem dX8_failIn_13 : decode cX8_failIn 13 = .ok (.iconst 0, 1) := by decide +kernel
theorem dX8_failIn_14 : decode cX8_failIn 14 = .ok (.goto 9, 3) := by decide +kernel
theorem dX8_failIn_17 : decode cX8_failIn 17 = .ok (.aload_n 0, 1) := by decide +kernel
theorem dX8_failIn_18 : decode cX8_failIn 18 = .ok (.iconst 3, 1) := by decide +kernel
theorem dX8_failIn_19 : decode cX8_failIn 19 = .ok (.iload_n 1, 1) := by decide +kernel
theorem dX8_failIn_20 : decode cX8_failIn 20 = .ok (.invokevirtual 362, 3) := by decide +kernel
theorem dX8_failIn_23 : decode cX8_failIn 23 = .ok (.ireturn, 1) := by decide +kernel
set_option maxRecDepth 20000 in
theorem ggX8_blanksIn_X8_in : GoodIn wsX8_blanksIn wsX8_in := goodIn_r _ [5] (by decide +kernel) (by decide +kernel)
set_option maxRecDepth 20000 in
theorem gX8_blanksIn_X8_in : GoodIn wsX8_blanksIn (va_wsS RX8 52 yX8_in wsX8_in) := goodIn_app (goodIn_of _ (by decide +kernel)) ggX8_blanksIn_X8_in
set_option maxRecDepth 20000 in
theorem ggX8_blanksIn_X8_isThrown : GoodIn wsX8_blanksIn wsX8_isThrown := goodIn_r _ [9, 10, 138, 139, 140, 141, 142, 143, 144, 145, 146, 147, 148, 149, 150, 151, 152, 153, 154, 155, 156, 157, 158, 159, 160] (by decide +kernel) (by decide +kernel)
set_option maxRecDepth 20000 in
theorem gX8_blanksIn_X8_isThrown : GoodIn wsX8_blanksIn (wsV RX8 226 RX8 yX8_isThrown wsX8_isThrown) := goodIn_app (goodIn_of _ (by decide +kernel)) ggX8_blanksIn_X8_isThrown
set_option maxRecDepth 20000 in
theorem ggX8_blanksIn_X8_then : GoodIn wsX8_blanksIn wsX8_then := goodIn_r _ [14, 15, 16, 17, 18, 4, 19, 20, 21, 22, 23, 24, 25, 26, 27, 28, 29, 30, 31, 32, 33, 34, 35, 36, 37, 38, 39, 40, 41, 42, 43, 44, 45, 46, 47, 48, 49, 50, 51, 52, 53, 54, 55, 56, 57, 58, 59, 60, 61, 62, 63, 64, 65, 66, 67, 68, 69, 70, 71, 72, 73, 74, 75, 76, 77, 78, 79, 80, 81, 82, 83, 84, 85, 86, 87, 88, 89, 90, 91, 92, 93, 94, 95, 96, 97, 98, 99, 100, 101, 102, 103, 104, 105, 106, 107, 108, 109, 110, 111, 112, 113, 114, 115, 116, 117, 118, 119, 120, 121, 122, 123, 124, 125, 126, 127, 128, 129, 130, 131, 132, 133, 134, 135, 136, 137, 138, 139, 140, 141, 142, 143, 144, 145, 146, 147, 148, 149, 150, 151, 152, 153, 154, 155, 156, 157, 158, 159, 160] (by decide +kernel) (by decide +kernel)
set_option maxRecDepth 20000 in
theorem gX8_blanksIn_X8_then : GoodIn wsX8_blanksIn (wsV RX8 365 RX8 yX8_then wsX8_then) := goodIn_app (goodIn_of _ (by decide +kernel)) ggX8_blanksIn_X8_then
theorem dX8_blanksIn_0 : decode cX8_blanksIn 0 = .ok (.aload_n 0, 1) := by decide +kernel
theorem dX8_blanksIn_1 : decode cX8_blanksIn 1 = .ok (.iload_n 1, 1) := by decide +kernel
theorem dX8_blanksIn_2 : decode cX8_blanksIn 2 = .ok (.i2l, 1) := by decide +kernel
theorem dX8_blanksIn_3 : decode cX8_blanksIn 3 = .ok (.lconst 1, 1) := by decide +kernel
theorem dX8_blanksIn_4 : decode cX8_blanksIn 4 = .ok (.ldc2_w 347, 3) := by decide +kernel
theorem dX8_blanksIn_7 : decode cX8_blanksIn 7 = .ok (.invokestatic 52, 3) := by decide +kernel
theorem dX8_blanksIn_10 : decode cX8_blanksIn 10 = .ok (.iconst 1, 1) := by decide +kernel
theorem dX8_blanksIn_11 : decode cX8_blanksIn 11 = .ok (.invokevirtual 226, 3) := by decide +kernel
theorem dX8_blanksIn_14 : decode cX8_blanksIn 14 = .ok (.ifCond .eq 7, 3) := by decide +kernel
theorem dX8_blanksIn_17 : decode cX8_blanksIn 17 = .ok (.iconst 0, 1) := by decide +kernel
theorem dX8_blanksIn_18 : decode cX8_blanksIn 18 = .ok (.goto 9, 3) := by decide +kernel
theorem dX8_blanksIn_21 : decode cX8_blanksIn 21 = .ok (.aload_n 0, 1) := by decide +kernel
theorem dX8_blanksIn_22 : decode cX8_blanksIn 22 = .ok (.iconst 5, 1) := by decide +kernel
theorem dX8_blanksIn_23 : decode cX8_blanksIn 23 = .ok (.iload_n 1, 1) := by decide +kernel
theorem dX8_blanksIn_24 : decode cX8_blanksIn 24 = .ok (.invokevirtual 365, 3) := by decide +kernel
theorem dX8_blanksIn_27 : decode cX8_blanksIn 27 = .ok (.ireturn, 1) := by decide +kernel
set_option maxRecDepth 20000 in
theorem ggX8_restIn_X8_isStation : GoodIn wsX8_restIn wsX8_isStation := goodIn_r _ [5, 6, 7, 8, 4, 9, 153, 154, 155, 156, 157, 158, 159, 160, 161, 162, 163, 164, 165, 166, 167, 168, 169, 170, 171, 172, 173, 174, 175] (by decide +kernel) (by decide +kernel)
set_option maxRecDepth 20000 in
theorem gX8_restIn_X8_isStation : GoodIn wsX8_restIn (wsV RX8 243 RX8 yX8_isStation wsX8_isStation) := goodIn_app (goodIn_of _ (by decide +kernel)) ggX8_restIn_X8_isStation
set_option maxRecDepth 20000 in
theorem ggX8_restIn_X8_isThrown : GoodIn wsX8_restIn wsX8_isThrown := goodIn_r _ [13, 14, 153, 154, 155, 156, 157, 158, 159, 160, 161, 162, 163, 164, 165, 166, 167, 168, 169, 170, 171, 172, 173, 174, 175] (by decide +kernel) (by decide +kernel)
set_option maxRecDepth 20000 in
theorem gX8_restIn_X8_isThrown : GoodIn wsX8_restIn (wsV RX8 226 RX8 yX8_isThrown wsX8_isThrown) := goodIn_app (goodIn_of _ (by decide +kernel)) ggX8_restIn_X8_isThrown
set_option maxRecDepth 20000 in
theorem ggX8_restIn_X8_behind : GoodIn wsX8_restIn wsX8_behind := goodIn_r _ [18, 6, 19, 20, 21, 4, 22, 23, 24, 25, 26, 27, 28, 29, 30, 31, 32, 33, 34, 35, 36, 37, 38, 39, 40, 41, 42, 43, 44, 45, 46, 47, 48, 49, 50, 51, 52, 53, 54, 55, 56, 57, 58, 59, 60, 61, 62, 63, 64, 65, 66, 67, 68, 69, 70, 71, 72, 73, 74, 75, 76, 77, 78, 79, 80, 81, 82, 83, 84, 85, 86, 87, 88, 89, 90, 91, 92, 93, 94, 95, 96, 97, 98, 99, 100, 101, 102, 103, 104, 105, 106, 107, 108, 109, 110, 111, 112, 113, 114, 115, 116, 117, 118, 119, 120, 121, 122, 123, 124, 125, 126, 127, 128, 129, 130, 131, 132, 133, 134, 135, 136, 137, 138, 139, 140, 141, 142, 143, 144, 145, 146, 147, 148, 149, 150, 151, 152, 153, 154, 155, 156, 157, 158, 159, 160, 161, 162, 163, 164, 165, 166, 167, 168, 169, 170, 171, 172, 173, 174, 175] (by decide +kernel) (by decide +kernel)
set_option maxRecDepth 20000 in
theorem gX8_restIn_X8_behind : GoodIn wsX8_restIn (wsV RX8 362 RX8 yX8_behind wsX8_behind) := goodIn_app (goodIn_of _ (by decide +kernel)) ggX8_restIn_X8_behind
theorem dX8_restIn_0 : decode cX8_restIn 0 = .ok (.aload_n 0, 1) := by decide +kernel
theorem dX8_restIn_1 : decode cX8_restIn 1 = .ok (.aload_n 0, 1) := by decide +kernel
theorem dX8_restIn_2 : decode cX8_restIn 2 = .ok (.iload_n 1, 1) := by decide +kernel
theorem dX8_restIn_3 : decode cX8_restIn 3 = .ok (.invokevirtual 243, 3) := by decide +kernel
theorem dX8_restIn_6 : decode cX8_restIn 6 = .ok (.iconst 1, 1) := by decide +kernel
theorem dX8_restIn_7 : decode cX8_restIn 7 = .ok (.invokevirtual 226, 3) := by decide +kernel
theorem dX8_restIn_10 : decode cX8_restIn 10 = .ok (.ifCond .eq 7, 3) := by decide +kernel
theorem dX8_restIn_13 : decode cX8_restIn 13 = .ok (.iconst 0, 1) := by decide +kernel
theorem dX8_restIn_14 : decode cX8_restIn 14 = .ok (.goto 9, 3) := by decide +kernel
theorem dX8_restIn_17 : decode cX8_restIn 17 = .ok (.aload_n 0, 1) := by decide +kernel
theorem dX8_restIn_18 : decode cX8_restIn 18 = .ok (.iconst 4, 1) := by decide +kernel
theorem dX8_restIn_19 : decode cX8_restIn 19 = .ok (.iload_n 1, 1) := by decide +kernel
theorem dX8_restIn_20 : decode cX8_restIn 20 = .ok (.invokevirtual 362, 3) := by decide +kernel
theorem dX8_restIn_23 : decode cX8_restIn 23 = .ok (.ireturn, 1) := by decide +kernel
set_option maxRecDepth 20000 in
theorem ggX8_lotBy_X8_in : GoodIn wsX8_lotBy wsX8_in := goodIn_r _ [7] (by decide +kernel) (by decide +kernel)
set_option maxRecDepth 20000 in
theorem gX8_lotBy_X8_in : GoodIn wsX8_lotBy (va_wsS RX8 52 yX8_in wsX8_in) := goodIn_app (goodIn_of _ (by decide +kernel)) ggX8_lotBy_X8_in
set_option maxRecDepth 20000 in
theorem ggX8_lotBy_X8_behind : GoodIn wsX8_lotBy wsX8_behind := goodIn_r _ [11, 2, 12, 13, 14, 6, 15, 16, 17, 18, 19, 20, 21, 22, 23, 24, 25, 26, 27, 28, 29, 30, 31, 32, 33, 34, 35, 36, 37, 38, 39, 40, 41, 42, 43, 44, 45, 46, 47, 48, 49, 50, 51, 52, 53, 54, 55, 56, 57, 58, 59, 60, 61, 62, 63, 64, 65, 66, 67, 68, 69, 70, 71, 72, 73, 74, 75, 76, 77, 78, 79, 80, 81, 82, 83, 84, 85, 86, 87, 88, 89, 90, 91, 92, 93, 94, 95, 96, 97, 98, 99, 100, 101, 102, 103, 104, 105, 106, 107, 108, 109, 110, 111, 112, 113, 114, 115, 116, 117, 118, 119, 120, 121, 122, 123, 124, 125, 126, 127, 128, 129, 130, 131, 132, 133, 134, 135, 136, 137, 138, 139, 140, 141, 142, 143, 144, 145, 146, 147, 148, 149, 150, 151, 152, 153, 154, 155, 156, 157, 158, 159, 160, 161, 162, 163, 164, 165, 166, 167, 168] (by decide +kernel) (by decide +kernel)
set_option maxRecDepth 20000 in
theorem gX8_lotBy_X8_behind : GoodIn wsX8_lotBy (wsV RX8 362 RX8 yX8_behind wsX8_behind) := goodIn_app (goodIn_of _ (by decide +kernel)) ggX8_lotBy_X8_behind
theorem dX8_lotBy_0 : decode cX8_lotBy 0 = .ok (.aload_n 0, 1) := by decide +kernel
theorem dX8_lotBy_1 : decode cX8_lotBy 1 = .ok (.iconst 0, 1) := by decide +kernel
theorem dX8_lotBy_2 : decode cX8_lotBy 2 = .ok (.putfield 49, 3) := by decide +kernel
theorem dX8_lotBy_5 : decode cX8_lotBy 5 = .ok (.iload_n 1, 1) := by decide +kernel
theorem dX8_lotBy_6 : decode cX8_lotBy 6 = .ok (.i2l, 1) := by decide +kernel
theorem dX8_lotBy_7 : decode cX8_lotBy 7 = .ok (.lconst 0, 1) := by decide +kernel
theorem dX8_lotBy_8 : decode cX8_lotBy 8 = .ok (.aload_n 0, 1) := by decide +kernel
theorem dX8_lotBy_9 : decode cX8_lotBy 9 = .ok (.getfield 9, 3) := by decide +kernel
theorem dX8_lotBy_12 : decode cX8_lotBy 12 = .ok (.bipush 8, 2) := by decide +kernel
theorem dX8_lotBy_14 : decode cX8_lotBy 14 = .ok (.iaload, 1) := by decide +kernel
theorem dX8_lotBy_15 : decode cX8_lotBy 15 = .ok (.iconst 1, 1) := by decide +kernel
theorem dX8_lotBy_16 : decode cX8_lotBy 16 = .ok (.isub, 1) := by decide +kernel
theorem dX8_lotBy_17 : decode cX8_lotBy 17 = .ok (.i2l, 1) := by decide +kernel
theorem dX8_lotBy_18 : decode cX8_lotBy 18 = .ok (.invokestatic 52, 3) := by decide +kernel
theorem dX8_lotBy_21 : decode cX8_lotBy 21 = .ok (.ifCond .ne 5, 3) := by decide +kernel
theorem dX8_lotBy_24 : decode cX8_lotBy 24 = .ok (.iconst (-1), 1) := by decide +kernel
theorem dX8_lotBy_25 : decode cX8_lotBy 25 = .ok (.ireturn, 1) := by decide +kernel
theorem dX8_lotBy_26 : decode cX8_lotBy 26 = .ok (.iconst 0, 1) := by decide +kernel
theorem dX8_lotBy_27 : decode cX8_lotBy 27 = .ok (.istore_n 2, 1) := by decide +kernel
theorem dX8_lotBy_28 : decode cX8_lotBy 28 = .ok (.iload_n 2, 1) := by decide +kernel
theorem dX8_lotBy_29 : decode cX8_lotBy 29 = .ok (.aload_n 0, 1) := by decide +kernel
theorem dX8_lotBy_30 : decode cX8_lotBy 30 = .ok (.getfield 9, 3) := by decide +kernel
theorem dX8_lotBy_33 : decode cX8_lotBy 33 = .ok (.bipush 8, 2) := by decide +kernel
theorem dX8_lotBy_35 : decode cX8_lotBy 35 = .ok (.iaload, 1) := by decide +kernel
theorem dX8_lotBy_36 : decode cX8_lotBy 36 = .ok (.if_icmp .ge 34, 3) := by decide +kernel
theorem dX8_lotBy_39 : decode cX8_lotBy 39 = .ok (.aload_n 0, 1) := by decide +kernel
theorem dX8_lotBy_40 : decode cX8_lotBy 40 = .ok (.iconst 1, 1) := by decide +kernel
theorem dX8_lotBy_41 : decode cX8_lotBy 41 = .ok (.iload_n 2, 1) := by decide +kernel
theorem dX8_lotBy_42 : decode cX8_lotBy 42 = .ok (.invokevirtual 362, 3) := by decide +kernel
theorem dX8_lotBy_45 : decode cX8_lotBy 45 = .ok (.istore_n 3, 1) := by decide +kernel
theorem dX8_lotBy_46 : decode cX8_lotBy 46 = .ok (.aload_n 0, 1) := by decide +kernel
theorem dX8_lotBy_47 : decode cX8_lotBy 47 = .ok (.getfield 40, 3) := by decide +kernel
theorem dX8_lotBy_50 : decode cX8_lotBy 50 = .ok (.iload_n 2, 1) := by decide +kernel
theorem dX8_lotBy_51 : decode cX8_lotBy 51 = .ok (.iload_n 3, 1) := by decide +kernel
theorem dX8_lotBy_52 : decode cX8_lotBy 52 = .ok (.iconst (-1), 1) := by decide +kernel
theorem dX8_lotBy_53 : decode cX8_lotBy 53 = .ok (.if_icmp .ne 9, 3) := by decide +kernel
theorem dX8_lotBy_56 : decode cX8_lotBy 56 = .ok (.sipush 2001, 3) := by decide +kernel
theorem dX8_lotBy_59 : decode cX8_lotBy 59 = .ok (.goto 4, 3) := by decide +kernel
theorem dX8_lotBy_62 : decode cX8_lotBy 62 = .ok (.iload_n 3, 1) := by decide +kernel
theorem dX8_lotBy_63 : decode cX8_lotBy 63 = .ok (.iastore, 1) := by decide +kernel
theorem dX8_lotBy_64 : decode cX8_lotBy 64 = .ok (.iinc 2 1, 3) := by decide +kernel
theorem dX8_lotBy_67 : decode cX8_lotBy 67 = .ok (.goto (-39), 3) := by decide +kernel
theorem dX8_lotBy_70 : decode cX8_lotBy 70 = .ok (.iconst 0, 1) := by decide +kernel
theorem dX8_lotBy_71 : decode cX8_lotBy 71 = .ok (.istore_n 2, 1) := by decide +kernel
theorem dX8_lotBy_72 : decode cX8_lotBy 72 = .ok (.iload_n 2, 1) := by decide +kernel
theorem dX8_lotBy_73 : decode cX8_lotBy 73 = .ok (.aload_n 0, 1) := by decide +kernel
theorem dX8_lotBy_74 : decode cX8_lotBy 74 = .ok (.getfield 9, 3) := by decide +kernel
theorem dX8_lotBy_77 : decode cX8_lotBy 77 = .ok (.bipush 8, 2) := by decide +kernel
theorem dX8_lotBy_79 : decode cX8_lotBy 79 = .ok (.iaload, 1) := by decide +kernel
theorem dX8_lotBy_80 : decode cX8_lotBy 80 = .ok (.if_icmp .ge 85, 3) := by decide +kernel
theorem dX8_lotBy_83 : decode cX8_lotBy 83 = .ok (.iconst 0, 1) := by decide +kernel
theorem dX8_lotBy_84 : decode cX8_lotBy 84 = .ok (.istore_n 3, 1) := by decide +kernel
theorem dX8_lotBy_85 : decode cX8_lotBy 85 = .ok (.iconst 0, 1) := by decide +kernel
theorem dX8_lotBy_86 : decode cX8_lotBy 86 = .ok (.istore 4, 2) := by decide +kernel
theorem dX8_lotBy_88 : decode cX8_lotBy 88 = .ok (.iload 4, 2) := by decide +kernel
theorem dX8_lotBy_90 : decode cX8_lotBy 90 = .ok (.aload_n 0, 1) := by decide +kernel
theorem dX8_lotBy_91 : decode cX8_lotBy 91 = .ok (.getfield 9, 3) := by decide +kernel
theorem dX8_lotBy_94 : decode cX8_lotBy 94 = .ok (.bipush 8, 2) := by decide +kernel
theorem dX8_lotBy_96 : decode cX8_lotBy 96 = .ok (.iaload, 1) := by decide +kernel
theorem dX8_lotBy_97 : decode cX8_lotBy 97 = .ok (.if_icmp .ge 55, 3) := by decide +kernel
theorem dX8_lotBy_100 : decode cX8_lotBy 100 = .ok (.iload_n 3, 1) := by decide +kernel
theorem dX8_lotBy_101 : decode cX8_lotBy 101 = .ok (.aload_n 0, 1) := by decide +kernel
theorem dX8_lotBy_102 : decode cX8_lotBy 102 = .ok (.getfield 40, 3) := by decide +kernel
theorem dX8_lotBy_105 : decode cX8_lotBy 105 = .ok (.iload 4, 2) := by decide +kernel
theorem dX8_lotBy_107 : decode cX8_lotBy 107 = .ok (.iaload, 1) := by decide +kernel
theorem dX8_lotBy_108 : decode cX8_lotBy 108 = .ok (.aload_n 0, 1) := by decide +kernel
theorem dX8_lotBy_109 : decode cX8_lotBy 109 = .ok (.getfield 40, 3) := by decide +kernel
theorem dX8_lotBy_112 : decode cX8_lotBy 112 = .ok (.iload_n 2, 1) := by decide +kernel
theorem dX8_lotBy_113 : decode cX8_lotBy 113 = .ok (.iaload, 1) := by decide +kernel
theorem dX8_lotBy_114 : decode cX8_lotBy 114 = .ok (.if_icmp .lt 25, 3) := by decide +kernel
theorem dX8_lotBy_117 : decode cX8_lotBy 117 = .ok (.aload_n 0, 1) := by decide +kernel
theorem dX8_lotBy_118 : decode cX8_lotBy 118 = .ok (.getfield 40, 3) := by decide +kernel
theorem dX8_lotBy_121 : decode cX8_lotBy 121 = .ok (.iload 4, 2) := by decide +kernel
theorem dX8_lotBy_123 : decode cX8_lotBy 123 = .ok (.iaload, 1) := by decide +kernel
theorem dX8_lotBy_124 : decode cX8_lotBy 124 = .ok (.aload_n 0, 1) := by decide +kernel
theorem dX8_lotBy_125 : decode cX8_lotBy 125 = .ok (.getfield 40, 3) := by decide +kernel
theorem dX8_lotBy_128 : decode cX8_lotBy 128 = .ok (.iload_n 2, 1) := by decide +kernel
theorem dX8_lotBy_129 : decode cX8_lotBy 129 = .ok (.iaload, 1) := by decide +kernel
theorem dX8_lotBy_130 : decode cX8_lotBy 130 = .ok (.if_icmp .ne 13, 3) := by decide +kernel
theorem dX8_lotBy_133 : decode cX8_lotBy 133 = .ok (.iload 4, 2) := by decide +kernel
theorem dX8_lotBy_135 : decode cX8_lotBy 135 = .ok (.iload_n 2, 1) := by decide +kernel
theorem dX8_lotBy_136 : decode cX8_lotBy 136 = .ok (.if_icmp .ge 7, 3) := by decide +kernel
theorem dX8_lotBy_139 : decode cX8_lotBy 139 = .ok (.iconst 1, 1) := by decide +kernel
theorem dX8_lotBy_140 : decode cX8_lotBy 140 = .ok (.goto 4, 3) := by decide +kernel
theorem dX8_lotBy_143 : decode cX8_lotBy 143 = .ok (.iconst 0, 1) := by decide +kernel
theorem dX8_lotBy_144 : decode cX8_lotBy 144 = .ok (.iadd, 1) := by decide +kernel
theorem dX8_lotBy_145 : decode cX8_lotBy 145 = .ok (.istore_n 3, 1) := by decide +kernel
theorem dX8_lotBy_146 : decode cX8_lotBy 146 = .ok (.iinc 4 1, 3) := by decide +kernel
theorem dX8_lotBy_149 : decode cX8_lotBy 149 = .ok (.goto (-61), 3) := by decide +kernel
theorem dX8_lotBy_152 : decode cX8_lotBy 152 = .ok (.iload_n 3, 1) := by decide +kernel
theorem dX8_lotBy_153 : decode cX8_lotBy 153 = .ok (.iload_n 1, 1) := by decide +kernel
theorem dX8_lotBy_154 : decode cX8_lotBy 154 = .ok (.if_icmp .ne 5, 3) := by decide +kernel
theorem dX8_lotBy_157 : decode cX8_lotBy 157 = .ok (.iload_n 2, 1) := by decide +kernel
theorem dX8_lotBy_158 : decode cX8_lotBy 158 = .ok (.ireturn, 1) := by decide +kernel
theorem dX8_lotBy_159 : decode cX8_lotBy 159 = .ok (.iinc 2 1, 3) := by decide +kernel
theorem dX8_lotBy_162 : decode cX8_lotBy 162 = .ok (.goto (-90), 3) := by decide +kernel
theorem dX8_lotBy_165 : decode cX8_lotBy 165 = .ok (.iconst (-1), 1) := by decide +kernel
theorem dX8_lotBy_166 : decode cX8_lotBy 166 = .ok (.ireturn, 1) := by decide +kernel
set_option maxRecDepth 20000 in
theorem ggX8_bestOf_X8_copies : GoodIn wsX8_bestOf wsX8_copies := goodIn_r _ [6] (by decide +kernel) (by decide +kernel)
set_option maxRecDepth 20000 in
theorem gX8_bestOf_X8_copies : GoodIn wsX8_bestOf (va_wsS RX8 204 yX8_copies wsX8_copies) := goodIn_app (goodIn_of _ (by decide +kernel)) ggX8_bestOf_X8_copies
set_option maxRecDepth 20000 in
theorem ggX8_bestOf_X8_goes : GoodIn wsX8_bestOf wsX8_goes := goodIn_r _ [10, 11, 12, 13, 5, 14, 1, 15, 16, 17, 18, 19, 20, 21, 22, 23, 24, 25, 26, 27, 28, 29, 30, 31, 32, 33, 34, 35, 36, 37, 38, 39, 40, 41, 42, 43, 44, 45, 46, 47, 48, 49, 50, 51, 52, 53, 54, 55, 56, 57, 58, 59, 60, 61, 62, 63, 64, 65, 66, 67, 68, 69, 70, 71, 72, 73, 74, 75, 76, 77, 78, 79, 80, 81, 82, 83, 84, 85, 86, 87, 88, 89, 90, 91, 92, 93, 94, 95, 96, 97, 98, 99, 100, 101, 102, 103, 104, 105, 106, 107, 108, 109, 110, 111, 112, 113, 114, 115, 116, 117, 118, 119, 120, 121, 122, 123, 124, 125, 126, 127, 128, 129, 130, 131, 132, 133, 134, 135, 136, 137, 138, 139, 140, 141, 142, 143, 144, 145, 146, 147, 148, 149, 150, 151, 152, 153, 154, 155, 156, 157, 158, 159] (by decide +kernel) (by decide +kernel)
set_option maxRecDepth 20000 in
theorem gX8_bestOf_X8_goes : GoodIn wsX8_bestOf (wsV RX8 359 RX8 yX8_goes wsX8_goes) := goodIn_app (goodIn_of _ (by decide +kernel)) ggX8_bestOf_X8_goes
theorem dX8_bestOf_0 : decode cX8_bestOf 0 = .ok (.aload_n 0, 1) := by decide +kernel
theorem dX8_bestOf_1 : decode cX8_bestOf 1 = .ok (.getfield 9, 3) := by decide +kernel
theorem dX8_bestOf_4 : decode cX8_bestOf 4 = .ok (.iconst 0, 1) := by decide +kernel
theorem dX8_bestOf_5 : decode cX8_bestOf 5 = .ok (.aload_n 0, 1) := by decide +kernel
theorem dX8_bestOf_6 : decode cX8_bestOf 6 = .ok (.getfield 13, 3) := by decide +kernel
theorem dX8_bestOf_9 : decode cX8_bestOf 9 = .ok (.iconst 0, 1) := by decide +kernel
theorem dX8_bestOf_10 : decode cX8_bestOf 10 = .ok (.invokestatic 204, 3) := by decide +kernel
theorem dX8_bestOf_13 : decode cX8_bestOf 13 = .ok (.iconst (-1), 1) := by decide +kernel
theorem dX8_bestOf_14 : decode cX8_bestOf 14 = .ok (.istore 6, 2) := by decide +kernel
theorem dX8_bestOf_16 : decode cX8_bestOf 16 = .ok (.sipush 2001, 3) := by decide +kernel
theorem dX8_bestOf_19 : decode cX8_bestOf 19 = .ok (.istore 7, 2) := by decide +kernel
theorem dX8_bestOf_21 : decode cX8_bestOf 21 = .ok (.iload_n 2, 1) := by decide +kernel
theorem dX8_bestOf_22 : decode cX8_bestOf 22 = .ok (.istore 8, 2) := by decide +kernel
theorem dX8_bestOf_24 : decode cX8_bestOf 24 = .ok (.iload 8, 2) := by decide +kernel
theorem dX8_bestOf_26 : decode cX8_bestOf 26 = .ok (.iload_n 3, 1) := by decide +kernel
theorem dX8_bestOf_27 : decode cX8_bestOf 27 = .ok (.if_icmp .gt 61, 3) := by decide +kernel
theorem dX8_bestOf_30 : decode cX8_bestOf 30 = .ok (.aload_n 0, 1) := by decide +kernel
theorem dX8_bestOf_31 : decode cX8_bestOf 31 = .ok (.getfield 9, 3) := by decide +kernel
theorem dX8_bestOf_34 : decode cX8_bestOf 34 = .ok (.iload_n 1, 1) := by decide +kernel
theorem dX8_bestOf_35 : decode cX8_bestOf 35 = .ok (.iload 8, 2) := by decide +kernel
theorem dX8_bestOf_37 : decode cX8_bestOf 37 = .ok (.iastore, 1) := by decide +kernel
theorem dX8_bestOf_38 : decode cX8_bestOf 38 = .ok (.aload_n 0, 1) := by decide +kernel
theorem dX8_bestOf_39 : decode cX8_bestOf 39 = .ok (.iload 4, 2) := by decide +kernel
theorem dX8_bestOf_41 : decode cX8_bestOf 41 = .ok (.iload 5, 2) := by decide +kernel
theorem dX8_bestOf_43 : decode cX8_bestOf 43 = .ok (.invokevirtual 359, 3) := by decide +kernel
theorem dX8_bestOf_46 : decode cX8_bestOf 46 = .ok (.istore 9, 2) := by decide +kernel
theorem dX8_bestOf_48 : decode cX8_bestOf 48 = .ok (.iload 9, 2) := by decide +kernel
theorem dX8_bestOf_50 : decode cX8_bestOf 50 = .ok (.iconst (-1), 1) := by decide +kernel
theorem dX8_bestOf_51 : decode cX8_bestOf 51 = .ok (.if_icmp .eq 18, 3) := by decide +kernel
theorem dX8_bestOf_54 : decode cX8_bestOf 54 = .ok (.iload 9, 2) := by decide +kernel
theorem dX8_bestOf_56 : decode cX8_bestOf 56 = .ok (.iload 7, 2) := by decide +kernel
theorem dX8_bestOf_58 : decode cX8_bestOf 58 = .ok (.if_icmp .ge 11, 3) := by decide +kernel
theorem dX8_bestOf_61 : decode cX8_bestOf 61 = .ok (.iload 8, 2) := by decide +kernel
theorem dX8_bestOf_63 : decode cX8_bestOf 63 = .ok (.istore 6, 2) := by decide +kernel
theorem dX8_bestOf_65 : decode cX8_bestOf 65 = .ok (.iload 9, 2) := by decide +kernel
theorem dX8_bestOf_67 : decode cX8_bestOf 67 = .ok (.istore 7, 2) := by decide +kernel
theorem dX8_bestOf_69 : decode cX8_bestOf 69 = .ok (.aload_n 0, 1) := by decide +kernel
theorem dX8_bestOf_70 : decode cX8_bestOf 70 = .ok (.getfield 13, 3) := by decide +kernel
theorem dX8_bestOf_73 : decode cX8_bestOf 73 = .ok (.iconst 0, 1) := by decide +kernel
theorem dX8_bestOf_74 : decode cX8_bestOf 74 = .ok (.aload_n 0, 1) := by decide +kernel
theorem dX8_bestOf_75 : decode cX8_bestOf 75 = .ok (.getfield 9, 3) := by decide +kernel
theorem dX8_bestOf_78 : decode cX8_bestOf 78 = .ok (.iconst 0, 1) := by decide +kernel
theorem dX8_bestOf_79 : decode cX8_bestOf 79 = .ok (.invokestatic 204, 3) := by decide +kernel
theorem dX8_bestOf_82 : decode cX8_bestOf 82 = .ok (.iinc 8 1, 3) := by decide +kernel
theorem dX8_bestOf_85 : decode cX8_bestOf 85 = .ok (.goto (-61), 3) := by decide +kernel
theorem dX8_bestOf_88 : decode cX8_bestOf 88 = .ok (.iload 6, 2) := by decide +kernel
theorem dX8_bestOf_90 : decode cX8_bestOf 90 = .ok (.ireturn, 1) := by decide +kernel
set_option maxRecDepth 20000 in
theorem ggX8_bestRank_X8_isLot : GoodIn wsX8_bestRank wsX8_isLot := goodIn_r _ [5, 6, 7, 8, 4, 9, 153, 154, 155, 156, 157, 158, 159, 160, 161, 162, 163, 164, 165, 166, 167, 168, 169, 170, 171, 172, 173, 174, 175] (by decide +kernel) (by decide +kernel)
set_option maxRecDepth 20000 in
theorem gX8_bestRank_X8_isLot : GoodIn wsX8_bestRank (wsV RX8 222 RX8 yX8_isLot wsX8_isLot) := goodIn_app (goodIn_of _ (by decide +kernel)) ggX8_bestRank_X8_isLot
set_option maxRecDepth 20000 in
theorem ggX8_bestRank_X8_isThrown : GoodIn wsX8_bestRank wsX8_isThrown := goodIn_r _ [13, 14, 153, 154, 155, 156, 157, 158, 159, 160, 161, 162, 163, 164, 165, 166, 167, 168, 169, 170, 171, 172, 173, 174, 175] (by decide +kernel) (by decide +kernel)
set_option maxRecDepth 20000 in
theorem gX8_bestRank_X8_isThrown : GoodIn wsX8_bestRank (wsV RX8 226 RX8 yX8_isThrown wsX8_isThrown) := goodIn_app (goodIn_of _ (by decide +kernel)) ggX8_bestRank_X8_isThrown
set_option maxRecDepth 20000 in
theorem ggX8_bestRank_X8_bestOf : GoodIn wsX8_bestRank wsX8_bestOf := goodIn_r _ [18, 6, 19, 20, 21, 4, 22, 23, 24, 25, 26, 27, 28, 29, 30, 31, 32, 33, 34, 35, 36, 37, 38, 39, 40, 41, 42, 43, 44, 45, 46, 47, 48, 49, 50, 51, 52, 53, 54, 55, 56, 57, 58, 59, 60, 61, 62, 63, 64, 65, 66, 67, 68, 69, 70, 71, 72, 73, 74, 75, 76, 77, 78, 79, 80, 81, 82, 83, 84, 85, 86, 87, 88, 89, 90, 91, 92, 93, 94, 95, 96, 97, 98, 99, 100, 101, 102, 103, 104, 105, 106, 107, 108, 109, 110, 111, 112, 113, 114, 115, 116, 117, 118, 119, 120, 121, 122, 123, 124, 125, 126, 127, 128, 129, 130, 131, 132, 133, 134, 135, 136, 137, 138, 139, 140, 141, 142, 143, 144, 145, 146, 147, 148, 149, 150, 151, 152, 153, 154, 155, 156, 157, 158, 159, 160, 161, 162, 163, 164, 165, 166, 167, 168, 169, 170, 171, 172, 173, 174, 175] (by decide +kernel) (by decide +kernel)
set_option maxRecDepth 20000 in
theorem gX8_bestRank_X8_bestOf : GoodIn wsX8_bestRank (wsV RX8 368 RX8 yX8_bestOf wsX8_bestOf) := goodIn_app (goodIn_of _ (by decide +kernel)) ggX8_bestRank_X8_bestOf
theorem dX8_bestRank_0 : decode cX8_bestRank 0 = .ok (.aload_n 0, 1) := by decide +kernel
theorem dX8_bestRank_1 : decode cX8_bestRank 1 = .ok (.aload_n 0, 1) := by decide +kernel
theorem dX8_bestRank_2 : decode cX8_bestRank 2 = .ok (.iload_n 1, 1) := by decide +kernel
theorem dX8_bestRank_3 : decode cX8_bestRank 3 = .ok (.invokevirtual 222, 3) := by decide +kernel
theorem dX8_bestRank_6 : decode cX8_bestRank 6 = .ok (.iconst 1, 1) := by decide +kernel
theorem dX8_bestRank_7 : decode cX8_bestRank 7 = .ok (.invokevirtual 226, 3) := by decide +kernel
theorem dX8_bestRank_10 : decode cX8_bestRank 10 = .ok (.ifCond .eq 7, 3) := by decide +kernel
theorem dX8_bestRank_13 : decode cX8_bestRank 13 = .ok (.iconst 0, 1) := by decide +kernel
theorem dX8_bestRank_14 : decode cX8_bestRank 14 = .ok (.goto 20, 3) := by decide +kernel
theorem dX8_bestRank_17 : decode cX8_bestRank 17 = .ok (.aload_n 0, 1) := by decide +kernel
theorem dX8_bestRank_18 : decode cX8_bestRank 18 = .ok (.bipush 113, 2) := by decide +kernel
theorem dX8_bestRank_20 : decode cX8_bestRank 20 = .ok (.iconst 4, 1) := by decide +kernel
theorem dX8_bestRank_21 : decode cX8_bestRank 21 = .ok (.iload_n 1, 1) := by decide +kernel
theorem dX8_bestRank_22 : decode cX8_bestRank 22 = .ok (.imul, 1) := by decide +kernel
theorem dX8_bestRank_23 : decode cX8_bestRank 23 = .ok (.iadd, 1) := by decide +kernel
theorem dX8_bestRank_24 : decode cX8_bestRank 24 = .ok (.iconst 0, 1) := by decide +kernel
theorem dX8_bestRank_25 : decode cX8_bestRank 25 = .ok (.iadd, 1) := by decide +kernel
theorem dX8_bestRank_26 : decode cX8_bestRank 26 = .ok (.iconst 0, 1) := by decide +kernel
theorem dX8_bestRank_27 : decode cX8_bestRank 27 = .ok (.bipush 9, 2) := by decide +kernel
theorem dX8_bestRank_29 : decode cX8_bestRank 29 = .ok (.iconst 1, 1) := by decide +kernel
theorem dX8_bestRank_30 : decode cX8_bestRank 30 = .ok (.iload_n 1, 1) := by decide +kernel
theorem dX8_bestRank_31 : decode cX8_bestRank 31 = .ok (.invokevirtual 368, 3) := by decide +kernel
theorem dX8_bestRank_34 : decode cX8_bestRank 34 = .ok (.ireturn, 1) := by decide +kernel
set_option maxRecDepth 20000 in
theorem ggX8_bestTray_X8_bestOf : GoodIn wsX8_bestTray wsX8_bestOf := goodIn_r _ [6, 7, 8, 9, 10, 5, 11, 12, 13, 14, 15, 16, 17, 18, 19, 20, 21, 22, 23, 24, 25, 26, 27, 28, 29, 30, 31, 32, 33, 34, 35, 36, 37, 38, 39, 40, 41, 42, 43, 44, 45, 46, 47, 48, 49, 50, 51, 52, 53, 54, 55, 56, 57, 58, 59, 60, 61, 62, 63, 64, 65, 66, 67, 68, 69, 70, 71, 72, 73, 74, 75, 76, 77, 78, 79, 80, 81, 82, 83, 84, 85, 86, 87, 88, 89, 90, 91, 92, 93, 94, 95, 96, 97, 98, 99, 100, 101, 102, 103, 104, 105, 106, 107, 108, 109, 110, 111, 112, 113, 114, 115, 116, 117, 118, 119, 120, 121, 122, 123, 124, 125, 126, 127, 128, 129, 130, 131, 132, 133, 134, 135, 136, 137, 138, 139, 140, 141, 142, 143, 144, 145, 146, 147, 148, 149, 150, 151, 152, 153, 154, 155, 156, 157, 158, 159, 160, 161, 162, 163, 164] (by decide +kernel) (by decide +kernel)
set_option maxRecDepth 20000 in
theorem gX8_bestTray_X8_bestOf : GoodIn wsX8_bestTray (wsV RX8 368 RX8 yX8_bestOf wsX8_bestOf) := goodIn_app (goodIn_of _ (by decide +kernel)) ggX8_bestTray_X8_bestOf
theorem dX8_bestTray_0 : decode cX8_bestTray 0 = .ok (.aload_n 0, 1) := by decide +kernel
theorem dX8_bestTray_1 : decode cX8_bestTray 1 = .ok (.iconst 0, 1) := by decide +kernel
theorem dX8_bestTray_2 : decode cX8_bestTray 2 = .ok (.putfield 49, 3) := by decide +kernel
theorem dX8_bestTray_5 : decode cX8_bestTray 5 = .ok (.aload_n 0, 1) := by decide +kernel
theorem dX8_bestTray_6 : decode cX8_bestTray 6 = .ok (.iconst 1, 1) := by decide +kernel
theorem dX8_bestTray_7 : decode cX8_bestTray 7 = .ok (.iconst 1, 1) := by decide +kernel
theorem dX8_bestTray_8 : decode cX8_bestTray 8 = .ok (.bipush 20, 2) := by decide +kernel
theorem dX8_bestTray_10 : decode cX8_bestTray 10 = .ok (.iconst 2, 1) := by decide +kernel
theorem dX8_bestTray_11 : decode cX8_bestTray 11 = .ok (.iconst (-1), 1) := by decide +kernel
theorem dX8_bestTray_12 : decode cX8_bestTray 12 = .ok (.invokevirtual 368, 3) := by decide +kernel
theorem dX8_bestTray_15 : decode cX8_bestTray 15 = .ok (.ireturn, 1) := by decide +kernel
set_option maxRecDepth 20000 in
theorem ggX8_writeCard_X8_isCard : GoodIn wsX8_writeCard wsX8_isCard := goodIn_r _ [7, 8, 9, 10, 6, 11, 21, 22, 23, 24, 25, 26, 27, 28, 29, 30, 31, 32, 33, 34, 35, 36, 37, 38, 39, 40, 41, 42, 43] (by decide +kernel) (by decide +kernel)
set_option maxRecDepth 20000 in
theorem gX8_writeCard_X8_isCard : GoodIn wsX8_writeCard (wsV RX8 251 RX8 yX8_isCard wsX8_isCard) := goodIn_app (goodIn_of _ (by decide +kernel)) ggX8_writeCard_X8_isCard
set_option maxRecDepth 20000 in
theorem ggX8_writeCard_X8_isThrown : GoodIn wsX8_writeCard wsX8_isThrown := goodIn_r _ [15, 16, 21, 22, 23, 24, 25, 26, 27, 28, 29, 30, 31, 32, 33, 34, 35, 36, 37, 38, 39, 40, 41, 42, 43] (by decide +kernel) (by decide +kernel)
set_option maxRecDepth 20000 in
theorem gX8_writeCard_X8_isThrown : GoodIn wsX8_writeCard (wsV RX8 226 RX8 yX8_isThrown wsX8_isThrown) := goodIn_app (goodIn_of _ (by decide +kernel)) ggX8_writeCard_X8_isThrown
set_option maxRecDepth 20000 in
theorem ggX8_writeCard_X8_ofCard : GoodIn wsX8_writeCard wsX8_ofCard := goodIn_r _ [20, 8, 21, 22, 23, 24, 25, 26, 27, 28, 29, 30, 31, 32, 33, 34, 35, 36, 37, 38, 39, 40, 41, 42, 43] (by decide +kernel) (by decide +kernel)
set_option maxRecDepth 20000 in
theorem gX8_writeCard_X8_ofCard : GoodIn wsX8_writeCard (wsV RX8 233 RX8 yX8_ofCard wsX8_ofCard) := goodIn_app (goodIn_of _ (by decide +kernel)) ggX8_writeCard_X8_ofCard
theorem dX8_writeCard_0 : decode cX8_writeCard 0 = .ok (.aload_n 0, 1) := by decide +kernel
theorem dX8_writeCard_1 : decode cX8_writeCard 1 = .ok (.aload_n 0, 1) := by decide +kernel
theorem dX8_writeCard_2 : decode cX8_writeCard 2 = .ok (.iload_n 1, 1) := by decide +kernel
theorem dX8_writeCard_3 : decode cX8_writeCard 3 = .ok (.invokevirtual 251, 3) := by decide +kernel
theorem dX8_writeCard_6 : decode cX8_writeCard 6 = .ok (.iconst 1, 1) := by decide +kernel
theorem dX8_writeCard_7 : decode cX8_writeCard 7 = .ok (.invokevirtual 226, 3) := by decide +kernel
theorem dX8_writeCard_10 : decode cX8_writeCard 10 = .ok (.ifCond .eq 5, 3) := by decide +kernel
theorem dX8_writeCard_13 : decode cX8_writeCard 13 = .ok (.iconst 0, 1) := by decide +kernel
theorem dX8_writeCard_14 : decode cX8_writeCard 14 = .ok (.ireturn, 1) := by decide +kernel
theorem dX8_writeCard_15 : decode cX8_writeCard 15 = .ok (.aload_n 0, 1) := by decide +kernel
theorem dX8_writeCard_16 : decode cX8_writeCard 16 = .ok (.aload_n 0, 1) := by decide +kernel
theorem dX8_writeCard_17 : decode cX8_writeCard 17 = .ok (.iload_n 1, 1) := by decide +kernel
theorem dX8_writeCard_18 : decode cX8_writeCard 18 = .ok (.iconst 2, 1) := by decide +kernel
theorem dX8_writeCard_19 : decode cX8_writeCard 19 = .ok (.invokevirtual 233, 3) := by decide +kernel
theorem dX8_writeCard_22 : decode cX8_writeCard 22 = .ok (.putfield 372, 3) := by decide +kernel
theorem dX8_writeCard_25 : decode cX8_writeCard 25 = .ok (.iconst 0, 1) := by decide +kernel
theorem dX8_writeCard_26 : decode cX8_writeCard 26 = .ok (.istore_n 2, 1) := by decide +kernel
theorem dX8_writeCard_27 : decode cX8_writeCard 27 = .ok (.iload_n 2, 1) := by decide +kernel
theorem dX8_writeCard_28 : decode cX8_writeCard 28 = .ok (.aload_n 0, 1) := by decide +kernel
theorem dX8_writeCard_29 : decode cX8_writeCard 29 = .ok (.getfield 372, 3) := by decide +kernel
theorem dX8_writeCard_32 : decode cX8_writeCard 32 = .ok (.if_icmp .ge 28, 3) := by decide +kernel
theorem dX8_writeCard_35 : decode cX8_writeCard 35 = .ok (.aload_n 0, 1) := by decide +kernel
theorem dX8_writeCard_36 : decode cX8_writeCard 36 = .ok (.getfield 43, 3) := by decide +kernel
theorem dX8_writeCard_39 : decode cX8_writeCard 39 = .ok (.iload_n 2, 1) := by decide +kernel
theorem dX8_writeCard_40 : decode cX8_writeCard 40 = .ok (.bipush 97, 2) := by decide +kernel
theorem dX8_writeCard_42 : decode cX8_writeCard 42 = .ok (.aload_n 0, 1) := by decide +kernel
theorem dX8_writeCard_43 : decode cX8_writeCard 43 = .ok (.iload_n 1, 1) := by decide +kernel
theorem dX8_writeCard_44 : decode cX8_writeCard 44 = .ok (.bipush 9, 2) := by decide +kernel
theorem dX8_writeCard_46 : decode cX8_writeCard 46 = .ok (.iload_n 2, 1) := by decide +kernel
theorem dX8_writeCard_47 : decode cX8_writeCard 47 = .ok (.iadd, 1) := by decide +kernel
theorem dX8_writeCard_48 : decode cX8_writeCard 48 = .ok (.invokevirtual 233, 3) := by decide +kernel
theorem dX8_writeCard_51 : decode cX8_writeCard 51 = .ok (.iadd, 1) := by decide +kernel
theorem dX8_writeCard_52 : decode cX8_writeCard 52 = .ok (.i2b, 1) := by decide +kernel
theorem dX8_writeCard_53 : decode cX8_writeCard 53 = .ok (.bastore, 1) := by decide +kernel
theorem dX8_writeCard_54 : decode cX8_writeCard 54 = .ok (.iinc 2 1, 3) := by decide +kernel
theorem dX8_writeCard_57 : decode cX8_writeCard 57 = .ok (.goto (-30), 3) := by decide +kernel
theorem dX8_writeCard_60 : decode cX8_writeCard 60 = .ok (.aload_n 0, 1) := by decide +kernel
theorem dX8_writeCard_61 : decode cX8_writeCard 61 = .ok (.getfield 372, 3) := by decide +kernel
theorem dX8_writeCard_64 : decode cX8_writeCard 64 = .ok (.ireturn, 1) := by decide +kernel
set_option maxRecDepth 20000 in
theorem ggX8_outputByte_X8_in : GoodIn wsX8_outputByte wsX8_in := goodIn_r _ [7] (by decide +kernel) (by decide +kernel)
set_option maxRecDepth 20000 in
theorem gX8_outputByte_X8_in : GoodIn wsX8_outputByte (va_wsS RX8 52 yX8_in wsX8_in) := goodIn_app (goodIn_of _ (by decide +kernel)) ggX8_outputByte_X8_in
theorem dX8_outputByte_0 : decode cX8_outputByte 0 = .ok (.aload_n 0, 1) := by decide +kernel
theorem dX8_outputByte_1 : decode cX8_outputByte 1 = .ok (.iconst 0, 1) := by decide +kernel
theorem dX8_outputByte_2 : decode cX8_outputByte 2 = .ok (.putfield 49, 3) := by decide +kernel
theorem dX8_outputByte_5 : decode cX8_outputByte 5 = .ok (.iload_n 1, 1) := by decide +kernel
theorem dX8_outputByte_6 : decode cX8_outputByte 6 = .ok (.i2l, 1) := by decide +kernel
theorem dX8_outputByte_7 : decode cX8_outputByte 7 = .ok (.lconst 0, 1) := by decide +kernel
theorem dX8_outputByte_8 : decode cX8_outputByte 8 = .ok (.aload_n 0, 1) := by decide +kernel
theorem dX8_outputByte_9 : decode cX8_outputByte 9 = .ok (.getfield 372, 3) := by decide +kernel
theorem dX8_outputByte_12 : decode cX8_outputByte 12 = .ok (.iconst 1, 1) := by decide +kernel
theorem dX8_outputByte_13 : decode cX8_outputByte 13 = .ok (.isub, 1) := by decide +kernel
theorem dX8_outputByte_14 : decode cX8_outputByte 14 = .ok (.i2l, 1) := by decide +kernel
theorem dX8_outputByte_15 : decode cX8_outputByte 15 = .ok (.invokestatic 52, 3) := by decide +kernel
theorem dX8_outputByte_18 : decode cX8_outputByte 18 = .ok (.ifCond .eq 12, 3) := by decide +kernel
theorem dX8_outputByte_21 : decode cX8_outputByte 21 = .ok (.aload_n 0, 1) := by decide +kernel
theorem dX8_outputByte_22 : decode cX8_outputByte 22 = .ok (.getfield 43, 3) := by decide +kernel
theorem dX8_outputByte_25 : decode cX8_outputByte 25 = .ok (.iload_n 1, 1) := by decide +kernel
theorem dX8_outputByte_26 : decode cX8_outputByte 26 = .ok (.baload, 1) := by decide +kernel
theorem dX8_outputByte_27 : decode cX8_outputByte 27 = .ok (.goto 4, 3) := by decide +kernel
theorem dX8_outputByte_30 : decode cX8_outputByte 30 = .ok (.iconst (-1), 1) := by decide +kernel
theorem dX8_outputByte_31 : decode cX8_outputByte 31 = .ok (.ireturn, 1) := by decide +kernel
set_option maxRecDepth 20000 in
theorem ggX8_saveSnapshot_X8_in : GoodIn wsX8_saveSnapshot wsX8_in := goodIn_r _ [7] (by decide +kernel) (by decide +kernel)
set_option maxRecDepth 20000 in
theorem gX8_saveSnapshot_X8_in : GoodIn wsX8_saveSnapshot (va_wsS RX8 52 yX8_in wsX8_in) := goodIn_app (goodIn_of _ (by decide +kernel)) ggX8_saveSnapshot_X8_in
set_option maxRecDepth 20000 in
theorem ggX8_saveSnapshot_X8_isThrown : GoodIn wsX8_saveSnapshot wsX8_isThrown := goodIn_r _ [11, 12, 16, 17, 18, 19, 20, 21, 22, 23, 24, 25, 26, 27, 28, 29, 30, 31, 32, 33, 34, 35, 36, 37, 38] (by decide +kernel) (by decide +kernel)
set_option maxRecDepth 20000 in
theorem gX8_saveSnapshot_X8_isThrown : GoodIn wsX8_saveSnapshot (wsV RX8 226 RX8 yX8_isThrown wsX8_isThrown) := goodIn_app (goodIn_of _ (by decide +kernel)) ggX8_saveSnapshot_X8_isThrown
set_option maxRecDepth 20000 in
theorem ggX8_saveSnapshot_X8_copies : GoodIn wsX8_saveSnapshot wsX8_copies := goodIn_r _ [15] (by decide +kernel) (by decide +kernel)
set_option maxRecDepth 20000 in
theorem gX8_saveSnapshot_X8_copies : GoodIn wsX8_saveSnapshot (va_wsS RX8 204 yX8_copies wsX8_copies) := goodIn_app (goodIn_of _ (by decide +kernel)) ggX8_saveSnapshot_X8_copies
theorem dX8_saveSnapshot_0 : decode cX8_saveSnapshot 0 = .ok (.aload_n 0, 1) := by decide +kernel
theorem dX8_saveSnapshot_1 : decode cX8_saveSnapshot 1 = .ok (.iload_n 1, 1) := by decide +kernel
theorem dX8_saveSnapshot_2 : decode cX8_saveSnapshot 2 = .ok (.i2l, 1) := by decide +kernel
theorem dX8_saveSnapshot_3 : decode cX8_saveSnapshot 3 = .ok (.lconst 0, 1) := by decide +kernel
theorem dX8_saveSnapshot_4 : decode cX8_saveSnapshot 4 = .ok (.lconst 1, 1) := by decide +kernel
theorem dX8_saveSnapshot_5 : decode cX8_saveSnapshot 5 = .ok (.invokestatic 52, 3) := by decide +kernel
theorem dX8_saveSnapshot_8 : decode cX8_saveSnapshot 8 = .ok (.iconst 1, 1) := by decide +kernel
theorem dX8_saveSnapshot_9 : decode cX8_saveSnapshot 9 = .ok (.invokevirtual 226, 3) := by decide +kernel
theorem dX8_saveSnapshot_12 : decode cX8_saveSnapshot 12 = .ok (.ifCond .eq 5, 3) := by decide +kernel
theorem dX8_saveSnapshot_15 : decode cX8_saveSnapshot 15 = .ok (.iconst 0, 1) := by decide +kernel
theorem dX8_saveSnapshot_16 : decode cX8_saveSnapshot 16 = .ok (.ireturn, 1) := by decide +kernel
theorem dX8_saveSnapshot_17 : decode cX8_saveSnapshot 17 = .ok (.aload_n 0, 1) := by decide +kernel
theorem dX8_saveSnapshot_18 : decode cX8_saveSnapshot 18 = .ok (.getfield 9, 3) := by decide +kernel
theorem dX8_saveSnapshot_21 : decode cX8_saveSnapshot 21 = .ok (.iconst 0, 1) := by decide +kernel
theorem dX8_saveSnapshot_22 : decode cX8_saveSnapshot 22 = .ok (.aload_n 0, 1) := by decide +kernel
theorem dX8_saveSnapshot_23 : decode cX8_saveSnapshot 23 = .ok (.getfield 19, 3) := by decide +kernel
theorem dX8_saveSnapshot_26 : decode cX8_saveSnapshot 26 = .ok (.iload_n 1, 1) := by decide +kernel
theorem dX8_saveSnapshot_27 : decode cX8_saveSnapshot 27 = .ok (.invokestatic 204, 3) := by decide +kernel
theorem dX8_saveSnapshot_30 : decode cX8_saveSnapshot 30 = .ok (.aload_n 0, 1) := by decide +kernel
theorem dX8_saveSnapshot_31 : decode cX8_saveSnapshot 31 = .ok (.getfield 22, 3) := by decide +kernel
theorem dX8_saveSnapshot_34 : decode cX8_saveSnapshot 34 = .ok (.iload_n 1, 1) := by decide +kernel
theorem dX8_saveSnapshot_35 : decode cX8_saveSnapshot 35 = .ok (.iconst 1, 1) := by decide +kernel
theorem dX8_saveSnapshot_36 : decode cX8_saveSnapshot 36 = .ok (.bastore, 1) := by decide +kernel
theorem dX8_saveSnapshot_37 : decode cX8_saveSnapshot 37 = .ok (.aload_n 0, 1) := by decide +kernel
theorem dX8_saveSnapshot_38 : decode cX8_saveSnapshot 38 = .ok (.getfield 9, 3) := by decide +kernel
theorem dX8_saveSnapshot_41 : decode cX8_saveSnapshot 41 = .ok (.bipush 6, 2) := by decide +kernel
theorem dX8_saveSnapshot_43 : decode cX8_saveSnapshot 43 = .ok (.iaload, 1) := by decide +kernel
theorem dX8_saveSnapshot_44 : decode cX8_saveSnapshot 44 = .ok (.ireturn, 1) := by decide +kernel
set_option maxRecDepth 20000 in
theorem ggX8_restoreSnapshot_X8_in : GoodIn wsX8_restoreSnapshot wsX8_in := goodIn_r _ [8] (by decide +kernel) (by decide +kernel)
set_option maxRecDepth 20000 in
theorem gX8_restoreSnapshot_X8_in : GoodIn wsX8_restoreSnapshot (va_wsS RX8 52 yX8_in wsX8_in) := goodIn_app (goodIn_of _ (by decide +kernel)) ggX8_restoreSnapshot_X8_in
set_option maxRecDepth 20000 in
theorem ggX8_restoreSnapshot_X8_isThrown : GoodIn wsX8_restoreSnapshot wsX8_isThrown := goodIn_r _ [12, 13, 17, 18, 19, 20, 21, 22, 23, 24, 25, 26, 27, 28, 29, 30, 31, 32, 33, 34, 35, 36, 37, 38, 39] (by decide +kernel) (by decide +kernel)
set_option maxRecDepth 20000 in
theorem gX8_restoreSnapshot_X8_isThrown : GoodIn wsX8_restoreSnapshot (wsV RX8 226 RX8 yX8_isThrown wsX8_isThrown) := goodIn_app (goodIn_of _ (by decide +kernel)) ggX8_restoreSnapshot_X8_isThrown
set_option maxRecDepth 20000 in
theorem ggX8_restoreSnapshot_X8_copies : GoodIn wsX8_restoreSnapshot wsX8_copies := goodIn_r _ [16] (by decide +kernel) (by decide +kernel)
set_option maxRecDepth 20000 in
theorem gX8_restoreSnapshot_X8_copies : GoodIn wsX8_restoreSnapshot (va_wsS RX8 204 yX8_copies wsX8_copies) := goodIn_app (goodIn_of _ (by decide +kernel)) ggX8_restoreSnapshot_X8_copies
theorem dX8_restoreSnapshot_0 : decode cX8_restoreSnapshot 0 = .ok (.aload_n 0, 1) := by decide +kernel
theorem dX8_restoreSnapshot_1 : decode cX8_restoreSnapshot 1 = .ok (.iload_n 1, 1) := by decide +kernel
theorem dX8_restoreSnapshot_2 : decode cX8_restoreSnapshot 2 = .ok (.i2l, 1) := by decide +kernel
theorem dX8_restoreSnapshot_3 : decode cX8_restoreSnapshot 3 = .ok (.lconst 0, 1) := by decide +kernel
