/-! names -/
theorem dL_law_0 : decode cL_law 0 = .ok (.new 8, 3) := by decide +kernel
theorem dL_law_11 : decode cL_law 11 = .ok (.dup, 1) := by decide +kernel
theorem dL_law_12 : decode cL_law 12 = .ok (.invokespecial 129, 3) := by decide +kernel
theorem dL_law_15 : decode cL_law 15 = .ok (.astore_n 2, 1) := by decide +kernel
theorem dL_law_16 : decode cL_law 16 = .ok (.iconst 1, 1) := by decide +kernel
theorem dL_law_17 : decode cL_law 17 = .ok (.newarray .long, 2) := by decide +kernel
theorem dL_law_1791 : decode cL_law 1791 = .ok (.iinc 5 4, 3) := by decide +kernel
theorem dL_law_1794 : decode cL_law 1794 = .ok (.goto (-1766), 3) := by decide +kernel
theorem dL_law_1797 : decode cL_law 1797 = .ok (.iconst 1, 1) := by decide +kernel
theorem dL_law_1798 : decode cL_law 1798 = .ok (.ireturn, 1) := by decide +kernel
theorem dL_law_19 : decode cL_law 19 = .ok (.astore_n 3, 1) := by decide +kernel
theorem dL_law_20 : decode cL_law 20 = .ok (.iconst 1, 1) := by decide +kernel
theorem dL_law_21 : decode cL_law 21 = .ok (.newarray .double, 2) := by decide +kernel
theorem dL_law_23 : decode cL_law 23 = .ok (.astore 4, 2) := by decide +kernel
theorem dL_law_25 : decode cL_law 25 = .ok (.iconst 0, 1) := by decide +kernel
theorem dL_law_26 : decode cL_law 26 = .ok (.istore 5, 2) := by decide +kernel
theorem dL_law_28 : decode cL_law 28 = .ok (.iload 5, 2) := by decide +kernel
theorem dL_law_3 : decode cL_law 3 = .ok (.dup, 1) := by decide +kernel
theorem dL_law_30 : decode cL_law 30 = .ok (.aload_n 0, 1) := by decide +kernel
theorem dL_law_31 : decode cL_law 31 = .ok (.arraylength, 1) := by decide +kernel
theorem dL_law_32 : decode cL_law 32 = .ok (.iconst 4, 1) := by decide +kernel
theorem dL_law_33 : decode cL_law 33 = .ok (.isub, 1) := by decide +kernel
theorem dL_law_34 : decode cL_law 34 = .ok (.if_icmp .gt 1763, 3) := by decide +kernel
theorem dL_law_37 : decode cL_law 37 = .ok (.aload_n 0, 1) := by decide +kernel
theorem dL_law_38 : decode cL_law 38 = .ok (.iload 5, 2) := by decide +kernel
theorem dL_law_4 : decode cL_law 4 = .ok (.invokespecial 126, 3) := by decide +kernel
theorem dL_law_40 : decode cL_law 40 = .ok (.iaload, 1) := by decide +kernel
theorem dL_law_41 : decode cL_law 41 = .ok (.bipush 63, 2) := by decide +kernel
theorem dL_law_43 : decode cL_law 43 = .ok (.iand, 1) := by decide +kernel
theorem dL_law_44 : decode cL_law 44 = .ok (.tableswitch 1747 0 51 #[224, 281, 294, 307, 320, 348, 376, 416, 456, 496, 536, 576, 601, 626, 639, 679, 719, 732, 784, 824, 852, 867, 884, 913, 926, 954, 982, 1022, 1050, 1090, 1146, 1198, 1226, 1266, 1294, 1322, 1350, 1378, 1406, 1434, 1447, 1475, 1503, 1531, 1559, 1584, 1612, 1625, 1653, 1678, 1691, 1719], 224) := by decide +kernel
theorem dL_law_7 : decode cL_law 7 = .ok (.astore_n 1, 1) := by decide +kernel
theorem dL_law_8 : decode cL_law 8 = .ok (.new 127, 3) := by decide +kernel
theorem mw_0 : Cond.classLink RL 8 RX7 ∈ wsL_law := mi_0 _ (List.mem_of_getElem? (i := 0) rfl)
theorem mw_1 : Cond.instantiable RX7 12 ∈ wsL_law := mi_0 _ (List.mem_of_getElem? (i := 1) rfl)
theorem mw_3 : Cond.classLink RL 127 RX8 ∈ wsL_law := mi_0 _ (List.mem_of_getElem? (i := 3) rfl)
theorem mw_4 : Cond.instantiable RX8 23 ∈ wsL_law := mi_0 _ (List.mem_of_getElem? (i := 4) rfl)
theorem mw_6 : Cond.arrayClass .long ∈ wsL_law := mi_0 _ (List.mem_of_getElem? (i := 6) rfl)
theorem mw_7 : Cond.arrayClass .double ∈ wsL_law := mi_0 _ (List.mem_of_getElem? (i := 7) rfl)
theorem mw_9 : Cond.methodLink RL 126 yX7_init ∈ wsL_law := mi_0 _ (List.mem_of_getElem? (i := 9) rfl)
theorem mw_10 : Cond.instanceMethod yX7_init ∈ wsL_law := mi_0 _ (List.mem_of_getElem? (i := 10) rfl)
theorem mw_11 : Cond.code yX7_init cX7_init 1 none ∈ wsL_law := mi_0 _ (List.mem_of_getElem? (i := 11) rfl)
theorem mw_93 : Cond.methodLink RL 129 yX8_init ∈ wsL_law := mi_72 _ (List.mem_of_getElem? (i := 21) rfl)
theorem mw_94 : Cond.instanceMethod yX8_init ∈ wsL_law := mi_72 _ (List.mem_of_getElem? (i := 22) rfl)
theorem mw_95 : Cond.code yX8_init cX8_init 1 none ∈ wsL_law := mi_72 _ (List.mem_of_getElem? (i := 23) rfl)
