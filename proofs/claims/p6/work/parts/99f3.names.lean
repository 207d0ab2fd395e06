noncomputable def kq99f3_L_law_0 : List UInt8 := [0xbb, 0x00, 0x08, 0x59, 0xb7, 0x00, 0x7e, 0x4c, 0xbb, 0x00, 0x7f, 0x59, 0xb7, 0x00, 0x81, 0x4d, 0x04, 0xbc, 0x0b, 0x4e, 0x04, 0xbc, 0x07, 0x3a, 0x04, 0x03, 0x36, 0x05, 0x15, 0x05, 0x2a, 0xbe, 0x07, 0x64, 0xa3, 0x06, 0xff, 0x2a, 0x15, 0x05]
theorem sq99f3_L_law_0 : dcSub kq99f3_L_law_0 cL_law 0 = true := by decide +kernel
noncomputable def kq99f3_L_law_2 : List UInt8 := [0x84, 0x05, 0x04, 0xa7, 0xf8, 0xfe, 0x04, 0xac]
theorem sq99f3_L_law_2 : dcSub kq99f3_L_law_2 cL_law 1819 = true := by decide +kernel
noncomputable def kq99f3_L_law_1 : List UInt8 := [0x2e, 0x10, 0x3f, 0x7e]
theorem sq99f3_L_law_1 : dcSub kq99f3_L_law_1 cL_law 40 = true := by decide +kernel
theorem dL_law_0 : decode cL_law 0 = .ok (.new 8, 3) := d_187 (dB2_p (o := 0) (p := 0) sq99f3_L_law_0 (by decide +kernel))
theorem dL_law_11 : decode cL_law 11 = .ok (.dup, 1) := d_89 (dB0_p (o := 0) (p := 11) sq99f3_L_law_0 (by decide +kernel))
theorem dL_law_12 : decode cL_law 12 = .ok (.invokespecial 129, 3) := d_183 (dB2_p (o := 0) (p := 12) sq99f3_L_law_0 (by decide +kernel))
theorem dL_law_15 : decode cL_law 15 = .ok (.astore_n 2, 1) := d_77 (dB0_p (o := 0) (p := 15) sq99f3_L_law_0 (by decide +kernel))
theorem dL_law_16 : decode cL_law 16 = .ok (.iconst 1, 1) := d_4 (dB0_p (o := 0) (p := 16) sq99f3_L_law_0 (by decide +kernel))
theorem dL_law_17 : decode cL_law 17 = .ok (.newarray .long, 2) := by decide +kernel
theorem dL_law_1819 : decode cL_law 1819 = .ok (.iinc 5 4, 3) := d_132 (dBi_p (o := 1819) (p := 0) sq99f3_L_law_2 (by decide +kernel))
theorem dL_law_1822 : decode cL_law 1822 = .ok (.goto (-1794), 3) := d_167 (dBs2_p (o := 1819) (p := 3) sq99f3_L_law_2 (by decide +kernel))
theorem dL_law_1825 : decode cL_law 1825 = .ok (.iconst 1, 1) := d_4 (dB0_p (o := 1819) (p := 6) sq99f3_L_law_2 (by decide +kernel))
theorem dL_law_1826 : decode cL_law 1826 = .ok (.ireturn, 1) := d_172 (dB0_p (o := 1819) (p := 7) sq99f3_L_law_2 (by decide +kernel))
theorem dL_law_19 : decode cL_law 19 = .ok (.astore_n 3, 1) := d_78 (dB0_p (o := 0) (p := 19) sq99f3_L_law_0 (by decide +kernel))
theorem dL_law_20 : decode cL_law 20 = .ok (.iconst 1, 1) := d_4 (dB0_p (o := 0) (p := 20) sq99f3_L_law_0 (by decide +kernel))
theorem dL_law_21 : decode cL_law 21 = .ok (.newarray .double, 2) := by decide +kernel
theorem dL_law_23 : decode cL_law 23 = .ok (.astore 4, 2) := d_58 (dB1_p (o := 0) (p := 23) sq99f3_L_law_0 (by decide +kernel))
theorem dL_law_25 : decode cL_law 25 = .ok (.iconst 0, 1) := d_3 (dB0_p (o := 0) (p := 25) sq99f3_L_law_0 (by decide +kernel))
theorem dL_law_26 : decode cL_law 26 = .ok (.istore 5, 2) := d_54 (dB1_p (o := 0) (p := 26) sq99f3_L_law_0 (by decide +kernel))
theorem dL_law_28 : decode cL_law 28 = .ok (.iload 5, 2) := d_21 (dB1_p (o := 0) (p := 28) sq99f3_L_law_0 (by decide +kernel))
theorem dL_law_3 : decode cL_law 3 = .ok (.dup, 1) := d_89 (dB0_p (o := 0) (p := 3) sq99f3_L_law_0 (by decide +kernel))
theorem dL_law_30 : decode cL_law 30 = .ok (.aload_n 0, 1) := d_42 (dB0_p (o := 0) (p := 30) sq99f3_L_law_0 (by decide +kernel))
theorem dL_law_31 : decode cL_law 31 = .ok (.arraylength, 1) := d_190 (dB0_p (o := 0) (p := 31) sq99f3_L_law_0 (by decide +kernel))
theorem dL_law_32 : decode cL_law 32 = .ok (.iconst 4, 1) := d_7 (dB0_p (o := 0) (p := 32) sq99f3_L_law_0 (by decide +kernel))
theorem dL_law_33 : decode cL_law 33 = .ok (.isub, 1) := d_100 (dB0_p (o := 0) (p := 33) sq99f3_L_law_0 (by decide +kernel))
theorem dL_law_34 : decode cL_law 34 = .ok (.if_icmp .gt 1791, 3) := d_163 (dBs2_p (o := 0) (p := 34) sq99f3_L_law_0 (by decide +kernel))
theorem dL_law_37 : decode cL_law 37 = .ok (.aload_n 0, 1) := d_42 (dB0_p (o := 0) (p := 37) sq99f3_L_law_0 (by decide +kernel))
theorem dL_law_38 : decode cL_law 38 = .ok (.iload 5, 2) := d_21 (dB1_p (o := 0) (p := 38) sq99f3_L_law_0 (by decide +kernel))
theorem dL_law_4 : decode cL_law 4 = .ok (.invokespecial 126, 3) := d_183 (dB2_p (o := 0) (p := 4) sq99f3_L_law_0 (by decide +kernel))
theorem dL_law_40 : decode cL_law 40 = .ok (.iaload, 1) := d_46 (dB0_p (o := 40) (p := 0) sq99f3_L_law_1 (by decide +kernel))
theorem dL_law_41 : decode cL_law 41 = .ok (.bipush 63, 2) := d_16 (dBs1_p (o := 40) (p := 1) sq99f3_L_law_1 (by decide +kernel))
theorem dL_law_43 : decode cL_law 43 = .ok (.iand, 1) := d_126 (dB0_p (o := 40) (p := 3) sq99f3_L_law_1 (by decide +kernel))
theorem dL_law_44 : decode cL_law 44 = .ok (.tableswitch 1775 0 51 #[224, 281, 294, 307, 320, 376, 404, 444, 484, 524, 564, 604, 629, 654, 667, 707, 747, 760, 812, 852, 880, 895, 912, 941, 954, 982, 1010, 1050, 1078, 1118, 1174, 1226, 1254, 1294, 1322, 1350, 1378, 1406, 1434, 1462, 1475, 1503, 1531, 1559, 1587, 1612, 1640, 1653, 1681, 1706, 1719, 1747], 224) := by decide +kernel
theorem dL_law_7 : decode cL_law 7 = .ok (.astore_n 1, 1) := d_76 (dB0_p (o := 0) (p := 7) sq99f3_L_law_0 (by decide +kernel))
theorem dL_law_8 : decode cL_law 8 = .ok (.new 127, 3) := d_187 (dB2_p (o := 0) (p := 8) sq99f3_L_law_0 (by decide +kernel))
