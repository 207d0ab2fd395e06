theorem dJ7_checkLength_df160_0 : decode cJ7_checkLength_df160 0 = .ok (.iload_n 1, 1) := by decide +kernel
theorem dJ7_checkLength_df160_1 : decode cJ7_checkLength_df160 1 = .ok (.iload_n 0, 1) := by decide +kernel
theorem dJ7_checkLength_df160_2 : decode cJ7_checkLength_df160 2 = .ok (.if_icmp .ge 35, 3) := by decide +kernel
theorem dJ7_checkLength_df160_37 : decode cJ7_checkLength_df160 37 = .ok (.return_, 1) := by decide +kernel
theorem dJ7_copyOfRangeByte_39247_0 : decode cJ7_copyOfRangeByte_39247 0 = .ok (.iload_n 1, 1) := by decide +kernel
theorem dJ7_copyOfRangeByte_39247_1 : decode cJ7_copyOfRangeByte_39247 1 = .ok (.iload_n 2, 1) := by decide +kernel
theorem dJ7_copyOfRangeByte_39247_10 : decode cJ7_copyOfRangeByte_39247 10 = .ok (.newarray .byte, 2) := by decide +kernel
theorem dJ7_copyOfRangeByte_39247_12 : decode cJ7_copyOfRangeByte_39247 12 = .ok (.astore 4, 2) := by decide +kernel
theorem dJ7_copyOfRangeByte_39247_14 : decode cJ7_copyOfRangeByte_39247 14 = .ok (.aload_n 0, 1) := by decide +kernel
theorem dJ7_copyOfRangeByte_39247_15 : decode cJ7_copyOfRangeByte_39247 15 = .ok (.iload_n 1, 1) := by decide +kernel
theorem dJ7_copyOfRangeByte_39247_16 : decode cJ7_copyOfRangeByte_39247 16 = .ok (.aload 4, 2) := by decide +kernel
theorem dJ7_copyOfRangeByte_39247_18 : decode cJ7_copyOfRangeByte_39247 18 = .ok (.iconst 0, 1) := by decide +kernel
theorem dJ7_copyOfRangeByte_39247_19 : decode cJ7_copyOfRangeByte_39247 19 = .ok (.aload_n 0, 1) := by decide +kernel
theorem dJ7_copyOfRangeByte_39247_2 : decode cJ7_copyOfRangeByte_39247 2 = .ok (.invokestatic 343, 3) := by decide +kernel
theorem dJ7_copyOfRangeByte_39247_20 : decode cJ7_copyOfRangeByte_39247 20 = .ok (.arraylength, 1) := by decide +kernel
theorem dJ7_copyOfRangeByte_39247_21 : decode cJ7_copyOfRangeByte_39247 21 = .ok (.iload_n 1, 1) := by decide +kernel
theorem dJ7_copyOfRangeByte_39247_22 : decode cJ7_copyOfRangeByte_39247 22 = .ok (.isub, 1) := by decide +kernel
theorem dJ7_copyOfRangeByte_39247_23 : decode cJ7_copyOfRangeByte_39247 23 = .ok (.iload_n 3, 1) := by decide +kernel
theorem dJ7_copyOfRangeByte_39247_24 : decode cJ7_copyOfRangeByte_39247 24 = .ok (.invokestatic 304, 3) := by decide +kernel
theorem dJ7_copyOfRangeByte_39247_27 : decode cJ7_copyOfRangeByte_39247 27 = .ok (.invokestatic 150, 3) := by decide +kernel
theorem dJ7_copyOfRangeByte_39247_30 : decode cJ7_copyOfRangeByte_39247 30 = .ok (.aload 4, 2) := by decide +kernel
theorem dJ7_copyOfRangeByte_39247_32 : decode cJ7_copyOfRangeByte_39247 32 = .ok (.areturn, 1) := by decide +kernel
theorem dJ7_copyOfRangeByte_39247_5 : decode cJ7_copyOfRangeByte_39247 5 = .ok (.iload_n 2, 1) := by decide +kernel
theorem dJ7_copyOfRangeByte_39247_6 : decode cJ7_copyOfRangeByte_39247 6 = .ok (.iload_n 1, 1) := by decide +kernel
theorem dJ7_copyOfRangeByte_39247_7 : decode cJ7_copyOfRangeByte_39247 7 = .ok (.isub, 1) := by decide +kernel
theorem dJ7_copyOfRangeByte_39247_8 : decode cJ7_copyOfRangeByte_39247 8 = .ok (.istore_n 3, 1) := by decide +kernel
theorem dJ7_copyOfRangeByte_39247_9 : decode cJ7_copyOfRangeByte_39247 9 = .ok (.iload_n 3, 1) := by decide +kernel
theorem dJ7_copyOfRange_39247_0 : decode cJ7_copyOfRange_39247 0 = .ok (.iload_n 1, 1) := by decide +kernel
theorem dJ7_copyOfRange_39247_1 : decode cJ7_copyOfRange_39247 1 = .ok (.ifCond .ne 9, 3) := by decide +kernel
theorem dJ7_copyOfRange_39247_10 : decode cJ7_copyOfRange_39247 10 = .ok (.aload_n 0, 1) := by decide +kernel
theorem dJ7_copyOfRange_39247_11 : decode cJ7_copyOfRange_39247 11 = .ok (.iload_n 1, 1) := by decide +kernel
theorem dJ7_copyOfRange_39247_12 : decode cJ7_copyOfRange_39247 12 = .ok (.iload_n 2, 1) := by decide +kernel
theorem dJ7_copyOfRange_39247_13 : decode cJ7_copyOfRange_39247 13 = .ok (.invokestatic 339, 3) := by decide +kernel
theorem dJ7_copyOfRange_39247_16 : decode cJ7_copyOfRange_39247 16 = .ok (.areturn, 1) := by decide +kernel
theorem dJ7_copyOfRange_39247_4 : decode cJ7_copyOfRange_39247 4 = .ok (.iload_n 2, 1) := by decide +kernel
theorem dJ7_copyOfRange_39247_5 : decode cJ7_copyOfRange_39247 5 = .ok (.aload_n 0, 1) := by decide +kernel
theorem dJ7_copyOfRange_39247_6 : decode cJ7_copyOfRange_39247 6 = .ok (.arraylength, 1) := by decide +kernel
theorem dJ7_copyOfRange_39247_7 : decode cJ7_copyOfRange_39247 7 = .ok (.if_icmp .eq 10, 3) := by decide +kernel
theorem dJ7_copyOf_9075b_0 : decode cJ7_copyOf_9075b 0 = .ok (.iload_n 1, 1) := by decide +kernel
theorem dJ7_copyOf_9075b_1 : decode cJ7_copyOf_9075b 1 = .ok (.aload_n 0, 1) := by decide +kernel
theorem dJ7_copyOf_9075b_14 : decode cJ7_copyOf_9075b 14 = .ok (.iload_n 1, 1) := by decide +kernel
theorem dJ7_copyOf_9075b_15 : decode cJ7_copyOf_9075b 15 = .ok (.newarray .byte, 2) := by decide +kernel
theorem dJ7_copyOf_9075b_17 : decode cJ7_copyOf_9075b 17 = .ok (.astore_n 2, 1) := by decide +kernel
theorem dJ7_copyOf_9075b_18 : decode cJ7_copyOf_9075b 18 = .ok (.aload_n 0, 1) := by decide +kernel
theorem dJ7_copyOf_9075b_19 : decode cJ7_copyOf_9075b 19 = .ok (.iconst 0, 1) := by decide +kernel
theorem dJ7_copyOf_9075b_2 : decode cJ7_copyOf_9075b 2 = .ok (.arraylength, 1) := by decide +kernel
theorem dJ7_copyOf_9075b_20 : decode cJ7_copyOf_9075b 20 = .ok (.aload_n 2, 1) := by decide +kernel
theorem dJ7_copyOf_9075b_21 : decode cJ7_copyOf_9075b 21 = .ok (.iconst 0, 1) := by decide +kernel
theorem dJ7_copyOf_9075b_22 : decode cJ7_copyOf_9075b 22 = .ok (.aload_n 0, 1) := by decide +kernel
theorem dJ7_copyOf_9075b_23 : decode cJ7_copyOf_9075b 23 = .ok (.arraylength, 1) := by decide +kernel
theorem dJ7_copyOf_9075b_24 : decode cJ7_copyOf_9075b 24 = .ok (.iload_n 1, 1) := by decide +kernel
theorem dJ7_copyOf_9075b_25 : decode cJ7_copyOf_9075b 25 = .ok (.invokestatic 304, 3) := by decide +kernel
theorem dJ7_copyOf_9075b_28 : decode cJ7_copyOf_9075b 28 = .ok (.invokestatic 150, 3) := by decide +kernel
theorem dJ7_copyOf_9075b_3 : decode cJ7_copyOf_9075b 3 = .ok (.if_icmp .ne 11, 3) := by decide +kernel
theorem dJ7_copyOf_9075b_31 : decode cJ7_copyOf_9075b 31 = .ok (.aload_n 2, 1) := by decide +kernel
theorem dJ7_copyOf_9075b_32 : decode cJ7_copyOf_9075b 32 = .ok (.areturn, 1) := by decide +kernel
theorem dJ7_fill_53178_0 : decode cJ7_fill_53178 0 = .ok (.iconst 0, 1) := by decide +kernel
theorem dJ7_fill_53178_1 : decode cJ7_fill_53178 1 = .ok (.istore_n 2, 1) := by decide +kernel
theorem dJ7_fill_53178_10 : decode cJ7_fill_53178 10 = .ok (.aload_n 0, 1) := by decide +kernel
theorem dJ7_fill_53178_11 : decode cJ7_fill_53178 11 = .ok (.iload_n 2, 1) := by decide +kernel
theorem dJ7_fill_53178_12 : decode cJ7_fill_53178 12 = .ok (.iload_n 1, 1) := by decide +kernel
theorem dJ7_fill_53178_13 : decode cJ7_fill_53178 13 = .ok (.iastore, 1) := by decide +kernel
theorem dJ7_fill_53178_14 : decode cJ7_fill_53178 14 = .ok (.iinc 2 1, 3) := by decide +kernel
theorem dJ7_fill_53178_17 : decode cJ7_fill_53178 17 = .ok (.goto (-12), 3) := by decide +kernel
theorem dJ7_fill_53178_2 : decode cJ7_fill_53178 2 = .ok (.aload_n 0, 1) := by decide +kernel
theorem dJ7_fill_53178_20 : decode cJ7_fill_53178 20 = .ok (.return_, 1) := by decide +kernel
theorem dJ7_fill_53178_3 : decode cJ7_fill_53178 3 = .ok (.arraylength, 1) := by decide +kernel
theorem dJ7_fill_53178_4 : decode cJ7_fill_53178 4 = .ok (.istore_n 3, 1) := by decide +kernel
theorem dJ7_fill_53178_5 : decode cJ7_fill_53178 5 = .ok (.iload_n 2, 1) := by decide +kernel
theorem dJ7_fill_53178_6 : decode cJ7_fill_53178 6 = .ok (.iload_n 3, 1) := by decide +kernel
theorem dJ7_fill_53178_7 : decode cJ7_fill_53178 7 = .ok (.if_icmp .ge 13, 3) := by decide +kernel
theorem dJx29ce0_ordinal_8abf5_0 : decode cJx29ce0_ordinal_8abf5 0 = .ok (.aload_n 0, 1) := by decide +kernel
theorem dJx29ce0_ordinal_8abf5_1 : decode cJx29ce0_ordinal_8abf5 1 = .ok (.getfield 7, 3) := by decide +kernel
theorem dJx29ce0_ordinal_8abf5_4 : decode cJx29ce0_ordinal_8abf5 4 = .ok (.ireturn, 1) := by decide +kernel
theorem dX1_begin_0 : decode cX1_begin 0 = .ok (.aload_n 0, 1) := by decide +kernel
theorem dX1_begin_1 : decode cX1_begin 1 = .ok (.iload_n 1, 1) := by decide +kernel
theorem dX1_begin_10 : decode cX1_begin 10 = .ok (.aload_n 0, 1) := by decide +kernel
theorem dX1_begin_11 : decode cX1_begin 11 = .ok (.aload_n 3, 1) := by decide +kernel
theorem dX1_begin_12 : decode cX1_begin 12 = .ok (.putfield 13, 3) := by decide +kernel
theorem dX1_begin_15 : decode cX1_begin 15 = .ok (.aload_n 0, 1) := by decide +kernel
theorem dX1_begin_16 : decode cX1_begin 16 = .ok (.iconst 0, 1) := by decide +kernel
theorem dX1_begin_17 : decode cX1_begin 17 = .ok (.putfield 25, 3) := by decide +kernel
theorem dX1_begin_2 : decode cX1_begin 2 = .ok (.putfield 18, 3) := by decide +kernel
theorem dX1_begin_20 : decode cX1_begin 20 = .ok (.aload_n 0, 1) := by decide +kernel
theorem dX1_begin_21 : decode cX1_begin 21 = .ok (.iconst (-1), 1) := by decide +kernel
theorem dX1_begin_22 : decode cX1_begin 22 = .ok (.putfield 28, 3) := by decide +kernel
theorem dX1_begin_25 : decode cX1_begin 25 = .ok (.aload_n 0, 1) := by decide +kernel
theorem dX1_begin_26 : decode cX1_begin 26 = .ok (.iconst 0, 1) := by decide +kernel
theorem dX1_begin_27 : decode cX1_begin 27 = .ok (.putfield 31, 3) := by decide +kernel
theorem dX1_begin_30 : decode cX1_begin 30 = .ok (.aload_n 0, 1) := by decide +kernel
theorem dX1_begin_31 : decode cX1_begin 31 = .ok (.iconst 0, 1) := by decide +kernel
theorem dX1_begin_32 : decode cX1_begin 32 = .ok (.putfield 34, 3) := by decide +kernel
theorem dX1_begin_35 : decode cX1_begin 35 = .ok (.aload_n 0, 1) := by decide +kernel
theorem dX1_begin_36 : decode cX1_begin 36 = .ok (.iconst (-1), 1) := by decide +kernel
theorem dX1_begin_37 : decode cX1_begin 37 = .ok (.putfield 37, 3) := by decide +kernel
theorem dX1_begin_40 : decode cX1_begin 40 = .ok (.aload_n 0, 1) := by decide +kernel
theorem dX1_begin_41 : decode cX1_begin 41 = .ok (.iconst 0, 1) := by decide +kernel
theorem dX1_begin_42 : decode cX1_begin 42 = .ok (.putfield 40, 3) := by decide +kernel
theorem dX1_begin_45 : decode cX1_begin 45 = .ok (.return_, 1) := by decide +kernel
theorem dX1_begin_5 : decode cX1_begin 5 = .ok (.aload_n 0, 1) := by decide +kernel
theorem dX1_begin_6 : decode cX1_begin 6 = .ok (.iload_n 2, 1) := by decide +kernel
theorem dX1_begin_7 : decode cX1_begin 7 = .ok (.putfield 22, 3) := by decide +kernel
theorem dX1_copyFrom_0 : decode cX1_copyFrom 0 = .ok (.aload_n 0, 1) := by decide +kernel
theorem dX1_copyFrom_1 : decode cX1_copyFrom 1 = .ok (.aload_n 1, 1) := by decide +kernel
theorem dX1_copyFrom_10 : decode cX1_copyFrom 10 = .ok (.getfield 22, 3) := by decide +kernel
theorem dX1_copyFrom_13 : decode cX1_copyFrom 13 = .ok (.putfield 22, 3) := by decide +kernel
theorem dX1_copyFrom_16 : decode cX1_copyFrom 16 = .ok (.aload_n 0, 1) := by decide +kernel
theorem dX1_copyFrom_17 : decode cX1_copyFrom 17 = .ok (.aload_n 1, 1) := by decide +kernel
theorem dX1_copyFrom_18 : decode cX1_copyFrom 18 = .ok (.getfield 13, 3) := by decide +kernel
theorem dX1_copyFrom_2 : decode cX1_copyFrom 2 = .ok (.getfield 18, 3) := by decide +kernel
theorem dX1_copyFrom_21 : decode cX1_copyFrom 21 = .ok (.putfield 13, 3) := by decide +kernel
theorem dX1_copyFrom_24 : decode cX1_copyFrom 24 = .ok (.aload_n 0, 1) := by decide +kernel
theorem dX1_copyFrom_25 : decode cX1_copyFrom 25 = .ok (.aload_n 1, 1) := by decide +kernel
theorem dX1_copyFrom_26 : decode cX1_copyFrom 26 = .ok (.getfield 25, 3) := by decide +kernel
theorem dX1_copyFrom_29 : decode cX1_copyFrom 29 = .ok (.putfield 25, 3) := by decide +kernel
theorem dX1_copyFrom_32 : decode cX1_copyFrom 32 = .ok (.aload_n 0, 1) := by decide +kernel
theorem dX1_copyFrom_33 : decode cX1_copyFrom 33 = .ok (.aload_n 1, 1) := by decide +kernel
theorem dX1_copyFrom_34 : decode cX1_copyFrom 34 = .ok (.getfield 28, 3) := by decide +kernel
theorem dX1_copyFrom_37 : decode cX1_copyFrom 37 = .ok (.putfield 28, 3) := by decide +kernel
theorem dX1_copyFrom_40 : decode cX1_copyFrom 40 = .ok (.aload_n 0, 1) := by decide +kernel
theorem dX1_copyFrom_41 : decode cX1_copyFrom 41 = .ok (.aload_n 1, 1) := by decide +kernel
theorem dX1_copyFrom_42 : decode cX1_copyFrom 42 = .ok (.getfield 31, 3) := by decide +kernel
theorem dX1_copyFrom_45 : decode cX1_copyFrom 45 = .ok (.putfield 31, 3) := by decide +kernel
theorem dX1_copyFrom_48 : decode cX1_copyFrom 48 = .ok (.aload_n 0, 1) := by decide +kernel
theorem dX1_copyFrom_49 : decode cX1_copyFrom 49 = .ok (.aload_n 1, 1) := by decide +kernel
theorem dX1_copyFrom_5 : decode cX1_copyFrom 5 = .ok (.putfield 18, 3) := by decide +kernel
theorem dX1_copyFrom_50 : decode cX1_copyFrom 50 = .ok (.getfield 34, 3) := by decide +kernel
theorem dX1_copyFrom_53 : decode cX1_copyFrom 53 = .ok (.putfield 34, 3) := by decide +kernel
theorem dX1_copyFrom_56 : decode cX1_copyFrom 56 = .ok (.aload_n 0, 1) := by decide +kernel
theorem dX1_copyFrom_57 : decode cX1_copyFrom 57 = .ok (.aload_n 1, 1) := by decide +kernel
theorem dX1_copyFrom_58 : decode cX1_copyFrom 58 = .ok (.getfield 37, 3) := by decide +kernel
theorem dX1_copyFrom_61 : decode cX1_copyFrom 61 = .ok (.putfield 37, 3) := by decide +kernel
theorem dX1_copyFrom_64 : decode cX1_copyFrom 64 = .ok (.aload_n 0, 1) := by decide +kernel
theorem dX1_copyFrom_65 : decode cX1_copyFrom 65 = .ok (.aload_n 1, 1) := by decide +kernel
theorem dX1_copyFrom_66 : decode cX1_copyFrom 66 = .ok (.getfield 40, 3) := by decide +kernel
theorem dX1_copyFrom_69 : decode cX1_copyFrom 69 = .ok (.putfield 40, 3) := by decide +kernel
theorem dX1_copyFrom_72 : decode cX1_copyFrom 72 = .ok (.return_, 1) := by decide +kernel
theorem dX1_copyFrom_8 : decode cX1_copyFrom 8 = .ok (.aload_n 0, 1) := by decide +kernel
theorem dX1_copyFrom_9 : decode cX1_copyFrom 9 = .ok (.aload_n 1, 1) := by decide +kernel
theorem dX1_init_0 : decode cX1_init 0 = .ok (.aload_n 0, 1) := by decide +kernel
theorem dX1_init_1 : decode cX1_init 1 = .ok (.invokespecial 3, 3) := by decide +kernel
theorem dX1_init_11 : decode cX1_init 11 = .ok (.return_, 1) := by decide +kernel
theorem dX1_init_4 : decode cX1_init 4 = .ok (.aload_n 0, 1) := by decide +kernel
theorem dX1_init_5 : decode cX1_init 5 = .ok (.getstatic 9, 3) := by decide +kernel
theorem dX1_init_8 : decode cX1_init 8 = .ok (.putfield 13, 3) := by decide +kernel
theorem dX1_isFinished_0 : decode cX1_isFinished 0 = .ok (.aload_n 0, 1) := by decide +kernel
theorem dX1_isFinished_1 : decode cX1_isFinished 1 = .ok (.getfield 25, 3) := by decide +kernel
theorem dX1_isFinished_12 : decode cX1_isFinished 12 = .ok (.iconst 4, 1) := by decide +kernel
theorem dX1_isFinished_13 : decode cX1_isFinished 13 = .ok (.if_icmp .ne 7, 3) := by decide +kernel
theorem dX1_isFinished_16 : decode cX1_isFinished 16 = .ok (.iconst 1, 1) := by decide +kernel
theorem dX1_isFinished_17 : decode cX1_isFinished 17 = .ok (.goto 4, 3) := by decide +kernel
theorem dX1_isFinished_20 : decode cX1_isFinished 20 = .ok (.iconst 0, 1) := by decide +kernel
theorem dX1_isFinished_21 : decode cX1_isFinished 21 = .ok (.ireturn, 1) := by decide +kernel
theorem dX1_isFinished_4 : decode cX1_isFinished 4 = .ok (.iconst 3, 1) := by decide +kernel
theorem dX1_isFinished_5 : decode cX1_isFinished 5 = .ok (.if_icmp .eq 11, 3) := by decide +kernel
theorem dX1_isFinished_8 : decode cX1_isFinished 8 = .ok (.aload_n 0, 1) := by decide +kernel
theorem dX1_isFinished_9 : decode cX1_isFinished 9 = .ok (.getfield 25, 3) := by decide +kernel
theorem dX3_abandon_0 : decode cX3_abandon 0 = .ok (.aload_n 0, 1) := by decide +kernel
theorem dX3_abandon_1 : decode cX3_abandon 1 = .ok (.getfield 29, 3) := by decide +kernel
theorem dX3_abandon_12 : decode cX3_abandon 12 = .ok (.aload_n 0, 1) := by decide +kernel
theorem dX3_abandon_13 : decode cX3_abandon 13 = .ok (.aload_n 2, 1) := by decide +kernel
theorem dX3_abandon_14 : decode cX3_abandon 14 = .ok (.iconst 4, 1) := by decide +kernel
theorem dX3_abandon_15 : decode cX3_abandon 15 = .ok (.invokevirtual 180, 3) := by decide +kernel
theorem dX3_abandon_18 : decode cX3_abandon 18 = .ok (.aload_n 0, 1) := by decide +kernel
theorem dX3_abandon_19 : decode cX3_abandon 19 = .ok (.getfield 23, 3) := by decide +kernel
theorem dX3_abandon_22 : decode cX3_abandon 22 = .ok (.aload_n 2, 1) := by decide +kernel
theorem dX3_abandon_23 : decode cX3_abandon 23 = .ok (.getfield 112, 3) := by decide +kernel
theorem dX3_abandon_26 : decode cX3_abandon 26 = .ok (.aaload, 1) := by decide +kernel
theorem dX3_abandon_27 : decode cX3_abandon 27 = .ok (.dup, 1) := by decide +kernel
theorem dX3_abandon_28 : decode cX3_abandon 28 = .ok (.getfield 247, 3) := by decide +kernel
theorem dX3_abandon_31 : decode cX3_abandon 31 = .ok (.iconst 1, 1) := by decide +kernel
theorem dX3_abandon_32 : decode cX3_abandon 32 = .ok (.iadd, 1) := by decide +kernel
theorem dX3_abandon_33 : decode cX3_abandon 33 = .ok (.putfield 247, 3) := by decide +kernel
theorem dX3_abandon_36 : decode cX3_abandon 36 = .ok (.aload_n 0, 1) := by decide +kernel
theorem dX3_abandon_37 : decode cX3_abandon 37 = .ok (.aload_n 0, 1) := by decide +kernel
theorem dX3_abandon_38 : decode cX3_abandon 38 = .ok (.getfield 23, 3) := by decide +kernel
theorem dX3_abandon_4 : decode cX3_abandon 4 = .ok (.iload_n 1, 1) := by decide +kernel
theorem dX3_abandon_41 : decode cX3_abandon 41 = .ok (.aload_n 2, 1) := by decide +kernel
theorem dX3_abandon_42 : decode cX3_abandon 42 = .ok (.getfield 112, 3) := by decide +kernel
theorem dX3_abandon_45 : decode cX3_abandon 45 = .ok (.aaload, 1) := by decide +kernel
theorem dX3_abandon_46 : decode cX3_abandon 46 = .ok (.invokevirtual 244, 3) := by decide +kernel
theorem dX3_abandon_49 : decode cX3_abandon 49 = .ok (.return_, 1) := by decide +kernel
theorem dX3_abandon_5 : decode cX3_abandon 5 = .ok (.aaload, 1) := by decide +kernel
theorem dX3_abandon_6 : decode cX3_abandon 6 = .ok (.astore_n 2, 1) := by decide +kernel
theorem dX3_abandon_7 : decode cX3_abandon 7 = .ok (.aload_n 2, 1) := by decide +kernel
theorem dX3_abandon_8 : decode cX3_abandon 8 = .ok (.iconst 0, 1) := by decide +kernel
theorem dX3_abandon_9 : decode cX3_abandon 9 = .ok (.putfield 205, 3) := by decide +kernel
theorem dX3_addCard_0 : decode cX3_addCard 0 = .ok (.aload_n 0, 1) := by decide +kernel
theorem dX3_addCard_1 : decode cX3_addCard 1 = .ok (.getfield 70, 3) := by decide +kernel
theorem dX3_addCard_10 : decode cX3_addCard 10 = .ok (.getfield 29, 3) := by decide +kernel
theorem dX3_addCard_13 : decode cX3_addCard 13 = .ok (.aload_n 0, 1) := by decide +kernel
theorem dX3_addCard_14 : decode cX3_addCard 14 = .ok (.getfield 70, 3) := by decide +kernel
theorem dX3_addCard_17 : decode cX3_addCard 17 = .ok (.aaload, 1) := by decide +kernel
theorem dX3_addCard_18 : decode cX3_addCard 18 = .ok (.iload_n 1, 1) := by decide +kernel
theorem dX3_addCard_19 : decode cX3_addCard 19 = .ok (.aload_n 0, 1) := by decide +kernel
theorem dX3_addCard_20 : decode cX3_addCard 20 = .ok (.getfield 23, 3) := by decide +kernel
theorem dX3_addCard_23 : decode cX3_addCard 23 = .ok (.iload_n 1, 1) := by decide +kernel
theorem dX3_addCard_24 : decode cX3_addCard 24 = .ok (.aaload, 1) := by decide +kernel
theorem dX3_addCard_25 : decode cX3_addCard 25 = .ok (.getfield 102, 3) := by decide +kernel
theorem dX3_addCard_28 : decode cX3_addCard 28 = .ok (.aload_n 2, 1) := by decide +kernel
theorem dX3_addCard_29 : decode cX3_addCard 29 = .ok (.invokevirtual 105, 3) := by decide +kernel
theorem dX3_addCard_32 : decode cX3_addCard 32 = .ok (.aload_n 0, 1) := by decide +kernel
theorem dX3_addCard_33 : decode cX3_addCard 33 = .ok (.getfield 23, 3) := by decide +kernel
theorem dX3_addCard_36 : decode cX3_addCard 36 = .ok (.iload_n 1, 1) := by decide +kernel
theorem dX3_addCard_37 : decode cX3_addCard 37 = .ok (.aaload, 1) := by decide +kernel
theorem dX3_addCard_38 : decode cX3_addCard 38 = .ok (.getfield 106, 3) := by decide +kernel
theorem dX3_addCard_4 : decode cX3_addCard 4 = .ok (.bipush 30, 2) := by decide +kernel
theorem dX3_addCard_41 : decode cX3_addCard 41 = .ok (.aload_n 0, 1) := by decide +kernel
theorem dX3_addCard_42 : decode cX3_addCard 42 = .ok (.getfield 23, 3) := by decide +kernel
theorem dX3_addCard_45 : decode cX3_addCard 45 = .ok (.iload_n 1, 1) := by decide +kernel
theorem dX3_addCard_46 : decode cX3_addCard 46 = .ok (.aaload, 1) := by decide +kernel
theorem dX3_addCard_47 : decode cX3_addCard 47 = .ok (.getfield 102, 3) := by decide +kernel
theorem dX3_addCard_50 : decode cX3_addCard 50 = .ok (.aload_n 0, 1) := by decide +kernel
theorem dX3_addCard_51 : decode cX3_addCard 51 = .ok (.getfield 70, 3) := by decide +kernel
theorem dX3_addCard_54 : decode cX3_addCard 54 = .ok (.iastore, 1) := by decide +kernel
theorem dX3_addCard_55 : decode cX3_addCard 55 = .ok (.aload_n 0, 1) := by decide +kernel
theorem dX3_addCard_56 : decode cX3_addCard 56 = .ok (.getfield 23, 3) := by decide +kernel
theorem dX3_addCard_59 : decode cX3_addCard 59 = .ok (.iload_n 1, 1) := by decide +kernel
theorem dX3_addCard_6 : decode cX3_addCard 6 = .ok (.if_icmp .ge 84, 3) := by decide +kernel
theorem dX3_addCard_60 : decode cX3_addCard 60 = .ok (.aaload, 1) := by decide +kernel
theorem dX3_addCard_61 : decode cX3_addCard 61 = .ok (.dup, 1) := by decide +kernel
theorem dX3_addCard_62 : decode cX3_addCard 62 = .ok (.getfield 102, 3) := by decide +kernel
theorem dX3_addCard_65 : decode cX3_addCard 65 = .ok (.iconst 1, 1) := by decide +kernel
theorem dX3_addCard_66 : decode cX3_addCard 66 = .ok (.iadd, 1) := by decide +kernel
theorem dX3_addCard_67 : decode cX3_addCard 67 = .ok (.putfield 102, 3) := by decide +kernel
theorem dX3_addCard_70 : decode cX3_addCard 70 = .ok (.aload_n 0, 1) := by decide +kernel
theorem dX3_addCard_71 : decode cX3_addCard 71 = .ok (.getfield 33, 3) := by decide +kernel
theorem dX3_addCard_74 : decode cX3_addCard 74 = .ok (.iconst 0, 1) := by decide +kernel
theorem dX3_addCard_75 : decode cX3_addCard 75 = .ok (.dup2, 1) := by decide +kernel
theorem dX3_addCard_76 : decode cX3_addCard 76 = .ok (.iaload, 1) := by decide +kernel
theorem dX3_addCard_77 : decode cX3_addCard 77 = .ok (.iconst 1, 1) := by decide +kernel
theorem dX3_addCard_78 : decode cX3_addCard 78 = .ok (.iadd, 1) := by decide +kernel
theorem dX3_addCard_79 : decode cX3_addCard 79 = .ok (.iastore, 1) := by decide +kernel
theorem dX3_addCard_80 : decode cX3_addCard 80 = .ok (.aload_n 0, 1) := by decide +kernel
theorem dX3_addCard_81 : decode cX3_addCard 81 = .ok (.dup, 1) := by decide +kernel
theorem dX3_addCard_82 : decode cX3_addCard 82 = .ok (.getfield 70, 3) := by decide +kernel
theorem dX3_addCard_85 : decode cX3_addCard 85 = .ok (.iconst 1, 1) := by decide +kernel
theorem dX3_addCard_86 : decode cX3_addCard 86 = .ok (.iadd, 1) := by decide +kernel
theorem dX3_addCard_87 : decode cX3_addCard 87 = .ok (.putfield 70, 3) := by decide +kernel
theorem dX3_addCard_9 : decode cX3_addCard 9 = .ok (.aload_n 0, 1) := by decide +kernel
theorem dX3_addCard_90 : decode cX3_addCard 90 = .ok (.return_, 1) := by decide +kernel
theorem dX3_addLot_0 : decode cX3_addLot 0 = .ok (.aload_n 0, 1) := by decide +kernel
theorem dX3_addLot_1 : decode cX3_addLot 1 = .ok (.getfield 67, 3) := by decide +kernel
theorem dX3_addLot_10 : decode cX3_addLot 10 = .ok (.getfield 23, 3) := by decide +kernel
theorem dX3_addLot_13 : decode cX3_addLot 13 = .ok (.aload_n 0, 1) := by decide +kernel
theorem dX3_addLot_14 : decode cX3_addLot 14 = .ok (.getfield 67, 3) := by decide +kernel
theorem dX3_addLot_17 : decode cX3_addLot 17 = .ok (.aaload, 1) := by decide +kernel
theorem dX3_addLot_18 : decode cX3_addLot 18 = .ok (.iload_n 1, 1) := by decide +kernel
theorem dX3_addLot_19 : decode cX3_addLot 19 = .ok (.invokevirtual 99, 3) := by decide +kernel
theorem dX3_addLot_22 : decode cX3_addLot 22 = .ok (.aload_n 0, 1) := by decide +kernel
theorem dX3_addLot_23 : decode cX3_addLot 23 = .ok (.dup, 1) := by decide +kernel
theorem dX3_addLot_24 : decode cX3_addLot 24 = .ok (.getfield 67, 3) := by decide +kernel
theorem dX3_addLot_27 : decode cX3_addLot 27 = .ok (.iconst 1, 1) := by decide +kernel
theorem dX3_addLot_28 : decode cX3_addLot 28 = .ok (.iadd, 1) := by decide +kernel
theorem dX3_addLot_29 : decode cX3_addLot 29 = .ok (.putfield 67, 3) := by decide +kernel
theorem dX3_addLot_32 : decode cX3_addLot 32 = .ok (.return_, 1) := by decide +kernel
theorem dX3_addLot_4 : decode cX3_addLot 4 = .ok (.bipush 6, 2) := by decide +kernel
theorem dX3_addLot_6 : decode cX3_addLot 6 = .ok (.if_icmp .ge 26, 3) := by decide +kernel
theorem dX3_addLot_9 : decode cX3_addLot 9 = .ok (.aload_n 0, 1) := by decide +kernel
theorem dX3_addStation_0 : decode cX3_addStation 0 = .ok (.aload_n 0, 1) := by decide +kernel
theorem dX3_addStation_1 : decode cX3_addStation 1 = .ok (.getfield 64, 3) := by decide +kernel
theorem dX3_addStation_10 : decode cX3_addStation 10 = .ok (.getfield 17, 3) := by decide +kernel
theorem dX3_addStation_13 : decode cX3_addStation 13 = .ok (.aload_n 0, 1) := by decide +kernel
theorem dX3_addStation_14 : decode cX3_addStation 14 = .ok (.getfield 64, 3) := by decide +kernel
theorem dX3_addStation_17 : decode cX3_addStation 17 = .ok (.aaload, 1) := by decide +kernel
theorem dX3_addStation_18 : decode cX3_addStation 18 = .ok (.iload_n 1, 1) := by decide +kernel
theorem dX3_addStation_19 : decode cX3_addStation 19 = .ok (.iload_n 2, 1) := by decide +kernel
theorem dX3_addStation_20 : decode cX3_addStation 20 = .ok (.aload_n 3, 1) := by decide +kernel
theorem dX3_addStation_21 : decode cX3_addStation 21 = .ok (.invokevirtual 95, 3) := by decide +kernel
theorem dX3_addStation_24 : decode cX3_addStation 24 = .ok (.aload_n 0, 1) := by decide +kernel
theorem dX3_addStation_25 : decode cX3_addStation 25 = .ok (.dup, 1) := by decide +kernel
theorem dX3_addStation_26 : decode cX3_addStation 26 = .ok (.getfield 64, 3) := by decide +kernel
theorem dX3_addStation_29 : decode cX3_addStation 29 = .ok (.iconst 1, 1) := by decide +kernel
theorem dX3_addStation_30 : decode cX3_addStation 30 = .ok (.iadd, 1) := by decide +kernel
theorem dX3_addStation_31 : decode cX3_addStation 31 = .ok (.putfield 64, 3) := by decide +kernel
theorem dX3_addStation_34 : decode cX3_addStation 34 = .ok (.return_, 1) := by decide +kernel
theorem dX3_addStation_4 : decode cX3_addStation 4 = .ok (.bipush 6, 2) := by decide +kernel
theorem dX3_addStation_6 : decode cX3_addStation 6 = .ok (.if_icmp .ge 28, 3) := by decide +kernel
theorem dX3_addStation_9 : decode cX3_addStation 9 = .ok (.aload_n 0, 1) := by decide +kernel
theorem dX3_begin_0 : decode cX3_begin 0 = .ok (.aload_n 0, 1) := by decide +kernel
theorem dX3_begin_1 : decode cX3_begin 1 = .ok (.iload_n 1, 1) := by decide +kernel
theorem dX3_begin_10 : decode cX3_begin 10 = .ok (.aload_n 0, 1) := by decide +kernel
theorem dX3_begin_11 : decode cX3_begin 11 = .ok (.iconst 0, 1) := by decide +kernel
theorem dX3_begin_12 : decode cX3_begin 12 = .ok (.putfield 49, 3) := by decide +kernel
theorem dX3_begin_15 : decode cX3_begin 15 = .ok (.aload_n 0, 1) := by decide +kernel
theorem dX3_begin_16 : decode cX3_begin 16 = .ok (.iload_n 2, 1) := by decide +kernel
theorem dX3_begin_17 : decode cX3_begin 17 = .ok (.putfield 52, 3) := by decide +kernel
theorem dX3_begin_2 : decode cX3_begin 2 = .ok (.putfield 9, 3) := by decide +kernel
theorem dX3_begin_20 : decode cX3_begin 20 = .ok (.aload_n 0, 1) := by decide +kernel
theorem dX3_begin_21 : decode cX3_begin 21 = .ok (.iload_n 3, 1) := by decide +kernel
theorem dX3_begin_22 : decode cX3_begin 22 = .ok (.putfield 55, 3) := by decide +kernel
theorem dX3_begin_25 : decode cX3_begin 25 = .ok (.aload_n 0, 1) := by decide +kernel
theorem dX3_begin_26 : decode cX3_begin 26 = .ok (.iload 4, 2) := by decide +kernel
theorem dX3_begin_28 : decode cX3_begin 28 = .ok (.putfield 58, 3) := by decide +kernel
theorem dX3_begin_31 : decode cX3_begin 31 = .ok (.aload_n 0, 1) := by decide +kernel
theorem dX3_begin_32 : decode cX3_begin 32 = .ok (.iconst 0, 1) := by decide +kernel
theorem dX3_begin_33 : decode cX3_begin 33 = .ok (.putfield 61, 3) := by decide +kernel
theorem dX3_begin_36 : decode cX3_begin 36 = .ok (.aload_n 0, 1) := by decide +kernel
theorem dX3_begin_37 : decode cX3_begin 37 = .ok (.iconst 0, 1) := by decide +kernel
theorem dX3_begin_38 : decode cX3_begin 38 = .ok (.putfield 64, 3) := by decide +kernel
theorem dX3_begin_41 : decode cX3_begin 41 = .ok (.aload_n 0, 1) := by decide +kernel
theorem dX3_begin_42 : decode cX3_begin 42 = .ok (.iconst 0, 1) := by decide +kernel
theorem dX3_begin_43 : decode cX3_begin 43 = .ok (.putfield 67, 3) := by decide +kernel
theorem dX3_begin_46 : decode cX3_begin 46 = .ok (.aload_n 0, 1) := by decide +kernel
theorem dX3_begin_47 : decode cX3_begin 47 = .ok (.iconst 0, 1) := by decide +kernel
theorem dX3_begin_48 : decode cX3_begin 48 = .ok (.putfield 70, 3) := by decide +kernel
theorem dX3_begin_5 : decode cX3_begin 5 = .ok (.aload_n 0, 1) := by decide +kernel
theorem dX3_begin_51 : decode cX3_begin 51 = .ok (.aload_n 0, 1) := by decide +kernel
theorem dX3_begin_52 : decode cX3_begin 52 = .ok (.getfield 33, 3) := by decide +kernel
theorem dX3_begin_55 : decode cX3_begin 55 = .ok (.iconst 0, 1) := by decide +kernel
theorem dX3_begin_56 : decode cX3_begin 56 = .ok (.invokestatic 73, 3) := by decide +kernel
theorem dX3_begin_59 : decode cX3_begin 59 = .ok (.aload_n 0, 1) := by decide +kernel
theorem dX3_begin_6 : decode cX3_begin 6 = .ok (.iload_n 2, 1) := by decide +kernel
theorem dX3_begin_60 : decode cX3_begin 60 = .ok (.getfield 40, 3) := by decide +kernel
theorem dX3_begin_63 : decode cX3_begin 63 = .ok (.iconst 0, 1) := by decide +kernel
theorem dX3_begin_64 : decode cX3_begin 64 = .ok (.invokestatic 73, 3) := by decide +kernel
theorem dX3_begin_67 : decode cX3_begin 67 = .ok (.return_, 1) := by decide +kernel
theorem dX3_begin_7 : decode cX3_begin 7 = .ok (.putfield 46, 3) := by decide +kernel
theorem dX3_changeState_0 : decode cX3_changeState 0 = .ok (.aload_n 0, 1) := by decide +kernel
theorem dX3_changeState_1 : decode cX3_changeState 1 = .ok (.getfield 33, 3) := by decide +kernel
theorem dX3_changeState_10 : decode cX3_changeState 10 = .ok (.iconst 1, 1) := by decide +kernel
theorem dX3_changeState_11 : decode cX3_changeState 11 = .ok (.isub, 1) := by decide +kernel
theorem dX3_changeState_12 : decode cX3_changeState 12 = .ok (.iastore, 1) := by decide +kernel
theorem dX3_changeState_13 : decode cX3_changeState 13 = .ok (.aload_n 0, 1) := by decide +kernel
theorem dX3_changeState_14 : decode cX3_changeState 14 = .ok (.getfield 33, 3) := by decide +kernel
theorem dX3_changeState_17 : decode cX3_changeState 17 = .ok (.iload_n 2, 1) := by decide +kernel
theorem dX3_changeState_18 : decode cX3_changeState 18 = .ok (.dup2, 1) := by decide +kernel
theorem dX3_changeState_19 : decode cX3_changeState 19 = .ok (.iaload, 1) := by decide +kernel
theorem dX3_changeState_20 : decode cX3_changeState 20 = .ok (.iconst 1, 1) := by decide +kernel
theorem dX3_changeState_21 : decode cX3_changeState 21 = .ok (.iadd, 1) := by decide +kernel
theorem dX3_changeState_22 : decode cX3_changeState 22 = .ok (.iastore, 1) := by decide +kernel
theorem dX3_changeState_23 : decode cX3_changeState 23 = .ok (.aload_n 1, 1) := by decide +kernel
theorem dX3_changeState_24 : decode cX3_changeState 24 = .ok (.iload_n 2, 1) := by decide +kernel
theorem dX3_changeState_25 : decode cX3_changeState 25 = .ok (.putfield 208, 3) := by decide +kernel
theorem dX3_changeState_28 : decode cX3_changeState 28 = .ok (.aload_n 1, 1) := by decide +kernel
theorem dX3_changeState_29 : decode cX3_changeState 29 = .ok (.iconst (-1), 1) := by decide +kernel
theorem dX3_changeState_30 : decode cX3_changeState 30 = .ok (.putfield 232, 3) := by decide +kernel
theorem dX3_changeState_33 : decode cX3_changeState 33 = .ok (.return_, 1) := by decide +kernel
theorem dX3_changeState_4 : decode cX3_changeState 4 = .ok (.aload_n 1, 1) := by decide +kernel
theorem dX3_changeState_5 : decode cX3_changeState 5 = .ok (.getfield 208, 3) := by decide +kernel
theorem dX3_changeState_8 : decode cX3_changeState 8 = .ok (.dup2, 1) := by decide +kernel
theorem dX3_changeState_9 : decode cX3_changeState 9 = .ok (.iaload, 1) := by decide +kernel
theorem dX3_comeOut_0 : decode cX3_comeOut 0 = .ok (.aload_n 1, 1) := by decide +kernel
theorem dX3_comeOut_1 : decode cX3_comeOut 1 = .ok (.getfield 133, 3) := by decide +kernel
theorem dX3_comeOut_10 : decode cX3_comeOut 10 = .ok (.aaload, 1) := by decide +kernel
theorem dX3_comeOut_100 : decode cX3_comeOut 100 = .ok (.dup2, 1) := by decide +kernel
theorem dX3_comeOut_101 : decode cX3_comeOut 101 = .ok (.iaload, 1) := by decide +kernel
theorem dX3_comeOut_102 : decode cX3_comeOut 102 = .ok (.iconst 1, 1) := by decide +kernel
theorem dX3_comeOut_103 : decode cX3_comeOut 103 = .ok (.iadd, 1) := by decide +kernel
theorem dX3_comeOut_104 : decode cX3_comeOut 104 = .ok (.iastore, 1) := by decide +kernel
theorem dX3_comeOut_105 : decode cX3_comeOut 105 = .ok (.aload_n 0, 1) := by decide +kernel
theorem dX3_comeOut_106 : decode cX3_comeOut 106 = .ok (.aload_n 3, 1) := by decide +kernel
theorem dX3_comeOut_107 : decode cX3_comeOut 107 = .ok (.iconst 0, 1) := by decide +kernel
theorem dX3_comeOut_108 : decode cX3_comeOut 108 = .ok (.invokevirtual 180, 3) := by decide +kernel
theorem dX3_comeOut_11 : decode cX3_comeOut 11 = .ok (.astore_n 3, 1) := by decide +kernel
theorem dX3_comeOut_111 : decode cX3_comeOut 111 = .ok (.return_, 1) := by decide +kernel
theorem dX3_comeOut_12 : decode cX3_comeOut 12 = .ok (.aload_n 1, 1) := by decide +kernel
theorem dX3_comeOut_13 : decode cX3_comeOut 13 = .ok (.invokevirtual 184, 3) := by decide +kernel
theorem dX3_comeOut_16 : decode cX3_comeOut 16 = .ok (.aload_n 0, 1) := by decide +kernel
theorem dX3_comeOut_17 : decode cX3_comeOut 17 = .ok (.iconst 1, 1) := by decide +kernel
theorem dX3_comeOut_18 : decode cX3_comeOut 18 = .ok (.putfield 115, 3) := by decide +kernel
theorem dX3_comeOut_21 : decode cX3_comeOut 21 = .ok (.aload_n 0, 1) := by decide +kernel
theorem dX3_comeOut_22 : decode cX3_comeOut 22 = .ok (.getfield 23, 3) := by decide +kernel
theorem dX3_comeOut_25 : decode cX3_comeOut 25 = .ok (.aload_n 3, 1) := by decide +kernel
theorem dX3_comeOut_26 : decode cX3_comeOut 26 = .ok (.getfield 112, 3) := by decide +kernel
theorem dX3_comeOut_29 : decode cX3_comeOut 29 = .ok (.aaload, 1) := by decide +kernel
theorem dX3_comeOut_30 : decode cX3_comeOut 30 = .ok (.invokevirtual 191, 3) := by decide +kernel
theorem dX3_comeOut_33 : decode cX3_comeOut 33 = .ok (.iload_n 2, 1) := by decide +kernel
theorem dX3_comeOut_34 : decode cX3_comeOut 34 = .ok (.if_icmp .ne 11, 3) := by decide +kernel
theorem dX3_comeOut_37 : decode cX3_comeOut 37 = .ok (.aload_n 0, 1) := by decide +kernel
theorem dX3_comeOut_38 : decode cX3_comeOut 38 = .ok (.iload_n 2, 1) := by decide +kernel
theorem dX3_comeOut_39 : decode cX3_comeOut 39 = .ok (.invokevirtual 195, 3) := by decide +kernel
theorem dX3_comeOut_4 : decode cX3_comeOut 4 = .ok (.istore_n 2, 1) := by decide +kernel
theorem dX3_comeOut_42 : decode cX3_comeOut 42 = .ok (.goto 69, 3) := by decide +kernel
theorem dX3_comeOut_45 : decode cX3_comeOut 45 = .ok (.aload_n 0, 1) := by decide +kernel
theorem dX3_comeOut_46 : decode cX3_comeOut 46 = .ok (.getfield 33, 3) := by decide +kernel
theorem dX3_comeOut_49 : decode cX3_comeOut 49 = .ok (.iconst 2, 1) := by decide +kernel
theorem dX3_comeOut_5 : decode cX3_comeOut 5 = .ok (.aload_n 0, 1) := by decide +kernel
theorem dX3_comeOut_50 : decode cX3_comeOut 50 = .ok (.iaload, 1) := by decide +kernel
theorem dX3_comeOut_51 : decode cX3_comeOut 51 = .ok (.aload_n 0, 1) := by decide +kernel
theorem dX3_comeOut_52 : decode cX3_comeOut 52 = .ok (.getfield 55, 3) := by decide +kernel
theorem dX3_comeOut_55 : decode cX3_comeOut 55 = .ok (.if_icmp .ge 12, 3) := by decide +kernel
theorem dX3_comeOut_58 : decode cX3_comeOut 58 = .ok (.aload_n 0, 1) := by decide +kernel
theorem dX3_comeOut_59 : decode cX3_comeOut 59 = .ok (.aload_n 3, 1) := by decide +kernel
theorem dX3_comeOut_6 : decode cX3_comeOut 6 = .ok (.getfield 29, 3) := by decide +kernel
theorem dX3_comeOut_60 : decode cX3_comeOut 60 = .ok (.iconst 2, 1) := by decide +kernel
theorem dX3_comeOut_61 : decode cX3_comeOut 61 = .ok (.invokevirtual 180, 3) := by decide +kernel
theorem dX3_comeOut_64 : decode cX3_comeOut 64 = .ok (.goto 47, 3) := by decide +kernel
theorem dX3_comeOut_67 : decode cX3_comeOut 67 = .ok (.aload_n 3, 1) := by decide +kernel
theorem dX3_comeOut_68 : decode cX3_comeOut 68 = .ok (.dup, 1) := by decide +kernel
theorem dX3_comeOut_69 : decode cX3_comeOut 69 = .ok (.getfield 198, 3) := by decide +kernel
theorem dX3_comeOut_72 : decode cX3_comeOut 72 = .ok (.iconst 1, 1) := by decide +kernel
theorem dX3_comeOut_73 : decode cX3_comeOut 73 = .ok (.iadd, 1) := by decide +kernel
theorem dX3_comeOut_74 : decode cX3_comeOut 74 = .ok (.putfield 198, 3) := by decide +kernel
theorem dX3_comeOut_77 : decode cX3_comeOut 77 = .ok (.aload_n 0, 1) := by decide +kernel
theorem dX3_comeOut_78 : decode cX3_comeOut 78 = .ok (.getfield 23, 3) := by decide +kernel
theorem dX3_comeOut_81 : decode cX3_comeOut 81 = .ok (.aload_n 3, 1) := by decide +kernel
theorem dX3_comeOut_82 : decode cX3_comeOut 82 = .ok (.getfield 112, 3) := by decide +kernel
theorem dX3_comeOut_85 : decode cX3_comeOut 85 = .ok (.aaload, 1) := by decide +kernel
theorem dX3_comeOut_86 : decode cX3_comeOut 86 = .ok (.dup, 1) := by decide +kernel
theorem dX3_comeOut_87 : decode cX3_comeOut 87 = .ok (.getfield 201, 3) := by decide +kernel
theorem dX3_comeOut_9 : decode cX3_comeOut 9 = .ok (.iload_n 2, 1) := by decide +kernel
theorem dX3_comeOut_90 : decode cX3_comeOut 90 = .ok (.iconst 1, 1) := by decide +kernel
theorem dX3_comeOut_91 : decode cX3_comeOut 91 = .ok (.iadd, 1) := by decide +kernel
theorem dX3_comeOut_92 : decode cX3_comeOut 92 = .ok (.putfield 201, 3) := by decide +kernel
theorem dX3_comeOut_95 : decode cX3_comeOut 95 = .ok (.aload_n 0, 1) := by decide +kernel
theorem dX3_comeOut_96 : decode cX3_comeOut 96 = .ok (.getfield 40, 3) := by decide +kernel
theorem dX3_comeOut_99 : decode cX3_comeOut 99 = .ok (.iconst 2, 1) := by decide +kernel
theorem dX3_copyFrom_0 : decode cX3_copyFrom 0 = .ok (.aload_n 0, 1) := by decide +kernel
theorem dX3_copyFrom_1 : decode cX3_copyFrom 1 = .ok (.aload_n 1, 1) := by decide +kernel
theorem dX3_copyFrom_10 : decode cX3_copyFrom 10 = .ok (.getfield 55, 3) := by decide +kernel
theorem dX3_copyFrom_100 : decode cX3_copyFrom 100 = .ok (.iload_n 2, 1) := by decide +kernel
theorem dX3_copyFrom_101 : decode cX3_copyFrom 101 = .ok (.aaload, 1) := by decide +kernel
theorem dX3_copyFrom_102 : decode cX3_copyFrom 102 = .ok (.invokevirtual 79, 3) := by decide +kernel
theorem dX3_copyFrom_105 : decode cX3_copyFrom 105 = .ok (.iinc 2 1, 3) := by decide +kernel
theorem dX3_copyFrom_108 : decode cX3_copyFrom 108 = .ok (.goto (-26), 3) := by decide +kernel
theorem dX3_copyFrom_111 : decode cX3_copyFrom 111 = .ok (.iconst 0, 1) := by decide +kernel
theorem dX3_copyFrom_112 : decode cX3_copyFrom 112 = .ok (.istore_n 2, 1) := by decide +kernel
theorem dX3_copyFrom_113 : decode cX3_copyFrom 113 = .ok (.iload_n 2, 1) := by decide +kernel
theorem dX3_copyFrom_114 : decode cX3_copyFrom 114 = .ok (.aload_n 0, 1) := by decide +kernel
theorem dX3_copyFrom_115 : decode cX3_copyFrom 115 = .ok (.getfield 67, 3) := by decide +kernel
theorem dX3_copyFrom_118 : decode cX3_copyFrom 118 = .ok (.if_icmp .ge 24, 3) := by decide +kernel
theorem dX3_copyFrom_121 : decode cX3_copyFrom 121 = .ok (.aload_n 0, 1) := by decide +kernel
theorem dX3_copyFrom_122 : decode cX3_copyFrom 122 = .ok (.getfield 23, 3) := by decide +kernel
theorem dX3_copyFrom_125 : decode cX3_copyFrom 125 = .ok (.iload_n 2, 1) := by decide +kernel
theorem dX3_copyFrom_126 : decode cX3_copyFrom 126 = .ok (.aaload, 1) := by decide +kernel
theorem dX3_copyFrom_127 : decode cX3_copyFrom 127 = .ok (.aload_n 1, 1) := by decide +kernel
theorem dX3_copyFrom_128 : decode cX3_copyFrom 128 = .ok (.getfield 23, 3) := by decide +kernel
theorem dX3_copyFrom_13 : decode cX3_copyFrom 13 = .ok (.putfield 55, 3) := by decide +kernel
theorem dX3_copyFrom_131 : decode cX3_copyFrom 131 = .ok (.iload_n 2, 1) := by decide +kernel
theorem dX3_copyFrom_132 : decode cX3_copyFrom 132 = .ok (.aaload, 1) := by decide +kernel
theorem dX3_copyFrom_133 : decode cX3_copyFrom 133 = .ok (.invokevirtual 83, 3) := by decide +kernel
theorem dX3_copyFrom_136 : decode cX3_copyFrom 136 = .ok (.iinc 2 1, 3) := by decide +kernel
theorem dX3_copyFrom_139 : decode cX3_copyFrom 139 = .ok (.goto (-26), 3) := by decide +kernel
theorem dX3_copyFrom_142 : decode cX3_copyFrom 142 = .ok (.iconst 0, 1) := by decide +kernel
theorem dX3_copyFrom_143 : decode cX3_copyFrom 143 = .ok (.istore_n 2, 1) := by decide +kernel
theorem dX3_copyFrom_144 : decode cX3_copyFrom 144 = .ok (.iload_n 2, 1) := by decide +kernel
theorem dX3_copyFrom_145 : decode cX3_copyFrom 145 = .ok (.aload_n 0, 1) := by decide +kernel
theorem dX3_copyFrom_146 : decode cX3_copyFrom 146 = .ok (.getfield 70, 3) := by decide +kernel
theorem dX3_copyFrom_149 : decode cX3_copyFrom 149 = .ok (.if_icmp .ge 24, 3) := by decide +kernel
theorem dX3_copyFrom_152 : decode cX3_copyFrom 152 = .ok (.aload_n 0, 1) := by decide +kernel
theorem dX3_copyFrom_153 : decode cX3_copyFrom 153 = .ok (.getfield 29, 3) := by decide +kernel
theorem dX3_copyFrom_156 : decode cX3_copyFrom 156 = .ok (.iload_n 2, 1) := by decide +kernel
theorem dX3_copyFrom_157 : decode cX3_copyFrom 157 = .ok (.aaload, 1) := by decide +kernel
theorem dX3_copyFrom_158 : decode cX3_copyFrom 158 = .ok (.aload_n 1, 1) := by decide +kernel
theorem dX3_copyFrom_159 : decode cX3_copyFrom 159 = .ok (.getfield 29, 3) := by decide +kernel
theorem dX3_copyFrom_16 : decode cX3_copyFrom 16 = .ok (.aload_n 0, 1) := by decide +kernel
theorem dX3_copyFrom_162 : decode cX3_copyFrom 162 = .ok (.iload_n 2, 1) := by decide +kernel
theorem dX3_copyFrom_163 : decode cX3_copyFrom 163 = .ok (.aaload, 1) := by decide +kernel
theorem dX3_copyFrom_164 : decode cX3_copyFrom 164 = .ok (.invokevirtual 86, 3) := by decide +kernel
theorem dX3_copyFrom_167 : decode cX3_copyFrom 167 = .ok (.iinc 2 1, 3) := by decide +kernel
theorem dX3_copyFrom_17 : decode cX3_copyFrom 17 = .ok (.aload_n 1, 1) := by decide +kernel
theorem dX3_copyFrom_170 : decode cX3_copyFrom 170 = .ok (.goto (-26), 3) := by decide +kernel
theorem dX3_copyFrom_173 : decode cX3_copyFrom 173 = .ok (.aload_n 1, 1) := by decide +kernel
theorem dX3_copyFrom_174 : decode cX3_copyFrom 174 = .ok (.getfield 33, 3) := by decide +kernel
theorem dX3_copyFrom_177 : decode cX3_copyFrom 177 = .ok (.iconst 0, 1) := by decide +kernel
theorem dX3_copyFrom_178 : decode cX3_copyFrom 178 = .ok (.aload_n 0, 1) := by decide +kernel
theorem dX3_copyFrom_179 : decode cX3_copyFrom 179 = .ok (.getfield 33, 3) := by decide +kernel
theorem dX3_copyFrom_18 : decode cX3_copyFrom 18 = .ok (.getfield 58, 3) := by decide +kernel
theorem dX3_copyFrom_182 : decode cX3_copyFrom 182 = .ok (.iconst 0, 1) := by decide +kernel
theorem dX3_copyFrom_183 : decode cX3_copyFrom 183 = .ok (.iconst 5, 1) := by decide +kernel
theorem dX3_copyFrom_184 : decode cX3_copyFrom 184 = .ok (.invokestatic 89, 3) := by decide +kernel
theorem dX3_copyFrom_187 : decode cX3_copyFrom 187 = .ok (.aload_n 1, 1) := by decide +kernel
theorem dX3_copyFrom_188 : decode cX3_copyFrom 188 = .ok (.getfield 37, 3) := by decide +kernel
theorem dX3_copyFrom_191 : decode cX3_copyFrom 191 = .ok (.iconst 0, 1) := by decide +kernel
theorem dX3_copyFrom_192 : decode cX3_copyFrom 192 = .ok (.aload_n 0, 1) := by decide +kernel
theorem dX3_copyFrom_193 : decode cX3_copyFrom 193 = .ok (.getfield 37, 3) := by decide +kernel
theorem dX3_copyFrom_196 : decode cX3_copyFrom 196 = .ok (.iconst 0, 1) := by decide +kernel
theorem dX3_copyFrom_197 : decode cX3_copyFrom 197 = .ok (.bipush 30, 2) := by decide +kernel
theorem dX3_copyFrom_199 : decode cX3_copyFrom 199 = .ok (.invokestatic 89, 3) := by decide +kernel
theorem dX3_copyFrom_2 : decode cX3_copyFrom 2 = .ok (.getfield 9, 3) := by decide +kernel
theorem dX3_copyFrom_202 : decode cX3_copyFrom 202 = .ok (.aload_n 1, 1) := by decide +kernel
theorem dX3_copyFrom_203 : decode cX3_copyFrom 203 = .ok (.getfield 40, 3) := by decide +kernel
theorem dX3_copyFrom_206 : decode cX3_copyFrom 206 = .ok (.iconst 0, 1) := by decide +kernel
theorem dX3_copyFrom_207 : decode cX3_copyFrom 207 = .ok (.aload_n 0, 1) := by decide +kernel
theorem dX3_copyFrom_208 : decode cX3_copyFrom 208 = .ok (.getfield 40, 3) := by decide +kernel
theorem dX3_copyFrom_21 : decode cX3_copyFrom 21 = .ok (.putfield 58, 3) := by decide +kernel
theorem dX3_copyFrom_211 : decode cX3_copyFrom 211 = .ok (.iconst 0, 1) := by decide +kernel
theorem dX3_copyFrom_212 : decode cX3_copyFrom 212 = .ok (.iconst 5, 1) := by decide +kernel
theorem dX3_copyFrom_213 : decode cX3_copyFrom 213 = .ok (.invokestatic 89, 3) := by decide +kernel
theorem dX3_copyFrom_216 : decode cX3_copyFrom 216 = .ok (.return_, 1) := by decide +kernel
theorem dX3_copyFrom_24 : decode cX3_copyFrom 24 = .ok (.aload_n 0, 1) := by decide +kernel
theorem dX3_copyFrom_25 : decode cX3_copyFrom 25 = .ok (.aload_n 1, 1) := by decide +kernel
theorem dX3_copyFrom_26 : decode cX3_copyFrom 26 = .ok (.getfield 46, 3) := by decide +kernel
theorem dX3_copyFrom_29 : decode cX3_copyFrom 29 = .ok (.putfield 46, 3) := by decide +kernel
theorem dX3_copyFrom_32 : decode cX3_copyFrom 32 = .ok (.aload_n 0, 1) := by decide +kernel
theorem dX3_copyFrom_33 : decode cX3_copyFrom 33 = .ok (.aload_n 1, 1) := by decide +kernel
theorem dX3_copyFrom_34 : decode cX3_copyFrom 34 = .ok (.getfield 49, 3) := by decide +kernel
theorem dX3_copyFrom_37 : decode cX3_copyFrom 37 = .ok (.putfield 49, 3) := by decide +kernel
theorem dX3_copyFrom_40 : decode cX3_copyFrom 40 = .ok (.aload_n 0, 1) := by decide +kernel
theorem dX3_copyFrom_41 : decode cX3_copyFrom 41 = .ok (.aload_n 1, 1) := by decide +kernel
theorem dX3_copyFrom_42 : decode cX3_copyFrom 42 = .ok (.getfield 52, 3) := by decide +kernel
theorem dX3_copyFrom_45 : decode cX3_copyFrom 45 = .ok (.putfield 52, 3) := by decide +kernel
theorem dX3_copyFrom_48 : decode cX3_copyFrom 48 = .ok (.aload_n 0, 1) := by decide +kernel
theorem dX3_copyFrom_49 : decode cX3_copyFrom 49 = .ok (.aload_n 1, 1) := by decide +kernel
theorem dX3_copyFrom_5 : decode cX3_copyFrom 5 = .ok (.putfield 9, 3) := by decide +kernel
theorem dX3_copyFrom_50 : decode cX3_copyFrom 50 = .ok (.getfield 61, 3) := by decide +kernel
theorem dX3_copyFrom_53 : decode cX3_copyFrom 53 = .ok (.putfield 61, 3) := by decide +kernel
theorem dX3_copyFrom_56 : decode cX3_copyFrom 56 = .ok (.aload_n 0, 1) := by decide +kernel
theorem dX3_copyFrom_57 : decode cX3_copyFrom 57 = .ok (.aload_n 1, 1) := by decide +kernel
theorem dX3_copyFrom_58 : decode cX3_copyFrom 58 = .ok (.getfield 64, 3) := by decide +kernel
theorem dX3_copyFrom_61 : decode cX3_copyFrom 61 = .ok (.putfield 64, 3) := by decide +kernel
theorem dX3_copyFrom_64 : decode cX3_copyFrom 64 = .ok (.aload_n 0, 1) := by decide +kernel
theorem dX3_copyFrom_65 : decode cX3_copyFrom 65 = .ok (.aload_n 1, 1) := by decide +kernel
theorem dX3_copyFrom_66 : decode cX3_copyFrom 66 = .ok (.getfield 67, 3) := by decide +kernel
theorem dX3_copyFrom_69 : decode cX3_copyFrom 69 = .ok (.putfield 67, 3) := by decide +kernel
theorem dX3_copyFrom_72 : decode cX3_copyFrom 72 = .ok (.aload_n 0, 1) := by decide +kernel
theorem dX3_copyFrom_73 : decode cX3_copyFrom 73 = .ok (.aload_n 1, 1) := by decide +kernel
theorem dX3_copyFrom_74 : decode cX3_copyFrom 74 = .ok (.getfield 70, 3) := by decide +kernel
theorem dX3_copyFrom_77 : decode cX3_copyFrom 77 = .ok (.putfield 70, 3) := by decide +kernel
theorem dX3_copyFrom_8 : decode cX3_copyFrom 8 = .ok (.aload_n 0, 1) := by decide +kernel
theorem dX3_copyFrom_80 : decode cX3_copyFrom 80 = .ok (.iconst 0, 1) := by decide +kernel
theorem dX3_copyFrom_81 : decode cX3_copyFrom 81 = .ok (.istore_n 2, 1) := by decide +kernel
theorem dX3_copyFrom_82 : decode cX3_copyFrom 82 = .ok (.iload_n 2, 1) := by decide +kernel
theorem dX3_copyFrom_83 : decode cX3_copyFrom 83 = .ok (.aload_n 0, 1) := by decide +kernel
theorem dX3_copyFrom_84 : decode cX3_copyFrom 84 = .ok (.getfield 64, 3) := by decide +kernel
theorem dX3_copyFrom_87 : decode cX3_copyFrom 87 = .ok (.if_icmp .ge 24, 3) := by decide +kernel
theorem dX3_copyFrom_9 : decode cX3_copyFrom 9 = .ok (.aload_n 1, 1) := by decide +kernel
theorem dX3_copyFrom_90 : decode cX3_copyFrom 90 = .ok (.aload_n 0, 1) := by decide +kernel
theorem dX3_copyFrom_91 : decode cX3_copyFrom 91 = .ok (.getfield 17, 3) := by decide +kernel
theorem dX3_copyFrom_94 : decode cX3_copyFrom 94 = .ok (.iload_n 2, 1) := by decide +kernel
theorem dX3_copyFrom_95 : decode cX3_copyFrom 95 = .ok (.aaload, 1) := by decide +kernel
theorem dX3_copyFrom_96 : decode cX3_copyFrom 96 = .ok (.aload_n 1, 1) := by decide +kernel
theorem dX3_copyFrom_97 : decode cX3_copyFrom 97 = .ok (.getfield 17, 3) := by decide +kernel
theorem dX3_countReadyCards_0 : decode cX3_countReadyCards 0 = .ok (.iconst 0, 1) := by decide +kernel
theorem dX3_countReadyCards_1 : decode cX3_countReadyCards 1 = .ok (.istore_n 1, 1) := by decide +kernel
theorem dX3_countReadyCards_10 : decode cX3_countReadyCards 10 = .ok (.aload_n 0, 1) := by decide +kernel
theorem dX3_countReadyCards_11 : decode cX3_countReadyCards 11 = .ok (.getfield 17, 3) := by decide +kernel
theorem dX3_countReadyCards_14 : decode cX3_countReadyCards 14 = .ok (.iload_n 1, 1) := by decide +kernel
theorem dX3_countReadyCards_15 : decode cX3_countReadyCards 15 = .ok (.aaload, 1) := by decide +kernel
theorem dX3_countReadyCards_16 : decode cX3_countReadyCards 16 = .ok (.invokevirtual 126, 3) := by decide +kernel
theorem dX3_countReadyCards_19 : decode cX3_countReadyCards 19 = .ok (.ifCond .eq 13, 3) := by decide +kernel
theorem dX3_countReadyCards_2 : decode cX3_countReadyCards 2 = .ok (.iload_n 1, 1) := by decide +kernel
theorem dX3_countReadyCards_22 : decode cX3_countReadyCards 22 = .ok (.aload_n 0, 1) := by decide +kernel
theorem dX3_countReadyCards_23 : decode cX3_countReadyCards 23 = .ok (.getfield 40, 3) := by decide +kernel
theorem dX3_countReadyCards_26 : decode cX3_countReadyCards 26 = .ok (.iconst 4, 1) := by decide +kernel
theorem dX3_countReadyCards_27 : decode cX3_countReadyCards 27 = .ok (.dup2, 1) := by decide +kernel
theorem dX3_countReadyCards_28 : decode cX3_countReadyCards 28 = .ok (.iaload, 1) := by decide +kernel
theorem dX3_countReadyCards_29 : decode cX3_countReadyCards 29 = .ok (.iconst 1, 1) := by decide +kernel
theorem dX3_countReadyCards_3 : decode cX3_countReadyCards 3 = .ok (.aload_n 0, 1) := by decide +kernel
theorem dX3_countReadyCards_30 : decode cX3_countReadyCards 30 = .ok (.iadd, 1) := by decide +kernel
theorem dX3_countReadyCards_31 : decode cX3_countReadyCards 31 = .ok (.iastore, 1) := by decide +kernel
theorem dX3_countReadyCards_32 : decode cX3_countReadyCards 32 = .ok (.iinc 1 1, 3) := by decide +kernel
theorem dX3_countReadyCards_35 : decode cX3_countReadyCards 35 = .ok (.goto (-33), 3) := by decide +kernel
theorem dX3_countReadyCards_38 : decode cX3_countReadyCards 38 = .ok (.return_, 1) := by decide +kernel
theorem dX3_countReadyCards_4 : decode cX3_countReadyCards 4 = .ok (.getfield 64, 3) := by decide +kernel
theorem dX3_countReadyCards_7 : decode cX3_countReadyCards 7 = .ok (.if_icmp .ge 31, 3) := by decide +kernel
theorem dX3_daysOver_0 : decode cX3_daysOver 0 = .ok (.aload_n 0, 1) := by decide +kernel
theorem dX3_daysOver_1 : decode cX3_daysOver 1 = .ok (.getfield 9, 3) := by decide +kernel
theorem dX3_daysOver_11 : decode cX3_daysOver 11 = .ok (.aload_n 0, 1) := by decide +kernel
theorem dX3_daysOver_12 : decode cX3_daysOver 12 = .ok (.getfield 9, 3) := by decide +kernel
theorem dX3_daysOver_15 : decode cX3_daysOver 15 = .ok (.idiv, 1) := by decide +kernel
theorem dX3_daysOver_16 : decode cX3_daysOver 16 = .ok (.goto 4, 3) := by decide +kernel
theorem dX3_daysOver_19 : decode cX3_daysOver 19 = .ok (.iconst 0, 1) := by decide +kernel
theorem dX3_daysOver_20 : decode cX3_daysOver 20 = .ok (.ireturn, 1) := by decide +kernel
theorem dX3_daysOver_4 : decode cX3_daysOver 4 = .ok (.ifCond .le 15, 3) := by decide +kernel
theorem dX3_daysOver_7 : decode cX3_daysOver 7 = .ok (.aload_n 0, 1) := by decide +kernel
theorem dX3_daysOver_8 : decode cX3_daysOver 8 = .ok (.getfield 61, 3) := by decide +kernel
theorem dX3_emptyTray_0 : decode cX3_emptyTray 0 = .ok (.iconst 0, 1) := by decide +kernel
theorem dX3_emptyTray_1 : decode cX3_emptyTray 1 = .ok (.istore_n 1, 1) := by decide +kernel
theorem dX3_emptyTray_10 : decode cX3_emptyTray 10 = .ok (.aload_n 0, 1) := by decide +kernel
theorem dX3_emptyTray_11 : decode cX3_emptyTray 11 = .ok (.getfield 33, 3) := by decide +kernel
theorem dX3_emptyTray_14 : decode cX3_emptyTray 14 = .ok (.iconst 2, 1) := by decide +kernel
theorem dX3_emptyTray_15 : decode cX3_emptyTray 15 = .ok (.iaload, 1) := by decide +kernel
theorem dX3_emptyTray_16 : decode cX3_emptyTray 16 = .ok (.ifCond .le 71, 3) := by decide +kernel
theorem dX3_emptyTray_19 : decode cX3_emptyTray 19 = .ok (.aload_n 0, 1) := by decide +kernel
theorem dX3_emptyTray_2 : decode cX3_emptyTray 2 = .ok (.iload_n 1, 1) := by decide +kernel
theorem dX3_emptyTray_20 : decode cX3_emptyTray 20 = .ok (.getfield 23, 3) := by decide +kernel
theorem dX3_emptyTray_23 : decode cX3_emptyTray 23 = .ok (.iload_n 1, 1) := by decide +kernel
theorem dX3_emptyTray_24 : decode cX3_emptyTray 24 = .ok (.aaload, 1) := by decide +kernel
theorem dX3_emptyTray_25 : decode cX3_emptyTray 25 = .ok (.invokevirtual 191, 3) := by decide +kernel
theorem dX3_emptyTray_28 : decode cX3_emptyTray 28 = .ok (.istore_n 2, 1) := by decide +kernel
theorem dX3_emptyTray_29 : decode cX3_emptyTray 29 = .ok (.iconst 0, 1) := by decide +kernel
theorem dX3_emptyTray_3 : decode cX3_emptyTray 3 = .ok (.aload_n 0, 1) := by decide +kernel
theorem dX3_emptyTray_30 : decode cX3_emptyTray 30 = .ok (.istore_n 3, 1) := by decide +kernel
theorem dX3_emptyTray_31 : decode cX3_emptyTray 31 = .ok (.iload_n 3, 1) := by decide +kernel
theorem dX3_emptyTray_32 : decode cX3_emptyTray 32 = .ok (.bipush 30, 2) := by decide +kernel
theorem dX3_emptyTray_34 : decode cX3_emptyTray 34 = .ok (.if_icmp .ge 47, 3) := by decide +kernel
theorem dX3_emptyTray_37 : decode cX3_emptyTray 37 = .ok (.iload_n 2, 1) := by decide +kernel
theorem dX3_emptyTray_38 : decode cX3_emptyTray 38 = .ok (.iconst (-1), 1) := by decide +kernel
theorem dX3_emptyTray_39 : decode cX3_emptyTray 39 = .ok (.if_icmp .eq 42, 3) := by decide +kernel
theorem dX3_emptyTray_4 : decode cX3_emptyTray 4 = .ok (.getfield 67, 3) := by decide +kernel
theorem dX3_emptyTray_42 : decode cX3_emptyTray 42 = .ok (.aload_n 0, 1) := by decide +kernel
theorem dX3_emptyTray_43 : decode cX3_emptyTray 43 = .ok (.getfield 29, 3) := by decide +kernel
theorem dX3_emptyTray_46 : decode cX3_emptyTray 46 = .ok (.iload_n 2, 1) := by decide +kernel
theorem dX3_emptyTray_47 : decode cX3_emptyTray 47 = .ok (.aaload, 1) := by decide +kernel
theorem dX3_emptyTray_48 : decode cX3_emptyTray 48 = .ok (.getfield 208, 3) := by decide +kernel
theorem dX3_emptyTray_51 : decode cX3_emptyTray 51 = .ok (.iconst 2, 1) := by decide +kernel
theorem dX3_emptyTray_52 : decode cX3_emptyTray 52 = .ok (.if_icmp .ne 29, 3) := by decide +kernel
theorem dX3_emptyTray_55 : decode cX3_emptyTray 55 = .ok (.aload_n 0, 1) := by decide +kernel
theorem dX3_emptyTray_56 : decode cX3_emptyTray 56 = .ok (.iload_n 2, 1) := by decide +kernel
theorem dX3_emptyTray_57 : decode cX3_emptyTray 57 = .ok (.invokevirtual 195, 3) := by decide +kernel
theorem dX3_emptyTray_60 : decode cX3_emptyTray 60 = .ok (.aload_n 0, 1) := by decide +kernel
theorem dX3_emptyTray_61 : decode cX3_emptyTray 61 = .ok (.iconst 1, 1) := by decide +kernel
theorem dX3_emptyTray_62 : decode cX3_emptyTray 62 = .ok (.putfield 115, 3) := by decide +kernel
theorem dX3_emptyTray_65 : decode cX3_emptyTray 65 = .ok (.aload_n 0, 1) := by decide +kernel
theorem dX3_emptyTray_66 : decode cX3_emptyTray 66 = .ok (.getfield 23, 3) := by decide +kernel
theorem dX3_emptyTray_69 : decode cX3_emptyTray 69 = .ok (.iload_n 1, 1) := by decide +kernel
theorem dX3_emptyTray_7 : decode cX3_emptyTray 7 = .ok (.if_icmp .ge 80, 3) := by decide +kernel
theorem dX3_emptyTray_70 : decode cX3_emptyTray 70 = .ok (.aaload, 1) := by decide +kernel
theorem dX3_emptyTray_71 : decode cX3_emptyTray 71 = .ok (.invokevirtual 191, 3) := by decide +kernel
theorem dX3_emptyTray_74 : decode cX3_emptyTray 74 = .ok (.istore_n 2, 1) := by decide +kernel
theorem dX3_emptyTray_75 : decode cX3_emptyTray 75 = .ok (.iinc 3 1, 3) := by decide +kernel
theorem dX3_emptyTray_78 : decode cX3_emptyTray 78 = .ok (.goto (-47), 3) := by decide +kernel
theorem dX3_emptyTray_81 : decode cX3_emptyTray 81 = .ok (.iinc 1 1, 3) := by decide +kernel
theorem dX3_emptyTray_84 : decode cX3_emptyTray 84 = .ok (.goto (-82), 3) := by decide +kernel
theorem dX3_emptyTray_87 : decode cX3_emptyTray 87 = .ok (.return_, 1) := by decide +kernel
theorem dX3_enter_0 : decode cX3_enter 0 = .ok (.aload_n 0, 1) := by decide +kernel
theorem dX3_enter_1 : decode cX3_enter 1 = .ok (.getfield 29, 3) := by decide +kernel
theorem dX3_enter_11 : decode cX3_enter 11 = .ok (.iload_n 2, 1) := by decide +kernel
theorem dX3_enter_12 : decode cX3_enter 12 = .ok (.aaload, 1) := by decide +kernel
theorem dX3_enter_13 : decode cX3_enter 13 = .ok (.astore 4, 2) := by decide +kernel
theorem dX3_enter_15 : decode cX3_enter 15 = .ok (.aload 4, 2) := by decide +kernel
theorem dX3_enter_17 : decode cX3_enter 17 = .ok (.aload_n 3, 1) := by decide +kernel
theorem dX3_enter_18 : decode cX3_enter 18 = .ok (.getfield 220, 3) := by decide +kernel
theorem dX3_enter_21 : decode cX3_enter 21 = .ok (.invokevirtual 224, 3) := by decide +kernel
theorem dX3_enter_24 : decode cX3_enter 24 = .ok (.istore 5, 2) := by decide +kernel
theorem dX3_enter_26 : decode cX3_enter 26 = .ok (.aload_n 0, 1) := by decide +kernel
theorem dX3_enter_27 : decode cX3_enter 27 = .ok (.getfield 40, 3) := by decide +kernel
theorem dX3_enter_30 : decode cX3_enter 30 = .ok (.iconst 3, 1) := by decide +kernel
theorem dX3_enter_31 : decode cX3_enter 31 = .ok (.dup2, 1) := by decide +kernel
theorem dX3_enter_32 : decode cX3_enter 32 = .ok (.iaload, 1) := by decide +kernel
theorem dX3_enter_33 : decode cX3_enter 33 = .ok (.iload 5, 2) := by decide +kernel
theorem dX3_enter_35 : decode cX3_enter 35 = .ok (.iadd, 1) := by decide +kernel
theorem dX3_enter_36 : decode cX3_enter 36 = .ok (.iastore, 1) := by decide +kernel
theorem dX3_enter_37 : decode cX3_enter 37 = .ok (.aload 4, 2) := by decide +kernel
theorem dX3_enter_39 : decode cX3_enter 39 = .ok (.iload_n 1, 1) := by decide +kernel
theorem dX3_enter_4 : decode cX3_enter 4 = .ok (.iload_n 1, 1) := by decide +kernel
theorem dX3_enter_40 : decode cX3_enter 40 = .ok (.aload_n 3, 1) := by decide +kernel
theorem dX3_enter_41 : decode cX3_enter 41 = .ok (.getfield 220, 3) := by decide +kernel
theorem dX3_enter_44 : decode cX3_enter 44 = .ok (.iload 5, 2) := by decide +kernel
theorem dX3_enter_46 : decode cX3_enter 46 = .ok (.invokevirtual 228, 3) := by decide +kernel
theorem dX3_enter_49 : decode cX3_enter 49 = .ok (.aload_n 0, 1) := by decide +kernel
theorem dX3_enter_5 : decode cX3_enter 5 = .ok (.aaload, 1) := by decide +kernel
theorem dX3_enter_50 : decode cX3_enter 50 = .ok (.aload_n 3, 1) := by decide +kernel
theorem dX3_enter_51 : decode cX3_enter 51 = .ok (.iconst 1, 1) := by decide +kernel
theorem dX3_enter_52 : decode cX3_enter 52 = .ok (.invokevirtual 180, 3) := by decide +kernel
theorem dX3_enter_55 : decode cX3_enter 55 = .ok (.aload_n 3, 1) := by decide +kernel
theorem dX3_enter_56 : decode cX3_enter 56 = .ok (.iload_n 2, 1) := by decide +kernel
theorem dX3_enter_57 : decode cX3_enter 57 = .ok (.putfield 232, 3) := by decide +kernel
theorem dX3_enter_6 : decode cX3_enter 6 = .ok (.astore_n 3, 1) := by decide +kernel
theorem dX3_enter_60 : decode cX3_enter 60 = .ok (.return_, 1) := by decide +kernel
theorem dX3_enter_7 : decode cX3_enter 7 = .ok (.aload_n 0, 1) := by decide +kernel
theorem dX3_enter_8 : decode cX3_enter 8 = .ok (.getfield 17, 3) := by decide +kernel
theorem dX3_failCardIn_0 : decode cX3_failCardIn 0 = .ok (.aload_n 1, 1) := by decide +kernel
theorem dX3_failCardIn_1 : decode cX3_failCardIn 1 = .ok (.getfield 133, 3) := by decide +kernel
theorem dX3_failCardIn_10 : decode cX3_failCardIn 10 = .ok (.aaload, 1) := by decide +kernel
theorem dX3_failCardIn_11 : decode cX3_failCardIn 11 = .ok (.astore_n 3, 1) := by decide +kernel
theorem dX3_failCardIn_12 : decode cX3_failCardIn 12 = .ok (.aload_n 1, 1) := by decide +kernel
theorem dX3_failCardIn_13 : decode cX3_failCardIn 13 = .ok (.invokevirtual 167, 3) := by decide +kernel
theorem dX3_failCardIn_16 : decode cX3_failCardIn 16 = .ok (.aload_n 0, 1) := by decide +kernel
theorem dX3_failCardIn_17 : decode cX3_failCardIn 17 = .ok (.getfield 40, 3) := by decide +kernel
theorem dX3_failCardIn_20 : decode cX3_failCardIn 20 = .ok (.iconst 1, 1) := by decide +kernel
theorem dX3_failCardIn_21 : decode cX3_failCardIn 21 = .ok (.dup2, 1) := by decide +kernel
theorem dX3_failCardIn_22 : decode cX3_failCardIn 22 = .ok (.iaload, 1) := by decide +kernel
theorem dX3_failCardIn_23 : decode cX3_failCardIn 23 = .ok (.iconst 1, 1) := by decide +kernel
theorem dX3_failCardIn_24 : decode cX3_failCardIn 24 = .ok (.iadd, 1) := by decide +kernel
theorem dX3_failCardIn_25 : decode cX3_failCardIn 25 = .ok (.iastore, 1) := by decide +kernel
theorem dX3_failCardIn_26 : decode cX3_failCardIn 26 = .ok (.aload_n 0, 1) := by decide +kernel
theorem dX3_failCardIn_27 : decode cX3_failCardIn 27 = .ok (.getfield 23, 3) := by decide +kernel
theorem dX3_failCardIn_30 : decode cX3_failCardIn 30 = .ok (.aload_n 3, 1) := by decide +kernel
theorem dX3_failCardIn_31 : decode cX3_failCardIn 31 = .ok (.getfield 112, 3) := by decide +kernel
theorem dX3_failCardIn_34 : decode cX3_failCardIn 34 = .ok (.aaload, 1) := by decide +kernel
theorem dX3_failCardIn_35 : decode cX3_failCardIn 35 = .ok (.dup, 1) := by decide +kernel
theorem dX3_failCardIn_36 : decode cX3_failCardIn 36 = .ok (.getfield 170, 3) := by decide +kernel
theorem dX3_failCardIn_39 : decode cX3_failCardIn 39 = .ok (.iconst 1, 1) := by decide +kernel
theorem dX3_failCardIn_4 : decode cX3_failCardIn 4 = .ok (.istore_n 2, 1) := by decide +kernel
theorem dX3_failCardIn_40 : decode cX3_failCardIn 40 = .ok (.iadd, 1) := by decide +kernel
theorem dX3_failCardIn_41 : decode cX3_failCardIn 41 = .ok (.putfield 170, 3) := by decide +kernel
theorem dX3_failCardIn_44 : decode cX3_failCardIn 44 = .ok (.aload_n 0, 1) := by decide +kernel
theorem dX3_failCardIn_45 : decode cX3_failCardIn 45 = .ok (.getfield 23, 3) := by decide +kernel
theorem dX3_failCardIn_48 : decode cX3_failCardIn 48 = .ok (.aload_n 3, 1) := by decide +kernel
theorem dX3_failCardIn_49 : decode cX3_failCardIn 49 = .ok (.getfield 112, 3) := by decide +kernel
theorem dX3_failCardIn_5 : decode cX3_failCardIn 5 = .ok (.aload_n 0, 1) := by decide +kernel
theorem dX3_failCardIn_52 : decode cX3_failCardIn 52 = .ok (.aaload, 1) := by decide +kernel
theorem dX3_failCardIn_53 : decode cX3_failCardIn 53 = .ok (.dup, 1) := by decide +kernel
theorem dX3_failCardIn_54 : decode cX3_failCardIn 54 = .ok (.getfield 173, 3) := by decide +kernel
theorem dX3_failCardIn_57 : decode cX3_failCardIn 57 = .ok (.iconst 1, 1) := by decide +kernel
theorem dX3_failCardIn_58 : decode cX3_failCardIn 58 = .ok (.iadd, 1) := by decide +kernel
theorem dX3_failCardIn_59 : decode cX3_failCardIn 59 = .ok (.putfield 173, 3) := by decide +kernel
theorem dX3_failCardIn_6 : decode cX3_failCardIn 6 = .ok (.getfield 29, 3) := by decide +kernel
theorem dX3_failCardIn_62 : decode cX3_failCardIn 62 = .ok (.aload_n 3, 1) := by decide +kernel
theorem dX3_failCardIn_63 : decode cX3_failCardIn 63 = .ok (.dup, 1) := by decide +kernel
theorem dX3_failCardIn_64 : decode cX3_failCardIn 64 = .ok (.getfield 176, 3) := by decide +kernel
theorem dX3_failCardIn_67 : decode cX3_failCardIn 67 = .ok (.iconst 1, 1) := by decide +kernel
theorem dX3_failCardIn_68 : decode cX3_failCardIn 68 = .ok (.iadd, 1) := by decide +kernel
theorem dX3_failCardIn_69 : decode cX3_failCardIn 69 = .ok (.putfield 176, 3) := by decide +kernel
theorem dX3_failCardIn_72 : decode cX3_failCardIn 72 = .ok (.aload_n 3, 1) := by decide +kernel
theorem dX3_failCardIn_73 : decode cX3_failCardIn 73 = .ok (.getfield 176, 3) := by decide +kernel
theorem dX3_failCardIn_76 : decode cX3_failCardIn 76 = .ok (.aload_n 0, 1) := by decide +kernel
theorem dX3_failCardIn_77 : decode cX3_failCardIn 77 = .ok (.getfield 58, 3) := by decide +kernel
theorem dX3_failCardIn_80 : decode cX3_failCardIn 80 = .ok (.if_icmp .lt 11, 3) := by decide +kernel
theorem dX3_failCardIn_83 : decode cX3_failCardIn 83 = .ok (.aload_n 0, 1) := by decide +kernel
theorem dX3_failCardIn_84 : decode cX3_failCardIn 84 = .ok (.iload_n 2, 1) := by decide +kernel
theorem dX3_failCardIn_85 : decode cX3_failCardIn 85 = .ok (.invokevirtual 177, 3) := by decide +kernel
theorem dX3_failCardIn_88 : decode cX3_failCardIn 88 = .ok (.goto 9, 3) := by decide +kernel
theorem dX3_failCardIn_9 : decode cX3_failCardIn 9 = .ok (.iload_n 2, 1) := by decide +kernel
theorem dX3_failCardIn_91 : decode cX3_failCardIn 91 = .ok (.aload_n 0, 1) := by decide +kernel
theorem dX3_failCardIn_92 : decode cX3_failCardIn 92 = .ok (.aload_n 3, 1) := by decide +kernel
theorem dX3_failCardIn_93 : decode cX3_failCardIn 93 = .ok (.iconst 0, 1) := by decide +kernel
theorem dX3_failCardIn_94 : decode cX3_failCardIn 94 = .ok (.invokevirtual 180, 3) := by decide +kernel
theorem dX3_failCardIn_97 : decode cX3_failCardIn 97 = .ok (.return_, 1) := by decide +kernel
theorem dX3_feed_0 : decode cX3_feed 0 = .ok (.aload_n 0, 1) := by decide +kernel
theorem dX3_feed_1 : decode cX3_feed 1 = .ok (.getfield 64, 3) := by decide +kernel
theorem dX3_feed_11 : decode cX3_feed 11 = .ok (.ifCond .le 28, 3) := by decide +kernel
theorem dX3_feed_14 : decode cX3_feed 14 = .ok (.aload_n 0, 1) := by decide +kernel
theorem dX3_feed_15 : decode cX3_feed 15 = .ok (.getfield 17, 3) := by decide +kernel
theorem dX3_feed_18 : decode cX3_feed 18 = .ok (.iconst 0, 1) := by decide +kernel
theorem dX3_feed_19 : decode cX3_feed 19 = .ok (.aaload, 1) := by decide +kernel
theorem dX3_feed_20 : decode cX3_feed 20 = .ok (.getfield 133, 3) := by decide +kernel
theorem dX3_feed_23 : decode cX3_feed 23 = .ok (.iconst (-1), 1) := by decide +kernel
theorem dX3_feed_24 : decode cX3_feed 24 = .ok (.if_icmp .ne 15, 3) := by decide +kernel
theorem dX3_feed_27 : decode cX3_feed 27 = .ok (.aload_n 0, 1) := by decide +kernel
theorem dX3_feed_28 : decode cX3_feed 28 = .ok (.getfield 17, 3) := by decide +kernel
theorem dX3_feed_31 : decode cX3_feed 31 = .ok (.iconst 0, 1) := by decide +kernel
theorem dX3_feed_32 : decode cX3_feed 32 = .ok (.aaload, 1) := by decide +kernel
theorem dX3_feed_33 : decode cX3_feed 33 = .ok (.getfield 158, 3) := by decide +kernel
theorem dX3_feed_36 : decode cX3_feed 36 = .ok (.ifCond .eq 4, 3) := by decide +kernel
theorem dX3_feed_39 : decode cX3_feed 39 = .ok (.return_, 1) := by decide +kernel
theorem dX3_feed_4 : decode cX3_feed 4 = .ok (.ifCond .eq 35, 3) := by decide +kernel
theorem dX3_feed_40 : decode cX3_feed 40 = .ok (.aload_n 0, 1) := by decide +kernel
theorem dX3_feed_41 : decode cX3_feed 41 = .ok (.invokevirtual 202, 3) := by decide +kernel
theorem dX3_feed_44 : decode cX3_feed 44 = .ok (.istore_n 1, 1) := by decide +kernel
theorem dX3_feed_45 : decode cX3_feed 45 = .ok (.iload_n 1, 1) := by decide +kernel
theorem dX3_feed_46 : decode cX3_feed 46 = .ok (.iconst (-1), 1) := by decide +kernel
theorem dX3_feed_47 : decode cX3_feed 47 = .ok (.if_icmp .eq 44, 3) := by decide +kernel
theorem dX3_feed_50 : decode cX3_feed 50 = .ok (.aload_n 0, 1) := by decide +kernel
theorem dX3_feed_51 : decode cX3_feed 51 = .ok (.dup, 1) := by decide +kernel
theorem dX3_feed_52 : decode cX3_feed 52 = .ok (.getfield 52, 3) := by decide +kernel
theorem dX3_feed_55 : decode cX3_feed 55 = .ok (.iconst 1, 1) := by decide +kernel
theorem dX3_feed_56 : decode cX3_feed 56 = .ok (.isub, 1) := by decide +kernel
theorem dX3_feed_57 : decode cX3_feed 57 = .ok (.putfield 52, 3) := by decide +kernel
theorem dX3_feed_60 : decode cX3_feed 60 = .ok (.aload_n 0, 1) := by decide +kernel
theorem dX3_feed_61 : decode cX3_feed 61 = .ok (.getfield 40, 3) := by decide +kernel
theorem dX3_feed_64 : decode cX3_feed 64 = .ok (.iconst 0, 1) := by decide +kernel
theorem dX3_feed_65 : decode cX3_feed 65 = .ok (.dup2, 1) := by decide +kernel
theorem dX3_feed_66 : decode cX3_feed 66 = .ok (.iaload, 1) := by decide +kernel
theorem dX3_feed_67 : decode cX3_feed 67 = .ok (.iconst 1, 1) := by decide +kernel
theorem dX3_feed_68 : decode cX3_feed 68 = .ok (.iadd, 1) := by decide +kernel
theorem dX3_feed_69 : decode cX3_feed 69 = .ok (.iastore, 1) := by decide +kernel
theorem dX3_feed_7 : decode cX3_feed 7 = .ok (.aload_n 0, 1) := by decide +kernel
theorem dX3_feed_70 : decode cX3_feed 70 = .ok (.aload_n 0, 1) := by decide +kernel
theorem dX3_feed_71 : decode cX3_feed 71 = .ok (.getfield 29, 3) := by decide +kernel
theorem dX3_feed_74 : decode cX3_feed 74 = .ok (.iload_n 1, 1) := by decide +kernel
theorem dX3_feed_75 : decode cX3_feed 75 = .ok (.aaload, 1) := by decide +kernel
theorem dX3_feed_76 : decode cX3_feed 76 = .ok (.iconst 0, 1) := by decide +kernel
theorem dX3_feed_77 : decode cX3_feed 77 = .ok (.putfield 205, 3) := by decide +kernel
theorem dX3_feed_8 : decode cX3_feed 8 = .ok (.getfield 52, 3) := by decide +kernel
theorem dX3_feed_80 : decode cX3_feed 80 = .ok (.aload_n 0, 1) := by decide +kernel
theorem dX3_feed_81 : decode cX3_feed 81 = .ok (.iload_n 1, 1) := by decide +kernel
theorem dX3_feed_82 : decode cX3_feed 82 = .ok (.iconst 0, 1) := by decide +kernel
theorem dX3_feed_83 : decode cX3_feed 83 = .ok (.invokevirtual 187, 3) := by decide +kernel
theorem dX3_feed_86 : decode cX3_feed 86 = .ok (.aload_n 0, 1) := by decide +kernel
theorem dX3_feed_87 : decode cX3_feed 87 = .ok (.iconst 1, 1) := by decide +kernel
theorem dX3_feed_88 : decode cX3_feed 88 = .ok (.putfield 115, 3) := by decide +kernel
theorem dX3_feed_91 : decode cX3_feed 91 = .ok (.return_, 1) := by decide +kernel
theorem dX3_findNextCard_0 : decode cX3_findNextCard 0 = .ok (.aload_n 1, 1) := by decide +kernel
theorem dX3_findNextCard_1 : decode cX3_findNextCard 1 = .ok (.getfield 250, 3) := by decide +kernel
theorem dX3_findNextCard_11 : decode cX3_findNextCard 11 = .ok (.aload_n 0, 1) := by decide +kernel
theorem dX3_findNextCard_12 : decode cX3_findNextCard 12 = .ok (.getfield 29, 3) := by decide +kernel
theorem dX3_findNextCard_15 : decode cX3_findNextCard 15 = .ok (.aload_n 1, 1) := by decide +kernel
theorem dX3_findNextCard_16 : decode cX3_findNextCard 16 = .ok (.getfield 106, 3) := by decide +kernel
theorem dX3_findNextCard_19 : decode cX3_findNextCard 19 = .ok (.aload_n 1, 1) := by decide +kernel
theorem dX3_findNextCard_20 : decode cX3_findNextCard 20 = .ok (.getfield 250, 3) := by decide +kernel
theorem dX3_findNextCard_23 : decode cX3_findNextCard 23 = .ok (.iaload, 1) := by decide +kernel
theorem dX3_findNextCard_24 : decode cX3_findNextCard 24 = .ok (.aaload, 1) := by decide +kernel
theorem dX3_findNextCard_25 : decode cX3_findNextCard 25 = .ok (.invokevirtual 253, 3) := by decide +kernel
theorem dX3_findNextCard_28 : decode cX3_findNextCard 28 = .ok (.ifCond .eq 16, 3) := by decide +kernel
theorem dX3_findNextCard_31 : decode cX3_findNextCard 31 = .ok (.aload_n 1, 1) := by decide +kernel
theorem dX3_findNextCard_32 : decode cX3_findNextCard 32 = .ok (.dup, 1) := by decide +kernel
theorem dX3_findNextCard_33 : decode cX3_findNextCard 33 = .ok (.getfield 250, 3) := by decide +kernel
theorem dX3_findNextCard_36 : decode cX3_findNextCard 36 = .ok (.iconst 1, 1) := by decide +kernel
theorem dX3_findNextCard_37 : decode cX3_findNextCard 37 = .ok (.iadd, 1) := by decide +kernel
theorem dX3_findNextCard_38 : decode cX3_findNextCard 38 = .ok (.putfield 250, 3) := by decide +kernel
theorem dX3_findNextCard_4 : decode cX3_findNextCard 4 = .ok (.aload_n 1, 1) := by decide +kernel
theorem dX3_findNextCard_41 : decode cX3_findNextCard 41 = .ok (.goto (-41), 3) := by decide +kernel
theorem dX3_findNextCard_44 : decode cX3_findNextCard 44 = .ok (.return_, 1) := by decide +kernel
theorem dX3_findNextCard_5 : decode cX3_findNextCard 5 = .ok (.getfield 102, 3) := by decide +kernel
theorem dX3_findNextCard_8 : decode cX3_findNextCard 8 = .ok (.if_icmp .ge 36, 3) := by decide +kernel
theorem dX3_goOn_0 : decode cX3_goOn 0 = .ok (.aload_n 1, 1) := by decide +kernel
theorem dX3_goOn_1 : decode cX3_goOn 1 = .ok (.getfield 133, 3) := by decide +kernel
theorem dX3_goOn_10 : decode cX3_goOn 10 = .ok (.iload_n 3, 1) := by decide +kernel
theorem dX3_goOn_11 : decode cX3_goOn 11 = .ok (.iload_n 2, 1) := by decide +kernel
theorem dX3_goOn_12 : decode cX3_goOn 12 = .ok (.invokevirtual 187, 3) := by decide +kernel
theorem dX3_goOn_15 : decode cX3_goOn 15 = .ok (.aload_n 0, 1) := by decide +kernel
theorem dX3_goOn_16 : decode cX3_goOn 16 = .ok (.iconst 1, 1) := by decide +kernel
theorem dX3_goOn_17 : decode cX3_goOn 17 = .ok (.putfield 115, 3) := by decide +kernel
theorem dX3_goOn_20 : decode cX3_goOn 20 = .ok (.return_, 1) := by decide +kernel
theorem dX3_goOn_4 : decode cX3_goOn 4 = .ok (.istore_n 3, 1) := by decide +kernel
theorem dX3_goOn_5 : decode cX3_goOn 5 = .ok (.aload_n 1, 1) := by decide +kernel
theorem dX3_goOn_6 : decode cX3_goOn 6 = .ok (.invokevirtual 184, 3) := by decide +kernel
theorem dX3_goOn_9 : decode cX3_goOn 9 = .ok (.aload_n 0, 1) := by decide +kernel
theorem dX3_hasHappened_0 : decode cX3_hasHappened 0 = .ok (.getstatic 259, 3) := by decide +kernel
theorem dX3_hasHappened_100 : decode cX3_hasHappened 100 = .ok (.aaload, 1) := by decide +kernel
theorem dX3_hasHappened_101 : decode cX3_hasHappened 101 = .ok (.getfield 270, 3) := by decide +kernel
theorem dX3_hasHappened_104 : decode cX3_hasHappened 104 = .ok (.ifCond .le 7, 3) := by decide +kernel
theorem dX3_hasHappened_107 : decode cX3_hasHappened 107 = .ok (.iconst 1, 1) := by decide +kernel
theorem dX3_hasHappened_108 : decode cX3_hasHappened 108 = .ok (.goto 4, 3) := by decide +kernel
theorem dX3_hasHappened_111 : decode cX3_hasHappened 111 = .ok (.iconst 0, 1) := by decide +kernel
theorem dX3_hasHappened_112 : decode cX3_hasHappened 112 = .ok (.ireturn, 1) := by decide +kernel
theorem dX3_hasHappened_113 : decode cX3_hasHappened 113 = .ok (.aload_n 0, 1) := by decide +kernel
theorem dX3_hasHappened_114 : decode cX3_hasHappened 114 = .ok (.getfield 17, 3) := by decide +kernel
theorem dX3_hasHappened_117 : decode cX3_hasHappened 117 = .ok (.iload_n 2, 1) := by decide +kernel
theorem dX3_hasHappened_118 : decode cX3_hasHappened 118 = .ok (.aaload, 1) := by decide +kernel
theorem dX3_hasHappened_119 : decode cX3_hasHappened 119 = .ok (.getfield 152, 3) := by decide +kernel
theorem dX3_hasHappened_122 : decode cX3_hasHappened 122 = .ok (.ifCond .le 7, 3) := by decide +kernel
theorem dX3_hasHappened_125 : decode cX3_hasHappened 125 = .ok (.iconst 1, 1) := by decide +kernel
theorem dX3_hasHappened_126 : decode cX3_hasHappened 126 = .ok (.goto 4, 3) := by decide +kernel
theorem dX3_hasHappened_129 : decode cX3_hasHappened 129 = .ok (.iconst 0, 1) := by decide +kernel
theorem dX3_hasHappened_130 : decode cX3_hasHappened 130 = .ok (.ireturn, 1) := by decide +kernel
theorem dX3_hasHappened_3 : decode cX3_hasHappened 3 = .ok (.aload_n 1, 1) := by decide +kernel
theorem dX3_hasHappened_4 : decode cX3_hasHappened 4 = .ok (.invokevirtual 264, 3) := by decide +kernel
theorem dX3_hasHappened_40 : decode cX3_hasHappened 40 = .ok (.aload_n 0, 1) := by decide +kernel
theorem dX3_hasHappened_41 : decode cX3_hasHappened 41 = .ok (.getfield 29, 3) := by decide +kernel
theorem dX3_hasHappened_44 : decode cX3_hasHappened 44 = .ok (.iload_n 2, 1) := by decide +kernel
theorem dX3_hasHappened_45 : decode cX3_hasHappened 45 = .ok (.aaload, 1) := by decide +kernel
theorem dX3_hasHappened_46 : decode cX3_hasHappened 46 = .ok (.getfield 208, 3) := by decide +kernel
theorem dX3_hasHappened_49 : decode cX3_hasHappened 49 = .ok (.iconst 3, 1) := by decide +kernel
theorem dX3_hasHappened_50 : decode cX3_hasHappened 50 = .ok (.if_icmp .ne 7, 3) := by decide +kernel
theorem dX3_hasHappened_53 : decode cX3_hasHappened 53 = .ok (.iconst 1, 1) := by decide +kernel
theorem dX3_hasHappened_54 : decode cX3_hasHappened 54 = .ok (.goto 4, 3) := by decide +kernel
theorem dX3_hasHappened_57 : decode cX3_hasHappened 57 = .ok (.iconst 0, 1) := by decide +kernel
theorem dX3_hasHappened_58 : decode cX3_hasHappened 58 = .ok (.ireturn, 1) := by decide +kernel
theorem dX3_hasHappened_59 : decode cX3_hasHappened 59 = .ok (.aload_n 0, 1) := by decide +kernel
theorem dX3_hasHappened_60 : decode cX3_hasHappened 60 = .ok (.getfield 23, 3) := by decide +kernel
theorem dX3_hasHappened_63 : decode cX3_hasHappened 63 = .ok (.iload_n 2, 1) := by decide +kernel
theorem dX3_hasHappened_64 : decode cX3_hasHappened 64 = .ok (.aaload, 1) := by decide +kernel
theorem dX3_hasHappened_65 : decode cX3_hasHappened 65 = .ok (.invokevirtual 269, 3) := by decide +kernel
theorem dX3_hasHappened_68 : decode cX3_hasHappened 68 = .ok (.ireturn, 1) := by decide +kernel
theorem dX3_hasHappened_69 : decode cX3_hasHappened 69 = .ok (.aload_n 0, 1) := by decide +kernel
theorem dX3_hasHappened_7 : decode cX3_hasHappened 7 = .ok (.iaload, 1) := by decide +kernel
theorem dX3_hasHappened_70 : decode cX3_hasHappened 70 = .ok (.getfield 33, 3) := by decide +kernel
theorem dX3_hasHappened_73 : decode cX3_hasHappened 73 = .ok (.iconst 3, 1) := by decide +kernel
theorem dX3_hasHappened_74 : decode cX3_hasHappened 74 = .ok (.iaload, 1) := by decide +kernel
theorem dX3_hasHappened_75 : decode cX3_hasHappened 75 = .ok (.aload_n 0, 1) := by decide +kernel
theorem dX3_hasHappened_76 : decode cX3_hasHappened 76 = .ok (.getfield 33, 3) := by decide +kernel
theorem dX3_hasHappened_79 : decode cX3_hasHappened 79 = .ok (.iconst 4, 1) := by decide +kernel
theorem dX3_hasHappened_8 : decode cX3_hasHappened 8 = .ok (.tableswitch 105 1 4 #[32, 51, 61, 87], 32) := by decide +kernel
theorem dX3_hasHappened_80 : decode cX3_hasHappened 80 = .ok (.iaload, 1) := by decide +kernel
theorem dX3_hasHappened_81 : decode cX3_hasHappened 81 = .ok (.iadd, 1) := by decide +kernel
theorem dX3_hasHappened_82 : decode cX3_hasHappened 82 = .ok (.aload_n 0, 1) := by decide +kernel
theorem dX3_hasHappened_83 : decode cX3_hasHappened 83 = .ok (.getfield 70, 3) := by decide +kernel
theorem dX3_hasHappened_86 : decode cX3_hasHappened 86 = .ok (.if_icmp .ne 7, 3) := by decide +kernel
theorem dX3_hasHappened_89 : decode cX3_hasHappened 89 = .ok (.iconst 1, 1) := by decide +kernel
theorem dX3_hasHappened_90 : decode cX3_hasHappened 90 = .ok (.goto 4, 3) := by decide +kernel
theorem dX3_hasHappened_93 : decode cX3_hasHappened 93 = .ok (.iconst 0, 1) := by decide +kernel
theorem dX3_hasHappened_94 : decode cX3_hasHappened 94 = .ok (.ireturn, 1) := by decide +kernel
theorem dX3_hasHappened_95 : decode cX3_hasHappened 95 = .ok (.aload_n 0, 1) := by decide +kernel
theorem dX3_hasHappened_96 : decode cX3_hasHappened 96 = .ok (.getfield 17, 3) := by decide +kernel
theorem dX3_hasHappened_99 : decode cX3_hasHappened 99 = .ok (.iload_n 2, 1) := by decide +kernel
theorem dX3_init_0 : decode cX3_init 0 = .ok (.aload_n 0, 1) := by decide +kernel
theorem dX3_init_1 : decode cX3_init 1 = .ok (.invokespecial 3, 3) := by decide +kernel
theorem dX3_init_10 : decode cX3_init 10 = .ok (.bipush 6, 2) := by decide +kernel
theorem dX3_init_101 : decode cX3_init 101 = .ok (.dup, 1) := by decide +kernel
theorem dX3_init_102 : decode cX3_init 102 = .ok (.invokespecial 44, 3) := by decide +kernel
theorem dX3_init_105 : decode cX3_init 105 = .ok (.aastore, 1) := by decide +kernel
theorem dX3_init_106 : decode cX3_init 106 = .ok (.iinc 1 1, 3) := by decide +kernel
theorem dX3_init_109 : decode cX3_init 109 = .ok (.goto (-22), 3) := by decide +kernel
theorem dX3_init_112 : decode cX3_init 112 = .ok (.iconst 0, 1) := by decide +kernel
theorem dX3_init_113 : decode cX3_init 113 = .ok (.istore_n 1, 1) := by decide +kernel
theorem dX3_init_114 : decode cX3_init 114 = .ok (.iload_n 1, 1) := by decide +kernel
theorem dX3_init_115 : decode cX3_init 115 = .ok (.bipush 30, 2) := by decide +kernel
theorem dX3_init_117 : decode cX3_init 117 = .ok (.if_icmp .ge 22, 3) := by decide +kernel
theorem dX3_init_12 : decode cX3_init 12 = .ok (.anewarray 15, 3) := by decide +kernel
theorem dX3_init_120 : decode cX3_init 120 = .ok (.aload_n 0, 1) := by decide +kernel
theorem dX3_init_121 : decode cX3_init 121 = .ok (.getfield 29, 3) := by decide +kernel
theorem dX3_init_124 : decode cX3_init 124 = .ok (.iload_n 1, 1) := by decide +kernel
theorem dX3_init_125 : decode cX3_init 125 = .ok (.new 27, 3) := by decide +kernel
theorem dX3_init_128 : decode cX3_init 128 = .ok (.dup, 1) := by decide +kernel
theorem dX3_init_129 : decode cX3_init 129 = .ok (.invokespecial 45, 3) := by decide +kernel
theorem dX3_init_132 : decode cX3_init 132 = .ok (.aastore, 1) := by decide +kernel
theorem dX3_init_133 : decode cX3_init 133 = .ok (.iinc 1 1, 3) := by decide +kernel
theorem dX3_init_136 : decode cX3_init 136 = .ok (.goto (-22), 3) := by decide +kernel
theorem dX3_init_139 : decode cX3_init 139 = .ok (.return_, 1) := by decide +kernel
theorem dX3_init_15 : decode cX3_init 15 = .ok (.putfield 17, 3) := by decide +kernel
theorem dX3_init_18 : decode cX3_init 18 = .ok (.aload_n 0, 1) := by decide +kernel
theorem dX3_init_19 : decode cX3_init 19 = .ok (.bipush 6, 2) := by decide +kernel
theorem dX3_init_21 : decode cX3_init 21 = .ok (.anewarray 21, 3) := by decide +kernel
theorem dX3_init_24 : decode cX3_init 24 = .ok (.putfield 23, 3) := by decide +kernel
theorem dX3_init_27 : decode cX3_init 27 = .ok (.aload_n 0, 1) := by decide +kernel
theorem dX3_init_28 : decode cX3_init 28 = .ok (.bipush 30, 2) := by decide +kernel
theorem dX3_init_30 : decode cX3_init 30 = .ok (.anewarray 27, 3) := by decide +kernel
theorem dX3_init_33 : decode cX3_init 33 = .ok (.putfield 29, 3) := by decide +kernel
theorem dX3_init_36 : decode cX3_init 36 = .ok (.aload_n 0, 1) := by decide +kernel
theorem dX3_init_37 : decode cX3_init 37 = .ok (.iconst 5, 1) := by decide +kernel
theorem dX3_init_38 : decode cX3_init 38 = .ok (.newarray .int, 2) := by decide +kernel
theorem dX3_init_4 : decode cX3_init 4 = .ok (.aload_n 0, 1) := by decide +kernel
theorem dX3_init_40 : decode cX3_init 40 = .ok (.putfield 33, 3) := by decide +kernel
theorem dX3_init_43 : decode cX3_init 43 = .ok (.aload_n 0, 1) := by decide +kernel
theorem dX3_init_44 : decode cX3_init 44 = .ok (.bipush 30, 2) := by decide +kernel
theorem dX3_init_46 : decode cX3_init 46 = .ok (.newarray .int, 2) := by decide +kernel
theorem dX3_init_48 : decode cX3_init 48 = .ok (.putfield 37, 3) := by decide +kernel
theorem dX3_init_5 : decode cX3_init 5 = .ok (.iconst 1, 1) := by decide +kernel
theorem dX3_init_51 : decode cX3_init 51 = .ok (.aload_n 0, 1) := by decide +kernel
theorem dX3_init_52 : decode cX3_init 52 = .ok (.iconst 5, 1) := by decide +kernel
theorem dX3_init_53 : decode cX3_init 53 = .ok (.newarray .int, 2) := by decide +kernel
theorem dX3_init_55 : decode cX3_init 55 = .ok (.putfield 40, 3) := by decide +kernel
theorem dX3_init_58 : decode cX3_init 58 = .ok (.iconst 0, 1) := by decide +kernel
theorem dX3_init_59 : decode cX3_init 59 = .ok (.istore_n 1, 1) := by decide +kernel
theorem dX3_init_6 : decode cX3_init 6 = .ok (.putfield 9, 3) := by decide +kernel
theorem dX3_init_60 : decode cX3_init 60 = .ok (.iload_n 1, 1) := by decide +kernel
theorem dX3_init_61 : decode cX3_init 61 = .ok (.bipush 6, 2) := by decide +kernel
theorem dX3_init_63 : decode cX3_init 63 = .ok (.if_icmp .ge 22, 3) := by decide +kernel
theorem dX3_init_66 : decode cX3_init 66 = .ok (.aload_n 0, 1) := by decide +kernel
theorem dX3_init_67 : decode cX3_init 67 = .ok (.getfield 17, 3) := by decide +kernel
theorem dX3_init_70 : decode cX3_init 70 = .ok (.iload_n 1, 1) := by decide +kernel
theorem dX3_init_71 : decode cX3_init 71 = .ok (.new 15, 3) := by decide +kernel
theorem dX3_init_74 : decode cX3_init 74 = .ok (.dup, 1) := by decide +kernel
theorem dX3_init_75 : decode cX3_init 75 = .ok (.invokespecial 43, 3) := by decide +kernel
theorem dX3_init_78 : decode cX3_init 78 = .ok (.aastore, 1) := by decide +kernel
theorem dX3_init_79 : decode cX3_init 79 = .ok (.iinc 1 1, 3) := by decide +kernel
theorem dX3_init_82 : decode cX3_init 82 = .ok (.goto (-22), 3) := by decide +kernel
theorem dX3_init_85 : decode cX3_init 85 = .ok (.iconst 0, 1) := by decide +kernel
theorem dX3_init_86 : decode cX3_init 86 = .ok (.istore_n 1, 1) := by decide +kernel
theorem dX3_init_87 : decode cX3_init 87 = .ok (.iload_n 1, 1) := by decide +kernel
theorem dX3_init_88 : decode cX3_init 88 = .ok (.bipush 6, 2) := by decide +kernel
theorem dX3_init_9 : decode cX3_init 9 = .ok (.aload_n 0, 1) := by decide +kernel
theorem dX3_init_90 : decode cX3_init 90 = .ok (.if_icmp .ge 22, 3) := by decide +kernel
theorem dX3_init_93 : decode cX3_init 93 = .ok (.aload_n 0, 1) := by decide +kernel
theorem dX3_init_94 : decode cX3_init 94 = .ok (.getfield 23, 3) := by decide +kernel
theorem dX3_init_97 : decode cX3_init 97 = .ok (.iload_n 1, 1) := by decide +kernel
theorem dX3_init_98 : decode cX3_init 98 = .ok (.new 21, 3) := by decide +kernel
theorem dX3_leave_0 : decode cX3_leave 0 = .ok (.aload_n 0, 1) := by decide +kernel
theorem dX3_leave_1 : decode cX3_leave 1 = .ok (.getfield 29, 3) := by decide +kernel
theorem dX3_leave_11 : decode cX3_leave 11 = .ok (.aload_n 0, 1) := by decide +kernel
theorem dX3_leave_12 : decode cX3_leave 12 = .ok (.getfield 33, 3) := by decide +kernel
theorem dX3_leave_15 : decode cX3_leave 15 = .ok (.iconst 3, 1) := by decide +kernel
theorem dX3_leave_16 : decode cX3_leave 16 = .ok (.iaload, 1) := by decide +kernel
theorem dX3_leave_17 : decode cX3_leave 17 = .ok (.iload_n 1, 1) := by decide +kernel
theorem dX3_leave_18 : decode cX3_leave 18 = .ok (.iastore, 1) := by decide +kernel
theorem dX3_leave_19 : decode cX3_leave 19 = .ok (.aload_n 2, 1) := by decide +kernel
theorem dX3_leave_20 : decode cX3_leave 20 = .ok (.aload_n 0, 1) := by decide +kernel
theorem dX3_leave_21 : decode cX3_leave 21 = .ok (.getfield 61, 3) := by decide +kernel
theorem dX3_leave_24 : decode cX3_leave 24 = .ok (.putfield 235, 3) := by decide +kernel
theorem dX3_leave_27 : decode cX3_leave 27 = .ok (.aload_n 0, 1) := by decide +kernel
theorem dX3_leave_28 : decode cX3_leave 28 = .ok (.aload_n 2, 1) := by decide +kernel
theorem dX3_leave_29 : decode cX3_leave 29 = .ok (.iconst 3, 1) := by decide +kernel
theorem dX3_leave_30 : decode cX3_leave 30 = .ok (.invokevirtual 180, 3) := by decide +kernel
theorem dX3_leave_33 : decode cX3_leave 33 = .ok (.aload_n 0, 1) := by decide +kernel
theorem dX3_leave_34 : decode cX3_leave 34 = .ok (.getfield 23, 3) := by decide +kernel
theorem dX3_leave_37 : decode cX3_leave 37 = .ok (.aload_n 2, 1) := by decide +kernel
theorem dX3_leave_38 : decode cX3_leave 38 = .ok (.getfield 112, 3) := by decide +kernel
theorem dX3_leave_4 : decode cX3_leave 4 = .ok (.iload_n 1, 1) := by decide +kernel
theorem dX3_leave_41 : decode cX3_leave 41 = .ok (.aaload, 1) := by decide +kernel
theorem dX3_leave_42 : decode cX3_leave 42 = .ok (.dup, 1) := by decide +kernel
theorem dX3_leave_43 : decode cX3_leave 43 = .ok (.getfield 238, 3) := by decide +kernel
theorem dX3_leave_46 : decode cX3_leave 46 = .ok (.iconst 1, 1) := by decide +kernel
theorem dX3_leave_47 : decode cX3_leave 47 = .ok (.iadd, 1) := by decide +kernel
theorem dX3_leave_48 : decode cX3_leave 48 = .ok (.putfield 238, 3) := by decide +kernel
theorem dX3_leave_5 : decode cX3_leave 5 = .ok (.aaload, 1) := by decide +kernel
theorem dX3_leave_51 : decode cX3_leave 51 = .ok (.aload_n 0, 1) := by decide +kernel
theorem dX3_leave_52 : decode cX3_leave 52 = .ok (.getfield 23, 3) := by decide +kernel
theorem dX3_leave_55 : decode cX3_leave 55 = .ok (.aload_n 2, 1) := by decide +kernel
theorem dX3_leave_56 : decode cX3_leave 56 = .ok (.getfield 112, 3) := by decide +kernel
theorem dX3_leave_59 : decode cX3_leave 59 = .ok (.aaload, 1) := by decide +kernel
theorem dX3_leave_6 : decode cX3_leave 6 = .ok (.astore_n 2, 1) := by decide +kernel
theorem dX3_leave_60 : decode cX3_leave 60 = .ok (.dup, 1) := by decide +kernel
theorem dX3_leave_61 : decode cX3_leave 61 = .ok (.getfield 241, 3) := by decide +kernel
theorem dX3_leave_64 : decode cX3_leave 64 = .ok (.iconst 1, 1) := by decide +kernel
theorem dX3_leave_65 : decode cX3_leave 65 = .ok (.iadd, 1) := by decide +kernel
theorem dX3_leave_66 : decode cX3_leave 66 = .ok (.putfield 241, 3) := by decide +kernel
theorem dX3_leave_69 : decode cX3_leave 69 = .ok (.aload_n 0, 1) := by decide +kernel
theorem dX3_leave_7 : decode cX3_leave 7 = .ok (.aload_n 0, 1) := by decide +kernel
theorem dX3_leave_70 : decode cX3_leave 70 = .ok (.aload_n 0, 1) := by decide +kernel
theorem dX3_leave_71 : decode cX3_leave 71 = .ok (.getfield 23, 3) := by decide +kernel
theorem dX3_leave_74 : decode cX3_leave 74 = .ok (.aload_n 2, 1) := by decide +kernel
theorem dX3_leave_75 : decode cX3_leave 75 = .ok (.getfield 112, 3) := by decide +kernel
theorem dX3_leave_78 : decode cX3_leave 78 = .ok (.aaload, 1) := by decide +kernel
theorem dX3_leave_79 : decode cX3_leave 79 = .ok (.invokevirtual 244, 3) := by decide +kernel
theorem dX3_leave_8 : decode cX3_leave 8 = .ok (.getfield 37, 3) := by decide +kernel
theorem dX3_leave_82 : decode cX3_leave 82 = .ok (.return_, 1) := by decide +kernel
theorem dX3_nextWaiting_0 : decode cX3_nextWaiting 0 = .ok (.iconst (-1), 1) := by decide +kernel
theorem dX3_nextWaiting_1 : decode cX3_nextWaiting 1 = .ok (.istore_n 1, 1) := by decide +kernel
theorem dX3_nextWaiting_101 : decode cX3_nextWaiting 101 = .ok (.istore_n 3, 1) := by decide +kernel
theorem dX3_nextWaiting_102 : decode cX3_nextWaiting 102 = .ok (.iinc 4 1, 3) := by decide +kernel
theorem dX3_nextWaiting_105 : decode cX3_nextWaiting 105 = .ok (.goto (-96), 3) := by decide +kernel
theorem dX3_nextWaiting_108 : decode cX3_nextWaiting 108 = .ok (.iload_n 1, 1) := by decide +kernel
theorem dX3_nextWaiting_109 : decode cX3_nextWaiting 109 = .ok (.iconst (-1), 1) := by decide +kernel
theorem dX3_nextWaiting_11 : decode cX3_nextWaiting 11 = .ok (.aload_n 0, 1) := by decide +kernel
theorem dX3_nextWaiting_110 : decode cX3_nextWaiting 110 = .ok (.if_icmp .eq 7, 3) := by decide +kernel
theorem dX3_nextWaiting_113 : decode cX3_nextWaiting 113 = .ok (.iload_n 1, 1) := by decide +kernel
theorem dX3_nextWaiting_114 : decode cX3_nextWaiting 114 = .ok (.goto 4, 3) := by decide +kernel
theorem dX3_nextWaiting_117 : decode cX3_nextWaiting 117 = .ok (.iload_n 2, 1) := by decide +kernel
theorem dX3_nextWaiting_118 : decode cX3_nextWaiting 118 = .ok (.ireturn, 1) := by decide +kernel
theorem dX3_nextWaiting_12 : decode cX3_nextWaiting 12 = .ok (.getfield 70, 3) := by decide +kernel
theorem dX3_nextWaiting_15 : decode cX3_nextWaiting 15 = .ok (.if_icmp .ge 93, 3) := by decide +kernel
theorem dX3_nextWaiting_18 : decode cX3_nextWaiting 18 = .ok (.aload_n 0, 1) := by decide +kernel
theorem dX3_nextWaiting_19 : decode cX3_nextWaiting 19 = .ok (.getfield 29, 3) := by decide +kernel
theorem dX3_nextWaiting_2 : decode cX3_nextWaiting 2 = .ok (.iconst (-1), 1) := by decide +kernel
theorem dX3_nextWaiting_22 : decode cX3_nextWaiting 22 = .ok (.iload 4, 2) := by decide +kernel
theorem dX3_nextWaiting_24 : decode cX3_nextWaiting 24 = .ok (.aaload, 1) := by decide +kernel
theorem dX3_nextWaiting_25 : decode cX3_nextWaiting 25 = .ok (.astore 5, 2) := by decide +kernel
theorem dX3_nextWaiting_27 : decode cX3_nextWaiting 27 = .ok (.aload 5, 2) := by decide +kernel
theorem dX3_nextWaiting_29 : decode cX3_nextWaiting 29 = .ok (.getfield 208, 3) := by decide +kernel
theorem dX3_nextWaiting_3 : decode cX3_nextWaiting 3 = .ok (.istore_n 2, 1) := by decide +kernel
theorem dX3_nextWaiting_32 : decode cX3_nextWaiting 32 = .ok (.ifCond .ne 70, 3) := by decide +kernel
theorem dX3_nextWaiting_35 : decode cX3_nextWaiting 35 = .ok (.aload 5, 2) := by decide +kernel
theorem dX3_nextWaiting_37 : decode cX3_nextWaiting 37 = .ok (.getfield 205, 3) := by decide +kernel
theorem dX3_nextWaiting_4 : decode cX3_nextWaiting 4 = .ok (.iconst (-1), 1) := by decide +kernel
theorem dX3_nextWaiting_40 : decode cX3_nextWaiting 40 = .ok (.ifCond .eq 6, 3) := by decide +kernel
theorem dX3_nextWaiting_43 : decode cX3_nextWaiting 43 = .ok (.iload 4, 2) := by decide +kernel
theorem dX3_nextWaiting_45 : decode cX3_nextWaiting 45 = .ok (.ireturn, 1) := by decide +kernel
theorem dX3_nextWaiting_46 : decode cX3_nextWaiting 46 = .ok (.iload_n 1, 1) := by decide +kernel
theorem dX3_nextWaiting_47 : decode cX3_nextWaiting 47 = .ok (.iconst (-1), 1) := by decide +kernel
theorem dX3_nextWaiting_48 : decode cX3_nextWaiting 48 = .ok (.if_icmp .ne 20, 3) := by decide +kernel
theorem dX3_nextWaiting_5 : decode cX3_nextWaiting 5 = .ok (.istore_n 3, 1) := by decide +kernel
theorem dX3_nextWaiting_51 : decode cX3_nextWaiting 51 = .ok (.aload 5, 2) := by decide +kernel
theorem dX3_nextWaiting_53 : decode cX3_nextWaiting 53 = .ok (.getfield 176, 3) := by decide +kernel
theorem dX3_nextWaiting_56 : decode cX3_nextWaiting 56 = .ok (.aload 5, 2) := by decide +kernel
theorem dX3_nextWaiting_58 : decode cX3_nextWaiting 58 = .ok (.getfield 198, 3) := by decide +kernel
theorem dX3_nextWaiting_6 : decode cX3_nextWaiting 6 = .ok (.iconst 0, 1) := by decide +kernel
theorem dX3_nextWaiting_61 : decode cX3_nextWaiting 61 = .ok (.iadd, 1) := by decide +kernel
theorem dX3_nextWaiting_62 : decode cX3_nextWaiting 62 = .ok (.ifCond .le 6, 3) := by decide +kernel
theorem dX3_nextWaiting_65 : decode cX3_nextWaiting 65 = .ok (.iload 4, 2) := by decide +kernel
theorem dX3_nextWaiting_67 : decode cX3_nextWaiting 67 = .ok (.istore_n 1, 1) := by decide +kernel
theorem dX3_nextWaiting_68 : decode cX3_nextWaiting 68 = .ok (.aload_n 0, 1) := by decide +kernel
theorem dX3_nextWaiting_69 : decode cX3_nextWaiting 69 = .ok (.getfield 23, 3) := by decide +kernel
theorem dX3_nextWaiting_7 : decode cX3_nextWaiting 7 = .ok (.istore 4, 2) := by decide +kernel
theorem dX3_nextWaiting_72 : decode cX3_nextWaiting 72 = .ok (.aload 5, 2) := by decide +kernel
theorem dX3_nextWaiting_74 : decode cX3_nextWaiting 74 = .ok (.getfield 112, 3) := by decide +kernel
theorem dX3_nextWaiting_77 : decode cX3_nextWaiting 77 = .ok (.aaload, 1) := by decide +kernel
theorem dX3_nextWaiting_78 : decode cX3_nextWaiting 78 = .ok (.getfield 211, 3) := by decide +kernel
theorem dX3_nextWaiting_81 : decode cX3_nextWaiting 81 = .ok (.iload_n 3, 1) := by decide +kernel
theorem dX3_nextWaiting_82 : decode cX3_nextWaiting 82 = .ok (.if_icmp .le 20, 3) := by decide +kernel
theorem dX3_nextWaiting_85 : decode cX3_nextWaiting 85 = .ok (.iload 4, 2) := by decide +kernel
theorem dX3_nextWaiting_87 : decode cX3_nextWaiting 87 = .ok (.istore_n 2, 1) := by decide +kernel
theorem dX3_nextWaiting_88 : decode cX3_nextWaiting 88 = .ok (.aload_n 0, 1) := by decide +kernel
theorem dX3_nextWaiting_89 : decode cX3_nextWaiting 89 = .ok (.getfield 23, 3) := by decide +kernel
theorem dX3_nextWaiting_9 : decode cX3_nextWaiting 9 = .ok (.iload 4, 2) := by decide +kernel
theorem dX3_nextWaiting_92 : decode cX3_nextWaiting 92 = .ok (.aload 5, 2) := by decide +kernel
theorem dX3_nextWaiting_94 : decode cX3_nextWaiting 94 = .ok (.getfield 112, 3) := by decide +kernel
theorem dX3_nextWaiting_97 : decode cX3_nextWaiting 97 = .ok (.aaload, 1) := by decide +kernel
theorem dX3_nextWaiting_98 : decode cX3_nextWaiting 98 = .ok (.getfield 211, 3) := by decide +kernel
theorem dX3_passTime_0 : decode cX3_passTime 0 = .ok (.aload_n 0, 1) := by decide +kernel
theorem dX3_passTime_1 : decode cX3_passTime 1 = .ok (.dup, 1) := by decide +kernel
theorem dX3_passTime_10 : decode cX3_passTime 10 = .ok (.aload_n 0, 1) := by decide +kernel
theorem dX3_passTime_11 : decode cX3_passTime 11 = .ok (.getfield 9, 3) := by decide +kernel
theorem dX3_passTime_14 : decode cX3_passTime 14 = .ok (.ifCond .le 55, 3) := by decide +kernel
theorem dX3_passTime_17 : decode cX3_passTime 17 = .ok (.aload_n 0, 1) := by decide +kernel
theorem dX3_passTime_18 : decode cX3_passTime 18 = .ok (.getfield 61, 3) := by decide +kernel
theorem dX3_passTime_2 : decode cX3_passTime 2 = .ok (.getfield 61, 3) := by decide +kernel
theorem dX3_passTime_21 : decode cX3_passTime 21 = .ok (.aload_n 0, 1) := by decide +kernel
theorem dX3_passTime_22 : decode cX3_passTime 22 = .ok (.getfield 9, 3) := by decide +kernel
theorem dX3_passTime_25 : decode cX3_passTime 25 = .ok (.irem, 1) := by decide +kernel
theorem dX3_passTime_26 : decode cX3_passTime 26 = .ok (.ifCond .ne 43, 3) := by decide +kernel
theorem dX3_passTime_29 : decode cX3_passTime 29 = .ok (.aload_n 0, 1) := by decide +kernel
theorem dX3_passTime_30 : decode cX3_passTime 30 = .ok (.invokevirtual 214, 3) := by decide +kernel
theorem dX3_passTime_33 : decode cX3_passTime 33 = .ok (.iconst 1, 1) := by decide +kernel
theorem dX3_passTime_34 : decode cX3_passTime 34 = .ok (.isub, 1) := by decide +kernel
theorem dX3_passTime_35 : decode cX3_passTime 35 = .ok (.bipush 10, 2) := by decide +kernel
theorem dX3_passTime_37 : decode cX3_passTime 37 = .ok (.irem, 1) := by decide +kernel
theorem dX3_passTime_38 : decode cX3_passTime 38 = .ok (.istore_n 1, 1) := by decide +kernel
theorem dX3_passTime_39 : decode cX3_passTime 39 = .ok (.iconst 0, 1) := by decide +kernel
theorem dX3_passTime_40 : decode cX3_passTime 40 = .ok (.istore_n 2, 1) := by decide +kernel
theorem dX3_passTime_41 : decode cX3_passTime 41 = .ok (.iload_n 2, 1) := by decide +kernel
theorem dX3_passTime_42 : decode cX3_passTime 42 = .ok (.aload_n 0, 1) := by decide +kernel
theorem dX3_passTime_43 : decode cX3_passTime 43 = .ok (.getfield 67, 3) := by decide +kernel
theorem dX3_passTime_46 : decode cX3_passTime 46 = .ok (.if_icmp .ge 23, 3) := by decide +kernel
theorem dX3_passTime_49 : decode cX3_passTime 49 = .ok (.iload_n 1, 1) := by decide +kernel
theorem dX3_passTime_5 : decode cX3_passTime 5 = .ok (.iconst 1, 1) := by decide +kernel
theorem dX3_passTime_50 : decode cX3_passTime 50 = .ok (.ifCond .lt 19, 3) := by decide +kernel
theorem dX3_passTime_53 : decode cX3_passTime 53 = .ok (.aload_n 0, 1) := by decide +kernel
theorem dX3_passTime_54 : decode cX3_passTime 54 = .ok (.getfield 23, 3) := by decide +kernel
theorem dX3_passTime_57 : decode cX3_passTime 57 = .ok (.iload_n 2, 1) := by decide +kernel
theorem dX3_passTime_58 : decode cX3_passTime 58 = .ok (.aaload, 1) := by decide +kernel
theorem dX3_passTime_59 : decode cX3_passTime 59 = .ok (.iload_n 1, 1) := by decide +kernel
theorem dX3_passTime_6 : decode cX3_passTime 6 = .ok (.iadd, 1) := by decide +kernel
theorem dX3_passTime_60 : decode cX3_passTime 60 = .ok (.invokevirtual 217, 3) := by decide +kernel
theorem dX3_passTime_63 : decode cX3_passTime 63 = .ok (.iinc 2 1, 3) := by decide +kernel
theorem dX3_passTime_66 : decode cX3_passTime 66 = .ok (.goto (-25), 3) := by decide +kernel
theorem dX3_passTime_69 : decode cX3_passTime 69 = .ok (.return_, 1) := by decide +kernel
theorem dX3_passTime_7 : decode cX3_passTime 7 = .ok (.putfield 61, 3) := by decide +kernel
theorem dX3_putAt_0 : decode cX3_putAt 0 = .ok (.aload_n 0, 1) := by decide +kernel
theorem dX3_putAt_1 : decode cX3_putAt 1 = .ok (.getfield 29, 3) := by decide +kernel
theorem dX3_putAt_10 : decode cX3_putAt 10 = .ok (.aload_n 0, 1) := by decide +kernel
theorem dX3_putAt_11 : decode cX3_putAt 11 = .ok (.getfield 23, 3) := by decide +kernel
theorem dX3_putAt_14 : decode cX3_putAt 14 = .ok (.aload_n 0, 1) := by decide +kernel
theorem dX3_putAt_15 : decode cX3_putAt 15 = .ok (.getfield 29, 3) := by decide +kernel
theorem dX3_putAt_18 : decode cX3_putAt 18 = .ok (.iload_n 1, 1) := by decide +kernel
theorem dX3_putAt_19 : decode cX3_putAt 19 = .ok (.aaload, 1) := by decide +kernel
theorem dX3_putAt_20 : decode cX3_putAt 20 = .ok (.getfield 112, 3) := by decide +kernel
theorem dX3_putAt_23 : decode cX3_putAt 23 = .ok (.aaload, 1) := by decide +kernel
theorem dX3_putAt_24 : decode cX3_putAt 24 = .ok (.getfield 106, 3) := by decide +kernel
theorem dX3_putAt_27 : decode cX3_putAt 27 = .ok (.iload_n 2, 1) := by decide +kernel
theorem dX3_putAt_28 : decode cX3_putAt 28 = .ok (.iload_n 1, 1) := by decide +kernel
theorem dX3_putAt_29 : decode cX3_putAt 29 = .ok (.iastore, 1) := by decide +kernel
theorem dX3_putAt_30 : decode cX3_putAt 30 = .ok (.return_, 1) := by decide +kernel
theorem dX3_putAt_4 : decode cX3_putAt 4 = .ok (.iload_n 1, 1) := by decide +kernel
theorem dX3_putAt_5 : decode cX3_putAt 5 = .ok (.aaload, 1) := by decide +kernel
theorem dX3_putAt_6 : decode cX3_putAt 6 = .ok (.iload_n 2, 1) := by decide +kernel
theorem dX3_putAt_7 : decode cX3_putAt 7 = .ok (.putfield 109, 3) := by decide +kernel
theorem dX3_restOrWork_0 : decode cX3_restOrWork 0 = .ok (.aload_n 1, 1) := by decide +kernel
theorem dX3_restOrWork_1 : decode cX3_restOrWork 1 = .ok (.getfield 152, 3) := by decide +kernel
theorem dX3_restOrWork_12 : decode cX3_restOrWork 12 = .ok (.iconst 1, 1) := by decide +kernel
theorem dX3_restOrWork_13 : decode cX3_restOrWork 13 = .ok (.isub, 1) := by decide +kernel
theorem dX3_restOrWork_14 : decode cX3_restOrWork 14 = .ok (.putfield 152, 3) := by decide +kernel
theorem dX3_restOrWork_17 : decode cX3_restOrWork 17 = .ok (.aload_n 0, 1) := by decide +kernel
theorem dX3_restOrWork_18 : decode cX3_restOrWork 18 = .ok (.iconst 1, 1) := by decide +kernel
theorem dX3_restOrWork_19 : decode cX3_restOrWork 19 = .ok (.putfield 115, 3) := by decide +kernel
theorem dX3_restOrWork_22 : decode cX3_restOrWork 22 = .ok (.iconst 0, 1) := by decide +kernel
theorem dX3_restOrWork_23 : decode cX3_restOrWork 23 = .ok (.ireturn, 1) := by decide +kernel
theorem dX3_restOrWork_24 : decode cX3_restOrWork 24 = .ok (.aload_n 1, 1) := by decide +kernel
theorem dX3_restOrWork_25 : decode cX3_restOrWork 25 = .ok (.getfield 133, 3) := by decide +kernel
theorem dX3_restOrWork_28 : decode cX3_restOrWork 28 = .ok (.iconst (-1), 1) := by decide +kernel
theorem dX3_restOrWork_29 : decode cX3_restOrWork 29 = .ok (.if_icmp .eq 17, 3) := by decide +kernel
theorem dX3_restOrWork_32 : decode cX3_restOrWork 32 = .ok (.aload_n 1, 1) := by decide +kernel
theorem dX3_restOrWork_33 : decode cX3_restOrWork 33 = .ok (.getfield 155, 3) := by decide +kernel
theorem dX3_restOrWork_36 : decode cX3_restOrWork 36 = .ok (.ifCond .eq 10, 3) := by decide +kernel
theorem dX3_restOrWork_39 : decode cX3_restOrWork 39 = .ok (.aload_n 1, 1) := by decide +kernel
theorem dX3_restOrWork_4 : decode cX3_restOrWork 4 = .ok (.ifCond .le 20, 3) := by decide +kernel
theorem dX3_restOrWork_40 : decode cX3_restOrWork 40 = .ok (.getfield 158, 3) := by decide +kernel
theorem dX3_restOrWork_43 : decode cX3_restOrWork 43 = .ok (.ifCond .eq 5, 3) := by decide +kernel
theorem dX3_restOrWork_46 : decode cX3_restOrWork 46 = .ok (.iconst 0, 1) := by decide +kernel
theorem dX3_restOrWork_47 : decode cX3_restOrWork 47 = .ok (.ireturn, 1) := by decide +kernel
theorem dX3_restOrWork_48 : decode cX3_restOrWork 48 = .ok (.aload_n 1, 1) := by decide +kernel
theorem dX3_restOrWork_49 : decode cX3_restOrWork 49 = .ok (.dup, 1) := by decide +kernel
theorem dX3_restOrWork_50 : decode cX3_restOrWork 50 = .ok (.getfield 161, 3) := by decide +kernel
theorem dX3_restOrWork_53 : decode cX3_restOrWork 53 = .ok (.iconst 1, 1) := by decide +kernel
theorem dX3_restOrWork_54 : decode cX3_restOrWork 54 = .ok (.iadd, 1) := by decide +kernel
theorem dX3_restOrWork_55 : decode cX3_restOrWork 55 = .ok (.putfield 161, 3) := by decide +kernel
theorem dX3_restOrWork_58 : decode cX3_restOrWork 58 = .ok (.aload_n 1, 1) := by decide +kernel
theorem dX3_restOrWork_59 : decode cX3_restOrWork 59 = .ok (.dup, 1) := by decide +kernel
theorem dX3_restOrWork_60 : decode cX3_restOrWork 60 = .ok (.getfield 155, 3) := by decide +kernel
theorem dX3_restOrWork_63 : decode cX3_restOrWork 63 = .ok (.iconst 1, 1) := by decide +kernel
theorem dX3_restOrWork_64 : decode cX3_restOrWork 64 = .ok (.isub, 1) := by decide +kernel
theorem dX3_restOrWork_65 : decode cX3_restOrWork 65 = .ok (.putfield 155, 3) := by decide +kernel
theorem dX3_restOrWork_68 : decode cX3_restOrWork 68 = .ok (.aload_n 0, 1) := by decide +kernel
theorem dX3_restOrWork_69 : decode cX3_restOrWork 69 = .ok (.iconst 1, 1) := by decide +kernel
theorem dX3_restOrWork_7 : decode cX3_restOrWork 7 = .ok (.aload_n 1, 1) := by decide +kernel
theorem dX3_restOrWork_70 : decode cX3_restOrWork 70 = .ok (.putfield 115, 3) := by decide +kernel
theorem dX3_restOrWork_73 : decode cX3_restOrWork 73 = .ok (.aload_n 1, 1) := by decide +kernel
theorem dX3_restOrWork_74 : decode cX3_restOrWork 74 = .ok (.getfield 155, 3) := by decide +kernel
theorem dX3_restOrWork_77 : decode cX3_restOrWork 77 = .ok (.ifCond .ne 14, 3) := by decide +kernel
theorem dX3_restOrWork_8 : decode cX3_restOrWork 8 = .ok (.dup, 1) := by decide +kernel
theorem dX3_restOrWork_80 : decode cX3_restOrWork 80 = .ok (.aload_n 1, 1) := by decide +kernel
theorem dX3_restOrWork_81 : decode cX3_restOrWork 81 = .ok (.invokevirtual 164, 3) := by decide +kernel
theorem dX3_restOrWork_84 : decode cX3_restOrWork 84 = .ok (.ifCond .eq 7, 3) := by decide +kernel
theorem dX3_restOrWork_87 : decode cX3_restOrWork 87 = .ok (.iconst 1, 1) := by decide +kernel
theorem dX3_restOrWork_88 : decode cX3_restOrWork 88 = .ok (.goto 4, 3) := by decide +kernel
theorem dX3_restOrWork_9 : decode cX3_restOrWork 9 = .ok (.getfield 152, 3) := by decide +kernel
theorem dX3_restOrWork_91 : decode cX3_restOrWork 91 = .ok (.iconst 0, 1) := by decide +kernel
theorem dX3_restOrWork_92 : decode cX3_restOrWork 92 = .ok (.ireturn, 1) := by decide +kernel
theorem dX3_tick_0 : decode cX3_tick 0 = .ok (.aload_n 0, 1) := by decide +kernel
theorem dX3_tick_1 : decode cX3_tick 1 = .ok (.iconst 0, 1) := by decide +kernel
theorem dX3_tick_10 : decode cX3_tick 10 = .ok (.isub, 1) := by decide +kernel
theorem dX3_tick_100 : decode cX3_tick 100 = .ok (.aload_n 0, 1) := by decide +kernel
theorem dX3_tick_101 : decode cX3_tick 101 = .ok (.invokevirtual 140, 3) := by decide +kernel
theorem dX3_tick_104 : decode cX3_tick 104 = .ok (.aload_n 0, 1) := by decide +kernel
theorem dX3_tick_105 : decode cX3_tick 105 = .ok (.invokevirtual 143, 3) := by decide +kernel
theorem dX3_tick_108 : decode cX3_tick 108 = .ok (.aload_n 0, 1) := by decide +kernel
theorem dX3_tick_109 : decode cX3_tick 109 = .ok (.invokevirtual 146, 3) := by decide +kernel
theorem dX3_tick_11 : decode cX3_tick 11 = .ok (.istore_n 1, 1) := by decide +kernel
theorem dX3_tick_112 : decode cX3_tick 112 = .ok (.aload_n 0, 1) := by decide +kernel
theorem dX3_tick_113 : decode cX3_tick 113 = .ok (.invokevirtual 149, 3) := by decide +kernel
theorem dX3_tick_116 : decode cX3_tick 116 = .ok (.aload_n 0, 1) := by decide +kernel
theorem dX3_tick_117 : decode cX3_tick 117 = .ok (.getfield 115, 3) := by decide +kernel
theorem dX3_tick_12 : decode cX3_tick 12 = .ok (.iload_n 1, 1) := by decide +kernel
theorem dX3_tick_120 : decode cX3_tick 120 = .ok (.ireturn, 1) := by decide +kernel
theorem dX3_tick_13 : decode cX3_tick 13 = .ok (.ifCond .lt 87, 3) := by decide +kernel
theorem dX3_tick_16 : decode cX3_tick 16 = .ok (.aload_n 0, 1) := by decide +kernel
theorem dX3_tick_17 : decode cX3_tick 17 = .ok (.getfield 17, 3) := by decide +kernel
theorem dX3_tick_2 : decode cX3_tick 2 = .ok (.putfield 115, 3) := by decide +kernel
theorem dX3_tick_20 : decode cX3_tick 20 = .ok (.iload_n 1, 1) := by decide +kernel
theorem dX3_tick_21 : decode cX3_tick 21 = .ok (.aaload, 1) := by decide +kernel
theorem dX3_tick_22 : decode cX3_tick 22 = .ok (.astore_n 2, 1) := by decide +kernel
theorem dX3_tick_23 : decode cX3_tick 23 = .ok (.aload_n 0, 1) := by decide +kernel
theorem dX3_tick_24 : decode cX3_tick 24 = .ok (.aload_n 2, 1) := by decide +kernel
theorem dX3_tick_25 : decode cX3_tick 25 = .ok (.invokevirtual 119, 3) := by decide +kernel
theorem dX3_tick_28 : decode cX3_tick 28 = .ok (.ifCond .eq 11, 3) := by decide +kernel
theorem dX3_tick_31 : decode cX3_tick 31 = .ok (.aload_n 0, 1) := by decide +kernel
theorem dX3_tick_32 : decode cX3_tick 32 = .ok (.aload_n 2, 1) := by decide +kernel
theorem dX3_tick_33 : decode cX3_tick 33 = .ok (.invokevirtual 123, 3) := by decide +kernel
theorem dX3_tick_36 : decode cX3_tick 36 = .ok (.goto 58, 3) := by decide +kernel
theorem dX3_tick_39 : decode cX3_tick 39 = .ok (.aload_n 2, 1) := by decide +kernel
theorem dX3_tick_40 : decode cX3_tick 40 = .ok (.invokevirtual 126, 3) := by decide +kernel
theorem dX3_tick_43 : decode cX3_tick 43 = .ok (.ifCond .eq 21, 3) := by decide +kernel
theorem dX3_tick_46 : decode cX3_tick 46 = .ok (.iload_n 1, 1) := by decide +kernel
theorem dX3_tick_47 : decode cX3_tick 47 = .ok (.aload_n 0, 1) := by decide +kernel
theorem dX3_tick_48 : decode cX3_tick 48 = .ok (.getfield 64, 3) := by decide +kernel
theorem dX3_tick_5 : decode cX3_tick 5 = .ok (.aload_n 0, 1) := by decide +kernel
theorem dX3_tick_51 : decode cX3_tick 51 = .ok (.iconst 1, 1) := by decide +kernel
theorem dX3_tick_52 : decode cX3_tick 52 = .ok (.isub, 1) := by decide +kernel
theorem dX3_tick_53 : decode cX3_tick 53 = .ok (.if_icmp .ne 11, 3) := by decide +kernel
theorem dX3_tick_56 : decode cX3_tick 56 = .ok (.aload_n 0, 1) := by decide +kernel
theorem dX3_tick_57 : decode cX3_tick 57 = .ok (.aload_n 2, 1) := by decide +kernel
theorem dX3_tick_58 : decode cX3_tick 58 = .ok (.invokevirtual 130, 3) := by decide +kernel
theorem dX3_tick_6 : decode cX3_tick 6 = .ok (.getfield 64, 3) := by decide +kernel
theorem dX3_tick_61 : decode cX3_tick 61 = .ok (.goto 33, 3) := by decide +kernel
theorem dX3_tick_64 : decode cX3_tick 64 = .ok (.aload_n 2, 1) := by decide +kernel
theorem dX3_tick_65 : decode cX3_tick 65 = .ok (.invokevirtual 126, 3) := by decide +kernel
theorem dX3_tick_68 : decode cX3_tick 68 = .ok (.ifCond .eq 26, 3) := by decide +kernel
theorem dX3_tick_71 : decode cX3_tick 71 = .ok (.aload_n 0, 1) := by decide +kernel
theorem dX3_tick_72 : decode cX3_tick 72 = .ok (.getfield 17, 3) := by decide +kernel
theorem dX3_tick_75 : decode cX3_tick 75 = .ok (.iload_n 1, 1) := by decide +kernel
theorem dX3_tick_76 : decode cX3_tick 76 = .ok (.iconst 1, 1) := by decide +kernel
theorem dX3_tick_77 : decode cX3_tick 77 = .ok (.iadd, 1) := by decide +kernel
theorem dX3_tick_78 : decode cX3_tick 78 = .ok (.aaload, 1) := by decide +kernel
theorem dX3_tick_79 : decode cX3_tick 79 = .ok (.getfield 133, 3) := by decide +kernel
theorem dX3_tick_82 : decode cX3_tick 82 = .ok (.iconst (-1), 1) := by decide +kernel
theorem dX3_tick_83 : decode cX3_tick 83 = .ok (.if_icmp .ne 11, 3) := by decide +kernel
theorem dX3_tick_86 : decode cX3_tick 86 = .ok (.aload_n 0, 1) := by decide +kernel
theorem dX3_tick_87 : decode cX3_tick 87 = .ok (.aload_n 2, 1) := by decide +kernel
theorem dX3_tick_88 : decode cX3_tick 88 = .ok (.iload_n 1, 1) := by decide +kernel
theorem dX3_tick_89 : decode cX3_tick 89 = .ok (.iconst 1, 1) := by decide +kernel
theorem dX3_tick_9 : decode cX3_tick 9 = .ok (.iconst 1, 1) := by decide +kernel
theorem dX3_tick_90 : decode cX3_tick 90 = .ok (.iadd, 1) := by decide +kernel
theorem dX3_tick_91 : decode cX3_tick 91 = .ok (.invokevirtual 136, 3) := by decide +kernel
theorem dX3_tick_94 : decode cX3_tick 94 = .ok (.iinc 1 (-1), 3) := by decide +kernel
theorem dX3_tick_97 : decode cX3_tick 97 = .ok (.goto (-85), 3) := by decide +kernel
theorem dX3_ticksToCome_0 : decode cX3_ticksToCome 0 = .ok (.iconst 0, 1) := by decide +kernel
theorem dX3_ticksToCome_1 : decode cX3_ticksToCome 1 = .ok (.istore_n 2, 1) := by decide +kernel
theorem dX3_ticksToCome_12 : decode cX3_ticksToCome 12 = .ok (.aload_n 0, 1) := by decide +kernel
theorem dX3_ticksToCome_13 : decode cX3_ticksToCome 13 = .ok (.getfield 29, 3) := by decide +kernel
theorem dX3_ticksToCome_16 : decode cX3_ticksToCome 16 = .ok (.iload_n 3, 1) := by decide +kernel
theorem dX3_ticksToCome_17 : decode cX3_ticksToCome 17 = .ok (.aaload, 1) := by decide +kernel
theorem dX3_ticksToCome_18 : decode cX3_ticksToCome 18 = .ok (.invokevirtual 253, 3) := by decide +kernel
theorem dX3_ticksToCome_2 : decode cX3_ticksToCome 2 = .ok (.iconst 0, 1) := by decide +kernel
theorem dX3_ticksToCome_21 : decode cX3_ticksToCome 21 = .ok (.ifCond .ne 24, 3) := by decide +kernel
theorem dX3_ticksToCome_24 : decode cX3_ticksToCome 24 = .ok (.iload_n 2, 1) := by decide +kernel
theorem dX3_ticksToCome_25 : decode cX3_ticksToCome 25 = .ok (.aload_n 0, 1) := by decide +kernel
theorem dX3_ticksToCome_26 : decode cX3_ticksToCome 26 = .ok (.getfield 17, 3) := by decide +kernel
theorem dX3_ticksToCome_29 : decode cX3_ticksToCome 29 = .ok (.iload_n 1, 1) := by decide +kernel
theorem dX3_ticksToCome_3 : decode cX3_ticksToCome 3 = .ok (.istore_n 3, 1) := by decide +kernel
theorem dX3_ticksToCome_30 : decode cX3_ticksToCome 30 = .ok (.aaload, 1) := by decide +kernel
theorem dX3_ticksToCome_31 : decode cX3_ticksToCome 31 = .ok (.aload_n 0, 1) := by decide +kernel
theorem dX3_ticksToCome_32 : decode cX3_ticksToCome 32 = .ok (.getfield 29, 3) := by decide +kernel
theorem dX3_ticksToCome_35 : decode cX3_ticksToCome 35 = .ok (.iload_n 3, 1) := by decide +kernel
theorem dX3_ticksToCome_36 : decode cX3_ticksToCome 36 = .ok (.aaload, 1) := by decide +kernel
theorem dX3_ticksToCome_37 : decode cX3_ticksToCome 37 = .ok (.getfield 220, 3) := by decide +kernel
theorem dX3_ticksToCome_4 : decode cX3_ticksToCome 4 = .ok (.iload_n 3, 1) := by decide +kernel
theorem dX3_ticksToCome_40 : decode cX3_ticksToCome 40 = .ok (.invokevirtual 256, 3) := by decide +kernel
theorem dX3_ticksToCome_43 : decode cX3_ticksToCome 43 = .ok (.iadd, 1) := by decide +kernel
theorem dX3_ticksToCome_44 : decode cX3_ticksToCome 44 = .ok (.istore_n 2, 1) := by decide +kernel
theorem dX3_ticksToCome_45 : decode cX3_ticksToCome 45 = .ok (.iinc 3 1, 3) := by decide +kernel
theorem dX3_ticksToCome_48 : decode cX3_ticksToCome 48 = .ok (.goto (-44), 3) := by decide +kernel
theorem dX3_ticksToCome_5 : decode cX3_ticksToCome 5 = .ok (.aload_n 0, 1) := by decide +kernel
theorem dX3_ticksToCome_51 : decode cX3_ticksToCome 51 = .ok (.iload_n 2, 1) := by decide +kernel
theorem dX3_ticksToCome_52 : decode cX3_ticksToCome 52 = .ok (.ireturn, 1) := by decide +kernel
theorem dX3_ticksToCome_6 : decode cX3_ticksToCome 6 = .ok (.getfield 70, 3) := by decide +kernel
theorem dX3_ticksToCome_9 : decode cX3_ticksToCome 9 = .ok (.if_icmp .ge 42, 3) := by decide +kernel
theorem dX4_begin_0 : decode cX4_begin 0 = .ok (.aload_n 0, 1) := by decide +kernel
theorem dX4_begin_1 : decode cX4_begin 1 = .ok (.iload_n 1, 1) := by decide +kernel
theorem dX4_begin_10 : decode cX4_begin 10 = .ok (.aload_n 0, 1) := by decide +kernel
theorem dX4_begin_11 : decode cX4_begin 11 = .ok (.iconst 0, 1) := by decide +kernel
theorem dX4_begin_12 : decode cX4_begin 12 = .ok (.putfield 28, 3) := by decide +kernel
theorem dX4_begin_15 : decode cX4_begin 15 = .ok (.aload_n 0, 1) := by decide +kernel
theorem dX4_begin_16 : decode cX4_begin 16 = .ok (.iconst 0, 1) := by decide +kernel
theorem dX4_begin_17 : decode cX4_begin 17 = .ok (.putfield 31, 3) := by decide +kernel
theorem dX4_begin_2 : decode cX4_begin 2 = .ok (.putfield 21, 3) := by decide +kernel
theorem dX4_begin_20 : decode cX4_begin 20 = .ok (.aload_n 0, 1) := by decide +kernel
theorem dX4_begin_21 : decode cX4_begin 21 = .ok (.iconst 0, 1) := by decide +kernel
theorem dX4_begin_22 : decode cX4_begin 22 = .ok (.putfield 34, 3) := by decide +kernel
theorem dX4_begin_25 : decode cX4_begin 25 = .ok (.aload_n 0, 1) := by decide +kernel
theorem dX4_begin_26 : decode cX4_begin 26 = .ok (.iconst 0, 1) := by decide +kernel
theorem dX4_begin_27 : decode cX4_begin 27 = .ok (.putfield 37, 3) := by decide +kernel
theorem dX4_begin_30 : decode cX4_begin 30 = .ok (.aload_n 0, 1) := by decide +kernel
theorem dX4_begin_31 : decode cX4_begin 31 = .ok (.iconst 0, 1) := by decide +kernel
theorem dX4_begin_32 : decode cX4_begin 32 = .ok (.putfield 40, 3) := by decide +kernel
theorem dX4_begin_35 : decode cX4_begin 35 = .ok (.aload_n 0, 1) := by decide +kernel
theorem dX4_begin_36 : decode cX4_begin 36 = .ok (.iconst 0, 1) := by decide +kernel
theorem dX4_begin_37 : decode cX4_begin 37 = .ok (.putfield 43, 3) := by decide +kernel
theorem dX4_begin_40 : decode cX4_begin 40 = .ok (.aload_n 0, 1) := by decide +kernel
theorem dX4_begin_41 : decode cX4_begin 41 = .ok (.iconst 0, 1) := by decide +kernel
theorem dX4_begin_42 : decode cX4_begin 42 = .ok (.putfield 46, 3) := by decide +kernel
theorem dX4_begin_45 : decode cX4_begin 45 = .ok (.return_, 1) := by decide +kernel
theorem dX4_begin_5 : decode cX4_begin 5 = .ok (.aload_n 0, 1) := by decide +kernel
theorem dX4_begin_6 : decode cX4_begin 6 = .ok (.iconst 0, 1) := by decide +kernel
theorem dX4_begin_7 : decode cX4_begin 7 = .ok (.putfield 25, 3) := by decide +kernel
theorem dX4_cardAt_0 : decode cX4_cardAt 0 = .ok (.iload_n 1, 1) := by decide +kernel
theorem dX4_cardAt_1 : decode cX4_cardAt 1 = .ok (.ifCond .lt 20, 3) := by decide +kernel
theorem dX4_cardAt_12 : decode cX4_cardAt 12 = .ok (.aload_n 0, 1) := by decide +kernel
theorem dX4_cardAt_13 : decode cX4_cardAt 13 = .ok (.getfield 9, 3) := by decide +kernel
theorem dX4_cardAt_16 : decode cX4_cardAt 16 = .ok (.iload_n 1, 1) := by decide +kernel
theorem dX4_cardAt_17 : decode cX4_cardAt 17 = .ok (.iaload, 1) := by decide +kernel
theorem dX4_cardAt_18 : decode cX4_cardAt 18 = .ok (.goto 4, 3) := by decide +kernel
theorem dX4_cardAt_21 : decode cX4_cardAt 21 = .ok (.iconst (-1), 1) := by decide +kernel
theorem dX4_cardAt_22 : decode cX4_cardAt 22 = .ok (.ireturn, 1) := by decide +kernel
theorem dX4_cardAt_4 : decode cX4_cardAt 4 = .ok (.iload_n 1, 1) := by decide +kernel
theorem dX4_cardAt_5 : decode cX4_cardAt 5 = .ok (.aload_n 0, 1) := by decide +kernel
theorem dX4_cardAt_6 : decode cX4_cardAt 6 = .ok (.getfield 25, 3) := by decide +kernel
theorem dX4_cardAt_9 : decode cX4_cardAt 9 = .ok (.if_icmp .ge 12, 3) := by decide +kernel
theorem dX4_copyFrom_0 : decode cX4_copyFrom 0 = .ok (.aload_n 0, 1) := by decide +kernel
theorem dX4_copyFrom_1 : decode cX4_copyFrom 1 = .ok (.aload_n 1, 1) := by decide +kernel
theorem dX4_copyFrom_10 : decode cX4_copyFrom 10 = .ok (.getfield 25, 3) := by decide +kernel
theorem dX4_copyFrom_102 : decode cX4_copyFrom 102 = .ok (.aload_n 1, 1) := by decide +kernel
theorem dX4_copyFrom_103 : decode cX4_copyFrom 103 = .ok (.getfield 18, 3) := by decide +kernel
theorem dX4_copyFrom_106 : decode cX4_copyFrom 106 = .ok (.iconst 0, 1) := by decide +kernel
theorem dX4_copyFrom_107 : decode cX4_copyFrom 107 = .ok (.aload_n 0, 1) := by decide +kernel
theorem dX4_copyFrom_108 : decode cX4_copyFrom 108 = .ok (.getfield 18, 3) := by decide +kernel
theorem dX4_copyFrom_111 : decode cX4_copyFrom 111 = .ok (.iconst 0, 1) := by decide +kernel
theorem dX4_copyFrom_112 : decode cX4_copyFrom 112 = .ok (.bipush 10, 2) := by decide +kernel
theorem dX4_copyFrom_114 : decode cX4_copyFrom 114 = .ok (.invokestatic 49, 3) := by decide +kernel
theorem dX4_copyFrom_117 : decode cX4_copyFrom 117 = .ok (.return_, 1) := by decide +kernel
theorem dX4_copyFrom_13 : decode cX4_copyFrom 13 = .ok (.putfield 25, 3) := by decide +kernel
theorem dX4_copyFrom_16 : decode cX4_copyFrom 16 = .ok (.aload_n 1, 1) := by decide +kernel
theorem dX4_copyFrom_17 : decode cX4_copyFrom 17 = .ok (.getfield 9, 3) := by decide +kernel
theorem dX4_copyFrom_2 : decode cX4_copyFrom 2 = .ok (.getfield 21, 3) := by decide +kernel
theorem dX4_copyFrom_20 : decode cX4_copyFrom 20 = .ok (.iconst 0, 1) := by decide +kernel
theorem dX4_copyFrom_21 : decode cX4_copyFrom 21 = .ok (.aload_n 0, 1) := by decide +kernel
theorem dX4_copyFrom_22 : decode cX4_copyFrom 22 = .ok (.getfield 9, 3) := by decide +kernel
theorem dX4_copyFrom_25 : decode cX4_copyFrom 25 = .ok (.iconst 0, 1) := by decide +kernel
theorem dX4_copyFrom_26 : decode cX4_copyFrom 26 = .ok (.bipush 30, 2) := by decide +kernel
theorem dX4_copyFrom_28 : decode cX4_copyFrom 28 = .ok (.invokestatic 49, 3) := by decide +kernel
theorem dX4_copyFrom_31 : decode cX4_copyFrom 31 = .ok (.aload_n 0, 1) := by decide +kernel
theorem dX4_copyFrom_32 : decode cX4_copyFrom 32 = .ok (.aload_n 1, 1) := by decide +kernel
theorem dX4_copyFrom_33 : decode cX4_copyFrom 33 = .ok (.getfield 28, 3) := by decide +kernel
theorem dX4_copyFrom_36 : decode cX4_copyFrom 36 = .ok (.putfield 28, 3) := by decide +kernel
theorem dX4_copyFrom_39 : decode cX4_copyFrom 39 = .ok (.aload_n 0, 1) := by decide +kernel
theorem dX4_copyFrom_40 : decode cX4_copyFrom 40 = .ok (.aload_n 1, 1) := by decide +kernel
theorem dX4_copyFrom_41 : decode cX4_copyFrom 41 = .ok (.getfield 31, 3) := by decide +kernel
theorem dX4_copyFrom_44 : decode cX4_copyFrom 44 = .ok (.putfield 31, 3) := by decide +kernel
theorem dX4_copyFrom_47 : decode cX4_copyFrom 47 = .ok (.aload_n 0, 1) := by decide +kernel
theorem dX4_copyFrom_48 : decode cX4_copyFrom 48 = .ok (.aload_n 1, 1) := by decide +kernel
theorem dX4_copyFrom_49 : decode cX4_copyFrom 49 = .ok (.getfield 34, 3) := by decide +kernel
theorem dX4_copyFrom_5 : decode cX4_copyFrom 5 = .ok (.putfield 21, 3) := by decide +kernel
theorem dX4_copyFrom_52 : decode cX4_copyFrom 52 = .ok (.putfield 34, 3) := by decide +kernel
theorem dX4_copyFrom_55 : decode cX4_copyFrom 55 = .ok (.aload_n 0, 1) := by decide +kernel
theorem dX4_copyFrom_56 : decode cX4_copyFrom 56 = .ok (.aload_n 1, 1) := by decide +kernel
theorem dX4_copyFrom_57 : decode cX4_copyFrom 57 = .ok (.getfield 37, 3) := by decide +kernel
theorem dX4_copyFrom_60 : decode cX4_copyFrom 60 = .ok (.putfield 37, 3) := by decide +kernel
theorem dX4_copyFrom_63 : decode cX4_copyFrom 63 = .ok (.aload_n 0, 1) := by decide +kernel
theorem dX4_copyFrom_64 : decode cX4_copyFrom 64 = .ok (.aload_n 1, 1) := by decide +kernel
theorem dX4_copyFrom_65 : decode cX4_copyFrom 65 = .ok (.getfield 40, 3) := by decide +kernel
theorem dX4_copyFrom_68 : decode cX4_copyFrom 68 = .ok (.putfield 40, 3) := by decide +kernel
theorem dX4_copyFrom_71 : decode cX4_copyFrom 71 = .ok (.aload_n 0, 1) := by decide +kernel
theorem dX4_copyFrom_72 : decode cX4_copyFrom 72 = .ok (.aload_n 1, 1) := by decide +kernel
theorem dX4_copyFrom_73 : decode cX4_copyFrom 73 = .ok (.getfield 43, 3) := by decide +kernel
theorem dX4_copyFrom_76 : decode cX4_copyFrom 76 = .ok (.putfield 43, 3) := by decide +kernel
theorem dX4_copyFrom_79 : decode cX4_copyFrom 79 = .ok (.aload_n 0, 1) := by decide +kernel
theorem dX4_copyFrom_8 : decode cX4_copyFrom 8 = .ok (.aload_n 0, 1) := by decide +kernel
theorem dX4_copyFrom_80 : decode cX4_copyFrom 80 = .ok (.aload_n 1, 1) := by decide +kernel
theorem dX4_copyFrom_81 : decode cX4_copyFrom 81 = .ok (.getfield 46, 3) := by decide +kernel
theorem dX4_copyFrom_84 : decode cX4_copyFrom 84 = .ok (.putfield 46, 3) := by decide +kernel
theorem dX4_copyFrom_87 : decode cX4_copyFrom 87 = .ok (.aload_n 1, 1) := by decide +kernel
theorem dX4_copyFrom_88 : decode cX4_copyFrom 88 = .ok (.getfield 15, 3) := by decide +kernel
theorem dX4_copyFrom_9 : decode cX4_copyFrom 9 = .ok (.aload_n 1, 1) := by decide +kernel
theorem dX4_copyFrom_91 : decode cX4_copyFrom 91 = .ok (.iconst 0, 1) := by decide +kernel
theorem dX4_copyFrom_92 : decode cX4_copyFrom 92 = .ok (.aload_n 0, 1) := by decide +kernel
theorem dX4_copyFrom_93 : decode cX4_copyFrom 93 = .ok (.getfield 15, 3) := by decide +kernel
theorem dX4_copyFrom_96 : decode cX4_copyFrom 96 = .ok (.iconst 0, 1) := by decide +kernel
theorem dX4_copyFrom_97 : decode cX4_copyFrom 97 = .ok (.bipush 10, 2) := by decide +kernel
theorem dX4_copyFrom_99 : decode cX4_copyFrom 99 = .ok (.invokestatic 49, 3) := by decide +kernel
theorem dX4_endDay_0 : decode cX4_endDay 0 = .ok (.aload_n 0, 1) := by decide +kernel
theorem dX4_endDay_1 : decode cX4_endDay 1 = .ok (.getfield 15, 3) := by decide +kernel
theorem dX4_endDay_10 : decode cX4_endDay 10 = .ok (.aload_n 0, 1) := by decide +kernel
theorem dX4_endDay_11 : decode cX4_endDay 11 = .ok (.getfield 18, 3) := by decide +kernel
theorem dX4_endDay_14 : decode cX4_endDay 14 = .ok (.iload_n 1, 1) := by decide +kernel
theorem dX4_endDay_15 : decode cX4_endDay 15 = .ok (.aload_n 0, 1) := by decide +kernel
theorem dX4_endDay_16 : decode cX4_endDay 16 = .ok (.getfield 46, 3) := by decide +kernel
theorem dX4_endDay_19 : decode cX4_endDay 19 = .ok (.iastore, 1) := by decide +kernel
theorem dX4_endDay_20 : decode cX4_endDay 20 = .ok (.aload_n 0, 1) := by decide +kernel
theorem dX4_endDay_21 : decode cX4_endDay 21 = .ok (.iconst 0, 1) := by decide +kernel
theorem dX4_endDay_22 : decode cX4_endDay 22 = .ok (.putfield 43, 3) := by decide +kernel
theorem dX4_endDay_25 : decode cX4_endDay 25 = .ok (.aload_n 0, 1) := by decide +kernel
theorem dX4_endDay_26 : decode cX4_endDay 26 = .ok (.iconst 0, 1) := by decide +kernel
theorem dX4_endDay_27 : decode cX4_endDay 27 = .ok (.putfield 46, 3) := by decide +kernel
theorem dX4_endDay_30 : decode cX4_endDay 30 = .ok (.return_, 1) := by decide +kernel
theorem dX4_endDay_4 : decode cX4_endDay 4 = .ok (.iload_n 1, 1) := by decide +kernel
theorem dX4_endDay_5 : decode cX4_endDay 5 = .ok (.aload_n 0, 1) := by decide +kernel
theorem dX4_endDay_6 : decode cX4_endDay 6 = .ok (.getfield 43, 3) := by decide +kernel
theorem dX4_endDay_9 : decode cX4_endDay 9 = .ok (.iastore, 1) := by decide +kernel
theorem dX4_init_0 : decode cX4_init 0 = .ok (.aload_n 0, 1) := by decide +kernel
theorem dX4_init_1 : decode cX4_init 1 = .ok (.invokespecial 3, 3) := by decide +kernel
theorem dX4_init_12 : decode cX4_init 12 = .ok (.aload_n 0, 1) := by decide +kernel
theorem dX4_init_13 : decode cX4_init 13 = .ok (.bipush 10, 2) := by decide +kernel
theorem dX4_init_15 : decode cX4_init 15 = .ok (.newarray .int, 2) := by decide +kernel
theorem dX4_init_17 : decode cX4_init 17 = .ok (.putfield 15, 3) := by decide +kernel
theorem dX4_init_20 : decode cX4_init 20 = .ok (.aload_n 0, 1) := by decide +kernel
theorem dX4_init_21 : decode cX4_init 21 = .ok (.bipush 10, 2) := by decide +kernel
theorem dX4_init_23 : decode cX4_init 23 = .ok (.newarray .int, 2) := by decide +kernel
theorem dX4_init_25 : decode cX4_init 25 = .ok (.putfield 18, 3) := by decide +kernel
theorem dX4_init_28 : decode cX4_init 28 = .ok (.return_, 1) := by decide +kernel
theorem dX4_init_4 : decode cX4_init 4 = .ok (.aload_n 0, 1) := by decide +kernel
theorem dX4_init_5 : decode cX4_init 5 = .ok (.bipush 30, 2) := by decide +kernel
theorem dX4_init_7 : decode cX4_init 7 = .ok (.newarray .int, 2) := by decide +kernel
theorem dX4_init_9 : decode cX4_init 9 = .ok (.putfield 9, 3) := by decide +kernel
theorem dX4_isFinished_0 : decode cX4_isFinished 0 = .ok (.aload_n 0, 1) := by decide +kernel
theorem dX4_isFinished_1 : decode cX4_isFinished 1 = .ok (.getfield 31, 3) := by decide +kernel
theorem dX4_isFinished_10 : decode cX4_isFinished 10 = .ok (.getfield 25, 3) := by decide +kernel
theorem dX4_isFinished_13 : decode cX4_isFinished 13 = .ok (.if_icmp .ne 7, 3) := by decide +kernel
theorem dX4_isFinished_16 : decode cX4_isFinished 16 = .ok (.iconst 1, 1) := by decide +kernel
theorem dX4_isFinished_17 : decode cX4_isFinished 17 = .ok (.goto 4, 3) := by decide +kernel
theorem dX4_isFinished_20 : decode cX4_isFinished 20 = .ok (.iconst 0, 1) := by decide +kernel
theorem dX4_isFinished_21 : decode cX4_isFinished 21 = .ok (.ireturn, 1) := by decide +kernel
theorem dX4_isFinished_4 : decode cX4_isFinished 4 = .ok (.aload_n 0, 1) := by decide +kernel
theorem dX4_isFinished_5 : decode cX4_isFinished 5 = .ok (.getfield 34, 3) := by decide +kernel
theorem dX4_isFinished_8 : decode cX4_isFinished 8 = .ok (.iadd, 1) := by decide +kernel
theorem dX4_isFinished_9 : decode cX4_isFinished 9 = .ok (.aload_n 0, 1) := by decide +kernel
theorem dX4_nextCard_0 : decode cX4_nextCard 0 = .ok (.aload_n 0, 1) := by decide +kernel
theorem dX4_nextCard_1 : decode cX4_nextCard 1 = .ok (.aload_n 0, 1) := by decide +kernel
theorem dX4_nextCard_2 : decode cX4_nextCard 2 = .ok (.getfield 28, 3) := by decide +kernel
theorem dX4_nextCard_5 : decode cX4_nextCard 5 = .ok (.invokevirtual 55, 3) := by decide +kernel
theorem dX4_nextCard_8 : decode cX4_nextCard 8 = .ok (.ireturn, 1) := by decide +kernel
theorem dX5_add_0 : decode cX5_add 0 = .ok (.aload_n 0, 1) := by decide +kernel
theorem dX5_add_1 : decode cX5_add 1 = .ok (.getfield 25, 3) := by decide +kernel
theorem dX5_add_100 : decode cX5_add 100 = .ok (.iconst 1, 1) := by decide +kernel
theorem dX5_add_101 : decode cX5_add 101 = .ok (.ireturn, 1) := by decide +kernel
theorem dX5_add_11 : decode cX5_add 11 = .ok (.ifCond .lt 21, 3) := by decide +kernel
theorem dX5_add_14 : decode cX5_add 14 = .ok (.lload_n 1, 1) := by decide +kernel
theorem dX5_add_15 : decode cX5_add 15 = .ok (.iload 4, 2) := by decide +kernel
theorem dX5_add_17 : decode cX5_add 17 = .ok (.lushr, 1) := by decide +kernel
theorem dX5_add_18 : decode cX5_add 18 = .ok (.l2i, 1) := by decide +kernel
theorem dX5_add_19 : decode cX5_add 19 = .ok (.i2b, 1) := by decide +kernel
theorem dX5_add_20 : decode cX5_add 20 = .ok (.ifCond .eq 6, 3) := by decide +kernel
theorem dX5_add_23 : decode cX5_add 23 = .ok (.iinc 3 1, 3) := by decide +kernel
theorem dX5_add_26 : decode cX5_add 26 = .ok (.iinc 4 (-8), 3) := by decide +kernel
theorem dX5_add_29 : decode cX5_add 29 = .ok (.goto (-20), 3) := by decide +kernel
theorem dX5_add_32 : decode cX5_add 32 = .ok (.iload_n 3, 1) := by decide +kernel
theorem dX5_add_33 : decode cX5_add 33 = .ok (.sipush 600, 3) := by decide +kernel
theorem dX5_add_36 : decode cX5_add 36 = .ok (.if_icmp .le 5, 3) := by decide +kernel
theorem dX5_add_39 : decode cX5_add 39 = .ok (.iconst 0, 1) := by decide +kernel
theorem dX5_add_4 : decode cX5_add 4 = .ok (.istore_n 3, 1) := by decide +kernel
theorem dX5_add_40 : decode cX5_add 40 = .ok (.ireturn, 1) := by decide +kernel
theorem dX5_add_41 : decode cX5_add 41 = .ok (.bipush 56, 2) := by decide +kernel
theorem dX5_add_43 : decode cX5_add 43 = .ok (.istore 4, 2) := by decide +kernel
theorem dX5_add_45 : decode cX5_add 45 = .ok (.iload 4, 2) := by decide +kernel
theorem dX5_add_47 : decode cX5_add 47 = .ok (.ifCond .lt 53, 3) := by decide +kernel
theorem dX5_add_5 : decode cX5_add 5 = .ok (.bipush 56, 2) := by decide +kernel
theorem dX5_add_50 : decode cX5_add 50 = .ok (.lload_n 1, 1) := by decide +kernel
theorem dX5_add_51 : decode cX5_add 51 = .ok (.iload 4, 2) := by decide +kernel
theorem dX5_add_53 : decode cX5_add 53 = .ok (.lushr, 1) := by decide +kernel
theorem dX5_add_54 : decode cX5_add 54 = .ok (.l2i, 1) := by decide +kernel
theorem dX5_add_55 : decode cX5_add 55 = .ok (.i2b, 1) := by decide +kernel
theorem dX5_add_56 : decode cX5_add 56 = .ok (.istore 5, 2) := by decide +kernel
theorem dX5_add_58 : decode cX5_add 58 = .ok (.iload 5, 2) := by decide +kernel
theorem dX5_add_60 : decode cX5_add 60 = .ok (.ifCond .eq 34, 3) := by decide +kernel
theorem dX5_add_63 : decode cX5_add 63 = .ok (.aload_n 0, 1) := by decide +kernel
theorem dX5_add_64 : decode cX5_add 64 = .ok (.getfield 25, 3) := by decide +kernel
theorem dX5_add_67 : decode cX5_add 67 = .ok (.sipush 600, 3) := by decide +kernel
theorem dX5_add_7 : decode cX5_add 7 = .ok (.istore 4, 2) := by decide +kernel
theorem dX5_add_70 : decode cX5_add 70 = .ok (.if_icmp .ge 24, 3) := by decide +kernel
theorem dX5_add_73 : decode cX5_add 73 = .ok (.aload_n 0, 1) := by decide +kernel
theorem dX5_add_74 : decode cX5_add 74 = .ok (.getfield 9, 3) := by decide +kernel
theorem dX5_add_77 : decode cX5_add 77 = .ok (.aload_n 0, 1) := by decide +kernel
theorem dX5_add_78 : decode cX5_add 78 = .ok (.getfield 25, 3) := by decide +kernel
theorem dX5_add_81 : decode cX5_add 81 = .ok (.iload 5, 2) := by decide +kernel
theorem dX5_add_83 : decode cX5_add 83 = .ok (.bastore, 1) := by decide +kernel
theorem dX5_add_84 : decode cX5_add 84 = .ok (.aload_n 0, 1) := by decide +kernel
theorem dX5_add_85 : decode cX5_add 85 = .ok (.dup, 1) := by decide +kernel
theorem dX5_add_86 : decode cX5_add 86 = .ok (.getfield 25, 3) := by decide +kernel
theorem dX5_add_89 : decode cX5_add 89 = .ok (.iconst 1, 1) := by decide +kernel
theorem dX5_add_9 : decode cX5_add 9 = .ok (.iload 4, 2) := by decide +kernel
theorem dX5_add_90 : decode cX5_add 90 = .ok (.iadd, 1) := by decide +kernel
theorem dX5_add_91 : decode cX5_add 91 = .ok (.putfield 25, 3) := by decide +kernel
theorem dX5_add_94 : decode cX5_add 94 = .ok (.iinc 4 (-8), 3) := by decide +kernel
theorem dX5_add_97 : decode cX5_add 97 = .ok (.goto (-52), 3) := by decide +kernel
theorem dX5_closeGroup_0 : decode cX5_closeGroup 0 = .ok (.aload_n 0, 1) := by decide +kernel
theorem dX5_closeGroup_1 : decode cX5_closeGroup 1 = .ok (.getfield 197, 3) := by decide +kernel
theorem dX5_closeGroup_100 : decode cX5_closeGroup 100 = .ok (.aload_n 0, 1) := by decide +kernel
theorem dX5_closeGroup_101 : decode cX5_closeGroup 101 = .ok (.getfield 190, 3) := by decide +kernel
theorem dX5_closeGroup_104 : decode cX5_closeGroup 104 = .ok (.iload_n 1, 1) := by decide +kernel
theorem dX5_closeGroup_105 : decode cX5_closeGroup 105 = .ok (.invokestatic 213, 3) := by decide +kernel
theorem dX5_closeGroup_108 : decode cX5_closeGroup 108 = .ok (.aload_n 0, 1) := by decide +kernel
theorem dX5_closeGroup_109 : decode cX5_closeGroup 109 = .ok (.dup, 1) := by decide +kernel
theorem dX5_closeGroup_110 : decode cX5_closeGroup 110 = .ok (.getfield 190, 3) := by decide +kernel
theorem dX5_closeGroup_113 : decode cX5_closeGroup 113 = .ok (.iload_n 1, 1) := by decide +kernel
theorem dX5_closeGroup_114 : decode cX5_closeGroup 114 = .ok (.iadd, 1) := by decide +kernel
theorem dX5_closeGroup_115 : decode cX5_closeGroup 115 = .ok (.putfield 190, 3) := by decide +kernel
theorem dX5_closeGroup_118 : decode cX5_closeGroup 118 = .ok (.iinc 3 1, 3) := by decide +kernel
theorem dX5_closeGroup_12 : decode cX5_closeGroup 12 = .ok (.invokevirtual 210, 3) := by decide +kernel
theorem dX5_closeGroup_121 : decode cX5_closeGroup 121 = .ok (.goto (-43), 3) := by decide +kernel
theorem dX5_closeGroup_124 : decode cX5_closeGroup 124 = .ok (.aload_n 0, 1) := by decide +kernel
theorem dX5_closeGroup_125 : decode cX5_closeGroup 125 = .ok (.dup, 1) := by decide +kernel
theorem dX5_closeGroup_126 : decode cX5_closeGroup 126 = .ok (.getfield 197, 3) := by decide +kernel
theorem dX5_closeGroup_129 : decode cX5_closeGroup 129 = .ok (.iconst 1, 1) := by decide +kernel
theorem dX5_closeGroup_130 : decode cX5_closeGroup 130 = .ok (.isub, 1) := by decide +kernel
theorem dX5_closeGroup_131 : decode cX5_closeGroup 131 = .ok (.putfield 197, 3) := by decide +kernel
theorem dX5_closeGroup_134 : decode cX5_closeGroup 134 = .ok (.aload_n 0, 1) := by decide +kernel
theorem dX5_closeGroup_135 : decode cX5_closeGroup 135 = .ok (.dup, 1) := by decide +kernel
theorem dX5_closeGroup_136 : decode cX5_closeGroup 136 = .ok (.getfield 29, 3) := by decide +kernel
theorem dX5_closeGroup_139 : decode cX5_closeGroup 139 = .ok (.iconst 1, 1) := by decide +kernel
theorem dX5_closeGroup_140 : decode cX5_closeGroup 140 = .ok (.iadd, 1) := by decide +kernel
theorem dX5_closeGroup_141 : decode cX5_closeGroup 141 = .ok (.putfield 29, 3) := by decide +kernel
theorem dX5_closeGroup_144 : decode cX5_closeGroup 144 = .ok (.return_, 1) := by decide +kernel
theorem dX5_closeGroup_15 : decode cX5_closeGroup 15 = .ok (.ifCond .ne 13, 3) := by decide +kernel
theorem dX5_closeGroup_18 : decode cX5_closeGroup 18 = .ok (.aload_n 0, 1) := by decide +kernel
theorem dX5_closeGroup_19 : decode cX5_closeGroup 19 = .ok (.iconst 1, 1) := by decide +kernel
theorem dX5_closeGroup_20 : decode cX5_closeGroup 20 = .ok (.aload_n 0, 1) := by decide +kernel
theorem dX5_closeGroup_21 : decode cX5_closeGroup 21 = .ok (.getfield 29, 3) := by decide +kernel
theorem dX5_closeGroup_24 : decode cX5_closeGroup 24 = .ok (.invokevirtual 59, 3) := by decide +kernel
theorem dX5_closeGroup_27 : decode cX5_closeGroup 27 = .ok (.return_, 1) := by decide +kernel
theorem dX5_closeGroup_28 : decode cX5_closeGroup 28 = .ok (.aload_n 0, 1) := by decide +kernel
theorem dX5_closeGroup_29 : decode cX5_closeGroup 29 = .ok (.aload_n 0, 1) := by decide +kernel
theorem dX5_closeGroup_30 : decode cX5_closeGroup 30 = .ok (.getfield 197, 3) := by decide +kernel
theorem dX5_closeGroup_33 : decode cX5_closeGroup 33 = .ok (.invokevirtual 210, 3) := by decide +kernel
theorem dX5_closeGroup_36 : decode cX5_closeGroup 36 = .ok (.istore_n 1, 1) := by decide +kernel
theorem dX5_closeGroup_37 : decode cX5_closeGroup 37 = .ok (.aload_n 0, 1) := by decide +kernel
theorem dX5_closeGroup_38 : decode cX5_closeGroup 38 = .ok (.getfield 22, 3) := by decide +kernel
theorem dX5_closeGroup_4 : decode cX5_closeGroup 4 = .ok (.ifCond .eq 14, 3) := by decide +kernel
theorem dX5_closeGroup_41 : decode cX5_closeGroup 41 = .ok (.aload_n 0, 1) := by decide +kernel
theorem dX5_closeGroup_42 : decode cX5_closeGroup 42 = .ok (.getfield 197, 3) := by decide +kernel
theorem dX5_closeGroup_45 : decode cX5_closeGroup 45 = .ok (.iaload, 1) := by decide +kernel
theorem dX5_closeGroup_46 : decode cX5_closeGroup 46 = .ok (.istore_n 2, 1) := by decide +kernel
theorem dX5_closeGroup_47 : decode cX5_closeGroup 47 = .ok (.aload_n 0, 1) := by decide +kernel
theorem dX5_closeGroup_48 : decode cX5_closeGroup 48 = .ok (.aload_n 0, 1) := by decide +kernel
theorem dX5_closeGroup_49 : decode cX5_closeGroup 49 = .ok (.getfield 197, 3) := by decide +kernel
theorem dX5_closeGroup_52 : decode cX5_closeGroup 52 = .ok (.iconst 1, 1) := by decide +kernel
theorem dX5_closeGroup_53 : decode cX5_closeGroup 53 = .ok (.isub, 1) := by decide +kernel
theorem dX5_closeGroup_54 : decode cX5_closeGroup 54 = .ok (.invokevirtual 210, 3) := by decide +kernel
theorem dX5_closeGroup_57 : decode cX5_closeGroup 57 = .ok (.iload_n 2, 1) := by decide +kernel
theorem dX5_closeGroup_58 : decode cX5_closeGroup 58 = .ok (.iload_n 1, 1) := by decide +kernel
theorem dX5_closeGroup_59 : decode cX5_closeGroup 59 = .ok (.imul, 1) := by decide +kernel
theorem dX5_closeGroup_60 : decode cX5_closeGroup 60 = .ok (.iadd, 1) := by decide +kernel
theorem dX5_closeGroup_61 : decode cX5_closeGroup 61 = .ok (.bipush 16, 2) := by decide +kernel
theorem dX5_closeGroup_63 : decode cX5_closeGroup 63 = .ok (.if_icmp .le 13, 3) := by decide +kernel
theorem dX5_closeGroup_66 : decode cX5_closeGroup 66 = .ok (.aload_n 0, 1) := by decide +kernel
theorem dX5_closeGroup_67 : decode cX5_closeGroup 67 = .ok (.iconst 3, 1) := by decide +kernel
theorem dX5_closeGroup_68 : decode cX5_closeGroup 68 = .ok (.aload_n 0, 1) := by decide +kernel
theorem dX5_closeGroup_69 : decode cX5_closeGroup 69 = .ok (.getfield 29, 3) := by decide +kernel
theorem dX5_closeGroup_7 : decode cX5_closeGroup 7 = .ok (.aload_n 0, 1) := by decide +kernel
theorem dX5_closeGroup_72 : decode cX5_closeGroup 72 = .ok (.invokevirtual 59, 3) := by decide +kernel
theorem dX5_closeGroup_75 : decode cX5_closeGroup 75 = .ok (.return_, 1) := by decide +kernel
theorem dX5_closeGroup_76 : decode cX5_closeGroup 76 = .ok (.iconst 1, 1) := by decide +kernel
theorem dX5_closeGroup_77 : decode cX5_closeGroup 77 = .ok (.istore_n 3, 1) := by decide +kernel
theorem dX5_closeGroup_78 : decode cX5_closeGroup 78 = .ok (.iload_n 3, 1) := by decide +kernel
theorem dX5_closeGroup_79 : decode cX5_closeGroup 79 = .ok (.iload_n 2, 1) := by decide +kernel
theorem dX5_closeGroup_8 : decode cX5_closeGroup 8 = .ok (.aload_n 0, 1) := by decide +kernel
theorem dX5_closeGroup_80 : decode cX5_closeGroup 80 = .ok (.if_icmp .ge 44, 3) := by decide +kernel
theorem dX5_closeGroup_83 : decode cX5_closeGroup 83 = .ok (.aload_n 0, 1) := by decide +kernel
theorem dX5_closeGroup_84 : decode cX5_closeGroup 84 = .ok (.getfield 15, 3) := by decide +kernel
theorem dX5_closeGroup_87 : decode cX5_closeGroup 87 = .ok (.aload_n 0, 1) := by decide +kernel
theorem dX5_closeGroup_88 : decode cX5_closeGroup 88 = .ok (.getfield 18, 3) := by decide +kernel
theorem dX5_closeGroup_9 : decode cX5_closeGroup 9 = .ok (.getfield 197, 3) := by decide +kernel
theorem dX5_closeGroup_91 : decode cX5_closeGroup 91 = .ok (.aload_n 0, 1) := by decide +kernel
theorem dX5_closeGroup_92 : decode cX5_closeGroup 92 = .ok (.getfield 197, 3) := by decide +kernel
theorem dX5_closeGroup_95 : decode cX5_closeGroup 95 = .ok (.iaload, 1) := by decide +kernel
theorem dX5_closeGroup_96 : decode cX5_closeGroup 96 = .ok (.aload_n 0, 1) := by decide +kernel
theorem dX5_closeGroup_97 : decode cX5_closeGroup 97 = .ok (.getfield 15, 3) := by decide +kernel
theorem dX5_error_0 : decode cX5_error 0 = .ok (.aload_n 0, 1) := by decide +kernel
theorem dX5_error_1 : decode cX5_error 1 = .ok (.getfield 32, 3) := by decide +kernel
theorem dX5_error_12 : decode cX5_error 12 = .ok (.aload_n 0, 1) := by decide +kernel
theorem dX5_error_13 : decode cX5_error 13 = .ok (.iload_n 2, 1) := by decide +kernel
theorem dX5_error_14 : decode cX5_error 14 = .ok (.putfield 35, 3) := by decide +kernel
theorem dX5_error_17 : decode cX5_error 17 = .ok (.return_, 1) := by decide +kernel
theorem dX5_error_4 : decode cX5_error 4 = .ok (.ifCond .ne 13, 3) := by decide +kernel
theorem dX5_error_7 : decode cX5_error 7 = .ok (.aload_n 0, 1) := by decide +kernel
theorem dX5_error_8 : decode cX5_error 8 = .ok (.iload_n 1, 1) := by decide +kernel
theorem dX5_error_9 : decode cX5_error 9 = .ok (.putfield 32, 3) := by decide +kernel
theorem dX5_isDigit_0 : decode cX5_isDigit 0 = .ok (.iload_n 0, 1) := by decide +kernel
theorem dX5_isDigit_1 : decode cX5_isDigit 1 = .ok (.bipush 48, 2) := by decide +kernel
theorem dX5_isDigit_12 : decode cX5_isDigit 12 = .ok (.iconst 1, 1) := by decide +kernel
theorem dX5_isDigit_13 : decode cX5_isDigit 13 = .ok (.goto 4, 3) := by decide +kernel
theorem dX5_isDigit_16 : decode cX5_isDigit 16 = .ok (.iconst 0, 1) := by decide +kernel
theorem dX5_isDigit_17 : decode cX5_isDigit 17 = .ok (.ireturn, 1) := by decide +kernel
theorem dX5_isDigit_3 : decode cX5_isDigit 3 = .ok (.if_icmp .lt 13, 3) := by decide +kernel
theorem dX5_isDigit_6 : decode cX5_isDigit 6 = .ok (.iload_n 0, 1) := by decide +kernel
theorem dX5_isDigit_7 : decode cX5_isDigit 7 = .ok (.bipush 57, 2) := by decide +kernel
theorem dX5_isDigit_9 : decode cX5_isDigit 9 = .ok (.if_icmp .gt 7, 3) := by decide +kernel
theorem dX5_isFine_0 : decode cX5_isFine 0 = .ok (.aload_n 0, 1) := by decide +kernel
theorem dX5_isFine_1 : decode cX5_isFine 1 = .ok (.getfield 32, 3) := by decide +kernel
theorem dX5_isFine_11 : decode cX5_isFine 11 = .ok (.iconst 0, 1) := by decide +kernel
theorem dX5_isFine_12 : decode cX5_isFine 12 = .ok (.ireturn, 1) := by decide +kernel
theorem dX5_isFine_4 : decode cX5_isFine 4 = .ok (.ifCond .ne 7, 3) := by decide +kernel
theorem dX5_isFine_7 : decode cX5_isFine 7 = .ok (.iconst 1, 1) := by decide +kernel
theorem dX5_isFine_8 : decode cX5_isFine 8 = .ok (.goto 4, 3) := by decide +kernel
theorem dX5_isLetter_0 : decode cX5_isLetter 0 = .ok (.iload_n 0, 1) := by decide +kernel
theorem dX5_isLetter_1 : decode cX5_isLetter 1 = .ok (.bipush 97, 2) := by decide +kernel
theorem dX5_isLetter_12 : decode cX5_isLetter 12 = .ok (.iconst 1, 1) := by decide +kernel
theorem dX5_isLetter_13 : decode cX5_isLetter 13 = .ok (.goto 4, 3) := by decide +kernel
theorem dX5_isLetter_16 : decode cX5_isLetter 16 = .ok (.iconst 0, 1) := by decide +kernel
theorem dX5_isLetter_17 : decode cX5_isLetter 17 = .ok (.ireturn, 1) := by decide +kernel
theorem dX5_isLetter_3 : decode cX5_isLetter 3 = .ok (.if_icmp .lt 13, 3) := by decide +kernel
theorem dX5_isLetter_6 : decode cX5_isLetter 6 = .ok (.iload_n 0, 1) := by decide +kernel
theorem dX5_isLetter_7 : decode cX5_isLetter 7 = .ok (.bipush 122, 2) := by decide +kernel
theorem dX5_isLetter_9 : decode cX5_isLetter 9 = .ok (.if_icmp .gt 7, 3) := by decide +kernel
theorem dX5_openGroup_0 : decode cX5_openGroup 0 = .ok (.aload_n 0, 1) := by decide +kernel
theorem dX5_openGroup_1 : decode cX5_openGroup 1 = .ok (.getfield 197, 3) := by decide +kernel
theorem dX5_openGroup_10 : decode cX5_openGroup 10 = .ok (.iload_n 2, 1) := by decide +kernel
theorem dX5_openGroup_101 : decode cX5_openGroup 101 = .ok (.iload_n 1, 1) := by decide +kernel
theorem dX5_openGroup_102 : decode cX5_openGroup 102 = .ok (.iastore, 1) := by decide +kernel
theorem dX5_openGroup_103 : decode cX5_openGroup 103 = .ok (.return_, 1) := by decide +kernel
theorem dX5_openGroup_11 : decode cX5_openGroup 11 = .ok (.invokevirtual 59, 3) := by decide +kernel
theorem dX5_openGroup_14 : decode cX5_openGroup 14 = .ok (.aload_n 0, 1) := by decide +kernel
theorem dX5_openGroup_15 : decode cX5_openGroup 15 = .ok (.invokevirtual 52, 3) := by decide +kernel
theorem dX5_openGroup_18 : decode cX5_openGroup 18 = .ok (.pop, 1) := by decide +kernel
theorem dX5_openGroup_19 : decode cX5_openGroup 19 = .ok (.aload_n 0, 1) := by decide +kernel
theorem dX5_openGroup_20 : decode cX5_openGroup 20 = .ok (.getfield 29, 3) := by decide +kernel
theorem dX5_openGroup_23 : decode cX5_openGroup 23 = .ok (.aload_n 0, 1) := by decide +kernel
theorem dX5_openGroup_24 : decode cX5_openGroup 24 = .ok (.getfield 25, 3) := by decide +kernel
theorem dX5_openGroup_27 : decode cX5_openGroup 27 = .ok (.if_icmp .ge 17, 3) := by decide +kernel
theorem dX5_openGroup_30 : decode cX5_openGroup 30 = .ok (.aload_n 0, 1) := by decide +kernel
theorem dX5_openGroup_31 : decode cX5_openGroup 31 = .ok (.getfield 9, 3) := by decide +kernel
theorem dX5_openGroup_34 : decode cX5_openGroup 34 = .ok (.aload_n 0, 1) := by decide +kernel
theorem dX5_openGroup_35 : decode cX5_openGroup 35 = .ok (.getfield 29, 3) := by decide +kernel
theorem dX5_openGroup_38 : decode cX5_openGroup 38 = .ok (.baload, 1) := by decide +kernel
theorem dX5_openGroup_39 : decode cX5_openGroup 39 = .ok (.bipush 40, 2) := by decide +kernel
theorem dX5_openGroup_4 : decode cX5_openGroup 4 = .ok (.iconst 3, 1) := by decide +kernel
theorem dX5_openGroup_41 : decode cX5_openGroup 41 = .ok (.if_icmp .eq 12, 3) := by decide +kernel
theorem dX5_openGroup_44 : decode cX5_openGroup 44 = .ok (.aload_n 0, 1) := by decide +kernel
theorem dX5_openGroup_45 : decode cX5_openGroup 45 = .ok (.iconst 1, 1) := by decide +kernel
theorem dX5_openGroup_46 : decode cX5_openGroup 46 = .ok (.aload_n 0, 1) := by decide +kernel
theorem dX5_openGroup_47 : decode cX5_openGroup 47 = .ok (.getfield 29, 3) := by decide +kernel
theorem dX5_openGroup_5 : decode cX5_openGroup 5 = .ok (.if_icmp .lt 9, 3) := by decide +kernel
theorem dX5_openGroup_50 : decode cX5_openGroup 50 = .ok (.invokevirtual 59, 3) := by decide +kernel
theorem dX5_openGroup_53 : decode cX5_openGroup 53 = .ok (.aload_n 0, 1) := by decide +kernel
theorem dX5_openGroup_54 : decode cX5_openGroup 54 = .ok (.invokevirtual 56, 3) := by decide +kernel
theorem dX5_openGroup_57 : decode cX5_openGroup 57 = .ok (.ifCond .eq 46, 3) := by decide +kernel
theorem dX5_openGroup_60 : decode cX5_openGroup 60 = .ok (.aload_n 0, 1) := by decide +kernel
theorem dX5_openGroup_61 : decode cX5_openGroup 61 = .ok (.dup, 1) := by decide +kernel
theorem dX5_openGroup_62 : decode cX5_openGroup 62 = .ok (.getfield 29, 3) := by decide +kernel
theorem dX5_openGroup_65 : decode cX5_openGroup 65 = .ok (.iconst 1, 1) := by decide +kernel
theorem dX5_openGroup_66 : decode cX5_openGroup 66 = .ok (.iadd, 1) := by decide +kernel
theorem dX5_openGroup_67 : decode cX5_openGroup 67 = .ok (.putfield 29, 3) := by decide +kernel
theorem dX5_openGroup_70 : decode cX5_openGroup 70 = .ok (.aload_n 0, 1) := by decide +kernel
theorem dX5_openGroup_71 : decode cX5_openGroup 71 = .ok (.dup, 1) := by decide +kernel
theorem dX5_openGroup_72 : decode cX5_openGroup 72 = .ok (.getfield 197, 3) := by decide +kernel
theorem dX5_openGroup_75 : decode cX5_openGroup 75 = .ok (.iconst 1, 1) := by decide +kernel
theorem dX5_openGroup_76 : decode cX5_openGroup 76 = .ok (.iadd, 1) := by decide +kernel
theorem dX5_openGroup_77 : decode cX5_openGroup 77 = .ok (.putfield 197, 3) := by decide +kernel
theorem dX5_openGroup_8 : decode cX5_openGroup 8 = .ok (.aload_n 0, 1) := by decide +kernel
theorem dX5_openGroup_80 : decode cX5_openGroup 80 = .ok (.aload_n 0, 1) := by decide +kernel
theorem dX5_openGroup_81 : decode cX5_openGroup 81 = .ok (.getfield 18, 3) := by decide +kernel
theorem dX5_openGroup_84 : decode cX5_openGroup 84 = .ok (.aload_n 0, 1) := by decide +kernel
theorem dX5_openGroup_85 : decode cX5_openGroup 85 = .ok (.getfield 197, 3) := by decide +kernel
theorem dX5_openGroup_88 : decode cX5_openGroup 88 = .ok (.aload_n 0, 1) := by decide +kernel
theorem dX5_openGroup_89 : decode cX5_openGroup 89 = .ok (.getfield 190, 3) := by decide +kernel
theorem dX5_openGroup_9 : decode cX5_openGroup 9 = .ok (.iconst 3, 1) := by decide +kernel
theorem dX5_openGroup_92 : decode cX5_openGroup 92 = .ok (.iastore, 1) := by decide +kernel
theorem dX5_openGroup_93 : decode cX5_openGroup 93 = .ok (.aload_n 0, 1) := by decide +kernel
theorem dX5_openGroup_94 : decode cX5_openGroup 94 = .ok (.getfield 22, 3) := by decide +kernel
theorem dX5_openGroup_97 : decode cX5_openGroup 97 = .ok (.aload_n 0, 1) := by decide +kernel
theorem dX5_openGroup_98 : decode cX5_openGroup 98 = .ok (.getfield 197, 3) := by decide +kernel
theorem dX5_readCard_0 : decode cX5_readCard 0 = .ok (.aload_n 1, 1) := by decide +kernel
theorem dX5_readCard_1 : decode cX5_readCard 1 = .ok (.getfield 127, 3) := by decide +kernel
theorem dX5_readCard_10 : decode cX5_readCard 10 = .ok (.iconst 4, 1) := by decide +kernel
theorem dX5_readCard_11 : decode cX5_readCard 11 = .ok (.iload_n 2, 1) := by decide +kernel
theorem dX5_readCard_12 : decode cX5_readCard 12 = .ok (.invokevirtual 59, 3) := by decide +kernel
theorem dX5_readCard_15 : decode cX5_readCard 15 = .ok (.return_, 1) := by decide +kernel
theorem dX5_readCard_16 : decode cX5_readCard 16 = .ok (.aload_n 0, 1) := by decide +kernel
theorem dX5_readCard_17 : decode cX5_readCard 17 = .ok (.iconst 0, 1) := by decide +kernel
theorem dX5_readCard_18 : decode cX5_readCard 18 = .ok (.aload_n 1, 1) := by decide +kernel
theorem dX5_readCard_19 : decode cX5_readCard 19 = .ok (.getfield 120, 3) := by decide +kernel
theorem dX5_readCard_22 : decode cX5_readCard 22 = .ok (.iconst 1, 1) := by decide +kernel
theorem dX5_readCard_23 : decode cX5_readCard 23 = .ok (.isub, 1) := by decide +kernel
theorem dX5_readCard_24 : decode cX5_readCard 24 = .ok (.invokevirtual 83, 3) := by decide +kernel
theorem dX5_readCard_27 : decode cX5_readCard 27 = .ok (.istore_n 3, 1) := by decide +kernel
theorem dX5_readCard_28 : decode cX5_readCard 28 = .ok (.aload_n 0, 1) := by decide +kernel
theorem dX5_readCard_29 : decode cX5_readCard 29 = .ok (.invokevirtual 56, 3) := by decide +kernel
theorem dX5_readCard_32 : decode cX5_readCard 32 = .ok (.ifCond .eq 7, 3) := by decide +kernel
theorem dX5_readCard_35 : decode cX5_readCard 35 = .ok (.aload_n 0, 1) := by decide +kernel
theorem dX5_readCard_36 : decode cX5_readCard 36 = .ok (.invokevirtual 130, 3) := by decide +kernel
theorem dX5_readCard_39 : decode cX5_readCard 39 = .ok (.aload_n 0, 1) := by decide +kernel
theorem dX5_readCard_4 : decode cX5_readCard 4 = .ok (.bipush 30, 2) := by decide +kernel
theorem dX5_readCard_40 : decode cX5_readCard 40 = .ok (.invokevirtual 56, 3) := by decide +kernel
theorem dX5_readCard_43 : decode cX5_readCard 43 = .ok (.ifCond .eq 12, 3) := by decide +kernel
theorem dX5_readCard_46 : decode cX5_readCard 46 = .ok (.aload_n 1, 1) := by decide +kernel
theorem dX5_readCard_47 : decode cX5_readCard 47 = .ok (.iload_n 3, 1) := by decide +kernel
theorem dX5_readCard_48 : decode cX5_readCard 48 = .ok (.aload_n 0, 1) := by decide +kernel
theorem dX5_readCard_49 : decode cX5_readCard 49 = .ok (.invokevirtual 133, 3) := by decide +kernel
theorem dX5_readCard_52 : decode cX5_readCard 52 = .ok (.invokevirtual 136, 3) := by decide +kernel
theorem dX5_readCard_55 : decode cX5_readCard 55 = .ok (.return_, 1) := by decide +kernel
theorem dX5_readCard_6 : decode cX5_readCard 6 = .ok (.if_icmp .lt 10, 3) := by decide +kernel
theorem dX5_readCard_9 : decode cX5_readCard 9 = .ok (.aload_n 0, 1) := by decide +kernel
theorem dX5_readDescription_0 : decode cX5_readDescription 0 = .ok (.aload_n 0, 1) := by decide +kernel
theorem dX5_readDescription_1 : decode cX5_readDescription 1 = .ok (.invokevirtual 41, 3) := by decide +kernel
theorem dX5_readDescription_10 : decode cX5_readDescription 10 = .ok (.aload_n 0, 1) := by decide +kernel
theorem dX5_readDescription_11 : decode cX5_readDescription 11 = .ok (.getfield 38, 3) := by decide +kernel
theorem dX5_readDescription_14 : decode cX5_readDescription 14 = .ok (.sipush 600, 3) := by decide +kernel
theorem dX5_readDescription_17 : decode cX5_readDescription 17 = .ok (.if_icmp .gt 30, 3) := by decide +kernel
theorem dX5_readDescription_20 : decode cX5_readDescription 20 = .ok (.aload_n 0, 1) := by decide +kernel
theorem dX5_readDescription_21 : decode cX5_readDescription 21 = .ok (.aload_n 1, 1) := by decide +kernel
theorem dX5_readDescription_22 : decode cX5_readDescription 22 = .ok (.invokevirtual 44, 3) := by decide +kernel
theorem dX5_readDescription_25 : decode cX5_readDescription 25 = .ok (.aload_n 0, 1) := by decide +kernel
theorem dX5_readDescription_26 : decode cX5_readDescription 26 = .ok (.invokevirtual 48, 3) := by decide +kernel
theorem dX5_readDescription_29 : decode cX5_readDescription 29 = .ok (.istore_n 2, 1) := by decide +kernel
theorem dX5_readDescription_30 : decode cX5_readDescription 30 = .ok (.iload_n 2, 1) := by decide +kernel
theorem dX5_readDescription_31 : decode cX5_readDescription 31 = .ok (.ifCond .eq (-25), 3) := by decide +kernel
theorem dX5_readDescription_34 : decode cX5_readDescription 34 = .ok (.aload_n 0, 1) := by decide +kernel
theorem dX5_readDescription_35 : decode cX5_readDescription 35 = .ok (.dup, 1) := by decide +kernel
theorem dX5_readDescription_36 : decode cX5_readDescription 36 = .ok (.getfield 38, 3) := by decide +kernel
theorem dX5_readDescription_39 : decode cX5_readDescription 39 = .ok (.iconst 1, 1) := by decide +kernel
theorem dX5_readDescription_4 : decode cX5_readDescription 4 = .ok (.iconst 1, 1) := by decide +kernel
theorem dX5_readDescription_40 : decode cX5_readDescription 40 = .ok (.iadd, 1) := by decide +kernel
theorem dX5_readDescription_41 : decode cX5_readDescription 41 = .ok (.putfield 38, 3) := by decide +kernel
theorem dX5_readDescription_44 : decode cX5_readDescription 44 = .ok (.goto (-38), 3) := by decide +kernel
theorem dX5_readDescription_47 : decode cX5_readDescription 47 = .ok (.aload_n 0, 1) := by decide +kernel
theorem dX5_readDescription_48 : decode cX5_readDescription 48 = .ok (.iconst 0, 1) := by decide +kernel
theorem dX5_readDescription_49 : decode cX5_readDescription 49 = .ok (.putfield 25, 3) := by decide +kernel
theorem dX5_readDescription_5 : decode cX5_readDescription 5 = .ok (.istore_n 2, 1) := by decide +kernel
theorem dX5_readDescription_52 : decode cX5_readDescription 52 = .ok (.return_, 1) := by decide +kernel
theorem dX5_readDescription_6 : decode cX5_readDescription 6 = .ok (.iload_n 2, 1) := by decide +kernel
theorem dX5_readDescription_7 : decode cX5_readDescription 7 = .ok (.ifCond .eq 40, 3) := by decide +kernel
theorem dX5_readLetter_0 : decode cX5_readLetter 0 = .ok (.aload_n 0, 1) := by decide +kernel
theorem dX5_readLetter_1 : decode cX5_readLetter 1 = .ok (.aload_n 0, 1) := by decide +kernel
theorem dX5_readLetter_10 : decode cX5_readLetter 10 = .ok (.if_icmp .lt 13, 3) := by decide +kernel
theorem dX5_readLetter_13 : decode cX5_readLetter 13 = .ok (.aload_n 0, 1) := by decide +kernel
theorem dX5_readLetter_14 : decode cX5_readLetter 14 = .ok (.iconst 3, 1) := by decide +kernel
theorem dX5_readLetter_15 : decode cX5_readLetter 15 = .ok (.aload_n 0, 1) := by decide +kernel
theorem dX5_readLetter_16 : decode cX5_readLetter 16 = .ok (.getfield 29, 3) := by decide +kernel
theorem dX5_readLetter_19 : decode cX5_readLetter 19 = .ok (.invokevirtual 59, 3) := by decide +kernel
theorem dX5_readLetter_2 : decode cX5_readLetter 2 = .ok (.getfield 197, 3) := by decide +kernel
theorem dX5_readLetter_22 : decode cX5_readLetter 22 = .ok (.return_, 1) := by decide +kernel
theorem dX5_readLetter_23 : decode cX5_readLetter 23 = .ok (.aload_n 0, 1) := by decide +kernel
theorem dX5_readLetter_24 : decode cX5_readLetter 24 = .ok (.getfield 15, 3) := by decide +kernel
theorem dX5_readLetter_27 : decode cX5_readLetter 27 = .ok (.aload_n 0, 1) := by decide +kernel
theorem dX5_readLetter_28 : decode cX5_readLetter 28 = .ok (.getfield 190, 3) := by decide +kernel
theorem dX5_readLetter_31 : decode cX5_readLetter 31 = .ok (.iload_n 1, 1) := by decide +kernel
theorem dX5_readLetter_32 : decode cX5_readLetter 32 = .ok (.bipush 97, 2) := by decide +kernel
theorem dX5_readLetter_34 : decode cX5_readLetter 34 = .ok (.isub, 1) := by decide +kernel
theorem dX5_readLetter_35 : decode cX5_readLetter 35 = .ok (.i2b, 1) := by decide +kernel
theorem dX5_readLetter_36 : decode cX5_readLetter 36 = .ok (.bastore, 1) := by decide +kernel
theorem dX5_readLetter_37 : decode cX5_readLetter 37 = .ok (.aload_n 0, 1) := by decide +kernel
theorem dX5_readLetter_38 : decode cX5_readLetter 38 = .ok (.dup, 1) := by decide +kernel
theorem dX5_readLetter_39 : decode cX5_readLetter 39 = .ok (.getfield 190, 3) := by decide +kernel
theorem dX5_readLetter_42 : decode cX5_readLetter 42 = .ok (.iconst 1, 1) := by decide +kernel
theorem dX5_readLetter_43 : decode cX5_readLetter 43 = .ok (.iadd, 1) := by decide +kernel
theorem dX5_readLetter_44 : decode cX5_readLetter 44 = .ok (.putfield 190, 3) := by decide +kernel
theorem dX5_readLetter_47 : decode cX5_readLetter 47 = .ok (.aload_n 0, 1) := by decide +kernel
theorem dX5_readLetter_48 : decode cX5_readLetter 48 = .ok (.dup, 1) := by decide +kernel
theorem dX5_readLetter_49 : decode cX5_readLetter 49 = .ok (.getfield 29, 3) := by decide +kernel
theorem dX5_readLetter_5 : decode cX5_readLetter 5 = .ok (.invokevirtual 210, 3) := by decide +kernel
theorem dX5_readLetter_52 : decode cX5_readLetter 52 = .ok (.iconst 1, 1) := by decide +kernel
theorem dX5_readLetter_53 : decode cX5_readLetter 53 = .ok (.iadd, 1) := by decide +kernel
theorem dX5_readLetter_54 : decode cX5_readLetter 54 = .ok (.putfield 29, 3) := by decide +kernel
theorem dX5_readLetter_57 : decode cX5_readLetter 57 = .ok (.return_, 1) := by decide +kernel
theorem dX5_readLetter_8 : decode cX5_readLetter 8 = .ok (.bipush 16, 2) := by decide +kernel
theorem dX5_readLine_0 : decode cX5_readLine 0 = .ok (.aload_n 0, 1) := by decide +kernel
theorem dX5_readLine_1 : decode cX5_readLine 1 = .ok (.iconst 1, 1) := by decide +kernel
theorem dX5_readLine_10 : decode cX5_readLine 10 = .ok (.iconst 0, 1) := by decide +kernel
theorem dX5_readLine_11 : decode cX5_readLine 11 = .ok (.sipush 999, 3) := by decide +kernel
theorem dX5_readLine_14 : decode cX5_readLine 14 = .ok (.invokevirtual 83, 3) := by decide +kernel
theorem dX5_readLine_17 : decode cX5_readLine 17 = .ok (.istore_n 3, 1) := by decide +kernel
theorem dX5_readLine_18 : decode cX5_readLine 18 = .ok (.aload_n 0, 1) := by decide +kernel
theorem dX5_readLine_19 : decode cX5_readLine 19 = .ok (.iconst 1, 1) := by decide +kernel
theorem dX5_readLine_2 : decode cX5_readLine 2 = .ok (.sipush 2000, 3) := by decide +kernel
theorem dX5_readLine_20 : decode cX5_readLine 20 = .ok (.bipush 20, 2) := by decide +kernel
theorem dX5_readLine_22 : decode cX5_readLine 22 = .ok (.invokevirtual 83, 3) := by decide +kernel
theorem dX5_readLine_25 : decode cX5_readLine 25 = .ok (.istore 4, 2) := by decide +kernel
theorem dX5_readLine_27 : decode cX5_readLine 27 = .ok (.aload_n 0, 1) := by decide +kernel
theorem dX5_readLine_28 : decode cX5_readLine 28 = .ok (.iconst 1, 1) := by decide +kernel
theorem dX5_readLine_29 : decode cX5_readLine 29 = .ok (.bipush 9, 2) := by decide +kernel
theorem dX5_readLine_31 : decode cX5_readLine 31 = .ok (.invokevirtual 83, 3) := by decide +kernel
theorem dX5_readLine_34 : decode cX5_readLine 34 = .ok (.istore 5, 2) := by decide +kernel
theorem dX5_readLine_36 : decode cX5_readLine 36 = .ok (.aload_n 0, 1) := by decide +kernel
theorem dX5_readLine_37 : decode cX5_readLine 37 = .ok (.invokevirtual 56, 3) := by decide +kernel
theorem dX5_readLine_40 : decode cX5_readLine 40 = .ok (.ifCond .eq 13, 3) := by decide +kernel
theorem dX5_readLine_43 : decode cX5_readLine 43 = .ok (.aload_n 1, 1) := by decide +kernel
theorem dX5_readLine_44 : decode cX5_readLine 44 = .ok (.iload_n 2, 1) := by decide +kernel
theorem dX5_readLine_45 : decode cX5_readLine 45 = .ok (.iload_n 3, 1) := by decide +kernel
theorem dX5_readLine_46 : decode cX5_readLine 46 = .ok (.iload 4, 2) := by decide +kernel
theorem dX5_readLine_48 : decode cX5_readLine 48 = .ok (.iload 5, 2) := by decide +kernel
theorem dX5_readLine_5 : decode cX5_readLine 5 = .ok (.invokevirtual 83, 3) := by decide +kernel
theorem dX5_readLine_50 : decode cX5_readLine 50 = .ok (.invokevirtual 87, 3) := by decide +kernel
theorem dX5_readLine_53 : decode cX5_readLine 53 = .ok (.return_, 1) := by decide +kernel
theorem dX5_readLine_8 : decode cX5_readLine 8 = .ok (.istore_n 2, 1) := by decide +kernel
theorem dX5_readLine_9 : decode cX5_readLine 9 = .ok (.aload_n 0, 1) := by decide +kernel
theorem dX5_readLot_0 : decode cX5_readLot 0 = .ok (.aload_n 1, 1) := by decide +kernel
theorem dX5_readLot_1 : decode cX5_readLot 1 = .ok (.getfield 120, 3) := by decide +kernel
theorem dX5_readLot_10 : decode cX5_readLot 10 = .ok (.iconst 4, 1) := by decide +kernel
theorem dX5_readLot_11 : decode cX5_readLot 11 = .ok (.iload_n 2, 1) := by decide +kernel
theorem dX5_readLot_12 : decode cX5_readLot 12 = .ok (.invokevirtual 59, 3) := by decide +kernel
theorem dX5_readLot_15 : decode cX5_readLot 15 = .ok (.return_, 1) := by decide +kernel
theorem dX5_readLot_16 : decode cX5_readLot 16 = .ok (.aload_n 0, 1) := by decide +kernel
theorem dX5_readLot_17 : decode cX5_readLot 17 = .ok (.iconst 0, 1) := by decide +kernel
theorem dX5_readLot_18 : decode cX5_readLot 18 = .ok (.bipush 9, 2) := by decide +kernel
theorem dX5_readLot_20 : decode cX5_readLot 20 = .ok (.invokevirtual 83, 3) := by decide +kernel
theorem dX5_readLot_23 : decode cX5_readLot 23 = .ok (.istore_n 3, 1) := by decide +kernel
theorem dX5_readLot_24 : decode cX5_readLot 24 = .ok (.aload_n 0, 1) := by decide +kernel
theorem dX5_readLot_25 : decode cX5_readLot 25 = .ok (.invokevirtual 56, 3) := by decide +kernel
theorem dX5_readLot_28 : decode cX5_readLot 28 = .ok (.ifCond .eq 8, 3) := by decide +kernel
theorem dX5_readLot_31 : decode cX5_readLot 31 = .ok (.aload_n 1, 1) := by decide +kernel
theorem dX5_readLot_32 : decode cX5_readLot 32 = .ok (.iload_n 3, 1) := by decide +kernel
theorem dX5_readLot_33 : decode cX5_readLot 33 = .ok (.invokevirtual 123, 3) := by decide +kernel
theorem dX5_readLot_36 : decode cX5_readLot 36 = .ok (.return_, 1) := by decide +kernel
theorem dX5_readLot_4 : decode cX5_readLot 4 = .ok (.bipush 6, 2) := by decide +kernel
theorem dX5_readLot_6 : decode cX5_readLot 6 = .ok (.if_icmp .lt 10, 3) := by decide +kernel
theorem dX5_readLot_9 : decode cX5_readLot 9 = .ok (.aload_n 0, 1) := by decide +kernel
theorem dX5_readNumber_0 : decode cX5_readNumber 0 = .ok (.aload_n 0, 1) := by decide +kernel
theorem dX5_readNumber_1 : decode cX5_readNumber 1 = .ok (.invokevirtual 52, 3) := by decide +kernel
theorem dX5_readNumber_101 : decode cX5_readNumber 101 = .ok (.aload_n 0, 1) := by decide +kernel
theorem dX5_readNumber_102 : decode cX5_readNumber 102 = .ok (.iconst 2, 1) := by decide +kernel
theorem dX5_readNumber_103 : decode cX5_readNumber 103 = .ok (.iload_n 3, 1) := by decide +kernel
theorem dX5_readNumber_104 : decode cX5_readNumber 104 = .ok (.invokevirtual 59, 3) := by decide +kernel
theorem dX5_readNumber_107 : decode cX5_readNumber 107 = .ok (.iload 4, 2) := by decide +kernel
theorem dX5_readNumber_109 : decode cX5_readNumber 109 = .ok (.ireturn, 1) := by decide +kernel
theorem dX5_readNumber_12 : decode cX5_readNumber 12 = .ok (.aload_n 0, 1) := by decide +kernel
theorem dX5_readNumber_13 : decode cX5_readNumber 13 = .ok (.getfield 25, 3) := by decide +kernel
theorem dX5_readNumber_16 : decode cX5_readNumber 16 = .ok (.if_icmp .ge 56, 3) := by decide +kernel
theorem dX5_readNumber_19 : decode cX5_readNumber 19 = .ok (.aload_n 0, 1) := by decide +kernel
theorem dX5_readNumber_20 : decode cX5_readNumber 20 = .ok (.getfield 9, 3) := by decide +kernel
theorem dX5_readNumber_23 : decode cX5_readNumber 23 = .ok (.aload_n 0, 1) := by decide +kernel
theorem dX5_readNumber_24 : decode cX5_readNumber 24 = .ok (.getfield 29, 3) := by decide +kernel
theorem dX5_readNumber_27 : decode cX5_readNumber 27 = .ok (.baload, 1) := by decide +kernel
theorem dX5_readNumber_28 : decode cX5_readNumber 28 = .ok (.invokestatic 172, 3) := by decide +kernel
theorem dX5_readNumber_31 : decode cX5_readNumber 31 = .ok (.ifCond .eq 41, 3) := by decide +kernel
theorem dX5_readNumber_34 : decode cX5_readNumber 34 = .ok (.iload 4, 2) := by decide +kernel
theorem dX5_readNumber_36 : decode cX5_readNumber 36 = .ok (.bipush 10, 2) := by decide +kernel
theorem dX5_readNumber_38 : decode cX5_readNumber 38 = .ok (.imul, 1) := by decide +kernel
theorem dX5_readNumber_39 : decode cX5_readNumber 39 = .ok (.aload_n 0, 1) := by decide +kernel
theorem dX5_readNumber_4 : decode cX5_readNumber 4 = .ok (.istore_n 3, 1) := by decide +kernel
theorem dX5_readNumber_40 : decode cX5_readNumber 40 = .ok (.getfield 9, 3) := by decide +kernel
theorem dX5_readNumber_43 : decode cX5_readNumber 43 = .ok (.aload_n 0, 1) := by decide +kernel
theorem dX5_readNumber_44 : decode cX5_readNumber 44 = .ok (.getfield 29, 3) := by decide +kernel
theorem dX5_readNumber_47 : decode cX5_readNumber 47 = .ok (.baload, 1) := by decide +kernel
theorem dX5_readNumber_48 : decode cX5_readNumber 48 = .ok (.iadd, 1) := by decide +kernel
theorem dX5_readNumber_49 : decode cX5_readNumber 49 = .ok (.bipush 48, 2) := by decide +kernel
theorem dX5_readNumber_5 : decode cX5_readNumber 5 = .ok (.iconst 0, 1) := by decide +kernel
theorem dX5_readNumber_51 : decode cX5_readNumber 51 = .ok (.isub, 1) := by decide +kernel
theorem dX5_readNumber_52 : decode cX5_readNumber 52 = .ok (.ldc 175, 2) := by decide +kernel
theorem dX5_readNumber_54 : decode cX5_readNumber 54 = .ok (.invokestatic 176, 3) := by decide +kernel
theorem dX5_readNumber_57 : decode cX5_readNumber 57 = .ok (.istore 4, 2) := by decide +kernel
theorem dX5_readNumber_59 : decode cX5_readNumber 59 = .ok (.aload_n 0, 1) := by decide +kernel
theorem dX5_readNumber_6 : decode cX5_readNumber 6 = .ok (.istore 4, 2) := by decide +kernel
theorem dX5_readNumber_60 : decode cX5_readNumber 60 = .ok (.dup, 1) := by decide +kernel
theorem dX5_readNumber_61 : decode cX5_readNumber 61 = .ok (.getfield 29, 3) := by decide +kernel
theorem dX5_readNumber_64 : decode cX5_readNumber 64 = .ok (.iconst 1, 1) := by decide +kernel
theorem dX5_readNumber_65 : decode cX5_readNumber 65 = .ok (.iadd, 1) := by decide +kernel
theorem dX5_readNumber_66 : decode cX5_readNumber 66 = .ok (.putfield 29, 3) := by decide +kernel
theorem dX5_readNumber_69 : decode cX5_readNumber 69 = .ok (.goto (-61), 3) := by decide +kernel
theorem dX5_readNumber_72 : decode cX5_readNumber 72 = .ok (.aload_n 0, 1) := by decide +kernel
theorem dX5_readNumber_73 : decode cX5_readNumber 73 = .ok (.getfield 29, 3) := by decide +kernel
theorem dX5_readNumber_76 : decode cX5_readNumber 76 = .ok (.iload_n 3, 1) := by decide +kernel
theorem dX5_readNumber_77 : decode cX5_readNumber 77 = .ok (.if_icmp .ne 12, 3) := by decide +kernel
theorem dX5_readNumber_8 : decode cX5_readNumber 8 = .ok (.aload_n 0, 1) := by decide +kernel
theorem dX5_readNumber_80 : decode cX5_readNumber 80 = .ok (.aload_n 0, 1) := by decide +kernel
theorem dX5_readNumber_81 : decode cX5_readNumber 81 = .ok (.iconst 1, 1) := by decide +kernel
theorem dX5_readNumber_82 : decode cX5_readNumber 82 = .ok (.iload_n 3, 1) := by decide +kernel
theorem dX5_readNumber_83 : decode cX5_readNumber 83 = .ok (.invokevirtual 59, 3) := by decide +kernel
theorem dX5_readNumber_86 : decode cX5_readNumber 86 = .ok (.goto 21, 3) := by decide +kernel
theorem dX5_readNumber_89 : decode cX5_readNumber 89 = .ok (.iload 4, 2) := by decide +kernel
theorem dX5_readNumber_9 : decode cX5_readNumber 9 = .ok (.getfield 29, 3) := by decide +kernel
theorem dX5_readNumber_91 : decode cX5_readNumber 91 = .ok (.iload_n 1, 1) := by decide +kernel
theorem dX5_readNumber_92 : decode cX5_readNumber 92 = .ok (.if_icmp .lt 9, 3) := by decide +kernel
theorem dX5_readNumber_95 : decode cX5_readNumber 95 = .ok (.iload 4, 2) := by decide +kernel
theorem dX5_readNumber_97 : decode cX5_readNumber 97 = .ok (.iload_n 2, 1) := by decide +kernel
theorem dX5_readNumber_98 : decode cX5_readNumber 98 = .ok (.if_icmp .le 9, 3) := by decide +kernel
theorem dX5_readOrder_0 : decode cX5_readOrder 0 = .ok (.aload_n 0, 1) := by decide +kernel
theorem dX5_readOrder_1 : decode cX5_readOrder 1 = .ok (.invokevirtual 41, 3) := by decide +kernel
theorem dX5_readOrder_12 : decode cX5_readOrder 12 = .ok (.aload_n 0, 1) := by decide +kernel
theorem dX5_readOrder_13 : decode cX5_readOrder 13 = .ok (.getfield 25, 3) := by decide +kernel
theorem dX5_readOrder_16 : decode cX5_readOrder 16 = .ok (.if_icmp .ge 12, 3) := by decide +kernel
theorem dX5_readOrder_19 : decode cX5_readOrder 19 = .ok (.aload_n 0, 1) := by decide +kernel
theorem dX5_readOrder_20 : decode cX5_readOrder 20 = .ok (.iconst 1, 1) := by decide +kernel
theorem dX5_readOrder_21 : decode cX5_readOrder 21 = .ok (.aload_n 0, 1) := by decide +kernel
theorem dX5_readOrder_22 : decode cX5_readOrder 22 = .ok (.getfield 29, 3) := by decide +kernel
theorem dX5_readOrder_25 : decode cX5_readOrder 25 = .ok (.invokevirtual 59, 3) := by decide +kernel
theorem dX5_readOrder_28 : decode cX5_readOrder 28 = .ok (.iload_n 1, 1) := by decide +kernel
theorem dX5_readOrder_29 : decode cX5_readOrder 29 = .ok (.bipush 30, 2) := by decide +kernel
theorem dX5_readOrder_31 : decode cX5_readOrder 31 = .ok (.if_icmp .lt 12, 3) := by decide +kernel
theorem dX5_readOrder_34 : decode cX5_readOrder 34 = .ok (.aload_n 0, 1) := by decide +kernel
theorem dX5_readOrder_35 : decode cX5_readOrder 35 = .ok (.iconst 4, 1) := by decide +kernel
theorem dX5_readOrder_36 : decode cX5_readOrder 36 = .ok (.aload_n 0, 1) := by decide +kernel
theorem dX5_readOrder_37 : decode cX5_readOrder 37 = .ok (.getfield 25, 3) := by decide +kernel
theorem dX5_readOrder_4 : decode cX5_readOrder 4 = .ok (.aload_n 0, 1) := by decide +kernel
theorem dX5_readOrder_40 : decode cX5_readOrder 40 = .ok (.invokevirtual 59, 3) := by decide +kernel
theorem dX5_readOrder_43 : decode cX5_readOrder 43 = .ok (.aload_n 0, 1) := by decide +kernel
theorem dX5_readOrder_44 : decode cX5_readOrder 44 = .ok (.iconst 0, 1) := by decide +kernel
theorem dX5_readOrder_45 : decode cX5_readOrder 45 = .ok (.putfield 25, 3) := by decide +kernel
theorem dX5_readOrder_48 : decode cX5_readOrder 48 = .ok (.return_, 1) := by decide +kernel
theorem dX5_readOrder_5 : decode cX5_readOrder 5 = .ok (.invokevirtual 130, 3) := by decide +kernel
theorem dX5_readOrder_8 : decode cX5_readOrder 8 = .ok (.aload_n 0, 1) := by decide +kernel
theorem dX5_readOrder_9 : decode cX5_readOrder 9 = .ok (.getfield 29, 3) := by decide +kernel
theorem dX5_readRest_0 : decode cX5_readRest 0 = .ok (.aload_n 0, 1) := by decide +kernel
theorem dX5_readRest_1 : decode cX5_readRest 1 = .ok (.iconst 0, 1) := by decide +kernel
theorem dX5_readRest_11 : decode cX5_readRest 11 = .ok (.istore_n 2, 1) := by decide +kernel
theorem dX5_readRest_12 : decode cX5_readRest 12 = .ok (.aload_n 0, 1) := by decide +kernel
theorem dX5_readRest_13 : decode cX5_readRest 13 = .ok (.iconst 1, 1) := by decide +kernel
theorem dX5_readRest_14 : decode cX5_readRest 14 = .ok (.bipush 99, 2) := by decide +kernel
theorem dX5_readRest_16 : decode cX5_readRest 16 = .ok (.invokevirtual 83, 3) := by decide +kernel
theorem dX5_readRest_19 : decode cX5_readRest 19 = .ok (.istore_n 3, 1) := by decide +kernel
theorem dX5_readRest_2 : decode cX5_readRest 2 = .ok (.aload_n 1, 1) := by decide +kernel
theorem dX5_readRest_20 : decode cX5_readRest 20 = .ok (.aload_n 0, 1) := by decide +kernel
theorem dX5_readRest_21 : decode cX5_readRest 21 = .ok (.iconst 1, 1) := by decide +kernel
theorem dX5_readRest_22 : decode cX5_readRest 22 = .ok (.bipush 99, 2) := by decide +kernel
theorem dX5_readRest_24 : decode cX5_readRest 24 = .ok (.invokevirtual 83, 3) := by decide +kernel
theorem dX5_readRest_27 : decode cX5_readRest 27 = .ok (.istore 4, 2) := by decide +kernel
theorem dX5_readRest_29 : decode cX5_readRest 29 = .ok (.aload_n 0, 1) := by decide +kernel
theorem dX5_readRest_3 : decode cX5_readRest 3 = .ok (.getfield 93, 3) := by decide +kernel
theorem dX5_readRest_30 : decode cX5_readRest 30 = .ok (.invokevirtual 56, 3) := by decide +kernel
theorem dX5_readRest_33 : decode cX5_readRest 33 = .ok (.ifCond .eq 24, 3) := by decide +kernel
theorem dX5_readRest_36 : decode cX5_readRest 36 = .ok (.aload_n 1, 1) := by decide +kernel
theorem dX5_readRest_37 : decode cX5_readRest 37 = .ok (.getfield 108, 3) := by decide +kernel
theorem dX5_readRest_40 : decode cX5_readRest 40 = .ok (.iload_n 2, 1) := by decide +kernel
theorem dX5_readRest_41 : decode cX5_readRest 41 = .ok (.aaload, 1) := by decide +kernel
theorem dX5_readRest_42 : decode cX5_readRest 42 = .ok (.iload_n 3, 1) := by decide +kernel
theorem dX5_readRest_43 : decode cX5_readRest 43 = .ok (.putfield 112, 3) := by decide +kernel
theorem dX5_readRest_46 : decode cX5_readRest 46 = .ok (.aload_n 1, 1) := by decide +kernel
theorem dX5_readRest_47 : decode cX5_readRest 47 = .ok (.getfield 108, 3) := by decide +kernel
theorem dX5_readRest_50 : decode cX5_readRest 50 = .ok (.iload_n 2, 1) := by decide +kernel
theorem dX5_readRest_51 : decode cX5_readRest 51 = .ok (.aaload, 1) := by decide +kernel
theorem dX5_readRest_52 : decode cX5_readRest 52 = .ok (.iload 4, 2) := by decide +kernel
theorem dX5_readRest_54 : decode cX5_readRest 54 = .ok (.putfield 117, 3) := by decide +kernel
theorem dX5_readRest_57 : decode cX5_readRest 57 = .ok (.return_, 1) := by decide +kernel
theorem dX5_readRest_6 : decode cX5_readRest 6 = .ok (.iconst 1, 1) := by decide +kernel
theorem dX5_readRest_7 : decode cX5_readRest 7 = .ok (.isub, 1) := by decide +kernel
theorem dX5_readRest_8 : decode cX5_readRest 8 = .ok (.invokevirtual 83, 3) := by decide +kernel
theorem dX5_readScript_0 : decode cX5_readScript 0 = .ok (.aload_n 0, 1) := by decide +kernel
theorem dX5_readScript_1 : decode cX5_readScript 1 = .ok (.invokevirtual 52, 3) := by decide +kernel
theorem dX5_readScript_102 : decode cX5_readScript 102 = .ok (.aload_n 0, 1) := by decide +kernel
theorem dX5_readScript_103 : decode cX5_readScript 103 = .ok (.iconst 2, 1) := by decide +kernel
theorem dX5_readScript_104 : decode cX5_readScript 104 = .ok (.iload_n 1, 1) := by decide +kernel
theorem dX5_readScript_105 : decode cX5_readScript 105 = .ok (.invokevirtual 59, 3) := by decide +kernel
theorem dX5_readScript_108 : decode cX5_readScript 108 = .ok (.aload_n 0, 1) := by decide +kernel
theorem dX5_readScript_109 : decode cX5_readScript 109 = .ok (.invokevirtual 56, 3) := by decide +kernel
theorem dX5_readScript_11 : decode cX5_readScript 11 = .ok (.aload_n 0, 1) := by decide +kernel
theorem dX5_readScript_112 : decode cX5_readScript 112 = .ok (.ifCond .eq 18, 3) := by decide +kernel
theorem dX5_readScript_115 : decode cX5_readScript 115 = .ok (.aload_n 0, 1) := by decide +kernel
theorem dX5_readScript_116 : decode cX5_readScript 116 = .ok (.getfield 9, 3) := by decide +kernel
theorem dX5_readScript_119 : decode cX5_readScript 119 = .ok (.iload_n 1, 1) := by decide +kernel
theorem dX5_readScript_12 : decode cX5_readScript 12 = .ok (.getfield 25, 3) := by decide +kernel
theorem dX5_readScript_120 : decode cX5_readScript 120 = .ok (.aload_n 0, 1) := by decide +kernel
theorem dX5_readScript_121 : decode cX5_readScript 121 = .ok (.getfield 29, 3) := by decide +kernel
theorem dX5_readScript_124 : decode cX5_readScript 124 = .ok (.invokestatic 181, 3) := by decide +kernel
theorem dX5_readScript_127 : decode cX5_readScript 127 = .ok (.goto 6, 3) := by decide +kernel
theorem dX5_readScript_130 : decode cX5_readScript 130 = .ok (.getstatic 187, 3) := by decide +kernel
theorem dX5_readScript_133 : decode cX5_readScript 133 = .ok (.areturn, 1) := by decide +kernel
theorem dX5_readScript_15 : decode cX5_readScript 15 = .ok (.if_icmp .ge 55, 3) := by decide +kernel
theorem dX5_readScript_18 : decode cX5_readScript 18 = .ok (.aload_n 0, 1) := by decide +kernel
theorem dX5_readScript_19 : decode cX5_readScript 19 = .ok (.getfield 9, 3) := by decide +kernel
theorem dX5_readScript_22 : decode cX5_readScript 22 = .ok (.aload_n 0, 1) := by decide +kernel
theorem dX5_readScript_23 : decode cX5_readScript 23 = .ok (.getfield 29, 3) := by decide +kernel
theorem dX5_readScript_26 : decode cX5_readScript 26 = .ok (.baload, 1) := by decide +kernel
theorem dX5_readScript_27 : decode cX5_readScript 27 = .ok (.invokestatic 172, 3) := by decide +kernel
theorem dX5_readScript_30 : decode cX5_readScript 30 = .ok (.ifCond .eq 40, 3) := by decide +kernel
theorem dX5_readScript_33 : decode cX5_readScript 33 = .ok (.iload_n 2, 1) := by decide +kernel
theorem dX5_readScript_34 : decode cX5_readScript 34 = .ok (.ifCond .eq 21, 3) := by decide +kernel
theorem dX5_readScript_37 : decode cX5_readScript 37 = .ok (.aload_n 0, 1) := by decide +kernel
theorem dX5_readScript_38 : decode cX5_readScript 38 = .ok (.getfield 9, 3) := by decide +kernel
theorem dX5_readScript_4 : decode cX5_readScript 4 = .ok (.istore_n 1, 1) := by decide +kernel
theorem dX5_readScript_41 : decode cX5_readScript 41 = .ok (.aload_n 0, 1) := by decide +kernel
theorem dX5_readScript_42 : decode cX5_readScript 42 = .ok (.getfield 29, 3) := by decide +kernel
theorem dX5_readScript_45 : decode cX5_readScript 45 = .ok (.baload, 1) := by decide +kernel
theorem dX5_readScript_46 : decode cX5_readScript 46 = .ok (.bipush 49, 2) := by decide +kernel
theorem dX5_readScript_48 : decode cX5_readScript 48 = .ok (.if_icmp .gt 7, 3) := by decide +kernel
theorem dX5_readScript_5 : decode cX5_readScript 5 = .ok (.iconst 1, 1) := by decide +kernel
theorem dX5_readScript_51 : decode cX5_readScript 51 = .ok (.iconst 1, 1) := by decide +kernel
theorem dX5_readScript_52 : decode cX5_readScript 52 = .ok (.goto 4, 3) := by decide +kernel
theorem dX5_readScript_55 : decode cX5_readScript 55 = .ok (.iconst 0, 1) := by decide +kernel
theorem dX5_readScript_56 : decode cX5_readScript 56 = .ok (.istore_n 2, 1) := by decide +kernel
theorem dX5_readScript_57 : decode cX5_readScript 57 = .ok (.aload_n 0, 1) := by decide +kernel
theorem dX5_readScript_58 : decode cX5_readScript 58 = .ok (.dup, 1) := by decide +kernel
theorem dX5_readScript_59 : decode cX5_readScript 59 = .ok (.getfield 29, 3) := by decide +kernel
theorem dX5_readScript_6 : decode cX5_readScript 6 = .ok (.istore_n 2, 1) := by decide +kernel
theorem dX5_readScript_62 : decode cX5_readScript 62 = .ok (.iconst 1, 1) := by decide +kernel
theorem dX5_readScript_63 : decode cX5_readScript 63 = .ok (.iadd, 1) := by decide +kernel
theorem dX5_readScript_64 : decode cX5_readScript 64 = .ok (.putfield 29, 3) := by decide +kernel
theorem dX5_readScript_67 : decode cX5_readScript 67 = .ok (.goto (-60), 3) := by decide +kernel
theorem dX5_readScript_7 : decode cX5_readScript 7 = .ok (.aload_n 0, 1) := by decide +kernel
theorem dX5_readScript_70 : decode cX5_readScript 70 = .ok (.aload_n 0, 1) := by decide +kernel
theorem dX5_readScript_71 : decode cX5_readScript 71 = .ok (.getfield 29, 3) := by decide +kernel
theorem dX5_readScript_74 : decode cX5_readScript 74 = .ok (.iload_n 1, 1) := by decide +kernel
theorem dX5_readScript_75 : decode cX5_readScript 75 = .ok (.if_icmp .ne 12, 3) := by decide +kernel
theorem dX5_readScript_78 : decode cX5_readScript 78 = .ok (.aload_n 0, 1) := by decide +kernel
theorem dX5_readScript_79 : decode cX5_readScript 79 = .ok (.iconst 1, 1) := by decide +kernel
theorem dX5_readScript_8 : decode cX5_readScript 8 = .ok (.getfield 29, 3) := by decide +kernel
theorem dX5_readScript_80 : decode cX5_readScript 80 = .ok (.iload_n 1, 1) := by decide +kernel
theorem dX5_readScript_81 : decode cX5_readScript 81 = .ok (.invokevirtual 59, 3) := by decide +kernel
theorem dX5_readScript_84 : decode cX5_readScript 84 = .ok (.goto 24, 3) := by decide +kernel
theorem dX5_readScript_87 : decode cX5_readScript 87 = .ok (.iload_n 2, 1) := by decide +kernel
theorem dX5_readScript_88 : decode cX5_readScript 88 = .ok (.ifCond .eq 14, 3) := by decide +kernel
theorem dX5_readScript_91 : decode cX5_readScript 91 = .ok (.aload_n 0, 1) := by decide +kernel
theorem dX5_readScript_92 : decode cX5_readScript 92 = .ok (.getfield 29, 3) := by decide +kernel
theorem dX5_readScript_95 : decode cX5_readScript 95 = .ok (.iload_n 1, 1) := by decide +kernel
theorem dX5_readScript_96 : decode cX5_readScript 96 = .ok (.isub, 1) := by decide +kernel
theorem dX5_readScript_97 : decode cX5_readScript 97 = .ok (.bipush 12, 2) := by decide +kernel
theorem dX5_readScript_99 : decode cX5_readScript 99 = .ok (.if_icmp .le 9, 3) := by decide +kernel
theorem dX5_readSemicolon_0 : decode cX5_readSemicolon 0 = .ok (.aload_n 0, 1) := by decide +kernel
theorem dX5_readSemicolon_1 : decode cX5_readSemicolon 1 = .ok (.invokevirtual 52, 3) := by decide +kernel
theorem dX5_readSemicolon_12 : decode cX5_readSemicolon 12 = .ok (.aload_n 0, 1) := by decide +kernel
theorem dX5_readSemicolon_13 : decode cX5_readSemicolon 13 = .ok (.getfield 29, 3) := by decide +kernel
theorem dX5_readSemicolon_16 : decode cX5_readSemicolon 16 = .ok (.aload_n 0, 1) := by decide +kernel
theorem dX5_readSemicolon_17 : decode cX5_readSemicolon 17 = .ok (.getfield 25, 3) := by decide +kernel
theorem dX5_readSemicolon_20 : decode cX5_readSemicolon 20 = .ok (.if_icmp .lt 5, 3) := by decide +kernel
theorem dX5_readSemicolon_23 : decode cX5_readSemicolon 23 = .ok (.iconst 0, 1) := by decide +kernel
theorem dX5_readSemicolon_24 : decode cX5_readSemicolon 24 = .ok (.ireturn, 1) := by decide +kernel
theorem dX5_readSemicolon_25 : decode cX5_readSemicolon 25 = .ok (.aload_n 0, 1) := by decide +kernel
theorem dX5_readSemicolon_26 : decode cX5_readSemicolon 26 = .ok (.getfield 9, 3) := by decide +kernel
theorem dX5_readSemicolon_29 : decode cX5_readSemicolon 29 = .ok (.aload_n 0, 1) := by decide +kernel
theorem dX5_readSemicolon_30 : decode cX5_readSemicolon 30 = .ok (.getfield 29, 3) := by decide +kernel
theorem dX5_readSemicolon_33 : decode cX5_readSemicolon 33 = .ok (.baload, 1) := by decide +kernel
theorem dX5_readSemicolon_34 : decode cX5_readSemicolon 34 = .ok (.bipush 59, 2) := by decide +kernel
theorem dX5_readSemicolon_36 : decode cX5_readSemicolon 36 = .ok (.if_icmp .eq 14, 3) := by decide +kernel
theorem dX5_readSemicolon_39 : decode cX5_readSemicolon 39 = .ok (.aload_n 0, 1) := by decide +kernel
theorem dX5_readSemicolon_4 : decode cX5_readSemicolon 4 = .ok (.pop, 1) := by decide +kernel
theorem dX5_readSemicolon_40 : decode cX5_readSemicolon 40 = .ok (.iconst 1, 1) := by decide +kernel
theorem dX5_readSemicolon_41 : decode cX5_readSemicolon 41 = .ok (.aload_n 0, 1) := by decide +kernel
theorem dX5_readSemicolon_42 : decode cX5_readSemicolon 42 = .ok (.getfield 29, 3) := by decide +kernel
theorem dX5_readSemicolon_45 : decode cX5_readSemicolon 45 = .ok (.invokevirtual 59, 3) := by decide +kernel
theorem dX5_readSemicolon_48 : decode cX5_readSemicolon 48 = .ok (.iconst 0, 1) := by decide +kernel
theorem dX5_readSemicolon_49 : decode cX5_readSemicolon 49 = .ok (.ireturn, 1) := by decide +kernel
theorem dX5_readSemicolon_5 : decode cX5_readSemicolon 5 = .ok (.aload_n 0, 1) := by decide +kernel
theorem dX5_readSemicolon_50 : decode cX5_readSemicolon 50 = .ok (.aload_n 0, 1) := by decide +kernel
theorem dX5_readSemicolon_51 : decode cX5_readSemicolon 51 = .ok (.dup, 1) := by decide +kernel
theorem dX5_readSemicolon_52 : decode cX5_readSemicolon 52 = .ok (.getfield 29, 3) := by decide +kernel
theorem dX5_readSemicolon_55 : decode cX5_readSemicolon 55 = .ok (.iconst 1, 1) := by decide +kernel
theorem dX5_readSemicolon_56 : decode cX5_readSemicolon 56 = .ok (.iadd, 1) := by decide +kernel
theorem dX5_readSemicolon_57 : decode cX5_readSemicolon 57 = .ok (.putfield 29, 3) := by decide +kernel
theorem dX5_readSemicolon_6 : decode cX5_readSemicolon 6 = .ok (.invokevirtual 56, 3) := by decide +kernel
theorem dX5_readSemicolon_60 : decode cX5_readSemicolon 60 = .ok (.iconst 1, 1) := by decide +kernel
theorem dX5_readSemicolon_61 : decode cX5_readSemicolon 61 = .ok (.ireturn, 1) := by decide +kernel
theorem dX5_readSemicolon_9 : decode cX5_readSemicolon 9 = .ok (.ifCond .eq 14, 3) := by decide +kernel
theorem dX5_readStatement_0 : decode cX5_readStatement 0 = .ok (.aload_n 0, 1) := by decide +kernel
theorem dX5_readStatement_1 : decode cX5_readStatement 1 = .ok (.invokevirtual 52, 3) := by decide +kernel
theorem dX5_readStatement_10 : decode cX5_readStatement 10 = .ok (.iload_n 3, 1) := by decide +kernel
theorem dX5_readStatement_102 : decode cX5_readStatement 102 = .ok (.goto 19, 3) := by decide +kernel
theorem dX5_readStatement_105 : decode cX5_readStatement 105 = .ok (.aload_n 0, 1) := by decide +kernel
theorem dX5_readStatement_106 : decode cX5_readStatement 106 = .ok (.aload_n 1, 1) := by decide +kernel
theorem dX5_readStatement_107 : decode cX5_readStatement 107 = .ok (.iload_n 2, 1) := by decide +kernel
theorem dX5_readStatement_108 : decode cX5_readStatement 108 = .ok (.invokevirtual 76, 3) := by decide +kernel
theorem dX5_readStatement_11 : decode cX5_readStatement 11 = .ok (.iconst (-1), 1) := by decide +kernel
theorem dX5_readStatement_111 : decode cX5_readStatement 111 = .ok (.goto 10, 3) := by decide +kernel
theorem dX5_readStatement_114 : decode cX5_readStatement 114 = .ok (.aload_n 0, 1) := by decide +kernel
theorem dX5_readStatement_115 : decode cX5_readStatement 115 = .ok (.aload_n 1, 1) := by decide +kernel
theorem dX5_readStatement_116 : decode cX5_readStatement 116 = .ok (.iload_n 3, 1) := by decide +kernel
theorem dX5_readStatement_117 : decode cX5_readStatement 117 = .ok (.iload_n 2, 1) := by decide +kernel
theorem dX5_readStatement_118 : decode cX5_readStatement 118 = .ok (.invokevirtual 79, 3) := by decide +kernel
theorem dX5_readStatement_12 : decode cX5_readStatement 12 = .ok (.if_icmp .eq 28, 3) := by decide +kernel
theorem dX5_readStatement_121 : decode cX5_readStatement 121 = .ok (.return_, 1) := by decide +kernel
theorem dX5_readStatement_15 : decode cX5_readStatement 15 = .ok (.iload_n 3, 1) := by decide +kernel
theorem dX5_readStatement_16 : decode cX5_readStatement 16 = .ok (.iconst 4, 1) := by decide +kernel
theorem dX5_readStatement_17 : decode cX5_readStatement 17 = .ok (.if_icmp .ne 7, 3) := by decide +kernel
theorem dX5_readStatement_20 : decode cX5_readStatement 20 = .ok (.iconst 1, 1) := by decide +kernel
theorem dX5_readStatement_21 : decode cX5_readStatement 21 = .ok (.goto 4, 3) := by decide +kernel
theorem dX5_readStatement_24 : decode cX5_readStatement 24 = .ok (.iconst 0, 1) := by decide +kernel
theorem dX5_readStatement_25 : decode cX5_readStatement 25 = .ok (.aload_n 0, 1) := by decide +kernel
theorem dX5_readStatement_26 : decode cX5_readStatement 26 = .ok (.getfield 38, 3) := by decide +kernel
theorem dX5_readStatement_29 : decode cX5_readStatement 29 = .ok (.ifCond .ne 7, 3) := by decide +kernel
theorem dX5_readStatement_32 : decode cX5_readStatement 32 = .ok (.iconst 1, 1) := by decide +kernel
theorem dX5_readStatement_33 : decode cX5_readStatement 33 = .ok (.goto 4, 3) := by decide +kernel
theorem dX5_readStatement_36 : decode cX5_readStatement 36 = .ok (.iconst 0, 1) := by decide +kernel
theorem dX5_readStatement_37 : decode cX5_readStatement 37 = .ok (.if_icmp .eq 10, 3) := by decide +kernel
theorem dX5_readStatement_4 : decode cX5_readStatement 4 = .ok (.istore_n 2, 1) := by decide +kernel
theorem dX5_readStatement_40 : decode cX5_readStatement 40 = .ok (.aload_n 0, 1) := by decide +kernel
theorem dX5_readStatement_41 : decode cX5_readStatement 41 = .ok (.iconst 1, 1) := by decide +kernel
theorem dX5_readStatement_42 : decode cX5_readStatement 42 = .ok (.iload_n 2, 1) := by decide +kernel
theorem dX5_readStatement_43 : decode cX5_readStatement 43 = .ok (.invokevirtual 59, 3) := by decide +kernel
theorem dX5_readStatement_46 : decode cX5_readStatement 46 = .ok (.return_, 1) := by decide +kernel
theorem dX5_readStatement_47 : decode cX5_readStatement 47 = .ok (.iload_n 3, 1) := by decide +kernel
theorem dX5_readStatement_48 : decode cX5_readStatement 48 = .ok (.tableswitch 66 4 7 #[32, 40, 48, 57], 32) := by decide +kernel
theorem dX5_readStatement_5 : decode cX5_readStatement 5 = .ok (.aload_n 0, 1) := by decide +kernel
theorem dX5_readStatement_6 : decode cX5_readStatement 6 = .ok (.invokevirtual 63, 3) := by decide +kernel
theorem dX5_readStatement_80 : decode cX5_readStatement 80 = .ok (.aload_n 0, 1) := by decide +kernel
theorem dX5_readStatement_81 : decode cX5_readStatement 81 = .ok (.aload_n 1, 1) := by decide +kernel
theorem dX5_readStatement_82 : decode cX5_readStatement 82 = .ok (.invokevirtual 66, 3) := by decide +kernel
theorem dX5_readStatement_85 : decode cX5_readStatement 85 = .ok (.goto 36, 3) := by decide +kernel
theorem dX5_readStatement_88 : decode cX5_readStatement 88 = .ok (.aload_n 0, 1) := by decide +kernel
theorem dX5_readStatement_89 : decode cX5_readStatement 89 = .ok (.aload_n 1, 1) := by decide +kernel
theorem dX5_readStatement_9 : decode cX5_readStatement 9 = .ok (.istore_n 3, 1) := by decide +kernel
theorem dX5_readStatement_90 : decode cX5_readStatement 90 = .ok (.invokevirtual 69, 3) := by decide +kernel
theorem dX5_readStatement_93 : decode cX5_readStatement 93 = .ok (.goto 28, 3) := by decide +kernel
theorem dX5_readStatement_96 : decode cX5_readStatement 96 = .ok (.aload_n 0, 1) := by decide +kernel
theorem dX5_readStatement_97 : decode cX5_readStatement 97 = .ok (.aload_n 1, 1) := by decide +kernel
theorem dX5_readStatement_98 : decode cX5_readStatement 98 = .ok (.iload_n 2, 1) := by decide +kernel
theorem dX5_readStatement_99 : decode cX5_readStatement 99 = .ok (.invokevirtual 72, 3) := by decide +kernel
theorem dX5_readStation_0 : decode cX5_readStation 0 = .ok (.aload_n 1, 1) := by decide +kernel
theorem dX5_readStation_1 : decode cX5_readStation 1 = .ok (.getfield 93, 3) := by decide +kernel
theorem dX5_readStation_10 : decode cX5_readStation 10 = .ok (.iconst 4, 1) := by decide +kernel
theorem dX5_readStation_11 : decode cX5_readStation 11 = .ok (.iload_n 3, 1) := by decide +kernel
theorem dX5_readStation_12 : decode cX5_readStation 12 = .ok (.invokevirtual 59, 3) := by decide +kernel
theorem dX5_readStation_15 : decode cX5_readStation 15 = .ok (.return_, 1) := by decide +kernel
theorem dX5_readStation_16 : decode cX5_readStation 16 = .ok (.aload_n 0, 1) := by decide +kernel
theorem dX5_readStation_17 : decode cX5_readStation 17 = .ok (.iconst 1, 1) := by decide +kernel
theorem dX5_readStation_18 : decode cX5_readStation 18 = .ok (.iload_n 2, 1) := by decide +kernel
theorem dX5_readStation_19 : decode cX5_readStation 19 = .ok (.invokestatic 96, 3) := by decide +kernel
theorem dX5_readStation_22 : decode cX5_readStation 22 = .ok (.invokevirtual 83, 3) := by decide +kernel
theorem dX5_readStation_25 : decode cX5_readStation 25 = .ok (.istore 4, 2) := by decide +kernel
theorem dX5_readStation_27 : decode cX5_readStation 27 = .ok (.aload_n 0, 1) := by decide +kernel
theorem dX5_readStation_28 : decode cX5_readStation 28 = .ok (.invokevirtual 100, 3) := by decide +kernel
theorem dX5_readStation_31 : decode cX5_readStation 31 = .ok (.astore 5, 2) := by decide +kernel
theorem dX5_readStation_33 : decode cX5_readStation 33 = .ok (.aload_n 0, 1) := by decide +kernel
theorem dX5_readStation_34 : decode cX5_readStation 34 = .ok (.invokevirtual 56, 3) := by decide +kernel
theorem dX5_readStation_37 : decode cX5_readStation 37 = .ok (.ifCond .eq 12, 3) := by decide +kernel
theorem dX5_readStation_4 : decode cX5_readStation 4 = .ok (.bipush 6, 2) := by decide +kernel
theorem dX5_readStation_40 : decode cX5_readStation 40 = .ok (.aload_n 1, 1) := by decide +kernel
theorem dX5_readStation_41 : decode cX5_readStation 41 = .ok (.iload_n 2, 1) := by decide +kernel
theorem dX5_readStation_42 : decode cX5_readStation 42 = .ok (.iload 4, 2) := by decide +kernel
theorem dX5_readStation_44 : decode cX5_readStation 44 = .ok (.aload 5, 2) := by decide +kernel
theorem dX5_readStation_46 : decode cX5_readStation 46 = .ok (.invokevirtual 104, 3) := by decide +kernel
theorem dX5_readStation_49 : decode cX5_readStation 49 = .ok (.return_, 1) := by decide +kernel
theorem dX5_readStation_6 : decode cX5_readStation 6 = .ok (.if_icmp .lt 10, 3) := by decide +kernel
theorem dX5_readStation_9 : decode cX5_readStation 9 = .ok (.aload_n 0, 1) := by decide +kernel
theorem dX5_readText_0 : decode cX5_readText 0 = .ok (.aload_n 0, 1) := by decide +kernel
theorem dX5_readText_1 : decode cX5_readText 1 = .ok (.iconst 0, 1) := by decide +kernel
theorem dX5_readText_10 : decode cX5_readText 10 = .ok (.aload_n 0, 1) := by decide +kernel
theorem dX5_readText_100 : decode cX5_readText 100 = .ok (.invokevirtual 83, 3) := by decide +kernel
theorem dX5_readText_103 : decode cX5_readText 103 = .ok (.iload 4, 2) := by decide +kernel
theorem dX5_readText_105 : decode cX5_readText 105 = .ok (.invokevirtual 204, 3) := by decide +kernel
theorem dX5_readText_108 : decode cX5_readText 108 = .ok (.goto 25, 3) := by decide +kernel
theorem dX5_readText_11 : decode cX5_readText 11 = .ok (.invokevirtual 52, 3) := by decide +kernel
theorem dX5_readText_111 : decode cX5_readText 111 = .ok (.iload_n 3, 1) := by decide +kernel
theorem dX5_readText_112 : decode cX5_readText 112 = .ok (.bipush 41, 2) := by decide +kernel
theorem dX5_readText_114 : decode cX5_readText 114 = .ok (.if_icmp .ne 10, 3) := by decide +kernel
theorem dX5_readText_117 : decode cX5_readText 117 = .ok (.aload_n 0, 1) := by decide +kernel
theorem dX5_readText_118 : decode cX5_readText 118 = .ok (.invokevirtual 207, 3) := by decide +kernel
theorem dX5_readText_121 : decode cX5_readText 121 = .ok (.goto 12, 3) := by decide +kernel
theorem dX5_readText_124 : decode cX5_readText 124 = .ok (.aload_n 0, 1) := by decide +kernel
theorem dX5_readText_125 : decode cX5_readText 125 = .ok (.iconst 1, 1) := by decide +kernel
theorem dX5_readText_126 : decode cX5_readText 126 = .ok (.aload_n 0, 1) := by decide +kernel
theorem dX5_readText_127 : decode cX5_readText 127 = .ok (.getfield 29, 3) := by decide +kernel
theorem dX5_readText_130 : decode cX5_readText 130 = .ok (.invokevirtual 59, 3) := by decide +kernel
theorem dX5_readText_133 : decode cX5_readText 133 = .ok (.aload_n 0, 1) := by decide +kernel
theorem dX5_readText_134 : decode cX5_readText 134 = .ok (.invokevirtual 52, 3) := by decide +kernel
theorem dX5_readText_137 : decode cX5_readText 137 = .ok (.pop, 1) := by decide +kernel
theorem dX5_readText_138 : decode cX5_readText 138 = .ok (.iinc 2 1, 3) := by decide +kernel
theorem dX5_readText_14 : decode cX5_readText 14 = .ok (.istore_n 1, 1) := by decide +kernel
theorem dX5_readText_141 : decode cX5_readText 141 = .ok (.goto (-124), 3) := by decide +kernel
theorem dX5_readText_144 : decode cX5_readText 144 = .ok (.aload_n 0, 1) := by decide +kernel
theorem dX5_readText_145 : decode cX5_readText 145 = .ok (.getfield 197, 3) := by decide +kernel
theorem dX5_readText_148 : decode cX5_readText 148 = .ok (.ifCond .gt 10, 3) := by decide +kernel
theorem dX5_readText_15 : decode cX5_readText 15 = .ok (.iload_n 1, 1) := by decide +kernel
theorem dX5_readText_151 : decode cX5_readText 151 = .ok (.aload_n 0, 1) := by decide +kernel
theorem dX5_readText_152 : decode cX5_readText 152 = .ok (.getfield 190, 3) := by decide +kernel
theorem dX5_readText_155 : decode cX5_readText 155 = .ok (.ifCond .ne 12, 3) := by decide +kernel
theorem dX5_readText_158 : decode cX5_readText 158 = .ok (.aload_n 0, 1) := by decide +kernel
theorem dX5_readText_159 : decode cX5_readText 159 = .ok (.iconst 1, 1) := by decide +kernel
theorem dX5_readText_16 : decode cX5_readText 16 = .ok (.istore_n 2, 1) := by decide +kernel
theorem dX5_readText_160 : decode cX5_readText 160 = .ok (.aload_n 0, 1) := by decide +kernel
theorem dX5_readText_161 : decode cX5_readText 161 = .ok (.getfield 29, 3) := by decide +kernel
theorem dX5_readText_164 : decode cX5_readText 164 = .ok (.invokevirtual 59, 3) := by decide +kernel
theorem dX5_readText_167 : decode cX5_readText 167 = .ok (.return_, 1) := by decide +kernel
theorem dX5_readText_17 : decode cX5_readText 17 = .ok (.iload_n 2, 1) := by decide +kernel
theorem dX5_readText_18 : decode cX5_readText 18 = .ok (.aload_n 0, 1) := by decide +kernel
theorem dX5_readText_19 : decode cX5_readText 19 = .ok (.getfield 25, 3) := by decide +kernel
theorem dX5_readText_2 : decode cX5_readText 2 = .ok (.putfield 190, 3) := by decide +kernel
theorem dX5_readText_22 : decode cX5_readText 22 = .ok (.if_icmp .ge 122, 3) := by decide +kernel
theorem dX5_readText_25 : decode cX5_readText 25 = .ok (.aload_n 0, 1) := by decide +kernel
theorem dX5_readText_26 : decode cX5_readText 26 = .ok (.invokevirtual 56, 3) := by decide +kernel
theorem dX5_readText_29 : decode cX5_readText 29 = .ok (.ifCond .eq 115, 3) := by decide +kernel
theorem dX5_readText_32 : decode cX5_readText 32 = .ok (.aload_n 0, 1) := by decide +kernel
theorem dX5_readText_33 : decode cX5_readText 33 = .ok (.getfield 29, 3) := by decide +kernel
theorem dX5_readText_36 : decode cX5_readText 36 = .ok (.aload_n 0, 1) := by decide +kernel
theorem dX5_readText_37 : decode cX5_readText 37 = .ok (.getfield 25, 3) := by decide +kernel
theorem dX5_readText_40 : decode cX5_readText 40 = .ok (.if_icmp .ge 104, 3) := by decide +kernel
theorem dX5_readText_43 : decode cX5_readText 43 = .ok (.aload_n 0, 1) := by decide +kernel
theorem dX5_readText_44 : decode cX5_readText 44 = .ok (.getfield 9, 3) := by decide +kernel
theorem dX5_readText_47 : decode cX5_readText 47 = .ok (.aload_n 0, 1) := by decide +kernel
theorem dX5_readText_48 : decode cX5_readText 48 = .ok (.getfield 29, 3) := by decide +kernel
theorem dX5_readText_5 : decode cX5_readText 5 = .ok (.aload_n 0, 1) := by decide +kernel
theorem dX5_readText_51 : decode cX5_readText 51 = .ok (.baload, 1) := by decide +kernel
theorem dX5_readText_52 : decode cX5_readText 52 = .ok (.bipush 59, 2) := by decide +kernel
theorem dX5_readText_54 : decode cX5_readText 54 = .ok (.if_icmp .eq 90, 3) := by decide +kernel
theorem dX5_readText_57 : decode cX5_readText 57 = .ok (.aload_n 0, 1) := by decide +kernel
theorem dX5_readText_58 : decode cX5_readText 58 = .ok (.getfield 9, 3) := by decide +kernel
theorem dX5_readText_6 : decode cX5_readText 6 = .ok (.iconst 0, 1) := by decide +kernel
theorem dX5_readText_61 : decode cX5_readText 61 = .ok (.aload_n 0, 1) := by decide +kernel
theorem dX5_readText_62 : decode cX5_readText 62 = .ok (.getfield 29, 3) := by decide +kernel
theorem dX5_readText_65 : decode cX5_readText 65 = .ok (.baload, 1) := by decide +kernel
theorem dX5_readText_66 : decode cX5_readText 66 = .ok (.istore_n 3, 1) := by decide +kernel
theorem dX5_readText_67 : decode cX5_readText 67 = .ok (.iload_n 3, 1) := by decide +kernel
theorem dX5_readText_68 : decode cX5_readText 68 = .ok (.invokestatic 140, 3) := by decide +kernel
theorem dX5_readText_7 : decode cX5_readText 7 = .ok (.putfield 197, 3) := by decide +kernel
theorem dX5_readText_71 : decode cX5_readText 71 = .ok (.ifCond .eq 11, 3) := by decide +kernel
theorem dX5_readText_74 : decode cX5_readText 74 = .ok (.aload_n 0, 1) := by decide +kernel
theorem dX5_readText_75 : decode cX5_readText 75 = .ok (.iload_n 3, 1) := by decide +kernel
theorem dX5_readText_76 : decode cX5_readText 76 = .ok (.invokevirtual 200, 3) := by decide +kernel
theorem dX5_readText_79 : decode cX5_readText 79 = .ok (.goto 54, 3) := by decide +kernel
theorem dX5_readText_82 : decode cX5_readText 82 = .ok (.iload_n 3, 1) := by decide +kernel
theorem dX5_readText_83 : decode cX5_readText 83 = .ok (.invokestatic 172, 3) := by decide +kernel
theorem dX5_readText_86 : decode cX5_readText 86 = .ok (.ifCond .eq 25, 3) := by decide +kernel
theorem dX5_readText_89 : decode cX5_readText 89 = .ok (.aload_n 0, 1) := by decide +kernel
theorem dX5_readText_90 : decode cX5_readText 90 = .ok (.getfield 29, 3) := by decide +kernel
theorem dX5_readText_93 : decode cX5_readText 93 = .ok (.istore 4, 2) := by decide +kernel
theorem dX5_readText_95 : decode cX5_readText 95 = .ok (.aload_n 0, 1) := by decide +kernel
theorem dX5_readText_96 : decode cX5_readText 96 = .ok (.aload_n 0, 1) := by decide +kernel
theorem dX5_readText_97 : decode cX5_readText 97 = .ok (.iconst 2, 1) := by decide +kernel
theorem dX5_readText_98 : decode cX5_readText 98 = .ok (.bipush 9, 2) := by decide +kernel
theorem dX5_readWord_0 : decode cX5_readWord 0 = .ok (.aload_n 0, 1) := by decide +kernel
theorem dX5_readWord_1 : decode cX5_readWord 1 = .ok (.getfield 29, 3) := by decide +kernel
theorem dX5_readWord_10 : decode cX5_readWord 10 = .ok (.getfield 25, 3) := by decide +kernel
theorem dX5_readWord_102 : decode cX5_readWord 102 = .ok (.iconst 5, 1) := by decide +kernel
theorem dX5_readWord_103 : decode cX5_readWord 103 = .ok (.ireturn, 1) := by decide +kernel
theorem dX5_readWord_104 : decode cX5_readWord 104 = .ok (.aload_n 0, 1) := by decide +kernel
theorem dX5_readWord_105 : decode cX5_readWord 105 = .ok (.ldc 158, 2) := by decide +kernel
theorem dX5_readWord_107 : decode cX5_readWord 107 = .ok (.iload_n 1, 1) := by decide +kernel
theorem dX5_readWord_108 : decode cX5_readWord 108 = .ok (.invokevirtual 146, 3) := by decide +kernel
theorem dX5_readWord_111 : decode cX5_readWord 111 = .ok (.ifCond .eq 6, 3) := by decide +kernel
theorem dX5_readWord_114 : decode cX5_readWord 114 = .ok (.bipush 6, 2) := by decide +kernel
theorem dX5_readWord_116 : decode cX5_readWord 116 = .ok (.ireturn, 1) := by decide +kernel
theorem dX5_readWord_117 : decode cX5_readWord 117 = .ok (.aload_n 0, 1) := by decide +kernel
theorem dX5_readWord_118 : decode cX5_readWord 118 = .ok (.ldc 160, 2) := by decide +kernel
theorem dX5_readWord_120 : decode cX5_readWord 120 = .ok (.iload_n 1, 1) := by decide +kernel
theorem dX5_readWord_121 : decode cX5_readWord 121 = .ok (.invokevirtual 146, 3) := by decide +kernel
theorem dX5_readWord_124 : decode cX5_readWord 124 = .ok (.ifCond .eq 6, 3) := by decide +kernel
theorem dX5_readWord_127 : decode cX5_readWord 127 = .ok (.bipush 7, 2) := by decide +kernel
theorem dX5_readWord_129 : decode cX5_readWord 129 = .ok (.ireturn, 1) := by decide +kernel
theorem dX5_readWord_13 : decode cX5_readWord 13 = .ok (.if_icmp .ge 31, 3) := by decide +kernel
theorem dX5_readWord_130 : decode cX5_readWord 130 = .ok (.aload_n 0, 1) := by decide +kernel
theorem dX5_readWord_131 : decode cX5_readWord 131 = .ok (.ldc 162, 2) := by decide +kernel
theorem dX5_readWord_133 : decode cX5_readWord 133 = .ok (.iload_n 1, 1) := by decide +kernel
theorem dX5_readWord_134 : decode cX5_readWord 134 = .ok (.invokevirtual 146, 3) := by decide +kernel
theorem dX5_readWord_137 : decode cX5_readWord 137 = .ok (.ifCond .eq 7, 3) := by decide +kernel
theorem dX5_readWord_140 : decode cX5_readWord 140 = .ok (.iconst 4, 1) := by decide +kernel
theorem dX5_readWord_141 : decode cX5_readWord 141 = .ok (.goto 4, 3) := by decide +kernel
theorem dX5_readWord_144 : decode cX5_readWord 144 = .ok (.iconst (-1), 1) := by decide +kernel
theorem dX5_readWord_145 : decode cX5_readWord 145 = .ok (.ireturn, 1) := by decide +kernel
theorem dX5_readWord_16 : decode cX5_readWord 16 = .ok (.aload_n 0, 1) := by decide +kernel
theorem dX5_readWord_17 : decode cX5_readWord 17 = .ok (.getfield 9, 3) := by decide +kernel
theorem dX5_readWord_20 : decode cX5_readWord 20 = .ok (.aload_n 0, 1) := by decide +kernel
theorem dX5_readWord_21 : decode cX5_readWord 21 = .ok (.getfield 29, 3) := by decide +kernel
theorem dX5_readWord_24 : decode cX5_readWord 24 = .ok (.baload, 1) := by decide +kernel
theorem dX5_readWord_25 : decode cX5_readWord 25 = .ok (.invokestatic 140, 3) := by decide +kernel
theorem dX5_readWord_28 : decode cX5_readWord 28 = .ok (.ifCond .eq 16, 3) := by decide +kernel
theorem dX5_readWord_31 : decode cX5_readWord 31 = .ok (.aload_n 0, 1) := by decide +kernel
theorem dX5_readWord_32 : decode cX5_readWord 32 = .ok (.dup, 1) := by decide +kernel
theorem dX5_readWord_33 : decode cX5_readWord 33 = .ok (.getfield 29, 3) := by decide +kernel
theorem dX5_readWord_36 : decode cX5_readWord 36 = .ok (.iconst 1, 1) := by decide +kernel
theorem dX5_readWord_37 : decode cX5_readWord 37 = .ok (.iadd, 1) := by decide +kernel
theorem dX5_readWord_38 : decode cX5_readWord 38 = .ok (.putfield 29, 3) := by decide +kernel
theorem dX5_readWord_4 : decode cX5_readWord 4 = .ok (.istore_n 1, 1) := by decide +kernel
theorem dX5_readWord_41 : decode cX5_readWord 41 = .ok (.goto (-36), 3) := by decide +kernel
theorem dX5_readWord_44 : decode cX5_readWord 44 = .ok (.aload_n 0, 1) := by decide +kernel
theorem dX5_readWord_45 : decode cX5_readWord 45 = .ok (.ldc 144, 2) := by decide +kernel
theorem dX5_readWord_47 : decode cX5_readWord 47 = .ok (.iload_n 1, 1) := by decide +kernel
theorem dX5_readWord_48 : decode cX5_readWord 48 = .ok (.invokevirtual 146, 3) := by decide +kernel
theorem dX5_readWord_5 : decode cX5_readWord 5 = .ok (.aload_n 0, 1) := by decide +kernel
theorem dX5_readWord_51 : decode cX5_readWord 51 = .ok (.ifCond .eq 5, 3) := by decide +kernel
theorem dX5_readWord_54 : decode cX5_readWord 54 = .ok (.iconst 0, 1) := by decide +kernel
theorem dX5_readWord_55 : decode cX5_readWord 55 = .ok (.ireturn, 1) := by decide +kernel
theorem dX5_readWord_56 : decode cX5_readWord 56 = .ok (.aload_n 0, 1) := by decide +kernel
theorem dX5_readWord_57 : decode cX5_readWord 57 = .ok (.ldc 150, 2) := by decide +kernel
theorem dX5_readWord_59 : decode cX5_readWord 59 = .ok (.iload_n 1, 1) := by decide +kernel
theorem dX5_readWord_6 : decode cX5_readWord 6 = .ok (.getfield 29, 3) := by decide +kernel
theorem dX5_readWord_60 : decode cX5_readWord 60 = .ok (.invokevirtual 146, 3) := by decide +kernel
theorem dX5_readWord_63 : decode cX5_readWord 63 = .ok (.ifCond .eq 5, 3) := by decide +kernel
theorem dX5_readWord_66 : decode cX5_readWord 66 = .ok (.iconst 1, 1) := by decide +kernel
theorem dX5_readWord_67 : decode cX5_readWord 67 = .ok (.ireturn, 1) := by decide +kernel
theorem dX5_readWord_68 : decode cX5_readWord 68 = .ok (.aload_n 0, 1) := by decide +kernel
theorem dX5_readWord_69 : decode cX5_readWord 69 = .ok (.ldc 152, 2) := by decide +kernel
theorem dX5_readWord_71 : decode cX5_readWord 71 = .ok (.iload_n 1, 1) := by decide +kernel
theorem dX5_readWord_72 : decode cX5_readWord 72 = .ok (.invokevirtual 146, 3) := by decide +kernel
theorem dX5_readWord_75 : decode cX5_readWord 75 = .ok (.ifCond .eq 5, 3) := by decide +kernel
theorem dX5_readWord_78 : decode cX5_readWord 78 = .ok (.iconst 2, 1) := by decide +kernel
theorem dX5_readWord_79 : decode cX5_readWord 79 = .ok (.ireturn, 1) := by decide +kernel
theorem dX5_readWord_80 : decode cX5_readWord 80 = .ok (.aload_n 0, 1) := by decide +kernel
theorem dX5_readWord_81 : decode cX5_readWord 81 = .ok (.ldc 154, 2) := by decide +kernel
theorem dX5_readWord_83 : decode cX5_readWord 83 = .ok (.iload_n 1, 1) := by decide +kernel
theorem dX5_readWord_84 : decode cX5_readWord 84 = .ok (.invokevirtual 146, 3) := by decide +kernel
theorem dX5_readWord_87 : decode cX5_readWord 87 = .ok (.ifCond .eq 5, 3) := by decide +kernel
theorem dX5_readWord_9 : decode cX5_readWord 9 = .ok (.aload_n 0, 1) := by decide +kernel
theorem dX5_readWord_90 : decode cX5_readWord 90 = .ok (.iconst 3, 1) := by decide +kernel
theorem dX5_readWord_91 : decode cX5_readWord 91 = .ok (.ireturn, 1) := by decide +kernel
theorem dX5_readWord_92 : decode cX5_readWord 92 = .ok (.aload_n 0, 1) := by decide +kernel
theorem dX5_readWord_93 : decode cX5_readWord 93 = .ok (.ldc 156, 2) := by decide +kernel
theorem dX5_readWord_95 : decode cX5_readWord 95 = .ok (.iload_n 1, 1) := by decide +kernel
theorem dX5_readWord_96 : decode cX5_readWord 96 = .ok (.invokevirtual 146, 3) := by decide +kernel
theorem dX5_readWord_99 : decode cX5_readWord 99 = .ok (.ifCond .eq 5, 3) := by decide +kernel
theorem dX5_rowLength_0 : decode cX5_rowLength 0 = .ok (.iload_n 1, 1) := by decide +kernel
theorem dX5_rowLength_1 : decode cX5_rowLength 1 = .ok (.aload_n 0, 1) := by decide +kernel
theorem dX5_rowLength_12 : decode cX5_rowLength 12 = .ok (.goto 11, 3) := by decide +kernel
theorem dX5_rowLength_15 : decode cX5_rowLength 15 = .ok (.aload_n 0, 1) := by decide +kernel
theorem dX5_rowLength_16 : decode cX5_rowLength 16 = .ok (.getfield 18, 3) := by decide +kernel
theorem dX5_rowLength_19 : decode cX5_rowLength 19 = .ok (.iload_n 1, 1) := by decide +kernel
theorem dX5_rowLength_2 : decode cX5_rowLength 2 = .ok (.getfield 197, 3) := by decide +kernel
theorem dX5_rowLength_20 : decode cX5_rowLength 20 = .ok (.iconst 1, 1) := by decide +kernel
theorem dX5_rowLength_21 : decode cX5_rowLength 21 = .ok (.iadd, 1) := by decide +kernel
theorem dX5_rowLength_22 : decode cX5_rowLength 22 = .ok (.iaload, 1) := by decide +kernel
theorem dX5_rowLength_23 : decode cX5_rowLength 23 = .ok (.istore_n 2, 1) := by decide +kernel
theorem dX5_rowLength_24 : decode cX5_rowLength 24 = .ok (.iload_n 2, 1) := by decide +kernel
theorem dX5_rowLength_25 : decode cX5_rowLength 25 = .ok (.aload_n 0, 1) := by decide +kernel
theorem dX5_rowLength_26 : decode cX5_rowLength 26 = .ok (.getfield 18, 3) := by decide +kernel
theorem dX5_rowLength_29 : decode cX5_rowLength 29 = .ok (.iload_n 1, 1) := by decide +kernel
theorem dX5_rowLength_30 : decode cX5_rowLength 30 = .ok (.iaload, 1) := by decide +kernel
theorem dX5_rowLength_31 : decode cX5_rowLength 31 = .ok (.isub, 1) := by decide +kernel
theorem dX5_rowLength_32 : decode cX5_rowLength 32 = .ok (.ireturn, 1) := by decide +kernel
theorem dX5_rowLength_5 : decode cX5_rowLength 5 = .ok (.if_icmp .ne 10, 3) := by decide +kernel
theorem dX5_rowLength_8 : decode cX5_rowLength 8 = .ok (.aload_n 0, 1) := by decide +kernel
theorem dX5_rowLength_9 : decode cX5_rowLength 9 = .ok (.getfield 190, 3) := by decide +kernel
theorem dX5_skipSpaces_0 : decode cX5_skipSpaces 0 = .ok (.aload_n 0, 1) := by decide +kernel
theorem dX5_skipSpaces_1 : decode cX5_skipSpaces 1 = .ok (.getfield 29, 3) := by decide +kernel
theorem dX5_skipSpaces_11 : decode cX5_skipSpaces 11 = .ok (.aload_n 0, 1) := by decide +kernel
theorem dX5_skipSpaces_12 : decode cX5_skipSpaces 12 = .ok (.getfield 9, 3) := by decide +kernel
theorem dX5_skipSpaces_15 : decode cX5_skipSpaces 15 = .ok (.aload_n 0, 1) := by decide +kernel
theorem dX5_skipSpaces_16 : decode cX5_skipSpaces 16 = .ok (.getfield 29, 3) := by decide +kernel
theorem dX5_skipSpaces_19 : decode cX5_skipSpaces 19 = .ok (.baload, 1) := by decide +kernel
theorem dX5_skipSpaces_20 : decode cX5_skipSpaces 20 = .ok (.bipush 32, 2) := by decide +kernel
theorem dX5_skipSpaces_22 : decode cX5_skipSpaces 22 = .ok (.if_icmp .ne 16, 3) := by decide +kernel
theorem dX5_skipSpaces_25 : decode cX5_skipSpaces 25 = .ok (.aload_n 0, 1) := by decide +kernel
theorem dX5_skipSpaces_26 : decode cX5_skipSpaces 26 = .ok (.dup, 1) := by decide +kernel
theorem dX5_skipSpaces_27 : decode cX5_skipSpaces 27 = .ok (.getfield 29, 3) := by decide +kernel
theorem dX5_skipSpaces_30 : decode cX5_skipSpaces 30 = .ok (.iconst 1, 1) := by decide +kernel
theorem dX5_skipSpaces_31 : decode cX5_skipSpaces 31 = .ok (.iadd, 1) := by decide +kernel
theorem dX5_skipSpaces_32 : decode cX5_skipSpaces 32 = .ok (.putfield 29, 3) := by decide +kernel
theorem dX5_skipSpaces_35 : decode cX5_skipSpaces 35 = .ok (.goto (-35), 3) := by decide +kernel
theorem dX5_skipSpaces_38 : decode cX5_skipSpaces 38 = .ok (.aload_n 0, 1) := by decide +kernel
theorem dX5_skipSpaces_39 : decode cX5_skipSpaces 39 = .ok (.getfield 29, 3) := by decide +kernel
theorem dX5_skipSpaces_4 : decode cX5_skipSpaces 4 = .ok (.aload_n 0, 1) := by decide +kernel
theorem dX5_skipSpaces_42 : decode cX5_skipSpaces 42 = .ok (.ireturn, 1) := by decide +kernel
theorem dX5_skipSpaces_5 : decode cX5_skipSpaces 5 = .ok (.getfield 25, 3) := by decide +kernel
theorem dX5_skipSpaces_8 : decode cX5_skipSpaces 8 = .ok (.if_icmp .ge 30, 3) := by decide +kernel
theorem dX5_stands_0 : decode cX5_stands 0 = .ok (.aload_n 0, 1) := by decide +kernel
theorem dX5_stands_1 : decode cX5_stands 1 = .ok (.getfield 29, 3) := by decide +kernel
theorem dX5_stands_10 : decode cX5_stands 10 = .ok (.if_icmp .eq 5, 3) := by decide +kernel
theorem dX5_stands_13 : decode cX5_stands 13 = .ok (.iconst 0, 1) := by decide +kernel
theorem dX5_stands_14 : decode cX5_stands 14 = .ok (.ireturn, 1) := by decide +kernel
theorem dX5_stands_15 : decode cX5_stands 15 = .ok (.iconst 0, 1) := by decide +kernel
theorem dX5_stands_16 : decode cX5_stands 16 = .ok (.istore_n 3, 1) := by decide +kernel
theorem dX5_stands_17 : decode cX5_stands 17 = .ok (.iload_n 3, 1) := by decide +kernel
theorem dX5_stands_18 : decode cX5_stands 18 = .ok (.aload_n 1, 1) := by decide +kernel
theorem dX5_stands_19 : decode cX5_stands 19 = .ok (.invokevirtual 164, 3) := by decide +kernel
theorem dX5_stands_22 : decode cX5_stands 22 = .ok (.if_icmp .ge 27, 3) := by decide +kernel
theorem dX5_stands_25 : decode cX5_stands 25 = .ok (.aload_n 0, 1) := by decide +kernel
theorem dX5_stands_26 : decode cX5_stands 26 = .ok (.getfield 9, 3) := by decide +kernel
theorem dX5_stands_29 : decode cX5_stands 29 = .ok (.iload_n 2, 1) := by decide +kernel
theorem dX5_stands_30 : decode cX5_stands 30 = .ok (.iload_n 3, 1) := by decide +kernel
theorem dX5_stands_31 : decode cX5_stands 31 = .ok (.iadd, 1) := by decide +kernel
theorem dX5_stands_32 : decode cX5_stands 32 = .ok (.baload, 1) := by decide +kernel
theorem dX5_stands_33 : decode cX5_stands 33 = .ok (.aload_n 1, 1) := by decide +kernel
theorem dX5_stands_34 : decode cX5_stands 34 = .ok (.iload_n 3, 1) := by decide +kernel
theorem dX5_stands_35 : decode cX5_stands 35 = .ok (.invokevirtual 168, 3) := by decide +kernel
theorem dX5_stands_38 : decode cX5_stands 38 = .ok (.if_icmp .eq 5, 3) := by decide +kernel
theorem dX5_stands_4 : decode cX5_stands 4 = .ok (.iload_n 2, 1) := by decide +kernel
theorem dX5_stands_41 : decode cX5_stands 41 = .ok (.iconst 0, 1) := by decide +kernel
theorem dX5_stands_42 : decode cX5_stands 42 = .ok (.ireturn, 1) := by decide +kernel
theorem dX5_stands_43 : decode cX5_stands 43 = .ok (.iinc 3 1, 3) := by decide +kernel
theorem dX5_stands_46 : decode cX5_stands 46 = .ok (.goto (-29), 3) := by decide +kernel
theorem dX5_stands_49 : decode cX5_stands 49 = .ok (.iconst 1, 1) := by decide +kernel
theorem dX5_stands_5 : decode cX5_stands 5 = .ok (.isub, 1) := by decide +kernel
theorem dX5_stands_50 : decode cX5_stands 50 = .ok (.ireturn, 1) := by decide +kernel
theorem dX5_stands_6 : decode cX5_stands 6 = .ok (.aload_n 1, 1) := by decide +kernel
theorem dX5_stands_7 : decode cX5_stands 7 = .ok (.invokevirtual 164, 3) := by decide +kernel
theorem dX5_start_0 : decode cX5_start 0 = .ok (.aload_n 0, 1) := by decide +kernel
theorem dX5_start_1 : decode cX5_start 1 = .ok (.iconst 0, 1) := by decide +kernel
theorem dX5_start_10 : decode cX5_start 10 = .ok (.aload_n 0, 1) := by decide +kernel
theorem dX5_start_11 : decode cX5_start 11 = .ok (.iconst 0, 1) := by decide +kernel
theorem dX5_start_12 : decode cX5_start 12 = .ok (.putfield 35, 3) := by decide +kernel
theorem dX5_start_15 : decode cX5_start 15 = .ok (.aload_n 0, 1) := by decide +kernel
theorem dX5_start_16 : decode cX5_start 16 = .ok (.iconst 0, 1) := by decide +kernel
theorem dX5_start_17 : decode cX5_start 17 = .ok (.putfield 38, 3) := by decide +kernel
theorem dX5_start_2 : decode cX5_start 2 = .ok (.putfield 29, 3) := by decide +kernel
theorem dX5_start_20 : decode cX5_start 20 = .ok (.return_, 1) := by decide +kernel
theorem dX5_start_5 : decode cX5_start 5 = .ok (.aload_n 0, 1) := by decide +kernel
theorem dX5_start_6 : decode cX5_start 6 = .ok (.iconst 0, 1) := by decide +kernel
theorem dX5_start_7 : decode cX5_start 7 = .ok (.putfield 32, 3) := by decide +kernel
theorem dX5_textRead_0 : decode cX5_textRead 0 = .ok (.aload_n 0, 1) := by decide +kernel
theorem dX5_textRead_1 : decode cX5_textRead 1 = .ok (.getfield 15, 3) := by decide +kernel
theorem dX5_textRead_11 : decode cX5_textRead 11 = .ok (.areturn, 1) := by decide +kernel
theorem dX5_textRead_4 : decode cX5_textRead 4 = .ok (.aload_n 0, 1) := by decide +kernel
theorem dX5_textRead_5 : decode cX5_textRead 5 = .ok (.getfield 190, 3) := by decide +kernel
theorem dX5_textRead_8 : decode cX5_textRead 8 = .ok (.invokestatic 193, 3) := by decide +kernel
theorem dX6_begin_0 : decode cX6_begin 0 = .ok (.aload_n 0, 1) := by decide +kernel
theorem dX6_begin_1 : decode cX6_begin 1 = .ok (.iload_n 1, 1) := by decide +kernel
theorem dX6_begin_10 : decode cX6_begin 10 = .ok (.aload_n 0, 1) := by decide +kernel
theorem dX6_begin_11 : decode cX6_begin 11 = .ok (.aload_n 3, 1) := by decide +kernel
theorem dX6_begin_12 : decode cX6_begin 12 = .ok (.putfield 13, 3) := by decide +kernel
theorem dX6_begin_15 : decode cX6_begin 15 = .ok (.aload_n 0, 1) := by decide +kernel
theorem dX6_begin_16 : decode cX6_begin 16 = .ok (.iconst (-1), 1) := by decide +kernel
theorem dX6_begin_17 : decode cX6_begin 17 = .ok (.putfield 25, 3) := by decide +kernel
theorem dX6_begin_2 : decode cX6_begin 2 = .ok (.putfield 18, 3) := by decide +kernel
theorem dX6_begin_20 : decode cX6_begin 20 = .ok (.aload_n 0, 1) := by decide +kernel
theorem dX6_begin_21 : decode cX6_begin 21 = .ok (.iconst 0, 1) := by decide +kernel
theorem dX6_begin_22 : decode cX6_begin 22 = .ok (.putfield 28, 3) := by decide +kernel
theorem dX6_begin_25 : decode cX6_begin 25 = .ok (.aload_n 0, 1) := by decide +kernel
theorem dX6_begin_26 : decode cX6_begin 26 = .ok (.iconst 0, 1) := by decide +kernel
theorem dX6_begin_27 : decode cX6_begin 27 = .ok (.putfield 31, 3) := by decide +kernel
theorem dX6_begin_30 : decode cX6_begin 30 = .ok (.aload_n 0, 1) := by decide +kernel
theorem dX6_begin_31 : decode cX6_begin 31 = .ok (.iconst 0, 1) := by decide +kernel
theorem dX6_begin_32 : decode cX6_begin 32 = .ok (.putfield 34, 3) := by decide +kernel
theorem dX6_begin_35 : decode cX6_begin 35 = .ok (.aload_n 0, 1) := by decide +kernel
theorem dX6_begin_36 : decode cX6_begin 36 = .ok (.iconst 0, 1) := by decide +kernel
theorem dX6_begin_37 : decode cX6_begin 37 = .ok (.putfield 37, 3) := by decide +kernel
theorem dX6_begin_40 : decode cX6_begin 40 = .ok (.aload_n 0, 1) := by decide +kernel
theorem dX6_begin_41 : decode cX6_begin 41 = .ok (.iconst 0, 1) := by decide +kernel
theorem dX6_begin_42 : decode cX6_begin 42 = .ok (.putfield 40, 3) := by decide +kernel
theorem dX6_begin_45 : decode cX6_begin 45 = .ok (.aload_n 0, 1) := by decide +kernel
theorem dX6_begin_46 : decode cX6_begin 46 = .ok (.iconst 0, 1) := by decide +kernel
theorem dX6_begin_47 : decode cX6_begin 47 = .ok (.putfield 43, 3) := by decide +kernel
theorem dX6_begin_5 : decode cX6_begin 5 = .ok (.aload_n 0, 1) := by decide +kernel
theorem dX6_begin_50 : decode cX6_begin 50 = .ok (.aload_n 0, 1) := by decide +kernel
theorem dX6_begin_51 : decode cX6_begin 51 = .ok (.iconst 0, 1) := by decide +kernel
theorem dX6_begin_52 : decode cX6_begin 52 = .ok (.putfield 47, 3) := by decide +kernel
theorem dX6_begin_55 : decode cX6_begin 55 = .ok (.aload_n 0, 1) := by decide +kernel
theorem dX6_begin_56 : decode cX6_begin 56 = .ok (.iconst 0, 1) := by decide +kernel
theorem dX6_begin_57 : decode cX6_begin 57 = .ok (.putfield 50, 3) := by decide +kernel
theorem dX6_begin_6 : decode cX6_begin 6 = .ok (.iload_n 2, 1) := by decide +kernel
theorem dX6_begin_60 : decode cX6_begin 60 = .ok (.aload_n 0, 1) := by decide +kernel
theorem dX6_begin_61 : decode cX6_begin 61 = .ok (.iconst 0, 1) := by decide +kernel
theorem dX6_begin_62 : decode cX6_begin 62 = .ok (.putfield 53, 3) := by decide +kernel
theorem dX6_begin_65 : decode cX6_begin 65 = .ok (.aload_n 0, 1) := by decide +kernel
theorem dX6_begin_66 : decode cX6_begin 66 = .ok (.iconst 0, 1) := by decide +kernel
theorem dX6_begin_67 : decode cX6_begin 67 = .ok (.putfield 56, 3) := by decide +kernel
theorem dX6_begin_7 : decode cX6_begin 7 = .ok (.putfield 22, 3) := by decide +kernel
theorem dX6_begin_70 : decode cX6_begin 70 = .ok (.aload_n 0, 1) := by decide +kernel
theorem dX6_begin_71 : decode cX6_begin 71 = .ok (.iconst 0, 1) := by decide +kernel
theorem dX6_begin_72 : decode cX6_begin 72 = .ok (.putfield 59, 3) := by decide +kernel
theorem dX6_begin_75 : decode cX6_begin 75 = .ok (.return_, 1) := by decide +kernel
theorem dX6_copyFrom_0 : decode cX6_copyFrom 0 = .ok (.aload_n 0, 1) := by decide +kernel
theorem dX6_copyFrom_1 : decode cX6_copyFrom 1 = .ok (.aload_n 1, 1) := by decide +kernel
theorem dX6_copyFrom_10 : decode cX6_copyFrom 10 = .ok (.getfield 22, 3) := by decide +kernel
theorem dX6_copyFrom_101 : decode cX6_copyFrom 101 = .ok (.putfield 53, 3) := by decide +kernel
theorem dX6_copyFrom_104 : decode cX6_copyFrom 104 = .ok (.aload_n 0, 1) := by decide +kernel
theorem dX6_copyFrom_105 : decode cX6_copyFrom 105 = .ok (.aload_n 1, 1) := by decide +kernel
theorem dX6_copyFrom_106 : decode cX6_copyFrom 106 = .ok (.getfield 56, 3) := by decide +kernel
theorem dX6_copyFrom_109 : decode cX6_copyFrom 109 = .ok (.putfield 56, 3) := by decide +kernel
theorem dX6_copyFrom_112 : decode cX6_copyFrom 112 = .ok (.aload_n 0, 1) := by decide +kernel
theorem dX6_copyFrom_113 : decode cX6_copyFrom 113 = .ok (.aload_n 1, 1) := by decide +kernel
theorem dX6_copyFrom_114 : decode cX6_copyFrom 114 = .ok (.getfield 59, 3) := by decide +kernel
theorem dX6_copyFrom_117 : decode cX6_copyFrom 117 = .ok (.putfield 59, 3) := by decide +kernel
theorem dX6_copyFrom_120 : decode cX6_copyFrom 120 = .ok (.return_, 1) := by decide +kernel
theorem dX6_copyFrom_13 : decode cX6_copyFrom 13 = .ok (.putfield 22, 3) := by decide +kernel
theorem dX6_copyFrom_16 : decode cX6_copyFrom 16 = .ok (.aload_n 0, 1) := by decide +kernel
theorem dX6_copyFrom_17 : decode cX6_copyFrom 17 = .ok (.aload_n 1, 1) := by decide +kernel
theorem dX6_copyFrom_18 : decode cX6_copyFrom 18 = .ok (.getfield 13, 3) := by decide +kernel
theorem dX6_copyFrom_2 : decode cX6_copyFrom 2 = .ok (.getfield 18, 3) := by decide +kernel
theorem dX6_copyFrom_21 : decode cX6_copyFrom 21 = .ok (.putfield 13, 3) := by decide +kernel
theorem dX6_copyFrom_24 : decode cX6_copyFrom 24 = .ok (.aload_n 0, 1) := by decide +kernel
theorem dX6_copyFrom_25 : decode cX6_copyFrom 25 = .ok (.aload_n 1, 1) := by decide +kernel
theorem dX6_copyFrom_26 : decode cX6_copyFrom 26 = .ok (.getfield 25, 3) := by decide +kernel
theorem dX6_copyFrom_29 : decode cX6_copyFrom 29 = .ok (.putfield 25, 3) := by decide +kernel
theorem dX6_copyFrom_32 : decode cX6_copyFrom 32 = .ok (.aload_n 0, 1) := by decide +kernel
theorem dX6_copyFrom_33 : decode cX6_copyFrom 33 = .ok (.aload_n 1, 1) := by decide +kernel
theorem dX6_copyFrom_34 : decode cX6_copyFrom 34 = .ok (.getfield 28, 3) := by decide +kernel
theorem dX6_copyFrom_37 : decode cX6_copyFrom 37 = .ok (.putfield 28, 3) := by decide +kernel
theorem dX6_copyFrom_40 : decode cX6_copyFrom 40 = .ok (.aload_n 0, 1) := by decide +kernel
theorem dX6_copyFrom_41 : decode cX6_copyFrom 41 = .ok (.aload_n 1, 1) := by decide +kernel
theorem dX6_copyFrom_42 : decode cX6_copyFrom 42 = .ok (.getfield 31, 3) := by decide +kernel
theorem dX6_copyFrom_45 : decode cX6_copyFrom 45 = .ok (.putfield 31, 3) := by decide +kernel
theorem dX6_copyFrom_48 : decode cX6_copyFrom 48 = .ok (.aload_n 0, 1) := by decide +kernel
theorem dX6_copyFrom_49 : decode cX6_copyFrom 49 = .ok (.aload_n 1, 1) := by decide +kernel
theorem dX6_copyFrom_5 : decode cX6_copyFrom 5 = .ok (.putfield 18, 3) := by decide +kernel
theorem dX6_copyFrom_50 : decode cX6_copyFrom 50 = .ok (.getfield 34, 3) := by decide +kernel
theorem dX6_copyFrom_53 : decode cX6_copyFrom 53 = .ok (.putfield 34, 3) := by decide +kernel
theorem dX6_copyFrom_56 : decode cX6_copyFrom 56 = .ok (.aload_n 0, 1) := by decide +kernel
theorem dX6_copyFrom_57 : decode cX6_copyFrom 57 = .ok (.aload_n 1, 1) := by decide +kernel
theorem dX6_copyFrom_58 : decode cX6_copyFrom 58 = .ok (.getfield 37, 3) := by decide +kernel
theorem dX6_copyFrom_61 : decode cX6_copyFrom 61 = .ok (.putfield 37, 3) := by decide +kernel
theorem dX6_copyFrom_64 : decode cX6_copyFrom 64 = .ok (.aload_n 0, 1) := by decide +kernel
theorem dX6_copyFrom_65 : decode cX6_copyFrom 65 = .ok (.aload_n 1, 1) := by decide +kernel
theorem dX6_copyFrom_66 : decode cX6_copyFrom 66 = .ok (.getfield 40, 3) := by decide +kernel
theorem dX6_copyFrom_69 : decode cX6_copyFrom 69 = .ok (.putfield 40, 3) := by decide +kernel
theorem dX6_copyFrom_72 : decode cX6_copyFrom 72 = .ok (.aload_n 0, 1) := by decide +kernel
theorem dX6_copyFrom_73 : decode cX6_copyFrom 73 = .ok (.aload_n 1, 1) := by decide +kernel
theorem dX6_copyFrom_74 : decode cX6_copyFrom 74 = .ok (.getfield 43, 3) := by decide +kernel
theorem dX6_copyFrom_77 : decode cX6_copyFrom 77 = .ok (.putfield 43, 3) := by decide +kernel
theorem dX6_copyFrom_8 : decode cX6_copyFrom 8 = .ok (.aload_n 0, 1) := by decide +kernel
theorem dX6_copyFrom_80 : decode cX6_copyFrom 80 = .ok (.aload_n 0, 1) := by decide +kernel
theorem dX6_copyFrom_81 : decode cX6_copyFrom 81 = .ok (.aload_n 1, 1) := by decide +kernel
theorem dX6_copyFrom_82 : decode cX6_copyFrom 82 = .ok (.getfield 47, 3) := by decide +kernel
theorem dX6_copyFrom_85 : decode cX6_copyFrom 85 = .ok (.putfield 47, 3) := by decide +kernel
theorem dX6_copyFrom_88 : decode cX6_copyFrom 88 = .ok (.aload_n 0, 1) := by decide +kernel
theorem dX6_copyFrom_89 : decode cX6_copyFrom 89 = .ok (.aload_n 1, 1) := by decide +kernel
theorem dX6_copyFrom_9 : decode cX6_copyFrom 9 = .ok (.aload_n 1, 1) := by decide +kernel
theorem dX6_copyFrom_90 : decode cX6_copyFrom 90 = .ok (.getfield 50, 3) := by decide +kernel
theorem dX6_copyFrom_93 : decode cX6_copyFrom 93 = .ok (.putfield 50, 3) := by decide +kernel
theorem dX6_copyFrom_96 : decode cX6_copyFrom 96 = .ok (.aload_n 0, 1) := by decide +kernel
theorem dX6_copyFrom_97 : decode cX6_copyFrom 97 = .ok (.aload_n 1, 1) := by decide +kernel
theorem dX6_copyFrom_98 : decode cX6_copyFrom 98 = .ok (.getfield 53, 3) := by decide +kernel
theorem dX6_hasReadyCard_0 : decode cX6_hasReadyCard 0 = .ok (.aload_n 0, 1) := by decide +kernel
theorem dX6_hasReadyCard_1 : decode cX6_hasReadyCard 1 = .ok (.getfield 25, 3) := by decide +kernel
theorem dX6_hasReadyCard_12 : decode cX6_hasReadyCard 12 = .ok (.ifCond .ne 7, 3) := by decide +kernel
theorem dX6_hasReadyCard_15 : decode cX6_hasReadyCard 15 = .ok (.iconst 1, 1) := by decide +kernel
theorem dX6_hasReadyCard_16 : decode cX6_hasReadyCard 16 = .ok (.goto 4, 3) := by decide +kernel
theorem dX6_hasReadyCard_19 : decode cX6_hasReadyCard 19 = .ok (.iconst 0, 1) := by decide +kernel
theorem dX6_hasReadyCard_20 : decode cX6_hasReadyCard 20 = .ok (.ireturn, 1) := by decide +kernel
theorem dX6_hasReadyCard_4 : decode cX6_hasReadyCard 4 = .ok (.iconst (-1), 1) := by decide +kernel
theorem dX6_hasReadyCard_5 : decode cX6_hasReadyCard 5 = .ok (.if_icmp .eq 14, 3) := by decide +kernel
theorem dX6_hasReadyCard_8 : decode cX6_hasReadyCard 8 = .ok (.aload_n 0, 1) := by decide +kernel
theorem dX6_hasReadyCard_9 : decode cX6_hasReadyCard 9 = .ok (.getfield 28, 3) := by decide +kernel
theorem dX6_init_0 : decode cX6_init 0 = .ok (.aload_n 0, 1) := by decide +kernel
theorem dX6_init_1 : decode cX6_init 1 = .ok (.invokespecial 3, 3) := by decide +kernel
theorem dX6_init_11 : decode cX6_init 11 = .ok (.return_, 1) := by decide +kernel
theorem dX6_init_4 : decode cX6_init 4 = .ok (.aload_n 0, 1) := by decide +kernel
theorem dX6_init_5 : decode cX6_init 5 = .ok (.getstatic 9, 3) := by decide +kernel
theorem dX6_init_8 : decode cX6_init 8 = .ok (.putfield 13, 3) := by decide +kernel
theorem dX6_letFail_0 : decode cX6_letFail 0 = .ok (.aload_n 0, 1) := by decide +kernel
theorem dX6_letFail_1 : decode cX6_letFail 1 = .ok (.iconst (-1), 1) := by decide +kernel
theorem dX6_letFail_10 : decode cX6_letFail 10 = .ok (.iconst 1, 1) := by decide +kernel
theorem dX6_letFail_11 : decode cX6_letFail 11 = .ok (.iadd, 1) := by decide +kernel
theorem dX6_letFail_12 : decode cX6_letFail 12 = .ok (.putfield 37, 3) := by decide +kernel
theorem dX6_letFail_15 : decode cX6_letFail 15 = .ok (.return_, 1) := by decide +kernel
theorem dX6_letFail_2 : decode cX6_letFail 2 = .ok (.putfield 25, 3) := by decide +kernel
theorem dX6_letFail_5 : decode cX6_letFail 5 = .ok (.aload_n 0, 1) := by decide +kernel
theorem dX6_letFail_6 : decode cX6_letFail 6 = .ok (.dup, 1) := by decide +kernel
theorem dX6_letFail_7 : decode cX6_letFail 7 = .ok (.getfield 37, 3) := by decide +kernel
theorem dX6_letGoOn_0 : decode cX6_letGoOn 0 = .ok (.aload_n 0, 1) := by decide +kernel
theorem dX6_letGoOn_1 : decode cX6_letGoOn 1 = .ok (.iconst (-1), 1) := by decide +kernel
theorem dX6_letGoOn_10 : decode cX6_letGoOn 10 = .ok (.iconst 1, 1) := by decide +kernel
theorem dX6_letGoOn_11 : decode cX6_letGoOn 11 = .ok (.iadd, 1) := by decide +kernel
theorem dX6_letGoOn_12 : decode cX6_letGoOn 12 = .ok (.putfield 40, 3) := by decide +kernel
theorem dX6_letGoOn_15 : decode cX6_letGoOn 15 = .ok (.return_, 1) := by decide +kernel
theorem dX6_letGoOn_2 : decode cX6_letGoOn 2 = .ok (.putfield 25, 3) := by decide +kernel
theorem dX6_letGoOn_5 : decode cX6_letGoOn 5 = .ok (.aload_n 0, 1) := by decide +kernel
theorem dX6_letGoOn_6 : decode cX6_letGoOn 6 = .ok (.dup, 1) := by decide +kernel
theorem dX6_letGoOn_7 : decode cX6_letGoOn 7 = .ok (.getfield 40, 3) := by decide +kernel
theorem dX6_takeIn_0 : decode cX6_takeIn 0 = .ok (.aload_n 0, 1) := by decide +kernel
theorem dX6_takeIn_1 : decode cX6_takeIn 1 = .ok (.aload_n 0, 1) := by decide +kernel
theorem dX6_takeIn_10 : decode cX6_takeIn 10 = .ok (.aload_n 0, 1) := by decide +kernel
theorem dX6_takeIn_11 : decode cX6_takeIn 11 = .ok (.getfield 18, 3) := by decide +kernel
theorem dX6_takeIn_14 : decode cX6_takeIn 14 = .ok (.iconst 3, 1) := by decide +kernel
theorem dX6_takeIn_15 : decode cX6_takeIn 15 = .ok (.if_icmp .ne 18, 3) := by decide +kernel
theorem dX6_takeIn_18 : decode cX6_takeIn 18 = .ok (.aload_n 2, 1) := by decide +kernel
theorem dX6_takeIn_19 : decode cX6_takeIn 19 = .ok (.arraylength, 1) := by decide +kernel
theorem dX6_takeIn_2 : decode cX6_takeIn 2 = .ok (.aload_n 2, 1) := by decide +kernel
theorem dX6_takeIn_20 : decode cX6_takeIn 20 = .ok (.ifCond .le 13, 3) := by decide +kernel
theorem dX6_takeIn_23 : decode cX6_takeIn 23 = .ok (.aload_n 0, 1) := by decide +kernel
theorem dX6_takeIn_24 : decode cX6_takeIn 24 = .ok (.aload_n 2, 1) := by decide +kernel
theorem dX6_takeIn_25 : decode cX6_takeIn 25 = .ok (.aload_n 2, 1) := by decide +kernel
theorem dX6_takeIn_26 : decode cX6_takeIn 26 = .ok (.arraylength, 1) := by decide +kernel
theorem dX6_takeIn_27 : decode cX6_takeIn 27 = .ok (.iconst 1, 1) := by decide +kernel
theorem dX6_takeIn_28 : decode cX6_takeIn 28 = .ok (.isub, 1) := by decide +kernel
theorem dX6_takeIn_29 : decode cX6_takeIn 29 = .ok (.baload, 1) := by decide +kernel
theorem dX6_takeIn_3 : decode cX6_takeIn 3 = .ok (.iload_n 3, 1) := by decide +kernel
theorem dX6_takeIn_30 : decode cX6_takeIn 30 = .ok (.putfield 47, 3) := by decide +kernel
theorem dX6_takeIn_33 : decode cX6_takeIn 33 = .ok (.aload_n 0, 1) := by decide +kernel
theorem dX6_takeIn_34 : decode cX6_takeIn 34 = .ok (.iload_n 1, 1) := by decide +kernel
theorem dX6_takeIn_35 : decode cX6_takeIn 35 = .ok (.putfield 25, 3) := by decide +kernel
theorem dX6_takeIn_38 : decode cX6_takeIn 38 = .ok (.return_, 1) := by decide +kernel
theorem dX6_takeIn_4 : decode cX6_takeIn 4 = .ok (.invokevirtual 70, 3) := by decide +kernel
theorem dX6_takeIn_7 : decode cX6_takeIn 7 = .ok (.putfield 28, 3) := by decide +kernel
theorem dX6_ticksOf_0 : decode cX6_ticksOf 0 = .ok (.aload_n 0, 1) := by decide +kernel
theorem dX6_ticksOf_1 : decode cX6_ticksOf 1 = .ok (.aload_n 1, 1) := by decide +kernel
theorem dX6_ticksOf_10 : decode cX6_ticksOf 10 = .ok (.ireturn, 1) := by decide +kernel
theorem dX6_ticksOf_2 : decode cX6_ticksOf 2 = .ok (.aload_n 0, 1) := by decide +kernel
theorem dX6_ticksOf_3 : decode cX6_ticksOf 3 = .ok (.aload_n 1, 1) := by decide +kernel
theorem dX6_ticksOf_4 : decode cX6_ticksOf 4 = .ok (.invokevirtual 66, 3) := by decide +kernel
theorem dX6_ticksOf_7 : decode cX6_ticksOf 7 = .ok (.invokevirtual 70, 3) := by decide +kernel
theorem dX6_ticksWith_0 : decode cX6_ticksWith 0 = .ok (.aload_n 0, 1) := by decide +kernel
theorem dX6_ticksWith_1 : decode cX6_ticksWith 1 = .ok (.getfield 18, 3) := by decide +kernel
theorem dX6_ticksWith_12 : decode cX6_ticksWith 12 = .ok (.iconst 1, 1) := by decide +kernel
theorem dX6_ticksWith_13 : decode cX6_ticksWith 13 = .ok (.if_icmp .ge 8, 3) := by decide +kernel
theorem dX6_ticksWith_16 : decode cX6_ticksWith 16 = .ok (.aload_n 0, 1) := by decide +kernel
theorem dX6_ticksWith_17 : decode cX6_ticksWith 17 = .ok (.getfield 22, 3) := by decide +kernel
theorem dX6_ticksWith_20 : decode cX6_ticksWith 20 = .ok (.ireturn, 1) := by decide +kernel
theorem dX6_ticksWith_21 : decode cX6_ticksWith 21 = .ok (.aload_n 1, 1) := by decide +kernel
theorem dX6_ticksWith_22 : decode cX6_ticksWith 22 = .ok (.arraylength, 1) := by decide +kernel
theorem dX6_ticksWith_23 : decode cX6_ticksWith 23 = .ok (.iload_n 2, 1) := by decide +kernel
theorem dX6_ticksWith_24 : decode cX6_ticksWith 24 = .ok (.aload_n 0, 1) := by decide +kernel
theorem dX6_ticksWith_25 : decode cX6_ticksWith 25 = .ok (.getfield 22, 3) := by decide +kernel
theorem dX6_ticksWith_28 : decode cX6_ticksWith 28 = .ok (.iadd, 1) := by decide +kernel
theorem dX6_ticksWith_29 : decode cX6_ticksWith 29 = .ok (.iconst 1, 1) := by decide +kernel
theorem dX6_ticksWith_30 : decode cX6_ticksWith 30 = .ok (.isub, 1) := by decide +kernel
theorem dX6_ticksWith_31 : decode cX6_ticksWith 31 = .ok (.aload_n 0, 1) := by decide +kernel
theorem dX6_ticksWith_32 : decode cX6_ticksWith 32 = .ok (.getfield 22, 3) := by decide +kernel
theorem dX6_ticksWith_35 : decode cX6_ticksWith 35 = .ok (.idiv, 1) := by decide +kernel
theorem dX6_ticksWith_36 : decode cX6_ticksWith 36 = .ok (.iadd, 1) := by decide +kernel
theorem dX6_ticksWith_37 : decode cX6_ticksWith 37 = .ok (.ireturn, 1) := by decide +kernel
theorem dX6_ticksWith_4 : decode cX6_ticksWith 4 = .ok (.iconst 3, 1) := by decide +kernel
theorem dX6_ticksWith_5 : decode cX6_ticksWith 5 = .ok (.if_icmp .ne 11, 3) := by decide +kernel
theorem dX6_ticksWith_8 : decode cX6_ticksWith 8 = .ok (.aload_n 0, 1) := by decide +kernel
theorem dX6_ticksWith_9 : decode cX6_ticksWith 9 = .ok (.getfield 22, 3) := by decide +kernel
theorem dX6_turnsOf_0 : decode cX6_turnsOf 0 = .ok (.aload_n 0, 1) := by decide +kernel
theorem dX6_turnsOf_1 : decode cX6_turnsOf 1 = .ok (.getfield 18, 3) := by decide +kernel
theorem dX6_turnsOf_10 : decode cX6_turnsOf 10 = .ok (.getfield 47, 3) := by decide +kernel
theorem dX6_turnsOf_13 : decode cX6_turnsOf 13 = .ok (.invokestatic 62, 3) := by decide +kernel
theorem dX6_turnsOf_16 : decode cX6_turnsOf 16 = .ok (.goto 4, 3) := by decide +kernel
theorem dX6_turnsOf_19 : decode cX6_turnsOf 19 = .ok (.iconst 0, 1) := by decide +kernel
theorem dX6_turnsOf_20 : decode cX6_turnsOf 20 = .ok (.ireturn, 1) := by decide +kernel
theorem dX6_turnsOf_4 : decode cX6_turnsOf 4 = .ok (.iconst 3, 1) := by decide +kernel
theorem dX6_turnsOf_5 : decode cX6_turnsOf 5 = .ok (.if_icmp .ne 14, 3) := by decide +kernel
theorem dX6_turnsOf_8 : decode cX6_turnsOf 8 = .ok (.aload_n 1, 1) := by decide +kernel
theorem dX6_turnsOf_9 : decode cX6_turnsOf 9 = .ok (.aload_n 0, 1) := by decide +kernel
theorem dX6_useSign_0 : decode cX6_useSign 0 = .ok (.aload_n 0, 1) := by decide +kernel
theorem dX6_useSign_1 : decode cX6_useSign 1 = .ok (.getfield 13, 3) := by decide +kernel
theorem dX6_useSign_12 : decode cX6_useSign 12 = .ok (.aload_n 0, 1) := by decide +kernel
theorem dX6_useSign_13 : decode cX6_useSign 13 = .ok (.getfield 31, 3) := by decide +kernel
theorem dX6_useSign_16 : decode cX6_useSign 16 = .ok (.aload_n 0, 1) := by decide +kernel
theorem dX6_useSign_17 : decode cX6_useSign 17 = .ok (.getfield 13, 3) := by decide +kernel
theorem dX6_useSign_20 : decode cX6_useSign 20 = .ok (.arraylength, 1) := by decide +kernel
theorem dX6_useSign_21 : decode cX6_useSign 21 = .ok (.irem, 1) := by decide +kernel
theorem dX6_useSign_22 : decode cX6_useSign 22 = .ok (.baload, 1) := by decide +kernel
theorem dX6_useSign_23 : decode cX6_useSign 23 = .ok (.bipush 49, 2) := by decide +kernel
theorem dX6_useSign_25 : decode cX6_useSign 25 = .ok (.if_icmp .ne 7, 3) := by decide +kernel
theorem dX6_useSign_28 : decode cX6_useSign 28 = .ok (.iconst 1, 1) := by decide +kernel
theorem dX6_useSign_29 : decode cX6_useSign 29 = .ok (.goto 4, 3) := by decide +kernel
theorem dX6_useSign_32 : decode cX6_useSign 32 = .ok (.iconst 0, 1) := by decide +kernel
theorem dX6_useSign_33 : decode cX6_useSign 33 = .ok (.istore_n 1, 1) := by decide +kernel
theorem dX6_useSign_34 : decode cX6_useSign 34 = .ok (.aload_n 0, 1) := by decide +kernel
theorem dX6_useSign_35 : decode cX6_useSign 35 = .ok (.dup, 1) := by decide +kernel
theorem dX6_useSign_36 : decode cX6_useSign 36 = .ok (.getfield 31, 3) := by decide +kernel
theorem dX6_useSign_39 : decode cX6_useSign 39 = .ok (.iconst 1, 1) := by decide +kernel
theorem dX6_useSign_4 : decode cX6_useSign 4 = .ok (.arraylength, 1) := by decide +kernel
theorem dX6_useSign_40 : decode cX6_useSign 40 = .ok (.iadd, 1) := by decide +kernel
theorem dX6_useSign_41 : decode cX6_useSign 41 = .ok (.putfield 31, 3) := by decide +kernel
theorem dX6_useSign_44 : decode cX6_useSign 44 = .ok (.aload_n 0, 1) := by decide +kernel
theorem dX6_useSign_45 : decode cX6_useSign 45 = .ok (.dup, 1) := by decide +kernel
theorem dX6_useSign_46 : decode cX6_useSign 46 = .ok (.getfield 34, 3) := by decide +kernel
theorem dX6_useSign_49 : decode cX6_useSign 49 = .ok (.iconst 1, 1) := by decide +kernel
theorem dX6_useSign_5 : decode cX6_useSign 5 = .ok (.ifCond .le 27, 3) := by decide +kernel
theorem dX6_useSign_50 : decode cX6_useSign 50 = .ok (.iadd, 1) := by decide +kernel
theorem dX6_useSign_51 : decode cX6_useSign 51 = .ok (.putfield 34, 3) := by decide +kernel
theorem dX6_useSign_54 : decode cX6_useSign 54 = .ok (.aload_n 0, 1) := by decide +kernel
theorem dX6_useSign_55 : decode cX6_useSign 55 = .ok (.getfield 50, 3) := by decide +kernel
theorem dX6_useSign_58 : decode cX6_useSign 58 = .ok (.ifCond .le 27, 3) := by decide +kernel
theorem dX6_useSign_61 : decode cX6_useSign 61 = .ok (.aload_n 0, 1) := by decide +kernel
theorem dX6_useSign_62 : decode cX6_useSign 62 = .ok (.getfield 34, 3) := by decide +kernel
theorem dX6_useSign_65 : decode cX6_useSign 65 = .ok (.aload_n 0, 1) := by decide +kernel
theorem dX6_useSign_66 : decode cX6_useSign 66 = .ok (.getfield 50, 3) := by decide +kernel
theorem dX6_useSign_69 : decode cX6_useSign 69 = .ok (.if_icmp .lt 16, 3) := by decide +kernel
theorem dX6_useSign_72 : decode cX6_useSign 72 = .ok (.aload_n 0, 1) := by decide +kernel
theorem dX6_useSign_73 : decode cX6_useSign 73 = .ok (.aload_n 0, 1) := by decide +kernel
theorem dX6_useSign_74 : decode cX6_useSign 74 = .ok (.getfield 53, 3) := by decide +kernel
theorem dX6_useSign_77 : decode cX6_useSign 77 = .ok (.putfield 56, 3) := by decide +kernel
theorem dX6_useSign_8 : decode cX6_useSign 8 = .ok (.aload_n 0, 1) := by decide +kernel
theorem dX6_useSign_80 : decode cX6_useSign 80 = .ok (.aload_n 0, 1) := by decide +kernel
theorem dX6_useSign_81 : decode cX6_useSign 81 = .ok (.iconst 0, 1) := by decide +kernel
theorem dX6_useSign_82 : decode cX6_useSign 82 = .ok (.putfield 34, 3) := by decide +kernel
theorem dX6_useSign_85 : decode cX6_useSign 85 = .ok (.iload_n 1, 1) := by decide +kernel
theorem dX6_useSign_86 : decode cX6_useSign 86 = .ok (.ireturn, 1) := by decide +kernel
theorem dX6_useSign_9 : decode cX6_useSign 9 = .ok (.getfield 13, 3) := by decide +kernel
theorem dX7_allIn_0 : decode cX7_allIn 0 = .ok (.aload_n 0, 1) := by decide +kernel
theorem dX7_allIn_1 : decode cX7_allIn 1 = .ok (.invokevirtual 330, 3) := by decide +kernel
theorem dX7_allIn_11 : decode cX7_allIn 11 = .ok (.invokestatic 340, 3) := by decide +kernel
theorem dX7_allIn_14 : decode cX7_allIn 14 = .ok (.ireturn, 1) := by decide +kernel
theorem dX7_allIn_4 : decode cX7_allIn 4 = .ok (.getstatic 347, 3) := by decide +kernel
theorem dX7_allIn_7 : decode cX7_allIn 7 = .ok (.iconst (-1), 1) := by decide +kernel
theorem dX7_allIn_8 : decode cX7_allIn 8 = .ok (.sipush 2000, 3) := by decide +kernel
theorem dX7_append_0 : decode cX7_append 0 = .ok (.aload_n 0, 1) := by decide +kernel
theorem dX7_append_1 : decode cX7_append 1 = .ok (.getfield 22, 3) := by decide +kernel
theorem dX7_append_11 : decode cX7_append 11 = .ok (.aload_n 0, 1) := by decide +kernel
theorem dX7_append_12 : decode cX7_append 12 = .ok (.getfield 22, 3) := by decide +kernel
theorem dX7_append_15 : decode cX7_append 15 = .ok (.getfield 65, 3) := by decide +kernel
theorem dX7_append_18 : decode cX7_append 18 = .ok (.goto 5, 3) := by decide +kernel
theorem dX7_append_21 : decode cX7_append 21 = .ok (.bipush (-2), 2) := by decide +kernel
theorem dX7_append_23 : decode cX7_append 23 = .ok (.ireturn, 1) := by decide +kernel
theorem dX7_append_4 : decode cX7_append 4 = .ok (.lload_n 1, 1) := by decide +kernel
theorem dX7_append_5 : decode cX7_append 5 = .ok (.invokevirtual 61, 3) := by decide +kernel
theorem dX7_append_8 : decode cX7_append 8 = .ok (.ifCond .eq 13, 3) := by decide +kernel
theorem dX7_bestRank_0 : decode cX7_bestRank 0 = .ok (.aload_n 0, 1) := by decide +kernel
theorem dX7_bestRank_1 : decode cX7_bestRank 1 = .ok (.iload_n 1, 1) := by decide +kernel
theorem dX7_bestRank_10 : decode cX7_bestRank 10 = .ok (.istore_n 3, 1) := by decide +kernel
theorem dX7_bestRank_11 : decode cX7_bestRank 11 = .ok (.iconst 0, 1) := by decide +kernel
theorem dX7_bestRank_12 : decode cX7_bestRank 12 = .ok (.istore 4, 2) := by decide +kernel
theorem dX7_bestRank_14 : decode cX7_bestRank 14 = .ok (.iload 4, 2) := by decide +kernel
theorem dX7_bestRank_16 : decode cX7_bestRank 16 = .ok (.bipush 9, 2) := by decide +kernel
theorem dX7_bestRank_18 : decode cX7_bestRank 18 = .ok (.if_icmp .gt 57, 3) := by decide +kernel
theorem dX7_bestRank_2 : decode cX7_bestRank 2 = .ok (.invokevirtual 214, 3) := by decide +kernel
theorem dX7_bestRank_21 : decode cX7_bestRank 21 = .ok (.iload_n 3, 1) := by decide +kernel
theorem dX7_bestRank_22 : decode cX7_bestRank 22 = .ok (.ifCond .lt 53, 3) := by decide +kernel
theorem dX7_bestRank_25 : decode cX7_bestRank 25 = .ok (.aload_n 0, 1) := by decide +kernel
theorem dX7_bestRank_26 : decode cX7_bestRank 26 = .ok (.invokevirtual 330, 3) := by decide +kernel
theorem dX7_bestRank_29 : decode cX7_bestRank 29 = .ok (.astore 5, 2) := by decide +kernel
theorem dX7_bestRank_31 : decode cX7_bestRank 31 = .ok (.aload 5, 2) := by decide +kernel
theorem dX7_bestRank_33 : decode cX7_bestRank 33 = .ok (.getfield 217, 3) := by decide +kernel
theorem dX7_bestRank_36 : decode cX7_bestRank 36 = .ok (.iload_n 1, 1) := by decide +kernel
theorem dX7_bestRank_37 : decode cX7_bestRank 37 = .ok (.aaload, 1) := by decide +kernel
theorem dX7_bestRank_38 : decode cX7_bestRank 38 = .ok (.iload 4, 2) := by decide +kernel
theorem dX7_bestRank_40 : decode cX7_bestRank 40 = .ok (.putfield 221, 3) := by decide +kernel
theorem dX7_bestRank_43 : decode cX7_bestRank 43 = .ok (.aload 5, 2) := by decide +kernel
theorem dX7_bestRank_45 : decode cX7_bestRank 45 = .ok (.getstatic 344, 3) := by decide +kernel
theorem dX7_bestRank_48 : decode cX7_bestRank 48 = .ok (.iload_n 1, 1) := by decide +kernel
theorem dX7_bestRank_49 : decode cX7_bestRank 49 = .ok (.iload_n 3, 1) := by decide +kernel
theorem dX7_bestRank_5 : decode cX7_bestRank 5 = .ok (.iconst (-1), 1) := by decide +kernel
theorem dX7_bestRank_50 : decode cX7_bestRank 50 = .ok (.invokestatic 340, 3) := by decide +kernel
theorem dX7_bestRank_53 : decode cX7_bestRank 53 = .ok (.istore 6, 2) := by decide +kernel
theorem dX7_bestRank_55 : decode cX7_bestRank 55 = .ok (.iload 6, 2) := by decide +kernel
theorem dX7_bestRank_57 : decode cX7_bestRank 57 = .ok (.iconst (-1), 1) := by decide +kernel
theorem dX7_bestRank_58 : decode cX7_bestRank 58 = .ok (.if_icmp .eq 11, 3) := by decide +kernel
theorem dX7_bestRank_6 : decode cX7_bestRank 6 = .ok (.istore_n 2, 1) := by decide +kernel
theorem dX7_bestRank_61 : decode cX7_bestRank 61 = .ok (.iload 4, 2) := by decide +kernel
theorem dX7_bestRank_63 : decode cX7_bestRank 63 = .ok (.istore_n 2, 1) := by decide +kernel
theorem dX7_bestRank_64 : decode cX7_bestRank 64 = .ok (.iload 6, 2) := by decide +kernel
theorem dX7_bestRank_66 : decode cX7_bestRank 66 = .ok (.iconst 1, 1) := by decide +kernel
theorem dX7_bestRank_67 : decode cX7_bestRank 67 = .ok (.isub, 1) := by decide +kernel
theorem dX7_bestRank_68 : decode cX7_bestRank 68 = .ok (.istore_n 3, 1) := by decide +kernel
theorem dX7_bestRank_69 : decode cX7_bestRank 69 = .ok (.iinc 4 1, 3) := by decide +kernel
theorem dX7_bestRank_7 : decode cX7_bestRank 7 = .ok (.sipush 2000, 3) := by decide +kernel
theorem dX7_bestRank_72 : decode cX7_bestRank 72 = .ok (.goto (-58), 3) := by decide +kernel
theorem dX7_bestRank_75 : decode cX7_bestRank 75 = .ok (.iload_n 2, 1) := by decide +kernel
theorem dX7_bestRank_76 : decode cX7_bestRank 76 = .ok (.ireturn, 1) := by decide +kernel
theorem dX7_bestTray_0 : decode cX7_bestTray 0 = .ok (.iconst (-1), 1) := by decide +kernel
theorem dX7_bestTray_1 : decode cX7_bestTray 1 = .ok (.istore_n 1, 1) := by decide +kernel
theorem dX7_bestTray_11 : decode cX7_bestTray 11 = .ok (.if_icmp .gt 50, 3) := by decide +kernel
theorem dX7_bestTray_14 : decode cX7_bestTray 14 = .ok (.iload_n 2, 1) := by decide +kernel
theorem dX7_bestTray_15 : decode cX7_bestTray 15 = .ok (.ifCond .lt 46, 3) := by decide +kernel
theorem dX7_bestTray_18 : decode cX7_bestTray 18 = .ok (.aload_n 0, 1) := by decide +kernel
theorem dX7_bestTray_19 : decode cX7_bestTray 19 = .ok (.invokevirtual 330, 3) := by decide +kernel
theorem dX7_bestTray_2 : decode cX7_bestTray 2 = .ok (.sipush 2000, 3) := by decide +kernel
theorem dX7_bestTray_22 : decode cX7_bestTray 22 = .ok (.astore 4, 2) := by decide +kernel
theorem dX7_bestTray_24 : decode cX7_bestTray 24 = .ok (.aload 4, 2) := by decide +kernel
theorem dX7_bestTray_26 : decode cX7_bestTray 26 = .ok (.iload_n 3, 1) := by decide +kernel
theorem dX7_bestTray_27 : decode cX7_bestTray 27 = .ok (.putfield 121, 3) := by decide +kernel
theorem dX7_bestTray_30 : decode cX7_bestTray 30 = .ok (.aload 4, 2) := by decide +kernel
theorem dX7_bestTray_32 : decode cX7_bestTray 32 = .ok (.getstatic 347, 3) := by decide +kernel
theorem dX7_bestTray_35 : decode cX7_bestTray 35 = .ok (.iconst (-1), 1) := by decide +kernel
theorem dX7_bestTray_36 : decode cX7_bestTray 36 = .ok (.iload_n 2, 1) := by decide +kernel
theorem dX7_bestTray_37 : decode cX7_bestTray 37 = .ok (.invokestatic 340, 3) := by decide +kernel
theorem dX7_bestTray_40 : decode cX7_bestTray 40 = .ok (.istore 5, 2) := by decide +kernel
theorem dX7_bestTray_42 : decode cX7_bestTray 42 = .ok (.iload 5, 2) := by decide +kernel
theorem dX7_bestTray_44 : decode cX7_bestTray 44 = .ok (.iconst (-1), 1) := by decide +kernel
theorem dX7_bestTray_45 : decode cX7_bestTray 45 = .ok (.if_icmp .eq 10, 3) := by decide +kernel
theorem dX7_bestTray_48 : decode cX7_bestTray 48 = .ok (.iload_n 3, 1) := by decide +kernel
theorem dX7_bestTray_49 : decode cX7_bestTray 49 = .ok (.istore_n 1, 1) := by decide +kernel
theorem dX7_bestTray_5 : decode cX7_bestTray 5 = .ok (.istore_n 2, 1) := by decide +kernel
theorem dX7_bestTray_50 : decode cX7_bestTray 50 = .ok (.iload 5, 2) := by decide +kernel
theorem dX7_bestTray_52 : decode cX7_bestTray 52 = .ok (.iconst 1, 1) := by decide +kernel
theorem dX7_bestTray_53 : decode cX7_bestTray 53 = .ok (.isub, 1) := by decide +kernel
theorem dX7_bestTray_54 : decode cX7_bestTray 54 = .ok (.istore_n 2, 1) := by decide +kernel
theorem dX7_bestTray_55 : decode cX7_bestTray 55 = .ok (.iinc 3 1, 3) := by decide +kernel
theorem dX7_bestTray_58 : decode cX7_bestTray 58 = .ok (.goto (-50), 3) := by decide +kernel
theorem dX7_bestTray_6 : decode cX7_bestTray 6 = .ok (.iconst 1, 1) := by decide +kernel
theorem dX7_bestTray_61 : decode cX7_bestTray 61 = .ok (.iload_n 1, 1) := by decide +kernel
theorem dX7_bestTray_62 : decode cX7_bestTray 62 = .ok (.ireturn, 1) := by decide +kernel
theorem dX7_bestTray_7 : decode cX7_bestTray 7 = .ok (.istore_n 3, 1) := by decide +kernel
theorem dX7_bestTray_8 : decode cX7_bestTray 8 = .ok (.iload_n 3, 1) := by decide +kernel
theorem dX7_bestTray_9 : decode cX7_bestTray 9 = .ok (.bipush 20, 2) := by decide +kernel
theorem dX7_blanksIn_0 : decode cX7_blanksIn 0 = .ok (.iload_n 1, 1) := by decide +kernel
theorem dX7_blanksIn_1 : decode cX7_blanksIn 1 = .ok (.iconst 1, 1) := by decide +kernel
theorem dX7_blanksIn_10 : decode cX7_blanksIn 10 = .ok (.invokevirtual 350, 3) := by decide +kernel
theorem dX7_blanksIn_13 : decode cX7_blanksIn 13 = .ok (.getfield 110, 3) := by decide +kernel
theorem dX7_blanksIn_16 : decode cX7_blanksIn 16 = .ok (.ireturn, 1) := by decide +kernel
theorem dX7_blanksIn_2 : decode cX7_blanksIn 2 = .ok (.sipush 2000, 3) := by decide +kernel
theorem dX7_blanksIn_5 : decode cX7_blanksIn 5 = .ok (.invokestatic 251, 3) := by decide +kernel
theorem dX7_blanksIn_8 : decode cX7_blanksIn 8 = .ok (.aload_n 0, 1) := by decide +kernel
theorem dX7_blanksIn_9 : decode cX7_blanksIn 9 = .ok (.iload_n 1, 1) := by decide +kernel
theorem dX7_bottleneck_0 : decode cX7_bottleneck 0 = .ok (.iconst (-1), 1) := by decide +kernel
theorem dX7_bottleneck_1 : decode cX7_bottleneck 1 = .ok (.istore_n 1, 1) := by decide +kernel
theorem dX7_bottleneck_11 : decode cX7_bottleneck 11 = .ok (.getfield 81, 3) := by decide +kernel
theorem dX7_bottleneck_14 : decode cX7_bottleneck 14 = .ok (.if_icmp .ge 30, 3) := by decide +kernel
theorem dX7_bottleneck_17 : decode cX7_bottleneck 17 = .ok (.aload_n 0, 1) := by decide +kernel
theorem dX7_bottleneck_18 : decode cX7_bottleneck 18 = .ok (.getfield 10, 3) := by decide +kernel
theorem dX7_bottleneck_2 : decode cX7_bottleneck 2 = .ok (.iconst (-1), 1) := by decide +kernel
theorem dX7_bottleneck_21 : decode cX7_bottleneck 21 = .ok (.iload_n 3, 1) := by decide +kernel
theorem dX7_bottleneck_22 : decode cX7_bottleneck 22 = .ok (.invokevirtual 286, 3) := by decide +kernel
theorem dX7_bottleneck_25 : decode cX7_bottleneck 25 = .ok (.istore 4, 2) := by decide +kernel
theorem dX7_bottleneck_27 : decode cX7_bottleneck 27 = .ok (.iload 4, 2) := by decide +kernel
theorem dX7_bottleneck_29 : decode cX7_bottleneck 29 = .ok (.iload_n 2, 1) := by decide +kernel
theorem dX7_bottleneck_3 : decode cX7_bottleneck 3 = .ok (.istore_n 2, 1) := by decide +kernel
theorem dX7_bottleneck_30 : decode cX7_bottleneck 30 = .ok (.if_icmp .le 8, 3) := by decide +kernel
theorem dX7_bottleneck_33 : decode cX7_bottleneck 33 = .ok (.iload 4, 2) := by decide +kernel
theorem dX7_bottleneck_35 : decode cX7_bottleneck 35 = .ok (.istore_n 2, 1) := by decide +kernel
theorem dX7_bottleneck_36 : decode cX7_bottleneck 36 = .ok (.iload_n 3, 1) := by decide +kernel
theorem dX7_bottleneck_37 : decode cX7_bottleneck 37 = .ok (.istore_n 1, 1) := by decide +kernel
theorem dX7_bottleneck_38 : decode cX7_bottleneck 38 = .ok (.iinc 3 1, 3) := by decide +kernel
theorem dX7_bottleneck_4 : decode cX7_bottleneck 4 = .ok (.iconst 0, 1) := by decide +kernel
theorem dX7_bottleneck_41 : decode cX7_bottleneck 41 = .ok (.goto (-35), 3) := by decide +kernel
theorem dX7_bottleneck_44 : decode cX7_bottleneck 44 = .ok (.iload_n 1, 1) := by decide +kernel
theorem dX7_bottleneck_45 : decode cX7_bottleneck 45 = .ok (.ireturn, 1) := by decide +kernel
theorem dX7_bottleneck_5 : decode cX7_bottleneck 5 = .ok (.istore_n 3, 1) := by decide +kernel
theorem dX7_bottleneck_6 : decode cX7_bottleneck 6 = .ok (.iload_n 3, 1) := by decide +kernel
theorem dX7_bottleneck_7 : decode cX7_bottleneck 7 = .ok (.aload_n 0, 1) := by decide +kernel
theorem dX7_bottleneck_8 : decode cX7_bottleneck 8 = .ok (.getfield 10, 3) := by decide +kernel
theorem dX7_busyPart_0 : decode cX7_busyPart 0 = .ok (.aload_n 0, 1) := by decide +kernel
theorem dX7_busyPart_1 : decode cX7_busyPart 1 = .ok (.iload_n 1, 1) := by decide +kernel
theorem dX7_busyPart_12 : decode cX7_busyPart 12 = .ok (.istore_n 2, 1) := by decide +kernel
theorem dX7_busyPart_13 : decode cX7_busyPart 13 = .ok (.iload_n 2, 1) := by decide +kernel
theorem dX7_busyPart_14 : decode cX7_busyPart 14 = .ok (.ifCond .ne 7, 3) := by decide +kernel
theorem dX7_busyPart_17 : decode cX7_busyPart 17 = .ok (.fconst 0, 1) := by decide +kernel
theorem dX7_busyPart_18 : decode cX7_busyPart 18 = .ok (.goto 19, 3) := by decide +kernel
theorem dX7_busyPart_2 : decode cX7_busyPart 2 = .ok (.invokevirtual 133, 3) := by decide +kernel
theorem dX7_busyPart_21 : decode cX7_busyPart 21 = .ok (.aload_n 0, 1) := by decide +kernel
theorem dX7_busyPart_22 : decode cX7_busyPart 22 = .ok (.getfield 10, 3) := by decide +kernel
theorem dX7_busyPart_25 : decode cX7_busyPart 25 = .ok (.getfield 137, 3) := by decide +kernel
theorem dX7_busyPart_28 : decode cX7_busyPart 28 = .ok (.iload_n 1, 1) := by decide +kernel
theorem dX7_busyPart_29 : decode cX7_busyPart 29 = .ok (.aaload, 1) := by decide +kernel
theorem dX7_busyPart_30 : decode cX7_busyPart 30 = .ok (.getfield 180, 3) := by decide +kernel
theorem dX7_busyPart_33 : decode cX7_busyPart 33 = .ok (.i2f, 1) := by decide +kernel
theorem dX7_busyPart_34 : decode cX7_busyPart 34 = .ok (.iload_n 2, 1) := by decide +kernel
theorem dX7_busyPart_35 : decode cX7_busyPart 35 = .ok (.i2f, 1) := by decide +kernel
theorem dX7_busyPart_36 : decode cX7_busyPart 36 = .ok (.fdiv, 1) := by decide +kernel
theorem dX7_busyPart_37 : decode cX7_busyPart 37 = .ok (.freturn, 1) := by decide +kernel
theorem dX7_busyPart_5 : decode cX7_busyPart 5 = .ok (.aload_n 0, 1) := by decide +kernel
theorem dX7_busyPart_6 : decode cX7_busyPart 6 = .ok (.getfield 10, 3) := by decide +kernel
theorem dX7_busyPart_9 : decode cX7_busyPart 9 = .ok (.getfield 263, 3) := by decide +kernel
theorem dX7_cardOf_0 : decode cX7_cardOf 0 = .ok (.aload_n 0, 1) := by decide +kernel
theorem dX7_cardOf_1 : decode cX7_cardOf 1 = .ok (.iload_n 1, 1) := by decide +kernel
theorem dX7_cardOf_12 : decode cX7_cardOf 12 = .ok (.iload_n 1, 1) := by decide +kernel
theorem dX7_cardOf_13 : decode cX7_cardOf 13 = .ok (.aaload, 1) := by decide +kernel
theorem dX7_cardOf_14 : decode cX7_cardOf 14 = .ok (.iload_n 2, 1) := by decide +kernel
theorem dX7_cardOf_15 : decode cX7_cardOf 15 = .ok (.invokevirtual 241, 3) := by decide +kernel
theorem dX7_cardOf_18 : decode cX7_cardOf 18 = .ok (.ireturn, 1) := by decide +kernel
theorem dX7_cardOf_2 : decode cX7_cardOf 2 = .ok (.invokevirtual 214, 3) := by decide +kernel
theorem dX7_cardOf_5 : decode cX7_cardOf 5 = .ok (.aload_n 0, 1) := by decide +kernel
theorem dX7_cardOf_6 : decode cX7_cardOf 6 = .ok (.getfield 10, 3) := by decide +kernel
theorem dX7_cardOf_9 : decode cX7_cardOf 9 = .ok (.getfield 217, 3) := by decide +kernel
theorem dX7_card_0 : decode cX7_card 0 = .ok (.aload_n 0, 1) := by decide +kernel
theorem dX7_card_1 : decode cX7_card 1 = .ok (.iload_n 1, 1) := by decide +kernel
theorem dX7_card_100 : decode cX7_card 100 = .ok (.aload_n 3, 1) := by decide +kernel
theorem dX7_card_101 : decode cX7_card 101 = .ok (.getfield 211, 3) := by decide +kernel
theorem dX7_card_104 : decode cX7_card 104 = .ok (.ireturn, 1) := by decide +kernel
theorem dX7_card_105 : decode cX7_card 105 = .ok (.new 105, 3) := by decide +kernel
theorem dX7_card_108 : decode cX7_card 108 = .ok (.dup, 1) := by decide +kernel
theorem dX7_card_109 : decode cX7_card 109 = .ok (.ldc 116, 2) := by decide +kernel
theorem dX7_card_111 : decode cX7_card 111 = .ok (.invokespecial 109, 3) := by decide +kernel
theorem dX7_card_114 : decode cX7_card 114 = .ok (.athrow, 1) := by decide +kernel
theorem dX7_card_12 : decode cX7_card 12 = .ok (.iload_n 1, 1) := by decide +kernel
theorem dX7_card_13 : decode cX7_card 13 = .ok (.aaload, 1) := by decide +kernel
theorem dX7_card_14 : decode cX7_card 14 = .ok (.astore_n 3, 1) := by decide +kernel
theorem dX7_card_15 : decode cX7_card 15 = .ok (.iload_n 2, 1) := by decide +kernel
theorem dX7_card_16 : decode cX7_card 16 = .ok (.tableswitch 89 0 7 #[48, 53, 58, 64, 69, 74, 79, 84], 48) := by decide +kernel
theorem dX7_card_2 : decode cX7_card 2 = .ok (.invokevirtual 183, 3) := by decide +kernel
theorem dX7_card_5 : decode cX7_card 5 = .ok (.aload_n 0, 1) := by decide +kernel
theorem dX7_card_6 : decode cX7_card 6 = .ok (.getfield 10, 3) := by decide +kernel
theorem dX7_card_64 : decode cX7_card 64 = .ok (.aload_n 3, 1) := by decide +kernel
theorem dX7_card_65 : decode cX7_card 65 = .ok (.getfield 190, 3) := by decide +kernel
theorem dX7_card_68 : decode cX7_card 68 = .ok (.ireturn, 1) := by decide +kernel
theorem dX7_card_69 : decode cX7_card 69 = .ok (.aload_n 3, 1) := by decide +kernel
theorem dX7_card_70 : decode cX7_card 70 = .ok (.getfield 195, 3) := by decide +kernel
theorem dX7_card_73 : decode cX7_card 73 = .ok (.ireturn, 1) := by decide +kernel
theorem dX7_card_74 : decode cX7_card 74 = .ok (.aload_n 3, 1) := by decide +kernel
theorem dX7_card_75 : decode cX7_card 75 = .ok (.getfield 198, 3) := by decide +kernel
theorem dX7_card_78 : decode cX7_card 78 = .ok (.arraylength, 1) := by decide +kernel
theorem dX7_card_79 : decode cX7_card 79 = .ok (.ireturn, 1) := by decide +kernel
theorem dX7_card_80 : decode cX7_card 80 = .ok (.aload_n 3, 1) := by decide +kernel
theorem dX7_card_81 : decode cX7_card 81 = .ok (.getfield 201, 3) := by decide +kernel
theorem dX7_card_84 : decode cX7_card 84 = .ok (.ireturn, 1) := by decide +kernel
theorem dX7_card_85 : decode cX7_card 85 = .ok (.aload_n 3, 1) := by decide +kernel
theorem dX7_card_86 : decode cX7_card 86 = .ok (.getfield 204, 3) := by decide +kernel
theorem dX7_card_89 : decode cX7_card 89 = .ok (.ireturn, 1) := by decide +kernel
theorem dX7_card_9 : decode cX7_card 9 = .ok (.getfield 186, 3) := by decide +kernel
theorem dX7_card_90 : decode cX7_card 90 = .ok (.aload_n 3, 1) := by decide +kernel
theorem dX7_card_91 : decode cX7_card 91 = .ok (.getfield 207, 3) := by decide +kernel
theorem dX7_card_94 : decode cX7_card 94 = .ok (.ireturn, 1) := by decide +kernel
theorem dX7_card_95 : decode cX7_card 95 = .ok (.aload_n 3, 1) := by decide +kernel
theorem dX7_card_96 : decode cX7_card 96 = .ok (.getfield 208, 3) := by decide +kernel
theorem dX7_card_99 : decode cX7_card 99 = .ok (.ireturn, 1) := by decide +kernel
theorem dX7_copyBehind_0 : decode cX7_copyBehind 0 = .ok (.aload_n 0, 1) := by decide +kernel
theorem dX7_copyBehind_1 : decode cX7_copyBehind 1 = .ok (.invokevirtual 330, 3) := by decide +kernel
theorem dX7_copyBehind_10 : decode cX7_copyBehind 10 = .ok (.iload 4, 2) := by decide +kernel
theorem dX7_copyBehind_12 : decode cX7_copyBehind 12 = .ok (.iload_n 1, 1) := by decide +kernel
theorem dX7_copyBehind_13 : decode cX7_copyBehind 13 = .ok (.if_icmp .ge 18, 3) := by decide +kernel
theorem dX7_copyBehind_16 : decode cX7_copyBehind 16 = .ok (.iload_n 3, 1) := by decide +kernel
theorem dX7_copyBehind_17 : decode cX7_copyBehind 17 = .ok (.ifCond .eq 14, 3) := by decide +kernel
theorem dX7_copyBehind_20 : decode cX7_copyBehind 20 = .ok (.aload_n 2, 1) := by decide +kernel
theorem dX7_copyBehind_21 : decode cX7_copyBehind 21 = .ok (.invokevirtual 322, 3) := by decide +kernel
theorem dX7_copyBehind_24 : decode cX7_copyBehind 24 = .ok (.istore_n 3, 1) := by decide +kernel
theorem dX7_copyBehind_25 : decode cX7_copyBehind 25 = .ok (.iinc 4 1, 3) := by decide +kernel
theorem dX7_copyBehind_28 : decode cX7_copyBehind 28 = .ok (.goto (-18), 3) := by decide +kernel
theorem dX7_copyBehind_31 : decode cX7_copyBehind 31 = .ok (.aload_n 2, 1) := by decide +kernel
theorem dX7_copyBehind_32 : decode cX7_copyBehind 32 = .ok (.areturn, 1) := by decide +kernel
theorem dX7_copyBehind_4 : decode cX7_copyBehind 4 = .ok (.astore_n 2, 1) := by decide +kernel
theorem dX7_copyBehind_5 : decode cX7_copyBehind 5 = .ok (.iconst 1, 1) := by decide +kernel
theorem dX7_copyBehind_6 : decode cX7_copyBehind 6 = .ok (.istore_n 3, 1) := by decide +kernel
theorem dX7_copyBehind_7 : decode cX7_copyBehind 7 = .ok (.iconst 0, 1) := by decide +kernel
theorem dX7_copyBehind_8 : decode cX7_copyBehind 8 = .ok (.istore 4, 2) := by decide +kernel
theorem dX7_copyOfLine_0 : decode cX7_copyOfLine 0 = .ok (.aload_n 0, 1) := by decide +kernel
theorem dX7_copyOfLine_1 : decode cX7_copyOfLine 1 = .ok (.getfield 16, 3) := by decide +kernel
theorem dX7_copyOfLine_11 : decode cX7_copyOfLine 11 = .ok (.aload_n 0, 1) := by decide +kernel
theorem dX7_copyOfLine_12 : decode cX7_copyOfLine 12 = .ok (.getfield 16, 3) := by decide +kernel
theorem dX7_copyOfLine_15 : decode cX7_copyOfLine 15 = .ok (.areturn, 1) := by decide +kernel
theorem dX7_copyOfLine_4 : decode cX7_copyOfLine 4 = .ok (.aload_n 0, 1) := by decide +kernel
theorem dX7_copyOfLine_5 : decode cX7_copyOfLine 5 = .ok (.getfield 10, 3) := by decide +kernel
theorem dX7_copyOfLine_8 : decode cX7_copyOfLine 8 = .ok (.invokevirtual 78, 3) := by decide +kernel
theorem dX7_count_0 : decode cX7_count 0 = .ok (.iload_n 1, 1) := by decide +kernel
theorem dX7_count_1 : decode cX7_count 1 = .ok (.tableswitch 142 0 9 #[55, 63, 71, 79, 87, 97, 107, 117, 127, 137], 55) := by decide +kernel
theorem dX7_count_102 : decode cX7_count 102 = .ok (.getfield 113, 3) := by decide +kernel
theorem dX7_count_105 : decode cX7_count 105 = .ok (.iconst 1, 1) := by decide +kernel
theorem dX7_count_106 : decode cX7_count 106 = .ok (.iaload, 1) := by decide +kernel
theorem dX7_count_107 : decode cX7_count 107 = .ok (.ireturn, 1) := by decide +kernel
theorem dX7_count_108 : decode cX7_count 108 = .ok (.aload_n 0, 1) := by decide +kernel
theorem dX7_count_109 : decode cX7_count 109 = .ok (.getfield 10, 3) := by decide +kernel
theorem dX7_count_112 : decode cX7_count 112 = .ok (.getfield 113, 3) := by decide +kernel
theorem dX7_count_115 : decode cX7_count 115 = .ok (.iconst 2, 1) := by decide +kernel
theorem dX7_count_116 : decode cX7_count 116 = .ok (.iaload, 1) := by decide +kernel
theorem dX7_count_117 : decode cX7_count 117 = .ok (.ireturn, 1) := by decide +kernel
theorem dX7_count_118 : decode cX7_count 118 = .ok (.aload_n 0, 1) := by decide +kernel
theorem dX7_count_119 : decode cX7_count 119 = .ok (.getfield 10, 3) := by decide +kernel
theorem dX7_count_122 : decode cX7_count 122 = .ok (.getfield 113, 3) := by decide +kernel
theorem dX7_count_125 : decode cX7_count 125 = .ok (.iconst 3, 1) := by decide +kernel
theorem dX7_count_126 : decode cX7_count 126 = .ok (.iaload, 1) := by decide +kernel
theorem dX7_count_127 : decode cX7_count 127 = .ok (.ireturn, 1) := by decide +kernel
theorem dX7_count_128 : decode cX7_count 128 = .ok (.aload_n 0, 1) := by decide +kernel
theorem dX7_count_129 : decode cX7_count 129 = .ok (.getfield 10, 3) := by decide +kernel
theorem dX7_count_132 : decode cX7_count 132 = .ok (.getfield 113, 3) := by decide +kernel
theorem dX7_count_135 : decode cX7_count 135 = .ok (.iconst 4, 1) := by decide +kernel
theorem dX7_count_136 : decode cX7_count 136 = .ok (.iaload, 1) := by decide +kernel
theorem dX7_count_137 : decode cX7_count 137 = .ok (.ireturn, 1) := by decide +kernel
theorem dX7_count_138 : decode cX7_count 138 = .ok (.aload_n 0, 1) := by decide +kernel
theorem dX7_count_139 : decode cX7_count 139 = .ok (.getfield 54, 3) := by decide +kernel
theorem dX7_count_142 : decode cX7_count 142 = .ok (.ireturn, 1) := by decide +kernel
theorem dX7_count_143 : decode cX7_count 143 = .ok (.new 105, 3) := by decide +kernel
theorem dX7_count_146 : decode cX7_count 146 = .ok (.dup, 1) := by decide +kernel
theorem dX7_count_147 : decode cX7_count 147 = .ok (.ldc 116, 2) := by decide +kernel
theorem dX7_count_149 : decode cX7_count 149 = .ok (.invokespecial 109, 3) := by decide +kernel
theorem dX7_count_152 : decode cX7_count 152 = .ok (.athrow, 1) := by decide +kernel
theorem dX7_count_56 : decode cX7_count 56 = .ok (.aload_n 0, 1) := by decide +kernel
theorem dX7_count_57 : decode cX7_count 57 = .ok (.getfield 10, 3) := by decide +kernel
theorem dX7_count_60 : decode cX7_count 60 = .ok (.getfield 81, 3) := by decide +kernel
theorem dX7_count_63 : decode cX7_count 63 = .ok (.ireturn, 1) := by decide +kernel
theorem dX7_count_64 : decode cX7_count 64 = .ok (.aload_n 0, 1) := by decide +kernel
theorem dX7_count_65 : decode cX7_count 65 = .ok (.getfield 10, 3) := by decide +kernel
theorem dX7_count_68 : decode cX7_count 68 = .ok (.getfield 100, 3) := by decide +kernel
theorem dX7_count_71 : decode cX7_count 71 = .ok (.ireturn, 1) := by decide +kernel
theorem dX7_count_72 : decode cX7_count 72 = .ok (.aload_n 0, 1) := by decide +kernel
theorem dX7_count_73 : decode cX7_count 73 = .ok (.getfield 10, 3) := by decide +kernel
theorem dX7_count_76 : decode cX7_count 76 = .ok (.getfield 95, 3) := by decide +kernel
theorem dX7_count_79 : decode cX7_count 79 = .ok (.ireturn, 1) := by decide +kernel
theorem dX7_count_80 : decode cX7_count 80 = .ok (.aload_n 0, 1) := by decide +kernel
theorem dX7_count_81 : decode cX7_count 81 = .ok (.getfield 10, 3) := by decide +kernel
theorem dX7_count_84 : decode cX7_count 84 = .ok (.getfield 110, 3) := by decide +kernel
theorem dX7_count_87 : decode cX7_count 87 = .ok (.ireturn, 1) := by decide +kernel
theorem dX7_count_88 : decode cX7_count 88 = .ok (.aload_n 0, 1) := by decide +kernel
theorem dX7_count_89 : decode cX7_count 89 = .ok (.getfield 10, 3) := by decide +kernel
theorem dX7_count_92 : decode cX7_count 92 = .ok (.getfield 113, 3) := by decide +kernel
theorem dX7_count_95 : decode cX7_count 95 = .ok (.iconst 0, 1) := by decide +kernel
theorem dX7_count_96 : decode cX7_count 96 = .ok (.iaload, 1) := by decide +kernel
theorem dX7_count_97 : decode cX7_count 97 = .ok (.ireturn, 1) := by decide +kernel
theorem dX7_count_98 : decode cX7_count 98 = .ok (.aload_n 0, 1) := by decide +kernel
theorem dX7_count_99 : decode cX7_count 99 = .ok (.getfield 10, 3) := by decide +kernel
theorem dX7_day_0 : decode cX7_day 0 = .ok (.aload_n 0, 1) := by decide +kernel
theorem dX7_day_1 : decode cX7_day 1 = .ok (.iload_n 2, 1) := by decide +kernel
theorem dX7_day_10 : decode cX7_day 10 = .ok (.ifCond .lt 8, 3) := by decide +kernel
theorem dX7_day_100 : decode cX7_day 100 = .ok (.ireturn, 1) := by decide +kernel
theorem dX7_day_13 : decode cX7_day 13 = .ok (.iload_n 3, 1) := by decide +kernel
theorem dX7_day_14 : decode cX7_day 14 = .ok (.iconst 1, 1) := by decide +kernel
theorem dX7_day_15 : decode cX7_day 15 = .ok (.if_icmp .le 14, 3) := by decide +kernel
theorem dX7_day_18 : decode cX7_day 18 = .ok (.new 105, 3) := by decide +kernel
theorem dX7_day_2 : decode cX7_day 2 = .ok (.invokevirtual 214, 3) := by decide +kernel
theorem dX7_day_21 : decode cX7_day 21 = .ok (.dup, 1) := by decide +kernel
theorem dX7_day_22 : decode cX7_day 22 = .ok (.ldc_w 266, 3) := by decide +kernel
theorem dX7_day_25 : decode cX7_day 25 = .ok (.invokespecial 109, 3) := by decide +kernel
theorem dX7_day_28 : decode cX7_day 28 = .ok (.athrow, 1) := by decide +kernel
theorem dX7_day_29 : decode cX7_day 29 = .ok (.aload_n 0, 1) := by decide +kernel
theorem dX7_day_30 : decode cX7_day 30 = .ok (.getfield 10, 3) := by decide +kernel
theorem dX7_day_33 : decode cX7_day 33 = .ok (.invokevirtual 268, 3) := by decide +kernel
theorem dX7_day_36 : decode cX7_day 36 = .ok (.istore 4, 2) := by decide +kernel
theorem dX7_day_38 : decode cX7_day 38 = .ok (.iload_n 1, 1) := by decide +kernel
theorem dX7_day_39 : decode cX7_day 39 = .ok (.bipush 10, 2) := by decide +kernel
theorem dX7_day_41 : decode cX7_day 41 = .ok (.if_icmp .ge 9, 3) := by decide +kernel
theorem dX7_day_44 : decode cX7_day 44 = .ok (.iload_n 1, 1) := by decide +kernel
theorem dX7_day_45 : decode cX7_day 45 = .ok (.iload 4, 2) := by decide +kernel
theorem dX7_day_47 : decode cX7_day 47 = .ok (.if_icmp .lt 5, 3) := by decide +kernel
theorem dX7_day_5 : decode cX7_day 5 = .ok (.iload_n 1, 1) := by decide +kernel
theorem dX7_day_50 : decode cX7_day 50 = .ok (.iconst (-1), 1) := by decide +kernel
theorem dX7_day_51 : decode cX7_day 51 = .ok (.ireturn, 1) := by decide +kernel
theorem dX7_day_52 : decode cX7_day 52 = .ok (.iload 4, 2) := by decide +kernel
theorem dX7_day_54 : decode cX7_day 54 = .ok (.iconst 1, 1) := by decide +kernel
theorem dX7_day_55 : decode cX7_day 55 = .ok (.isub, 1) := by decide +kernel
theorem dX7_day_56 : decode cX7_day 56 = .ok (.iload_n 1, 1) := by decide +kernel
theorem dX7_day_57 : decode cX7_day 57 = .ok (.isub, 1) := by decide +kernel
theorem dX7_day_58 : decode cX7_day 58 = .ok (.bipush 10, 2) := by decide +kernel
theorem dX7_day_6 : decode cX7_day 6 = .ok (.ifCond .lt 12, 3) := by decide +kernel
theorem dX7_day_60 : decode cX7_day 60 = .ok (.irem, 1) := by decide +kernel
theorem dX7_day_61 : decode cX7_day 61 = .ok (.istore 5, 2) := by decide +kernel
theorem dX7_day_63 : decode cX7_day 63 = .ok (.iload_n 3, 1) := by decide +kernel
theorem dX7_day_64 : decode cX7_day 64 = .ok (.ifCond .ne 21, 3) := by decide +kernel
theorem dX7_day_67 : decode cX7_day 67 = .ok (.aload_n 0, 1) := by decide +kernel
theorem dX7_day_68 : decode cX7_day 68 = .ok (.getfield 10, 3) := by decide +kernel
theorem dX7_day_71 : decode cX7_day 71 = .ok (.getfield 217, 3) := by decide +kernel
theorem dX7_day_74 : decode cX7_day 74 = .ok (.iload_n 2, 1) := by decide +kernel
theorem dX7_day_75 : decode cX7_day 75 = .ok (.aaload, 1) := by decide +kernel
theorem dX7_day_76 : decode cX7_day 76 = .ok (.getfield 271, 3) := by decide +kernel
theorem dX7_day_79 : decode cX7_day 79 = .ok (.iload 5, 2) := by decide +kernel
theorem dX7_day_81 : decode cX7_day 81 = .ok (.iaload, 1) := by decide +kernel
theorem dX7_day_82 : decode cX7_day 82 = .ok (.goto 18, 3) := by decide +kernel
theorem dX7_day_85 : decode cX7_day 85 = .ok (.aload_n 0, 1) := by decide +kernel
theorem dX7_day_86 : decode cX7_day 86 = .ok (.getfield 10, 3) := by decide +kernel
theorem dX7_day_89 : decode cX7_day 89 = .ok (.getfield 217, 3) := by decide +kernel
theorem dX7_day_9 : decode cX7_day 9 = .ok (.iload_n 3, 1) := by decide +kernel
theorem dX7_day_92 : decode cX7_day 92 = .ok (.iload_n 2, 1) := by decide +kernel
theorem dX7_day_93 : decode cX7_day 93 = .ok (.aaload, 1) := by decide +kernel
theorem dX7_day_94 : decode cX7_day 94 = .ok (.getfield 274, 3) := by decide +kernel
theorem dX7_day_97 : decode cX7_day 97 = .ok (.iload 5, 2) := by decide +kernel
theorem dX7_day_99 : decode cX7_day 99 = .ok (.iaload, 1) := by decide +kernel
theorem dX7_failIn_0 : decode cX7_failIn 0 = .ok (.aload_n 0, 1) := by decide +kernel
theorem dX7_failIn_1 : decode cX7_failIn 1 = .ok (.iload_n 1, 1) := by decide +kernel
theorem dX7_failIn_10 : decode cX7_failIn 10 = .ok (.aload_n 2, 1) := by decide +kernel
theorem dX7_failIn_11 : decode cX7_failIn 11 = .ok (.getfield 137, 3) := by decide +kernel
theorem dX7_failIn_14 : decode cX7_failIn 14 = .ok (.iload_n 1, 1) := by decide +kernel
theorem dX7_failIn_15 : decode cX7_failIn 15 = .ok (.aaload, 1) := by decide +kernel
theorem dX7_failIn_16 : decode cX7_failIn 16 = .ok (.iconst 0, 1) := by decide +kernel
theorem dX7_failIn_17 : decode cX7_failIn 17 = .ok (.putfield 158, 3) := by decide +kernel
theorem dX7_failIn_2 : decode cX7_failIn 2 = .ok (.invokevirtual 133, 3) := by decide +kernel
theorem dX7_failIn_20 : decode cX7_failIn 20 = .ok (.aload_n 2, 1) := by decide +kernel
theorem dX7_failIn_21 : decode cX7_failIn 21 = .ok (.getstatic 354, 3) := by decide +kernel
theorem dX7_failIn_24 : decode cX7_failIn 24 = .ok (.iload_n 1, 1) := by decide +kernel
theorem dX7_failIn_25 : decode cX7_failIn 25 = .ok (.sipush 2000, 3) := by decide +kernel
theorem dX7_failIn_28 : decode cX7_failIn 28 = .ok (.invokestatic 340, 3) := by decide +kernel
theorem dX7_failIn_31 : decode cX7_failIn 31 = .ok (.ireturn, 1) := by decide +kernel
theorem dX7_failIn_5 : decode cX7_failIn 5 = .ok (.aload_n 0, 1) := by decide +kernel
theorem dX7_failIn_6 : decode cX7_failIn 6 = .ok (.invokevirtual 330, 3) := by decide +kernel
theorem dX7_failIn_9 : decode cX7_failIn 9 = .ok (.astore_n 2, 1) := by decide +kernel
theorem dX7_giveUp_0 : decode cX7_giveUp 0 = .ok (.aload_n 0, 1) := by decide +kernel
theorem dX7_giveUp_1 : decode cX7_giveUp 1 = .ok (.iload_n 1, 1) := by decide +kernel
theorem dX7_giveUp_10 : decode cX7_giveUp 10 = .ok (.ifCond .ne 6, 3) := by decide +kernel
theorem dX7_giveUp_13 : decode cX7_giveUp 13 = .ok (.bipush (-3), 2) := by decide +kernel
theorem dX7_giveUp_15 : decode cX7_giveUp 15 = .ok (.ireturn, 1) := by decide +kernel
theorem dX7_giveUp_16 : decode cX7_giveUp 16 = .ok (.aload_n 0, 1) := by decide +kernel
theorem dX7_giveUp_17 : decode cX7_giveUp 17 = .ok (.invokevirtual 292, 3) := by decide +kernel
theorem dX7_giveUp_2 : decode cX7_giveUp 2 = .ok (.invokevirtual 183, 3) := by decide +kernel
theorem dX7_giveUp_20 : decode cX7_giveUp 20 = .ok (.aload_n 0, 1) := by decide +kernel
theorem dX7_giveUp_21 : decode cX7_giveUp 21 = .ok (.getfield 10, 3) := by decide +kernel
theorem dX7_giveUp_24 : decode cX7_giveUp 24 = .ok (.iload_n 1, 1) := by decide +kernel
theorem dX7_giveUp_25 : decode cX7_giveUp 25 = .ok (.invokevirtual 307, 3) := by decide +kernel
theorem dX7_giveUp_28 : decode cX7_giveUp 28 = .ok (.aload_n 0, 1) := by decide +kernel
theorem dX7_giveUp_29 : decode cX7_giveUp 29 = .ok (.getfield 10, 3) := by decide +kernel
theorem dX7_giveUp_32 : decode cX7_giveUp 32 = .ok (.getfield 113, 3) := by decide +kernel
theorem dX7_giveUp_35 : decode cX7_giveUp 35 = .ok (.iconst 0, 1) := by decide +kernel
theorem dX7_giveUp_36 : decode cX7_giveUp 36 = .ok (.iaload, 1) := by decide +kernel
theorem dX7_giveUp_37 : decode cX7_giveUp 37 = .ok (.ireturn, 1) := by decide +kernel
theorem dX7_giveUp_5 : decode cX7_giveUp 5 = .ok (.aload_n 0, 1) := by decide +kernel
theorem dX7_giveUp_6 : decode cX7_giveUp 6 = .ok (.iload_n 1, 1) := by decide +kernel
theorem dX7_giveUp_7 : decode cX7_giveUp 7 = .ok (.invokevirtual 303, 3) := by decide +kernel
theorem dX7_keepResult_0 : decode cX7_keepResult 0 = .ok (.aload_n 0, 1) := by decide +kernel
theorem dX7_keepResult_1 : decode cX7_keepResult 1 = .ok (.aload_n 0, 1) := by decide +kernel
theorem dX7_keepResult_11 : decode cX7_keepResult 11 = .ok (.aload_n 0, 1) := by decide +kernel
theorem dX7_keepResult_12 : decode cX7_keepResult 12 = .ok (.aload_n 0, 1) := by decide +kernel
theorem dX7_keepResult_13 : decode cX7_keepResult 13 = .ok (.getfield 45, 3) := by decide +kernel
theorem dX7_keepResult_16 : decode cX7_keepResult 16 = .ok (.ifCond .ne 7, 3) := by decide +kernel
theorem dX7_keepResult_19 : decode cX7_keepResult 19 = .ok (.iconst (-1), 1) := by decide +kernel
theorem dX7_keepResult_2 : decode cX7_keepResult 2 = .ok (.getfield 22, 3) := by decide +kernel
theorem dX7_keepResult_20 : decode cX7_keepResult 20 = .ok (.goto 10, 3) := by decide +kernel
theorem dX7_keepResult_23 : decode cX7_keepResult 23 = .ok (.aload_n 0, 1) := by decide +kernel
theorem dX7_keepResult_24 : decode cX7_keepResult 24 = .ok (.getfield 22, 3) := by decide +kernel
theorem dX7_keepResult_27 : decode cX7_keepResult 27 = .ok (.getfield 85, 3) := by decide +kernel
theorem dX7_keepResult_30 : decode cX7_keepResult 30 = .ok (.putfield 48, 3) := by decide +kernel
theorem dX7_keepResult_33 : decode cX7_keepResult 33 = .ok (.return_, 1) := by decide +kernel
theorem dX7_keepResult_5 : decode cX7_keepResult 5 = .ok (.getfield 84, 3) := by decide +kernel
theorem dX7_keepResult_8 : decode cX7_keepResult 8 = .ok (.putfield 45, 3) := by decide +kernel
theorem dX7_leavesIn_0 : decode cX7_leavesIn 0 = .ok (.aload_n 0, 1) := by decide +kernel
theorem dX7_leavesIn_1 : decode cX7_leavesIn 1 = .ok (.iload_n 1, 1) := by decide +kernel
theorem dX7_leavesIn_12 : decode cX7_leavesIn 12 = .ok (.iload_n 1, 1) := by decide +kernel
theorem dX7_leavesIn_13 : decode cX7_leavesIn 13 = .ok (.sipush 2000, 3) := by decide +kernel
theorem dX7_leavesIn_16 : decode cX7_leavesIn 16 = .ok (.invokestatic 340, 3) := by decide +kernel
theorem dX7_leavesIn_19 : decode cX7_leavesIn 19 = .ok (.ireturn, 1) := by decide +kernel
theorem dX7_leavesIn_2 : decode cX7_leavesIn 2 = .ok (.invokevirtual 183, 3) := by decide +kernel
theorem dX7_leavesIn_5 : decode cX7_leavesIn 5 = .ok (.aload_n 0, 1) := by decide +kernel
theorem dX7_leavesIn_6 : decode cX7_leavesIn 6 = .ok (.invokevirtual 330, 3) := by decide +kernel
theorem dX7_leavesIn_9 : decode cX7_leavesIn 9 = .ok (.getstatic 334, 3) := by decide +kernel
theorem dX7_leftAt_0 : decode cX7_leftAt 0 = .ok (.iload_n 1, 1) := by decide +kernel
theorem dX7_leftAt_1 : decode cX7_leftAt 1 = .ok (.ifCond .lt 28, 3) := by decide +kernel
theorem dX7_leftAt_12 : decode cX7_leftAt 12 = .ok (.iconst 3, 1) := by decide +kernel
theorem dX7_leftAt_13 : decode cX7_leftAt 13 = .ok (.iaload, 1) := by decide +kernel
theorem dX7_leftAt_14 : decode cX7_leftAt 14 = .ok (.if_icmp .ge 15, 3) := by decide +kernel
theorem dX7_leftAt_17 : decode cX7_leftAt 17 = .ok (.aload_n 0, 1) := by decide +kernel
theorem dX7_leftAt_18 : decode cX7_leftAt 18 = .ok (.getfield 10, 3) := by decide +kernel
theorem dX7_leftAt_21 : decode cX7_leftAt 21 = .ok (.getfield 245, 3) := by decide +kernel
theorem dX7_leftAt_24 : decode cX7_leftAt 24 = .ok (.iload_n 1, 1) := by decide +kernel
theorem dX7_leftAt_25 : decode cX7_leftAt 25 = .ok (.iaload, 1) := by decide +kernel
theorem dX7_leftAt_26 : decode cX7_leftAt 26 = .ok (.goto 4, 3) := by decide +kernel
theorem dX7_leftAt_29 : decode cX7_leftAt 29 = .ok (.iconst (-1), 1) := by decide +kernel
theorem dX7_leftAt_30 : decode cX7_leftAt 30 = .ok (.ireturn, 1) := by decide +kernel
theorem dX7_leftAt_4 : decode cX7_leftAt 4 = .ok (.iload_n 1, 1) := by decide +kernel
theorem dX7_leftAt_5 : decode cX7_leftAt 5 = .ok (.aload_n 0, 1) := by decide +kernel
theorem dX7_leftAt_6 : decode cX7_leftAt 6 = .ok (.getfield 10, 3) := by decide +kernel
theorem dX7_leftAt_9 : decode cX7_leftAt 9 = .ok (.getfield 113, 3) := by decide +kernel
theorem dX7_leftIn_0 : decode cX7_leftIn 0 = .ok (.iload_n 1, 1) := by decide +kernel
theorem dX7_leftIn_1 : decode cX7_leftIn 1 = .ok (.iconst 1, 1) := by decide +kernel
theorem dX7_leftIn_10 : decode cX7_leftIn 10 = .ok (.invokevirtual 350, 3) := by decide +kernel
theorem dX7_leftIn_13 : decode cX7_leftIn 13 = .ok (.getfield 113, 3) := by decide +kernel
theorem dX7_leftIn_16 : decode cX7_leftIn 16 = .ok (.iconst 3, 1) := by decide +kernel
theorem dX7_leftIn_17 : decode cX7_leftIn 17 = .ok (.iaload, 1) := by decide +kernel
theorem dX7_leftIn_18 : decode cX7_leftIn 18 = .ok (.ireturn, 1) := by decide +kernel
theorem dX7_leftIn_2 : decode cX7_leftIn 2 = .ok (.sipush 2000, 3) := by decide +kernel
theorem dX7_leftIn_5 : decode cX7_leftIn 5 = .ok (.invokestatic 251, 3) := by decide +kernel
theorem dX7_leftIn_8 : decode cX7_leftIn 8 = .ok (.aload_n 0, 1) := by decide +kernel
theorem dX7_leftIn_9 : decode cX7_leftIn 9 = .ok (.iload_n 1, 1) := by decide +kernel
theorem dX7_letter_0 : decode cX7_letter 0 = .ok (.aload_n 0, 1) := by decide +kernel
theorem dX7_letter_1 : decode cX7_letter 1 = .ok (.iload_n 1, 1) := by decide +kernel
theorem dX7_letter_12 : decode cX7_letter 12 = .ok (.iload_n 1, 1) := by decide +kernel
theorem dX7_letter_13 : decode cX7_letter 13 = .ok (.aaload, 1) := by decide +kernel
theorem dX7_letter_14 : decode cX7_letter 14 = .ok (.getfield 198, 3) := by decide +kernel
theorem dX7_letter_17 : decode cX7_letter 17 = .ok (.astore_n 3, 1) := by decide +kernel
theorem dX7_letter_18 : decode cX7_letter 18 = .ok (.iload_n 2, 1) := by decide +kernel
theorem dX7_letter_19 : decode cX7_letter 19 = .ok (.ifCond .lt 15, 3) := by decide +kernel
theorem dX7_letter_2 : decode cX7_letter 2 = .ok (.invokevirtual 183, 3) := by decide +kernel
theorem dX7_letter_22 : decode cX7_letter 22 = .ok (.iload_n 2, 1) := by decide +kernel
theorem dX7_letter_23 : decode cX7_letter 23 = .ok (.aload_n 3, 1) := by decide +kernel
theorem dX7_letter_24 : decode cX7_letter 24 = .ok (.arraylength, 1) := by decide +kernel
theorem dX7_letter_25 : decode cX7_letter 25 = .ok (.if_icmp .ge 9, 3) := by decide +kernel
theorem dX7_letter_28 : decode cX7_letter 28 = .ok (.aload_n 3, 1) := by decide +kernel
theorem dX7_letter_29 : decode cX7_letter 29 = .ok (.iload_n 2, 1) := by decide +kernel
theorem dX7_letter_30 : decode cX7_letter 30 = .ok (.baload, 1) := by decide +kernel
theorem dX7_letter_31 : decode cX7_letter 31 = .ok (.goto 4, 3) := by decide +kernel
theorem dX7_letter_34 : decode cX7_letter 34 = .ok (.iconst (-1), 1) := by decide +kernel
theorem dX7_letter_35 : decode cX7_letter 35 = .ok (.ireturn, 1) := by decide +kernel
theorem dX7_letter_5 : decode cX7_letter 5 = .ok (.aload_n 0, 1) := by decide +kernel
theorem dX7_letter_6 : decode cX7_letter 6 = .ok (.getfield 10, 3) := by decide +kernel
theorem dX7_letter_9 : decode cX7_letter 9 = .ok (.getfield 186, 3) := by decide +kernel
theorem dX7_loadError_0 : decode cX7_loadError 0 = .ok (.aload_n 0, 1) := by decide +kernel
theorem dX7_loadError_1 : decode cX7_loadError 1 = .ok (.getfield 45, 3) := by decide +kernel
theorem dX7_loadError_4 : decode cX7_loadError 4 = .ok (.ireturn, 1) := by decide +kernel
theorem dX7_loadStatement_0 : decode cX7_loadStatement 0 = .ok (.aload_n 0, 1) := by decide +kernel
theorem dX7_loadStatement_1 : decode cX7_loadStatement 1 = .ok (.getfield 48, 3) := by decide +kernel
theorem dX7_loadStatement_4 : decode cX7_loadStatement 4 = .ok (.ireturn, 1) := by decide +kernel
theorem dX7_load_0 : decode cX7_load 0 = .ok (.aload_n 0, 1) := by decide +kernel
theorem dX7_load_1 : decode cX7_load 1 = .ok (.getfield 22, 3) := by decide +kernel
theorem dX7_load_11 : decode cX7_load 11 = .ok (.aload_n 0, 1) := by decide +kernel
theorem dX7_load_12 : decode cX7_load 12 = .ok (.invokevirtual 72, 3) := by decide +kernel
theorem dX7_load_15 : decode cX7_load 15 = .ok (.aload_n 0, 1) := by decide +kernel
theorem dX7_load_16 : decode cX7_load 16 = .ok (.getfield 45, 3) := by decide +kernel
theorem dX7_load_19 : decode cX7_load 19 = .ok (.ifCond .eq 14, 3) := by decide +kernel
theorem dX7_load_22 : decode cX7_load 22 = .ok (.bipush (-100), 2) := by decide +kernel
theorem dX7_load_24 : decode cX7_load 24 = .ok (.aload_n 0, 1) := by decide +kernel
theorem dX7_load_25 : decode cX7_load 25 = .ok (.getfield 22, 3) := by decide +kernel
theorem dX7_load_28 : decode cX7_load 28 = .ok (.getfield 75, 3) := by decide +kernel
theorem dX7_load_31 : decode cX7_load 31 = .ok (.isub, 1) := by decide +kernel
theorem dX7_load_32 : decode cX7_load 32 = .ok (.ireturn, 1) := by decide +kernel
theorem dX7_load_33 : decode cX7_load 33 = .ok (.aload_n 0, 1) := by decide +kernel
theorem dX7_load_34 : decode cX7_load 34 = .ok (.getfield 10, 3) := by decide +kernel
theorem dX7_load_37 : decode cX7_load 37 = .ok (.aload_n 0, 1) := by decide +kernel
theorem dX7_load_38 : decode cX7_load 38 = .ok (.getfield 16, 3) := by decide +kernel
theorem dX7_load_4 : decode cX7_load 4 = .ok (.aload_n 0, 1) := by decide +kernel
theorem dX7_load_41 : decode cX7_load 41 = .ok (.invokevirtual 78, 3) := by decide +kernel
theorem dX7_load_44 : decode cX7_load 44 = .ok (.aload_n 0, 1) := by decide +kernel
theorem dX7_load_45 : decode cX7_load 45 = .ok (.iconst 0, 1) := by decide +kernel
theorem dX7_load_46 : decode cX7_load 46 = .ok (.putfield 54, 3) := by decide +kernel
theorem dX7_load_49 : decode cX7_load 49 = .ok (.aload_n 0, 1) := by decide +kernel
theorem dX7_load_5 : decode cX7_load 5 = .ok (.getfield 16, 3) := by decide +kernel
theorem dX7_load_50 : decode cX7_load 50 = .ok (.iconst 0, 1) := by decide +kernel
theorem dX7_load_51 : decode cX7_load 51 = .ok (.putfield 41, 3) := by decide +kernel
theorem dX7_load_54 : decode cX7_load 54 = .ok (.aload_n 0, 1) := by decide +kernel
theorem dX7_load_55 : decode cX7_load 55 = .ok (.getfield 10, 3) := by decide +kernel
theorem dX7_load_58 : decode cX7_load 58 = .ok (.getfield 81, 3) := by decide +kernel
theorem dX7_load_61 : decode cX7_load 61 = .ok (.ireturn, 1) := by decide +kernel
theorem dX7_load_8 : decode cX7_load 8 = .ok (.invokevirtual 68, 3) := by decide +kernel
theorem dX7_lotBy_0 : decode cX7_lotBy 0 = .ok (.iload_n 1, 1) := by decide +kernel
theorem dX7_lotBy_1 : decode cX7_lotBy 1 = .ok (.ifCond .lt 14, 3) := by decide +kernel
theorem dX7_lotBy_100 : decode cX7_lotBy 100 = .ok (.ireturn, 1) := by decide +kernel
theorem dX7_lotBy_12 : decode cX7_lotBy 12 = .ok (.if_icmp .lt 5, 3) := by decide +kernel
theorem dX7_lotBy_15 : decode cX7_lotBy 15 = .ok (.iconst (-1), 1) := by decide +kernel
theorem dX7_lotBy_16 : decode cX7_lotBy 16 = .ok (.ireturn, 1) := by decide +kernel
theorem dX7_lotBy_17 : decode cX7_lotBy 17 = .ok (.iconst 0, 1) := by decide +kernel
theorem dX7_lotBy_18 : decode cX7_lotBy 18 = .ok (.istore_n 2, 1) := by decide +kernel
theorem dX7_lotBy_19 : decode cX7_lotBy 19 = .ok (.iload_n 2, 1) := by decide +kernel
theorem dX7_lotBy_20 : decode cX7_lotBy 20 = .ok (.aload_n 0, 1) := by decide +kernel
theorem dX7_lotBy_21 : decode cX7_lotBy 21 = .ok (.getfield 10, 3) := by decide +kernel
theorem dX7_lotBy_24 : decode cX7_lotBy 24 = .ok (.getfield 100, 3) := by decide +kernel
theorem dX7_lotBy_27 : decode cX7_lotBy 27 = .ok (.if_icmp .ge 42, 3) := by decide +kernel
theorem dX7_lotBy_30 : decode cX7_lotBy 30 = .ok (.aload_n 0, 1) := by decide +kernel
theorem dX7_lotBy_31 : decode cX7_lotBy 31 = .ok (.invokevirtual 330, 3) := by decide +kernel
theorem dX7_lotBy_34 : decode cX7_lotBy 34 = .ok (.getstatic 344, 3) := by decide +kernel
theorem dX7_lotBy_37 : decode cX7_lotBy 37 = .ok (.iload_n 2, 1) := by decide +kernel
theorem dX7_lotBy_38 : decode cX7_lotBy 38 = .ok (.sipush 2000, 3) := by decide +kernel
theorem dX7_lotBy_4 : decode cX7_lotBy 4 = .ok (.iload_n 1, 1) := by decide +kernel
theorem dX7_lotBy_41 : decode cX7_lotBy 41 = .ok (.invokestatic 340, 3) := by decide +kernel
theorem dX7_lotBy_44 : decode cX7_lotBy 44 = .ok (.istore_n 3, 1) := by decide +kernel
theorem dX7_lotBy_45 : decode cX7_lotBy 45 = .ok (.aload_n 0, 1) := by decide +kernel
theorem dX7_lotBy_46 : decode cX7_lotBy 46 = .ok (.getfield 37, 3) := by decide +kernel
theorem dX7_lotBy_49 : decode cX7_lotBy 49 = .ok (.iload_n 2, 1) := by decide +kernel
theorem dX7_lotBy_5 : decode cX7_lotBy 5 = .ok (.aload_n 0, 1) := by decide +kernel
theorem dX7_lotBy_50 : decode cX7_lotBy 50 = .ok (.iload_n 3, 1) := by decide +kernel
theorem dX7_lotBy_51 : decode cX7_lotBy 51 = .ok (.iconst (-1), 1) := by decide +kernel
theorem dX7_lotBy_52 : decode cX7_lotBy 52 = .ok (.if_icmp .ne 9, 3) := by decide +kernel
theorem dX7_lotBy_55 : decode cX7_lotBy 55 = .ok (.sipush 2001, 3) := by decide +kernel
theorem dX7_lotBy_58 : decode cX7_lotBy 58 = .ok (.goto 4, 3) := by decide +kernel
theorem dX7_lotBy_6 : decode cX7_lotBy 6 = .ok (.getfield 10, 3) := by decide +kernel
theorem dX7_lotBy_61 : decode cX7_lotBy 61 = .ok (.iload_n 3, 1) := by decide +kernel
theorem dX7_lotBy_62 : decode cX7_lotBy 62 = .ok (.iastore, 1) := by decide +kernel
theorem dX7_lotBy_63 : decode cX7_lotBy 63 = .ok (.iinc 2 1, 3) := by decide +kernel
theorem dX7_lotBy_66 : decode cX7_lotBy 66 = .ok (.goto (-47), 3) := by decide +kernel
theorem dX7_lotBy_69 : decode cX7_lotBy 69 = .ok (.iconst 0, 1) := by decide +kernel
theorem dX7_lotBy_70 : decode cX7_lotBy 70 = .ok (.istore_n 2, 1) := by decide +kernel
theorem dX7_lotBy_71 : decode cX7_lotBy 71 = .ok (.iload_n 2, 1) := by decide +kernel
theorem dX7_lotBy_72 : decode cX7_lotBy 72 = .ok (.aload_n 0, 1) := by decide +kernel
theorem dX7_lotBy_73 : decode cX7_lotBy 73 = .ok (.getfield 10, 3) := by decide +kernel
theorem dX7_lotBy_76 : decode cX7_lotBy 76 = .ok (.getfield 100, 3) := by decide +kernel
theorem dX7_lotBy_79 : decode cX7_lotBy 79 = .ok (.if_icmp .ge 20, 3) := by decide +kernel
theorem dX7_lotBy_82 : decode cX7_lotBy 82 = .ok (.aload_n 0, 1) := by decide +kernel
theorem dX7_lotBy_83 : decode cX7_lotBy 83 = .ok (.iload_n 2, 1) := by decide +kernel
theorem dX7_lotBy_84 : decode cX7_lotBy 84 = .ok (.invokevirtual 360, 3) := by decide +kernel
theorem dX7_lotBy_87 : decode cX7_lotBy 87 = .ok (.iload_n 1, 1) := by decide +kernel
theorem dX7_lotBy_88 : decode cX7_lotBy 88 = .ok (.if_icmp .ne 5, 3) := by decide +kernel
theorem dX7_lotBy_9 : decode cX7_lotBy 9 = .ok (.getfield 100, 3) := by decide +kernel
theorem dX7_lotBy_91 : decode cX7_lotBy 91 = .ok (.iload_n 2, 1) := by decide +kernel
theorem dX7_lotBy_92 : decode cX7_lotBy 92 = .ok (.ireturn, 1) := by decide +kernel
theorem dX7_lotBy_93 : decode cX7_lotBy 93 = .ok (.iinc 2 1, 3) := by decide +kernel
theorem dX7_lotBy_96 : decode cX7_lotBy 96 = .ok (.goto (-25), 3) := by decide +kernel
theorem dX7_lotBy_99 : decode cX7_lotBy 99 = .ok (.iconst (-1), 1) := by decide +kernel
theorem dX7_lotIn_0 : decode cX7_lotIn 0 = .ok (.aload_n 0, 1) := by decide +kernel
theorem dX7_lotIn_1 : decode cX7_lotIn 1 = .ok (.iload_n 1, 1) := by decide +kernel
theorem dX7_lotIn_12 : decode cX7_lotIn 12 = .ok (.iload_n 1, 1) := by decide +kernel
theorem dX7_lotIn_13 : decode cX7_lotIn 13 = .ok (.sipush 2000, 3) := by decide +kernel
theorem dX7_lotIn_16 : decode cX7_lotIn 16 = .ok (.invokestatic 340, 3) := by decide +kernel
theorem dX7_lotIn_19 : decode cX7_lotIn 19 = .ok (.ireturn, 1) := by decide +kernel
theorem dX7_lotIn_2 : decode cX7_lotIn 2 = .ok (.invokevirtual 214, 3) := by decide +kernel
theorem dX7_lotIn_5 : decode cX7_lotIn 5 = .ok (.aload_n 0, 1) := by decide +kernel
theorem dX7_lotIn_6 : decode cX7_lotIn 6 = .ok (.invokevirtual 330, 3) := by decide +kernel
theorem dX7_lotIn_9 : decode cX7_lotIn 9 = .ok (.getstatic 344, 3) := by decide +kernel
theorem dX7_lot_0 : decode cX7_lot 0 = .ok (.aload_n 0, 1) := by decide +kernel
theorem dX7_lot_1 : decode cX7_lot 1 = .ok (.iload_n 1, 1) := by decide +kernel
theorem dX7_lot_101 : decode cX7_lot 101 = .ok (.invokespecial 109, 3) := by decide +kernel
theorem dX7_lot_104 : decode cX7_lot 104 = .ok (.athrow, 1) := by decide +kernel
theorem dX7_lot_12 : decode cX7_lot 12 = .ok (.iload_n 1, 1) := by decide +kernel
theorem dX7_lot_13 : decode cX7_lot 13 = .ok (.aaload, 1) := by decide +kernel
theorem dX7_lot_14 : decode cX7_lot 14 = .ok (.astore_n 3, 1) := by decide +kernel
theorem dX7_lot_15 : decode cX7_lot 15 = .ok (.iload_n 2, 1) := by decide +kernel
theorem dX7_lot_16 : decode cX7_lot 16 = .ok (.tableswitch 79 0 6 #[44, 49, 54, 59, 64, 69, 74], 44) := by decide +kernel
theorem dX7_lot_2 : decode cX7_lot 2 = .ok (.invokevirtual 214, 3) := by decide +kernel
theorem dX7_lot_5 : decode cX7_lot 5 = .ok (.aload_n 0, 1) := by decide +kernel
theorem dX7_lot_6 : decode cX7_lot 6 = .ok (.getfield 10, 3) := by decide +kernel
theorem dX7_lot_60 : decode cX7_lot 60 = .ok (.aload_n 3, 1) := by decide +kernel
theorem dX7_lot_61 : decode cX7_lot 61 = .ok (.getfield 221, 3) := by decide +kernel
theorem dX7_lot_64 : decode cX7_lot 64 = .ok (.ireturn, 1) := by decide +kernel
theorem dX7_lot_65 : decode cX7_lot 65 = .ok (.aload_n 3, 1) := by decide +kernel
theorem dX7_lot_66 : decode cX7_lot 66 = .ok (.getfield 226, 3) := by decide +kernel
theorem dX7_lot_69 : decode cX7_lot 69 = .ok (.ireturn, 1) := by decide +kernel
theorem dX7_lot_70 : decode cX7_lot 70 = .ok (.aload_n 3, 1) := by decide +kernel
theorem dX7_lot_71 : decode cX7_lot 71 = .ok (.getfield 229, 3) := by decide +kernel
theorem dX7_lot_74 : decode cX7_lot 74 = .ok (.ireturn, 1) := by decide +kernel
theorem dX7_lot_75 : decode cX7_lot 75 = .ok (.aload_n 3, 1) := by decide +kernel
theorem dX7_lot_76 : decode cX7_lot 76 = .ok (.getfield 232, 3) := by decide +kernel
theorem dX7_lot_79 : decode cX7_lot 79 = .ok (.ireturn, 1) := by decide +kernel
theorem dX7_lot_80 : decode cX7_lot 80 = .ok (.aload_n 3, 1) := by decide +kernel
theorem dX7_lot_81 : decode cX7_lot 81 = .ok (.getfield 235, 3) := by decide +kernel
theorem dX7_lot_84 : decode cX7_lot 84 = .ok (.ireturn, 1) := by decide +kernel
theorem dX7_lot_85 : decode cX7_lot 85 = .ok (.aload_n 3, 1) := by decide +kernel
theorem dX7_lot_86 : decode cX7_lot 86 = .ok (.getfield 236, 3) := by decide +kernel
theorem dX7_lot_89 : decode cX7_lot 89 = .ok (.ireturn, 1) := by decide +kernel
theorem dX7_lot_9 : decode cX7_lot 9 = .ok (.getfield 217, 3) := by decide +kernel
theorem dX7_lot_90 : decode cX7_lot 90 = .ok (.aload_n 3, 1) := by decide +kernel
theorem dX7_lot_91 : decode cX7_lot 91 = .ok (.invokevirtual 237, 3) := by decide +kernel
theorem dX7_lot_94 : decode cX7_lot 94 = .ok (.ireturn, 1) := by decide +kernel
theorem dX7_lot_95 : decode cX7_lot 95 = .ok (.new 105, 3) := by decide +kernel
theorem dX7_lot_98 : decode cX7_lot 98 = .ok (.dup, 1) := by decide +kernel
theorem dX7_lot_99 : decode cX7_lot 99 = .ok (.ldc 116, 2) := by decide +kernel
theorem dX7_lotsFinishedBefore_0 : decode cX7_lotsFinishedBefore 0 = .ok (.iconst 0, 1) := by decide +kernel
theorem dX7_lotsFinishedBefore_1 : decode cX7_lotsFinishedBefore 1 = .ok (.istore_n 2, 1) := by decide +kernel
theorem dX7_lotsFinishedBefore_12 : decode cX7_lotsFinishedBefore 12 = .ok (.if_icmp .ge 59, 3) := by decide +kernel
theorem dX7_lotsFinishedBefore_15 : decode cX7_lotsFinishedBefore 15 = .ok (.aload_n 0, 1) := by decide +kernel
theorem dX7_lotsFinishedBefore_16 : decode cX7_lotsFinishedBefore 16 = .ok (.getfield 37, 3) := by decide +kernel
theorem dX7_lotsFinishedBefore_19 : decode cX7_lotsFinishedBefore 19 = .ok (.iload_n 3, 1) := by decide +kernel
theorem dX7_lotsFinishedBefore_2 : decode cX7_lotsFinishedBefore 2 = .ok (.iconst 0, 1) := by decide +kernel
theorem dX7_lotsFinishedBefore_20 : decode cX7_lotsFinishedBefore 20 = .ok (.iaload, 1) := by decide +kernel
theorem dX7_lotsFinishedBefore_21 : decode cX7_lotsFinishedBefore 21 = .ok (.aload_n 0, 1) := by decide +kernel
theorem dX7_lotsFinishedBefore_22 : decode cX7_lotsFinishedBefore 22 = .ok (.getfield 37, 3) := by decide +kernel
theorem dX7_lotsFinishedBefore_25 : decode cX7_lotsFinishedBefore 25 = .ok (.iload_n 1, 1) := by decide +kernel
theorem dX7_lotsFinishedBefore_26 : decode cX7_lotsFinishedBefore 26 = .ok (.iaload, 1) := by decide +kernel
theorem dX7_lotsFinishedBefore_27 : decode cX7_lotsFinishedBefore 27 = .ok (.if_icmp .ge 7, 3) := by decide +kernel
theorem dX7_lotsFinishedBefore_3 : decode cX7_lotsFinishedBefore 3 = .ok (.istore_n 3, 1) := by decide +kernel
theorem dX7_lotsFinishedBefore_30 : decode cX7_lotsFinishedBefore 30 = .ok (.iconst 1, 1) := by decide +kernel
theorem dX7_lotsFinishedBefore_31 : decode cX7_lotsFinishedBefore 31 = .ok (.goto 4, 3) := by decide +kernel
theorem dX7_lotsFinishedBefore_34 : decode cX7_lotsFinishedBefore 34 = .ok (.iconst 0, 1) := by decide +kernel
theorem dX7_lotsFinishedBefore_35 : decode cX7_lotsFinishedBefore 35 = .ok (.istore 4, 2) := by decide +kernel
theorem dX7_lotsFinishedBefore_37 : decode cX7_lotsFinishedBefore 37 = .ok (.iload 4, 2) := by decide +kernel
theorem dX7_lotsFinishedBefore_39 : decode cX7_lotsFinishedBefore 39 = .ok (.ifCond .ne 23, 3) := by decide +kernel
theorem dX7_lotsFinishedBefore_4 : decode cX7_lotsFinishedBefore 4 = .ok (.iload_n 3, 1) := by decide +kernel
theorem dX7_lotsFinishedBefore_42 : decode cX7_lotsFinishedBefore 42 = .ok (.aload_n 0, 1) := by decide +kernel
theorem dX7_lotsFinishedBefore_43 : decode cX7_lotsFinishedBefore 43 = .ok (.getfield 37, 3) := by decide +kernel
theorem dX7_lotsFinishedBefore_46 : decode cX7_lotsFinishedBefore 46 = .ok (.iload_n 3, 1) := by decide +kernel
theorem dX7_lotsFinishedBefore_47 : decode cX7_lotsFinishedBefore 47 = .ok (.iaload, 1) := by decide +kernel
theorem dX7_lotsFinishedBefore_48 : decode cX7_lotsFinishedBefore 48 = .ok (.aload_n 0, 1) := by decide +kernel
theorem dX7_lotsFinishedBefore_49 : decode cX7_lotsFinishedBefore 49 = .ok (.getfield 37, 3) := by decide +kernel
theorem dX7_lotsFinishedBefore_5 : decode cX7_lotsFinishedBefore 5 = .ok (.aload_n 0, 1) := by decide +kernel
theorem dX7_lotsFinishedBefore_52 : decode cX7_lotsFinishedBefore 52 = .ok (.iload_n 1, 1) := by decide +kernel
theorem dX7_lotsFinishedBefore_53 : decode cX7_lotsFinishedBefore 53 = .ok (.iaload, 1) := by decide +kernel
theorem dX7_lotsFinishedBefore_54 : decode cX7_lotsFinishedBefore 54 = .ok (.if_icmp .ne 11, 3) := by decide +kernel
theorem dX7_lotsFinishedBefore_57 : decode cX7_lotsFinishedBefore 57 = .ok (.iload_n 3, 1) := by decide +kernel
theorem dX7_lotsFinishedBefore_58 : decode cX7_lotsFinishedBefore 58 = .ok (.iload_n 1, 1) := by decide +kernel
theorem dX7_lotsFinishedBefore_59 : decode cX7_lotsFinishedBefore 59 = .ok (.if_icmp .ge 6, 3) := by decide +kernel
theorem dX7_lotsFinishedBefore_6 : decode cX7_lotsFinishedBefore 6 = .ok (.getfield 10, 3) := by decide +kernel
theorem dX7_lotsFinishedBefore_62 : decode cX7_lotsFinishedBefore 62 = .ok (.iinc 2 1, 3) := by decide +kernel
theorem dX7_lotsFinishedBefore_65 : decode cX7_lotsFinishedBefore 65 = .ok (.iinc 3 1, 3) := by decide +kernel
theorem dX7_lotsFinishedBefore_68 : decode cX7_lotsFinishedBefore 68 = .ok (.goto (-64), 3) := by decide +kernel
theorem dX7_lotsFinishedBefore_71 : decode cX7_lotsFinishedBefore 71 = .ok (.iload_n 2, 1) := by decide +kernel
theorem dX7_lotsFinishedBefore_72 : decode cX7_lotsFinishedBefore 72 = .ok (.ireturn, 1) := by decide +kernel
theorem dX7_lotsFinishedBefore_9 : decode cX7_lotsFinishedBefore 9 = .ok (.getfield 100, 3) := by decide +kernel
theorem dX7_meanFails_0 : decode cX7_meanFails 0 = .ok (.aload_n 0, 1) := by decide +kernel
theorem dX7_meanFails_1 : decode cX7_meanFails 1 = .ok (.getfield 10, 3) := by decide +kernel
theorem dX7_meanFails_12 : decode cX7_meanFails 12 = .ok (.fconst 0, 1) := by decide +kernel
theorem dX7_meanFails_13 : decode cX7_meanFails 13 = .ok (.goto 16, 3) := by decide +kernel
theorem dX7_meanFails_16 : decode cX7_meanFails 16 = .ok (.aload_n 0, 1) := by decide +kernel
theorem dX7_meanFails_17 : decode cX7_meanFails 17 = .ok (.getfield 10, 3) := by decide +kernel
theorem dX7_meanFails_20 : decode cX7_meanFails 20 = .ok (.getfield 283, 3) := by decide +kernel
theorem dX7_meanFails_23 : decode cX7_meanFails 23 = .ok (.iconst 1, 1) := by decide +kernel
theorem dX7_meanFails_24 : decode cX7_meanFails 24 = .ok (.iaload, 1) := by decide +kernel
theorem dX7_meanFails_25 : decode cX7_meanFails 25 = .ok (.i2f, 1) := by decide +kernel
theorem dX7_meanFails_26 : decode cX7_meanFails 26 = .ok (.iload_n 1, 1) := by decide +kernel
theorem dX7_meanFails_27 : decode cX7_meanFails 27 = .ok (.i2f, 1) := by decide +kernel
theorem dX7_meanFails_28 : decode cX7_meanFails 28 = .ok (.fdiv, 1) := by decide +kernel
theorem dX7_meanFails_29 : decode cX7_meanFails 29 = .ok (.freturn, 1) := by decide +kernel
theorem dX7_meanFails_4 : decode cX7_meanFails 4 = .ok (.getfield 95, 3) := by decide +kernel
theorem dX7_meanFails_7 : decode cX7_meanFails 7 = .ok (.istore_n 1, 1) := by decide +kernel
theorem dX7_meanFails_8 : decode cX7_meanFails 8 = .ok (.iload_n 1, 1) := by decide +kernel
theorem dX7_meanFails_9 : decode cX7_meanFails 9 = .ok (.ifCond .ne 7, 3) := by decide +kernel
theorem dX7_mostPace_0 : decode cX7_mostPace 0 = .ok (.iload_n 0, 1) := by decide +kernel
theorem dX7_mostPace_1 : decode cX7_mostPace 1 = .ok (.iconst 3, 1) := by decide +kernel
theorem dX7_mostPace_10 : decode cX7_mostPace 10 = .ok (.bipush 99, 2) := by decide +kernel
theorem dX7_mostPace_12 : decode cX7_mostPace 12 = .ok (.ireturn, 1) := by decide +kernel
theorem dX7_mostPace_2 : decode cX7_mostPace 2 = .ok (.if_icmp .ne 8, 3) := by decide +kernel
theorem dX7_mostPace_5 : decode cX7_mostPace 5 = .ok (.bipush 9, 2) := by decide +kernel
theorem dX7_mostPace_7 : decode cX7_mostPace 7 = .ok (.goto 5, 3) := by decide +kernel
theorem dX7_needCard_0 : decode cX7_needCard 0 = .ok (.iload_n 1, 1) := by decide +kernel
theorem dX7_needCard_1 : decode cX7_needCard 1 = .ok (.ifCond .lt 14, 3) := by decide +kernel
theorem dX7_needCard_12 : decode cX7_needCard 12 = .ok (.if_icmp .lt 13, 3) := by decide +kernel
theorem dX7_needCard_15 : decode cX7_needCard 15 = .ok (.new 88, 3) := by decide +kernel
theorem dX7_needCard_18 : decode cX7_needCard 18 = .ok (.dup, 1) := by decide +kernel
theorem dX7_needCard_19 : decode cX7_needCard 19 = .ok (.ldc 98, 2) := by decide +kernel
theorem dX7_needCard_21 : decode cX7_needCard 21 = .ok (.invokespecial 92, 3) := by decide +kernel
theorem dX7_needCard_24 : decode cX7_needCard 24 = .ok (.athrow, 1) := by decide +kernel
theorem dX7_needCard_25 : decode cX7_needCard 25 = .ok (.return_, 1) := by decide +kernel
theorem dX7_needCard_4 : decode cX7_needCard 4 = .ok (.iload_n 1, 1) := by decide +kernel
theorem dX7_needCard_5 : decode cX7_needCard 5 = .ok (.aload_n 0, 1) := by decide +kernel
theorem dX7_needCard_6 : decode cX7_needCard 6 = .ok (.getfield 10, 3) := by decide +kernel
theorem dX7_needCard_9 : decode cX7_needCard 9 = .ok (.getfield 95, 3) := by decide +kernel
theorem dX7_needLot_0 : decode cX7_needLot 0 = .ok (.iload_n 1, 1) := by decide +kernel
theorem dX7_needLot_1 : decode cX7_needLot 1 = .ok (.ifCond .lt 14, 3) := by decide +kernel
theorem dX7_needLot_12 : decode cX7_needLot 12 = .ok (.if_icmp .lt 13, 3) := by decide +kernel
theorem dX7_needLot_15 : decode cX7_needLot 15 = .ok (.new 88, 3) := by decide +kernel
theorem dX7_needLot_18 : decode cX7_needLot 18 = .ok (.dup, 1) := by decide +kernel
theorem dX7_needLot_19 : decode cX7_needLot 19 = .ok (.ldc 103, 2) := by decide +kernel
theorem dX7_needLot_21 : decode cX7_needLot 21 = .ok (.invokespecial 92, 3) := by decide +kernel
theorem dX7_needLot_24 : decode cX7_needLot 24 = .ok (.athrow, 1) := by decide +kernel
theorem dX7_needLot_25 : decode cX7_needLot 25 = .ok (.return_, 1) := by decide +kernel
theorem dX7_needLot_4 : decode cX7_needLot 4 = .ok (.iload_n 1, 1) := by decide +kernel
theorem dX7_needLot_5 : decode cX7_needLot 5 = .ok (.aload_n 0, 1) := by decide +kernel
theorem dX7_needLot_6 : decode cX7_needLot 6 = .ok (.getfield 10, 3) := by decide +kernel
theorem dX7_needLot_9 : decode cX7_needLot 9 = .ok (.getfield 100, 3) := by decide +kernel
theorem dX7_needRange_0 : decode cX7_needRange 0 = .ok (.iload_n 0, 1) := by decide +kernel
theorem dX7_needRange_1 : decode cX7_needRange 1 = .ok (.iload_n 1, 1) := by decide +kernel
theorem dX7_needRange_10 : decode cX7_needRange 10 = .ok (.new 105, 3) := by decide +kernel
theorem dX7_needRange_13 : decode cX7_needRange 13 = .ok (.dup, 1) := by decide +kernel
theorem dX7_needRange_14 : decode cX7_needRange 14 = .ok (.ldc 107, 2) := by decide +kernel
theorem dX7_needRange_16 : decode cX7_needRange 16 = .ok (.invokespecial 109, 3) := by decide +kernel
theorem dX7_needRange_19 : decode cX7_needRange 19 = .ok (.athrow, 1) := by decide +kernel
theorem dX7_needRange_2 : decode cX7_needRange 2 = .ok (.if_icmp .lt 8, 3) := by decide +kernel
theorem dX7_needRange_20 : decode cX7_needRange 20 = .ok (.return_, 1) := by decide +kernel
theorem dX7_needRange_5 : decode cX7_needRange 5 = .ok (.iload_n 0, 1) := by decide +kernel
theorem dX7_needRange_6 : decode cX7_needRange 6 = .ok (.iload_n 2, 1) := by decide +kernel
theorem dX7_needRange_7 : decode cX7_needRange 7 = .ok (.if_icmp .le 13, 3) := by decide +kernel
theorem dX7_needStation_0 : decode cX7_needStation 0 = .ok (.iload_n 1, 1) := by decide +kernel
theorem dX7_needStation_1 : decode cX7_needStation 1 = .ok (.ifCond .lt 14, 3) := by decide +kernel
theorem dX7_needStation_12 : decode cX7_needStation 12 = .ok (.if_icmp .lt 13, 3) := by decide +kernel
theorem dX7_needStation_15 : decode cX7_needStation 15 = .ok (.new 88, 3) := by decide +kernel
theorem dX7_needStation_18 : decode cX7_needStation 18 = .ok (.dup, 1) := by decide +kernel
theorem dX7_needStation_19 : decode cX7_needStation 19 = .ok (.ldc 90, 2) := by decide +kernel
theorem dX7_needStation_21 : decode cX7_needStation 21 = .ok (.invokespecial 92, 3) := by decide +kernel
theorem dX7_needStation_24 : decode cX7_needStation 24 = .ok (.athrow, 1) := by decide +kernel
theorem dX7_needStation_25 : decode cX7_needStation 25 = .ok (.return_, 1) := by decide +kernel
theorem dX7_needStation_4 : decode cX7_needStation 4 = .ok (.iload_n 1, 1) := by decide +kernel
theorem dX7_needStation_5 : decode cX7_needStation 5 = .ok (.aload_n 0, 1) := by decide +kernel
theorem dX7_needStation_6 : decode cX7_needStation 6 = .ok (.getfield 10, 3) := by decide +kernel
theorem dX7_needStation_9 : decode cX7_needStation 9 = .ok (.getfield 81, 3) := by decide +kernel
theorem dX7_nextFed_0 : decode cX7_nextFed 0 = .ok (.aload_n 0, 1) := by decide +kernel
theorem dX7_nextFed_1 : decode cX7_nextFed 1 = .ok (.getfield 10, 3) := by decide +kernel
theorem dX7_nextFed_4 : decode cX7_nextFed 4 = .ok (.invokevirtual 248, 3) := by decide +kernel
theorem dX7_nextFed_7 : decode cX7_nextFed 7 = .ok (.ireturn, 1) := by decide +kernel
theorem dX7_now_0 : decode cX7_now 0 = .ok (.aload_n 0, 1) := by decide +kernel
theorem dX7_now_1 : decode cX7_now 1 = .ok (.getfield 10, 3) := by decide +kernel
theorem dX7_now_4 : decode cX7_now 4 = .ok (.getfield 263, 3) := by decide +kernel
theorem dX7_now_7 : decode cX7_now 7 = .ok (.ireturn, 1) := by decide +kernel
theorem dX7_order_0 : decode cX7_order 0 = .ok (.aload_n 0, 1) := by decide +kernel
theorem dX7_order_1 : decode cX7_order 1 = .ok (.iload_n 1, 1) := by decide +kernel
theorem dX7_order_10 : decode cX7_order 10 = .ok (.getfield 10, 3) := by decide +kernel
theorem dX7_order_13 : decode cX7_order 13 = .ok (.getfield 95, 3) := by decide +kernel
theorem dX7_order_16 : decode cX7_order 16 = .ok (.invokevirtual 289, 3) := by decide +kernel
theorem dX7_order_19 : decode cX7_order 19 = .ok (.aload_n 0, 1) := by decide +kernel
theorem dX7_order_2 : decode cX7_order 2 = .ok (.invokevirtual 214, 3) := by decide +kernel
theorem dX7_order_20 : decode cX7_order 20 = .ok (.invokevirtual 72, 3) := by decide +kernel
theorem dX7_order_23 : decode cX7_order 23 = .ok (.aload_n 0, 1) := by decide +kernel
theorem dX7_order_24 : decode cX7_order 24 = .ok (.getfield 45, 3) := by decide +kernel
theorem dX7_order_27 : decode cX7_order 27 = .ok (.ifCond .eq 14, 3) := by decide +kernel
theorem dX7_order_30 : decode cX7_order 30 = .ok (.bipush (-100), 2) := by decide +kernel
theorem dX7_order_32 : decode cX7_order 32 = .ok (.aload_n 0, 1) := by decide +kernel
theorem dX7_order_33 : decode cX7_order 33 = .ok (.getfield 22, 3) := by decide +kernel
theorem dX7_order_36 : decode cX7_order 36 = .ok (.getfield 75, 3) := by decide +kernel
theorem dX7_order_39 : decode cX7_order 39 = .ok (.isub, 1) := by decide +kernel
theorem dX7_order_40 : decode cX7_order 40 = .ok (.ireturn, 1) := by decide +kernel
theorem dX7_order_41 : decode cX7_order 41 = .ok (.aload_n 0, 1) := by decide +kernel
theorem dX7_order_42 : decode cX7_order 42 = .ok (.invokevirtual 292, 3) := by decide +kernel
theorem dX7_order_45 : decode cX7_order 45 = .ok (.aload_n 0, 1) := by decide +kernel
theorem dX7_order_46 : decode cX7_order 46 = .ok (.getfield 10, 3) := by decide +kernel
theorem dX7_order_49 : decode cX7_order 49 = .ok (.iload_n 1, 1) := by decide +kernel
theorem dX7_order_5 : decode cX7_order 5 = .ok (.aload_n 0, 1) := by decide +kernel
theorem dX7_order_50 : decode cX7_order 50 = .ok (.aload_n 0, 1) := by decide +kernel
theorem dX7_order_51 : decode cX7_order 51 = .ok (.getfield 22, 3) := by decide +kernel
theorem dX7_order_54 : decode cX7_order 54 = .ok (.invokevirtual 295, 3) := by decide +kernel
theorem dX7_order_57 : decode cX7_order 57 = .ok (.invokevirtual 299, 3) := by decide +kernel
theorem dX7_order_6 : decode cX7_order 6 = .ok (.getfield 22, 3) := by decide +kernel
theorem dX7_order_60 : decode cX7_order 60 = .ok (.aload_n 0, 1) := by decide +kernel
theorem dX7_order_61 : decode cX7_order 61 = .ok (.getfield 10, 3) := by decide +kernel
theorem dX7_order_64 : decode cX7_order 64 = .ok (.getfield 95, 3) := by decide +kernel
theorem dX7_order_67 : decode cX7_order 67 = .ok (.iconst 1, 1) := by decide +kernel
theorem dX7_order_68 : decode cX7_order 68 = .ok (.isub, 1) := by decide +kernel
theorem dX7_order_69 : decode cX7_order 69 = .ok (.ireturn, 1) := by decide +kernel
theorem dX7_order_9 : decode cX7_order 9 = .ok (.aload_n 0, 1) := by decide +kernel
theorem dX7_outputByte_0 : decode cX7_outputByte 0 = .ok (.iload_n 1, 1) := by decide +kernel
theorem dX7_outputByte_1 : decode cX7_outputByte 1 = .ok (.ifCond .lt 20, 3) := by decide +kernel
theorem dX7_outputByte_12 : decode cX7_outputByte 12 = .ok (.aload_n 0, 1) := by decide +kernel
theorem dX7_outputByte_13 : decode cX7_outputByte 13 = .ok (.getfield 26, 3) := by decide +kernel
theorem dX7_outputByte_16 : decode cX7_outputByte 16 = .ok (.iload_n 1, 1) := by decide +kernel
theorem dX7_outputByte_17 : decode cX7_outputByte 17 = .ok (.baload, 1) := by decide +kernel
theorem dX7_outputByte_18 : decode cX7_outputByte 18 = .ok (.goto 4, 3) := by decide +kernel
theorem dX7_outputByte_21 : decode cX7_outputByte 21 = .ok (.iconst (-1), 1) := by decide +kernel
theorem dX7_outputByte_22 : decode cX7_outputByte 22 = .ok (.ireturn, 1) := by decide +kernel
theorem dX7_outputByte_4 : decode cX7_outputByte 4 = .ok (.iload_n 1, 1) := by decide +kernel
theorem dX7_outputByte_5 : decode cX7_outputByte 5 = .ok (.aload_n 0, 1) := by decide +kernel
theorem dX7_outputByte_6 : decode cX7_outputByte 6 = .ok (.getfield 41, 3) := by decide +kernel
theorem dX7_outputByte_9 : decode cX7_outputByte 9 = .ok (.if_icmp .ge 12, 3) := by decide +kernel
theorem dX7_refill_0 : decode cX7_refill 0 = .ok (.iload_n 1, 1) := by decide +kernel
theorem dX7_refill_1 : decode cX7_refill 1 = .ok (.iconst 1, 1) := by decide +kernel
theorem dX7_refill_12 : decode cX7_refill 12 = .ok (.getfield 110, 3) := by decide +kernel
theorem dX7_refill_15 : decode cX7_refill 15 = .ok (.iload_n 1, 1) := by decide +kernel
theorem dX7_refill_16 : decode cX7_refill 16 = .ok (.iadd, 1) := by decide +kernel
theorem dX7_refill_17 : decode cX7_refill 17 = .ok (.sipush 9999, 3) := by decide +kernel
theorem dX7_refill_2 : decode cX7_refill 2 = .ok (.sipush 999, 3) := by decide +kernel
theorem dX7_refill_20 : decode cX7_refill 20 = .ok (.if_icmp .le 6, 3) := by decide +kernel
theorem dX7_refill_23 : decode cX7_refill 23 = .ok (.bipush (-2), 2) := by decide +kernel
theorem dX7_refill_25 : decode cX7_refill 25 = .ok (.ireturn, 1) := by decide +kernel
theorem dX7_refill_26 : decode cX7_refill 26 = .ok (.aload_n 0, 1) := by decide +kernel
theorem dX7_refill_27 : decode cX7_refill 27 = .ok (.invokevirtual 292, 3) := by decide +kernel
theorem dX7_refill_30 : decode cX7_refill 30 = .ok (.aload_n 0, 1) := by decide +kernel
theorem dX7_refill_31 : decode cX7_refill 31 = .ok (.getfield 10, 3) := by decide +kernel
theorem dX7_refill_34 : decode cX7_refill 34 = .ok (.dup, 1) := by decide +kernel
theorem dX7_refill_35 : decode cX7_refill 35 = .ok (.getfield 110, 3) := by decide +kernel
theorem dX7_refill_38 : decode cX7_refill 38 = .ok (.iload_n 1, 1) := by decide +kernel
theorem dX7_refill_39 : decode cX7_refill 39 = .ok (.iadd, 1) := by decide +kernel
theorem dX7_refill_40 : decode cX7_refill 40 = .ok (.putfield 110, 3) := by decide +kernel
theorem dX7_refill_43 : decode cX7_refill 43 = .ok (.aload_n 0, 1) := by decide +kernel
theorem dX7_refill_44 : decode cX7_refill 44 = .ok (.getfield 10, 3) := by decide +kernel
theorem dX7_refill_47 : decode cX7_refill 47 = .ok (.dup, 1) := by decide +kernel
theorem dX7_refill_48 : decode cX7_refill 48 = .ok (.getfield 130, 3) := by decide +kernel
theorem dX7_refill_5 : decode cX7_refill 5 = .ok (.invokestatic 251, 3) := by decide +kernel
theorem dX7_refill_51 : decode cX7_refill 51 = .ok (.iload_n 1, 1) := by decide +kernel
theorem dX7_refill_52 : decode cX7_refill 52 = .ok (.iadd, 1) := by decide +kernel
theorem dX7_refill_53 : decode cX7_refill 53 = .ok (.putfield 130, 3) := by decide +kernel
theorem dX7_refill_56 : decode cX7_refill 56 = .ok (.aload_n 0, 1) := by decide +kernel
theorem dX7_refill_57 : decode cX7_refill 57 = .ok (.getfield 10, 3) := by decide +kernel
theorem dX7_refill_60 : decode cX7_refill 60 = .ok (.getfield 110, 3) := by decide +kernel
theorem dX7_refill_63 : decode cX7_refill 63 = .ok (.ireturn, 1) := by decide +kernel
theorem dX7_refill_8 : decode cX7_refill 8 = .ok (.aload_n 0, 1) := by decide +kernel
theorem dX7_refill_9 : decode cX7_refill 9 = .ok (.getfield 10, 3) := by decide +kernel
theorem dX7_remember_0 : decode cX7_remember 0 = .ok (.aload_n 0, 1) := by decide +kernel
theorem dX7_remember_1 : decode cX7_remember 1 = .ok (.getfield 54, 3) := by decide +kernel
theorem dX7_remember_10 : decode cX7_remember 10 = .ok (.aload_n 0, 1) := by decide +kernel
theorem dX7_remember_11 : decode cX7_remember 11 = .ok (.getfield 51, 3) := by decide +kernel
theorem dX7_remember_14 : decode cX7_remember 14 = .ok (.iconst 1, 1) := by decide +kernel
theorem dX7_remember_15 : decode cX7_remember 15 = .ok (.iadd, 1) := by decide +kernel
theorem dX7_remember_16 : decode cX7_remember 16 = .ok (.bipush 8, 2) := by decide +kernel
theorem dX7_remember_18 : decode cX7_remember 18 = .ok (.irem, 1) := by decide +kernel
theorem dX7_remember_19 : decode cX7_remember 19 = .ok (.putfield 51, 3) := by decide +kernel
theorem dX7_remember_22 : decode cX7_remember 22 = .ok (.aload_n 0, 1) := by decide +kernel
theorem dX7_remember_23 : decode cX7_remember 23 = .ok (.dup, 1) := by decide +kernel
theorem dX7_remember_24 : decode cX7_remember 24 = .ok (.getfield 54, 3) := by decide +kernel
theorem dX7_remember_27 : decode cX7_remember 27 = .ok (.iconst 1, 1) := by decide +kernel
theorem dX7_remember_28 : decode cX7_remember 28 = .ok (.isub, 1) := by decide +kernel
theorem dX7_remember_29 : decode cX7_remember 29 = .ok (.putfield 54, 3) := by decide +kernel
theorem dX7_remember_32 : decode cX7_remember 32 = .ok (.aload_n 0, 1) := by decide +kernel
theorem dX7_remember_33 : decode cX7_remember 33 = .ok (.getfield 51, 3) := by decide +kernel
theorem dX7_remember_36 : decode cX7_remember 36 = .ok (.aload_n 0, 1) := by decide +kernel
theorem dX7_remember_37 : decode cX7_remember 37 = .ok (.getfield 54, 3) := by decide +kernel
theorem dX7_remember_4 : decode cX7_remember 4 = .ok (.bipush 8, 2) := by decide +kernel
theorem dX7_remember_40 : decode cX7_remember 40 = .ok (.iadd, 1) := by decide +kernel
theorem dX7_remember_41 : decode cX7_remember 41 = .ok (.bipush 8, 2) := by decide +kernel
theorem dX7_remember_43 : decode cX7_remember 43 = .ok (.irem, 1) := by decide +kernel
theorem dX7_remember_44 : decode cX7_remember 44 = .ok (.istore_n 1, 1) := by decide +kernel
theorem dX7_remember_45 : decode cX7_remember 45 = .ok (.aload_n 0, 1) := by decide +kernel
theorem dX7_remember_46 : decode cX7_remember 46 = .ok (.getfield 30, 3) := by decide +kernel
theorem dX7_remember_49 : decode cX7_remember 49 = .ok (.iload_n 1, 1) := by decide +kernel
theorem dX7_remember_50 : decode cX7_remember 50 = .ok (.aaload, 1) := by decide +kernel
theorem dX7_remember_51 : decode cX7_remember 51 = .ok (.ifnonnull 16, 3) := by decide +kernel
theorem dX7_remember_54 : decode cX7_remember 54 = .ok (.aload_n 0, 1) := by decide +kernel
theorem dX7_remember_55 : decode cX7_remember 55 = .ok (.getfield 30, 3) := by decide +kernel
theorem dX7_remember_58 : decode cX7_remember 58 = .ok (.iload_n 1, 1) := by decide +kernel
theorem dX7_remember_59 : decode cX7_remember 59 = .ok (.new 7, 3) := by decide +kernel
theorem dX7_remember_6 : decode cX7_remember 6 = .ok (.if_icmp .ne 26, 3) := by decide +kernel
theorem dX7_remember_62 : decode cX7_remember 62 = .ok (.dup, 1) := by decide +kernel
theorem dX7_remember_63 : decode cX7_remember 63 = .ok (.invokespecial 9, 3) := by decide +kernel
theorem dX7_remember_66 : decode cX7_remember 66 = .ok (.aastore, 1) := by decide +kernel
theorem dX7_remember_67 : decode cX7_remember 67 = .ok (.aload_n 0, 1) := by decide +kernel
theorem dX7_remember_68 : decode cX7_remember 68 = .ok (.getfield 30, 3) := by decide +kernel
theorem dX7_remember_71 : decode cX7_remember 71 = .ok (.iload_n 1, 1) := by decide +kernel
theorem dX7_remember_72 : decode cX7_remember 72 = .ok (.aaload, 1) := by decide +kernel
theorem dX7_remember_73 : decode cX7_remember 73 = .ok (.aload_n 0, 1) := by decide +kernel
theorem dX7_remember_74 : decode cX7_remember 74 = .ok (.getfield 10, 3) := by decide +kernel
theorem dX7_remember_77 : decode cX7_remember 77 = .ok (.invokevirtual 78, 3) := by decide +kernel
theorem dX7_remember_80 : decode cX7_remember 80 = .ok (.aload_n 0, 1) := by decide +kernel
theorem dX7_remember_81 : decode cX7_remember 81 = .ok (.dup, 1) := by decide +kernel
theorem dX7_remember_82 : decode cX7_remember 82 = .ok (.getfield 54, 3) := by decide +kernel
theorem dX7_remember_85 : decode cX7_remember 85 = .ok (.iconst 1, 1) := by decide +kernel
theorem dX7_remember_86 : decode cX7_remember 86 = .ok (.iadd, 1) := by decide +kernel
theorem dX7_remember_87 : decode cX7_remember 87 = .ok (.putfield 54, 3) := by decide +kernel
theorem dX7_remember_9 : decode cX7_remember 9 = .ok (.aload_n 0, 1) := by decide +kernel
theorem dX7_remember_90 : decode cX7_remember 90 = .ok (.return_, 1) := by decide +kernel
theorem dX7_restIn_0 : decode cX7_restIn 0 = .ok (.aload_n 0, 1) := by decide +kernel
theorem dX7_restIn_1 : decode cX7_restIn 1 = .ok (.iload_n 1, 1) := by decide +kernel
theorem dX7_restIn_12 : decode cX7_restIn 12 = .ok (.iload_n 1, 1) := by decide +kernel
theorem dX7_restIn_13 : decode cX7_restIn 13 = .ok (.sipush 2000, 3) := by decide +kernel
theorem dX7_restIn_16 : decode cX7_restIn 16 = .ok (.invokestatic 340, 3) := by decide +kernel
theorem dX7_restIn_19 : decode cX7_restIn 19 = .ok (.ireturn, 1) := by decide +kernel
theorem dX7_restIn_2 : decode cX7_restIn 2 = .ok (.invokevirtual 133, 3) := by decide +kernel
theorem dX7_restIn_5 : decode cX7_restIn 5 = .ok (.aload_n 0, 1) := by decide +kernel
theorem dX7_restIn_6 : decode cX7_restIn 6 = .ok (.invokevirtual 330, 3) := by decide +kernel
theorem dX7_restIn_9 : decode cX7_restIn 9 = .ok (.getstatic 357, 3) := by decide +kernel
theorem dX7_restoreSnapshot_0 : decode cX7_restoreSnapshot 0 = .ok (.iload_n 1, 1) := by decide +kernel
theorem dX7_restoreSnapshot_1 : decode cX7_restoreSnapshot 1 = .ok (.iconst 0, 1) := by decide +kernel
theorem dX7_restoreSnapshot_10 : decode cX7_restoreSnapshot 10 = .ok (.iload_n 1, 1) := by decide +kernel
theorem dX7_restoreSnapshot_11 : decode cX7_restoreSnapshot 11 = .ok (.aaload, 1) := by decide +kernel
theorem dX7_restoreSnapshot_12 : decode cX7_restoreSnapshot 12 = .ok (.ifnonnull 5, 3) := by decide +kernel
theorem dX7_restoreSnapshot_15 : decode cX7_restoreSnapshot 15 = .ok (.iconst (-1), 1) := by decide +kernel
theorem dX7_restoreSnapshot_16 : decode cX7_restoreSnapshot 16 = .ok (.ireturn, 1) := by decide +kernel
theorem dX7_restoreSnapshot_17 : decode cX7_restoreSnapshot 17 = .ok (.aload_n 0, 1) := by decide +kernel
theorem dX7_restoreSnapshot_18 : decode cX7_restoreSnapshot 18 = .ok (.getfield 10, 3) := by decide +kernel
theorem dX7_restoreSnapshot_2 : decode cX7_restoreSnapshot 2 = .ok (.iconst 1, 1) := by decide +kernel
theorem dX7_restoreSnapshot_21 : decode cX7_restoreSnapshot 21 = .ok (.aload_n 0, 1) := by decide +kernel
theorem dX7_restoreSnapshot_22 : decode cX7_restoreSnapshot 22 = .ok (.getfield 34, 3) := by decide +kernel
theorem dX7_restoreSnapshot_25 : decode cX7_restoreSnapshot 25 = .ok (.iload_n 1, 1) := by decide +kernel
theorem dX7_restoreSnapshot_26 : decode cX7_restoreSnapshot 26 = .ok (.aaload, 1) := by decide +kernel
theorem dX7_restoreSnapshot_27 : decode cX7_restoreSnapshot 27 = .ok (.invokevirtual 78, 3) := by decide +kernel
theorem dX7_restoreSnapshot_3 : decode cX7_restoreSnapshot 3 = .ok (.invokestatic 251, 3) := by decide +kernel
theorem dX7_restoreSnapshot_30 : decode cX7_restoreSnapshot 30 = .ok (.aload_n 0, 1) := by decide +kernel
theorem dX7_restoreSnapshot_31 : decode cX7_restoreSnapshot 31 = .ok (.iconst 0, 1) := by decide +kernel
theorem dX7_restoreSnapshot_32 : decode cX7_restoreSnapshot 32 = .ok (.putfield 54, 3) := by decide +kernel
theorem dX7_restoreSnapshot_35 : decode cX7_restoreSnapshot 35 = .ok (.aload_n 0, 1) := by decide +kernel
theorem dX7_restoreSnapshot_36 : decode cX7_restoreSnapshot 36 = .ok (.getfield 10, 3) := by decide +kernel
theorem dX7_restoreSnapshot_39 : decode cX7_restoreSnapshot 39 = .ok (.getfield 263, 3) := by decide +kernel
theorem dX7_restoreSnapshot_42 : decode cX7_restoreSnapshot 42 = .ok (.ireturn, 1) := by decide +kernel
theorem dX7_restoreSnapshot_6 : decode cX7_restoreSnapshot 6 = .ok (.aload_n 0, 1) := by decide +kernel
theorem dX7_restoreSnapshot_7 : decode cX7_restoreSnapshot 7 = .ok (.getfield 34, 3) := by decide +kernel
theorem dX7_runToLeave_0 : decode cX7_runToLeave 0 = .ok (.iload_n 1, 1) := by decide +kernel
theorem dX7_runToLeave_1 : decode cX7_runToLeave 1 = .ok (.iconst 1, 1) := by decide +kernel
theorem dX7_runToLeave_12 : decode cX7_runToLeave 12 = .ok (.aload_n 0, 1) := by decide +kernel
theorem dX7_runToLeave_13 : decode cX7_runToLeave 13 = .ok (.getfield 10, 3) := by decide +kernel
theorem dX7_runToLeave_16 : decode cX7_runToLeave 16 = .ok (.getfield 113, 3) := by decide +kernel
theorem dX7_runToLeave_19 : decode cX7_runToLeave 19 = .ok (.iconst 3, 1) := by decide +kernel
theorem dX7_runToLeave_2 : decode cX7_runToLeave 2 = .ok (.sipush 2000, 3) := by decide +kernel
theorem dX7_runToLeave_20 : decode cX7_runToLeave 20 = .ok (.iaload, 1) := by decide +kernel
theorem dX7_runToLeave_21 : decode cX7_runToLeave 21 = .ok (.istore_n 2, 1) := by decide +kernel
theorem dX7_runToLeave_22 : decode cX7_runToLeave 22 = .ok (.iconst 1, 1) := by decide +kernel
theorem dX7_runToLeave_23 : decode cX7_runToLeave 23 = .ok (.istore_n 3, 1) := by decide +kernel
theorem dX7_runToLeave_24 : decode cX7_runToLeave 24 = .ok (.iload_n 3, 1) := by decide +kernel
theorem dX7_runToLeave_25 : decode cX7_runToLeave 25 = .ok (.iload_n 1, 1) := by decide +kernel
theorem dX7_runToLeave_26 : decode cX7_runToLeave 26 = .ok (.if_icmp .gt 32, 3) := by decide +kernel
theorem dX7_runToLeave_29 : decode cX7_runToLeave 29 = .ok (.aload_n 0, 1) := by decide +kernel
theorem dX7_runToLeave_30 : decode cX7_runToLeave 30 = .ok (.getfield 10, 3) := by decide +kernel
theorem dX7_runToLeave_33 : decode cX7_runToLeave 33 = .ok (.invokevirtual 322, 3) := by decide +kernel
theorem dX7_runToLeave_36 : decode cX7_runToLeave 36 = .ok (.pop, 1) := by decide +kernel
theorem dX7_runToLeave_37 : decode cX7_runToLeave 37 = .ok (.aload_n 0, 1) := by decide +kernel
theorem dX7_runToLeave_38 : decode cX7_runToLeave 38 = .ok (.getfield 10, 3) := by decide +kernel
theorem dX7_runToLeave_41 : decode cX7_runToLeave 41 = .ok (.getfield 113, 3) := by decide +kernel
theorem dX7_runToLeave_44 : decode cX7_runToLeave 44 = .ok (.iconst 3, 1) := by decide +kernel
theorem dX7_runToLeave_45 : decode cX7_runToLeave 45 = .ok (.iaload, 1) := by decide +kernel
theorem dX7_runToLeave_46 : decode cX7_runToLeave 46 = .ok (.iload_n 2, 1) := by decide +kernel
theorem dX7_runToLeave_47 : decode cX7_runToLeave 47 = .ok (.if_icmp .le 5, 3) := by decide +kernel
theorem dX7_runToLeave_5 : decode cX7_runToLeave 5 = .ok (.invokestatic 251, 3) := by decide +kernel
theorem dX7_runToLeave_50 : decode cX7_runToLeave 50 = .ok (.iload_n 3, 1) := by decide +kernel
theorem dX7_runToLeave_51 : decode cX7_runToLeave 51 = .ok (.ireturn, 1) := by decide +kernel
theorem dX7_runToLeave_52 : decode cX7_runToLeave 52 = .ok (.iinc 3 1, 3) := by decide +kernel
theorem dX7_runToLeave_55 : decode cX7_runToLeave 55 = .ok (.goto (-31), 3) := by decide +kernel
theorem dX7_runToLeave_58 : decode cX7_runToLeave 58 = .ok (.iconst (-1), 1) := by decide +kernel
theorem dX7_runToLeave_59 : decode cX7_runToLeave 59 = .ok (.ireturn, 1) := by decide +kernel
theorem dX7_runToLeave_8 : decode cX7_runToLeave 8 = .ok (.aload_n 0, 1) := by decide +kernel
theorem dX7_runToLeave_9 : decode cX7_runToLeave 9 = .ok (.invokevirtual 292, 3) := by decide +kernel
theorem dX7_run_0 : decode cX7_run 0 = .ok (.iload_n 1, 1) := by decide +kernel
theorem dX7_run_1 : decode cX7_run 1 = .ok (.iconst 1, 1) := by decide +kernel
theorem dX7_run_12 : decode cX7_run 12 = .ok (.iconst 0, 1) := by decide +kernel
theorem dX7_run_13 : decode cX7_run 13 = .ok (.istore_n 2, 1) := by decide +kernel
theorem dX7_run_14 : decode cX7_run 14 = .ok (.iload_n 2, 1) := by decide +kernel
theorem dX7_run_15 : decode cX7_run 15 = .ok (.iload_n 1, 1) := by decide +kernel
theorem dX7_run_16 : decode cX7_run 16 = .ok (.if_icmp .ge 17, 3) := by decide +kernel
theorem dX7_run_19 : decode cX7_run 19 = .ok (.aload_n 0, 1) := by decide +kernel
theorem dX7_run_2 : decode cX7_run 2 = .ok (.sipush 2000, 3) := by decide +kernel
theorem dX7_run_20 : decode cX7_run 20 = .ok (.getfield 10, 3) := by decide +kernel
theorem dX7_run_23 : decode cX7_run 23 = .ok (.invokevirtual 322, 3) := by decide +kernel
theorem dX7_run_26 : decode cX7_run 26 = .ok (.pop, 1) := by decide +kernel
theorem dX7_run_27 : decode cX7_run 27 = .ok (.iinc 2 1, 3) := by decide +kernel
theorem dX7_run_30 : decode cX7_run 30 = .ok (.goto (-16), 3) := by decide +kernel
theorem dX7_run_33 : decode cX7_run 33 = .ok (.aload_n 0, 1) := by decide +kernel
theorem dX7_run_34 : decode cX7_run 34 = .ok (.getfield 10, 3) := by decide +kernel
theorem dX7_run_37 : decode cX7_run 37 = .ok (.getfield 113, 3) := by decide +kernel
theorem dX7_run_40 : decode cX7_run 40 = .ok (.iconst 3, 1) := by decide +kernel
theorem dX7_run_41 : decode cX7_run 41 = .ok (.iaload, 1) := by decide +kernel
theorem dX7_run_42 : decode cX7_run 42 = .ok (.ireturn, 1) := by decide +kernel
theorem dX7_run_5 : decode cX7_run 5 = .ok (.invokestatic 251, 3) := by decide +kernel
theorem dX7_run_8 : decode cX7_run 8 = .ok (.aload_n 0, 1) := by decide +kernel
theorem dX7_run_9 : decode cX7_run 9 = .ok (.invokevirtual 292, 3) := by decide +kernel
theorem dX7_rush_0 : decode cX7_rush 0 = .ok (.aload_n 0, 1) := by decide +kernel
theorem dX7_rush_1 : decode cX7_rush 1 = .ok (.iload_n 1, 1) := by decide +kernel
theorem dX7_rush_10 : decode cX7_rush 10 = .ok (.ifCond .ne 6, 3) := by decide +kernel
theorem dX7_rush_13 : decode cX7_rush 13 = .ok (.bipush (-3), 2) := by decide +kernel
theorem dX7_rush_15 : decode cX7_rush 15 = .ok (.ireturn, 1) := by decide +kernel
theorem dX7_rush_16 : decode cX7_rush 16 = .ok (.aload_n 0, 1) := by decide +kernel
theorem dX7_rush_17 : decode cX7_rush 17 = .ok (.invokevirtual 292, 3) := by decide +kernel
theorem dX7_rush_2 : decode cX7_rush 2 = .ok (.invokevirtual 183, 3) := by decide +kernel
theorem dX7_rush_20 : decode cX7_rush 20 = .ok (.aload_n 0, 1) := by decide +kernel
theorem dX7_rush_21 : decode cX7_rush 21 = .ok (.getfield 10, 3) := by decide +kernel
theorem dX7_rush_24 : decode cX7_rush 24 = .ok (.getfield 186, 3) := by decide +kernel
theorem dX7_rush_27 : decode cX7_rush 27 = .ok (.iload_n 1, 1) := by decide +kernel
theorem dX7_rush_28 : decode cX7_rush 28 = .ok (.aaload, 1) := by decide +kernel
theorem dX7_rush_29 : decode cX7_rush 29 = .ok (.iconst 1, 1) := by decide +kernel
theorem dX7_rush_30 : decode cX7_rush 30 = .ok (.putfield 313, 3) := by decide +kernel
theorem dX7_rush_33 : decode cX7_rush 33 = .ok (.iconst 0, 1) := by decide +kernel
theorem dX7_rush_34 : decode cX7_rush 34 = .ok (.istore_n 2, 1) := by decide +kernel
theorem dX7_rush_35 : decode cX7_rush 35 = .ok (.iconst 0, 1) := by decide +kernel
theorem dX7_rush_36 : decode cX7_rush 36 = .ok (.istore_n 3, 1) := by decide +kernel
theorem dX7_rush_37 : decode cX7_rush 37 = .ok (.iload_n 3, 1) := by decide +kernel
theorem dX7_rush_38 : decode cX7_rush 38 = .ok (.aload_n 0, 1) := by decide +kernel
theorem dX7_rush_39 : decode cX7_rush 39 = .ok (.getfield 10, 3) := by decide +kernel
theorem dX7_rush_42 : decode cX7_rush 42 = .ok (.getfield 95, 3) := by decide +kernel
theorem dX7_rush_45 : decode cX7_rush 45 = .ok (.if_icmp .ge 27, 3) := by decide +kernel
theorem dX7_rush_48 : decode cX7_rush 48 = .ok (.aload_n 0, 1) := by decide +kernel
theorem dX7_rush_49 : decode cX7_rush 49 = .ok (.getfield 10, 3) := by decide +kernel
theorem dX7_rush_5 : decode cX7_rush 5 = .ok (.aload_n 0, 1) := by decide +kernel
theorem dX7_rush_52 : decode cX7_rush 52 = .ok (.getfield 186, 3) := by decide +kernel
theorem dX7_rush_55 : decode cX7_rush 55 = .ok (.iload_n 3, 1) := by decide +kernel
theorem dX7_rush_56 : decode cX7_rush 56 = .ok (.aaload, 1) := by decide +kernel
theorem dX7_rush_57 : decode cX7_rush 57 = .ok (.getfield 313, 3) := by decide +kernel
theorem dX7_rush_6 : decode cX7_rush 6 = .ok (.iload_n 1, 1) := by decide +kernel
theorem dX7_rush_60 : decode cX7_rush 60 = .ok (.ifCond .eq 6, 3) := by decide +kernel
theorem dX7_rush_63 : decode cX7_rush 63 = .ok (.iinc 2 1, 3) := by decide +kernel
theorem dX7_rush_66 : decode cX7_rush 66 = .ok (.iinc 3 1, 3) := by decide +kernel
theorem dX7_rush_69 : decode cX7_rush 69 = .ok (.goto (-32), 3) := by decide +kernel
theorem dX7_rush_7 : decode cX7_rush 7 = .ok (.invokevirtual 303, 3) := by decide +kernel
theorem dX7_rush_72 : decode cX7_rush 72 = .ok (.iload_n 2, 1) := by decide +kernel
theorem dX7_rush_73 : decode cX7_rush 73 = .ok (.ireturn, 1) := by decide +kernel
theorem dX7_saveSnapshot_0 : decode cX7_saveSnapshot 0 = .ok (.iload_n 1, 1) := by decide +kernel
theorem dX7_saveSnapshot_1 : decode cX7_saveSnapshot 1 = .ok (.iconst 0, 1) := by decide +kernel
theorem dX7_saveSnapshot_10 : decode cX7_saveSnapshot 10 = .ok (.iload_n 1, 1) := by decide +kernel
theorem dX7_saveSnapshot_11 : decode cX7_saveSnapshot 11 = .ok (.aaload, 1) := by decide +kernel
theorem dX7_saveSnapshot_12 : decode cX7_saveSnapshot 12 = .ok (.ifnonnull 16, 3) := by decide +kernel
theorem dX7_saveSnapshot_15 : decode cX7_saveSnapshot 15 = .ok (.aload_n 0, 1) := by decide +kernel
theorem dX7_saveSnapshot_16 : decode cX7_saveSnapshot 16 = .ok (.getfield 34, 3) := by decide +kernel
theorem dX7_saveSnapshot_19 : decode cX7_saveSnapshot 19 = .ok (.iload_n 1, 1) := by decide +kernel
theorem dX7_saveSnapshot_2 : decode cX7_saveSnapshot 2 = .ok (.iconst 1, 1) := by decide +kernel
theorem dX7_saveSnapshot_20 : decode cX7_saveSnapshot 20 = .ok (.new 7, 3) := by decide +kernel
theorem dX7_saveSnapshot_23 : decode cX7_saveSnapshot 23 = .ok (.dup, 1) := by decide +kernel
theorem dX7_saveSnapshot_24 : decode cX7_saveSnapshot 24 = .ok (.invokespecial 9, 3) := by decide +kernel
theorem dX7_saveSnapshot_27 : decode cX7_saveSnapshot 27 = .ok (.aastore, 1) := by decide +kernel
theorem dX7_saveSnapshot_28 : decode cX7_saveSnapshot 28 = .ok (.aload_n 0, 1) := by decide +kernel
theorem dX7_saveSnapshot_29 : decode cX7_saveSnapshot 29 = .ok (.getfield 34, 3) := by decide +kernel
theorem dX7_saveSnapshot_3 : decode cX7_saveSnapshot 3 = .ok (.invokestatic 251, 3) := by decide +kernel
theorem dX7_saveSnapshot_32 : decode cX7_saveSnapshot 32 = .ok (.iload_n 1, 1) := by decide +kernel
theorem dX7_saveSnapshot_33 : decode cX7_saveSnapshot 33 = .ok (.aaload, 1) := by decide +kernel
theorem dX7_saveSnapshot_34 : decode cX7_saveSnapshot 34 = .ok (.aload_n 0, 1) := by decide +kernel
theorem dX7_saveSnapshot_35 : decode cX7_saveSnapshot 35 = .ok (.getfield 10, 3) := by decide +kernel
theorem dX7_saveSnapshot_38 : decode cX7_saveSnapshot 38 = .ok (.invokevirtual 78, 3) := by decide +kernel
theorem dX7_saveSnapshot_41 : decode cX7_saveSnapshot 41 = .ok (.aload_n 0, 1) := by decide +kernel
theorem dX7_saveSnapshot_42 : decode cX7_saveSnapshot 42 = .ok (.getfield 10, 3) := by decide +kernel
theorem dX7_saveSnapshot_45 : decode cX7_saveSnapshot 45 = .ok (.getfield 263, 3) := by decide +kernel
theorem dX7_saveSnapshot_48 : decode cX7_saveSnapshot 48 = .ok (.ireturn, 1) := by decide +kernel
theorem dX7_saveSnapshot_6 : decode cX7_saveSnapshot 6 = .ok (.aload_n 0, 1) := by decide +kernel
theorem dX7_saveSnapshot_7 : decode cX7_saveSnapshot 7 = .ok (.getfield 34, 3) := by decide +kernel
theorem dX7_setPace_0 : decode cX7_setPace 0 = .ok (.aload_n 0, 1) := by decide +kernel
theorem dX7_setPace_1 : decode cX7_setPace 1 = .ok (.iload_n 1, 1) := by decide +kernel
theorem dX7_setPace_12 : decode cX7_setPace 12 = .ok (.iload_n 1, 1) := by decide +kernel
theorem dX7_setPace_13 : decode cX7_setPace 13 = .ok (.aaload, 1) := by decide +kernel
theorem dX7_setPace_14 : decode cX7_setPace 14 = .ok (.astore_n 3, 1) := by decide +kernel
theorem dX7_setPace_15 : decode cX7_setPace 15 = .ok (.iload_n 2, 1) := by decide +kernel
theorem dX7_setPace_16 : decode cX7_setPace 16 = .ok (.iconst 1, 1) := by decide +kernel
theorem dX7_setPace_17 : decode cX7_setPace 17 = .ok (.aload_n 3, 1) := by decide +kernel
theorem dX7_setPace_18 : decode cX7_setPace 18 = .ok (.getfield 141, 3) := by decide +kernel
theorem dX7_setPace_2 : decode cX7_setPace 2 = .ok (.invokevirtual 133, 3) := by decide +kernel
theorem dX7_setPace_21 : decode cX7_setPace 21 = .ok (.invokestatic 310, 3) := by decide +kernel
theorem dX7_setPace_24 : decode cX7_setPace 24 = .ok (.invokestatic 251, 3) := by decide +kernel
theorem dX7_setPace_27 : decode cX7_setPace 27 = .ok (.aload_n 0, 1) := by decide +kernel
theorem dX7_setPace_28 : decode cX7_setPace 28 = .ok (.invokevirtual 292, 3) := by decide +kernel
theorem dX7_setPace_31 : decode cX7_setPace 31 = .ok (.aload_n 3, 1) := by decide +kernel
theorem dX7_setPace_32 : decode cX7_setPace 32 = .ok (.getfield 146, 3) := by decide +kernel
theorem dX7_setPace_35 : decode cX7_setPace 35 = .ok (.istore 4, 2) := by decide +kernel
theorem dX7_setPace_37 : decode cX7_setPace 37 = .ok (.aload_n 3, 1) := by decide +kernel
theorem dX7_setPace_38 : decode cX7_setPace 38 = .ok (.iload_n 2, 1) := by decide +kernel
theorem dX7_setPace_39 : decode cX7_setPace 39 = .ok (.putfield 146, 3) := by decide +kernel
theorem dX7_setPace_42 : decode cX7_setPace 42 = .ok (.iload 4, 2) := by decide +kernel
theorem dX7_setPace_44 : decode cX7_setPace 44 = .ok (.ireturn, 1) := by decide +kernel
theorem dX7_setPace_5 : decode cX7_setPace 5 = .ok (.aload_n 0, 1) := by decide +kernel
theorem dX7_setPace_6 : decode cX7_setPace 6 = .ok (.getfield 10, 3) := by decide +kernel
theorem dX7_setPace_9 : decode cX7_setPace 9 = .ok (.getfield 137, 3) := by decide +kernel
theorem dX7_setRank_0 : decode cX7_setRank 0 = .ok (.aload_n 0, 1) := by decide +kernel
theorem dX7_setRank_1 : decode cX7_setRank 1 = .ok (.iload_n 1, 1) := by decide +kernel
theorem dX7_setRank_12 : decode cX7_setRank 12 = .ok (.aload_n 0, 1) := by decide +kernel
theorem dX7_setRank_13 : decode cX7_setRank 13 = .ok (.invokevirtual 292, 3) := by decide +kernel
theorem dX7_setRank_16 : decode cX7_setRank 16 = .ok (.aload_n 0, 1) := by decide +kernel
theorem dX7_setRank_17 : decode cX7_setRank 17 = .ok (.getfield 10, 3) := by decide +kernel
theorem dX7_setRank_2 : decode cX7_setRank 2 = .ok (.invokevirtual 214, 3) := by decide +kernel
theorem dX7_setRank_20 : decode cX7_setRank 20 = .ok (.getfield 217, 3) := by decide +kernel
theorem dX7_setRank_23 : decode cX7_setRank 23 = .ok (.iload_n 1, 1) := by decide +kernel
theorem dX7_setRank_24 : decode cX7_setRank 24 = .ok (.aaload, 1) := by decide +kernel
theorem dX7_setRank_25 : decode cX7_setRank 25 = .ok (.getfield 221, 3) := by decide +kernel
theorem dX7_setRank_28 : decode cX7_setRank 28 = .ok (.istore_n 3, 1) := by decide +kernel
theorem dX7_setRank_29 : decode cX7_setRank 29 = .ok (.aload_n 0, 1) := by decide +kernel
theorem dX7_setRank_30 : decode cX7_setRank 30 = .ok (.getfield 10, 3) := by decide +kernel
theorem dX7_setRank_33 : decode cX7_setRank 33 = .ok (.getfield 217, 3) := by decide +kernel
theorem dX7_setRank_36 : decode cX7_setRank 36 = .ok (.iload_n 1, 1) := by decide +kernel
theorem dX7_setRank_37 : decode cX7_setRank 37 = .ok (.aaload, 1) := by decide +kernel
theorem dX7_setRank_38 : decode cX7_setRank 38 = .ok (.iload_n 2, 1) := by decide +kernel
theorem dX7_setRank_39 : decode cX7_setRank 39 = .ok (.putfield 221, 3) := by decide +kernel
theorem dX7_setRank_42 : decode cX7_setRank 42 = .ok (.iload_n 3, 1) := by decide +kernel
theorem dX7_setRank_43 : decode cX7_setRank 43 = .ok (.ireturn, 1) := by decide +kernel
theorem dX7_setRank_5 : decode cX7_setRank 5 = .ok (.iload_n 2, 1) := by decide +kernel
theorem dX7_setRank_6 : decode cX7_setRank 6 = .ok (.iconst 0, 1) := by decide +kernel
theorem dX7_setRank_7 : decode cX7_setRank 7 = .ok (.bipush 9, 2) := by decide +kernel
theorem dX7_setRank_9 : decode cX7_setRank 9 = .ok (.invokestatic 251, 3) := by decide +kernel
theorem dX7_setRest_0 : decode cX7_setRest 0 = .ok (.aload_n 0, 1) := by decide +kernel
theorem dX7_setRest_1 : decode cX7_setRest 1 = .ok (.iload_n 1, 1) := by decide +kernel
theorem dX7_setRest_12 : decode cX7_setRest 12 = .ok (.iload_n 2, 1) := by decide +kernel
theorem dX7_setRest_13 : decode cX7_setRest 13 = .ok (.ifCond .le 10, 3) := by decide +kernel
theorem dX7_setRest_16 : decode cX7_setRest 16 = .ok (.iload_n 3, 1) := by decide +kernel
theorem dX7_setRest_17 : decode cX7_setRest 17 = .ok (.iconst 1, 1) := by decide +kernel
theorem dX7_setRest_18 : decode cX7_setRest 18 = .ok (.bipush 99, 2) := by decide +kernel
theorem dX7_setRest_2 : decode cX7_setRest 2 = .ok (.invokevirtual 133, 3) := by decide +kernel
theorem dX7_setRest_20 : decode cX7_setRest 20 = .ok (.invokestatic 251, 3) := by decide +kernel
theorem dX7_setRest_23 : decode cX7_setRest 23 = .ok (.aload_n 0, 1) := by decide +kernel
theorem dX7_setRest_24 : decode cX7_setRest 24 = .ok (.invokevirtual 292, 3) := by decide +kernel
theorem dX7_setRest_27 : decode cX7_setRest 27 = .ok (.aload_n 0, 1) := by decide +kernel
theorem dX7_setRest_28 : decode cX7_setRest 28 = .ok (.getfield 10, 3) := by decide +kernel
theorem dX7_setRest_31 : decode cX7_setRest 31 = .ok (.getfield 137, 3) := by decide +kernel
theorem dX7_setRest_34 : decode cX7_setRest 34 = .ok (.iload_n 1, 1) := by decide +kernel
theorem dX7_setRest_35 : decode cX7_setRest 35 = .ok (.aaload, 1) := by decide +kernel
theorem dX7_setRest_36 : decode cX7_setRest 36 = .ok (.astore 4, 2) := by decide +kernel
theorem dX7_setRest_38 : decode cX7_setRest 38 = .ok (.aload 4, 2) := by decide +kernel
theorem dX7_setRest_40 : decode cX7_setRest 40 = .ok (.getfield 171, 3) := by decide +kernel
theorem dX7_setRest_43 : decode cX7_setRest 43 = .ok (.istore 5, 2) := by decide +kernel
theorem dX7_setRest_45 : decode cX7_setRest 45 = .ok (.aload 4, 2) := by decide +kernel
theorem dX7_setRest_47 : decode cX7_setRest 47 = .ok (.iload_n 2, 1) := by decide +kernel
theorem dX7_setRest_48 : decode cX7_setRest 48 = .ok (.putfield 171, 3) := by decide +kernel
theorem dX7_setRest_5 : decode cX7_setRest 5 = .ok (.iload_n 2, 1) := by decide +kernel
theorem dX7_setRest_51 : decode cX7_setRest 51 = .ok (.aload 4, 2) := by decide +kernel
theorem dX7_setRest_53 : decode cX7_setRest 53 = .ok (.iload_n 2, 1) := by decide +kernel
theorem dX7_setRest_54 : decode cX7_setRest 54 = .ok (.ifCond .le 7, 3) := by decide +kernel
theorem dX7_setRest_57 : decode cX7_setRest 57 = .ok (.iload_n 3, 1) := by decide +kernel
theorem dX7_setRest_58 : decode cX7_setRest 58 = .ok (.goto 4, 3) := by decide +kernel
theorem dX7_setRest_6 : decode cX7_setRest 6 = .ok (.iconst 0, 1) := by decide +kernel
theorem dX7_setRest_61 : decode cX7_setRest 61 = .ok (.iconst 0, 1) := by decide +kernel
theorem dX7_setRest_62 : decode cX7_setRest 62 = .ok (.putfield 174, 3) := by decide +kernel
theorem dX7_setRest_65 : decode cX7_setRest 65 = .ok (.iload 5, 2) := by decide +kernel
theorem dX7_setRest_67 : decode cX7_setRest 67 = .ok (.ireturn, 1) := by decide +kernel
theorem dX7_setRest_7 : decode cX7_setRest 7 = .ok (.bipush 99, 2) := by decide +kernel
theorem dX7_setRest_9 : decode cX7_setRest 9 = .ok (.invokestatic 251, 3) := by decide +kernel
theorem dX7_setTray_0 : decode cX7_setTray 0 = .ok (.iload_n 1, 1) := by decide +kernel
theorem dX7_setTray_1 : decode cX7_setTray 1 = .ok (.iconst 1, 1) := by decide +kernel
theorem dX7_setTray_11 : decode cX7_setTray 11 = .ok (.aload_n 0, 1) := by decide +kernel
theorem dX7_setTray_12 : decode cX7_setTray 12 = .ok (.getfield 10, 3) := by decide +kernel
theorem dX7_setTray_15 : decode cX7_setTray 15 = .ok (.getfield 121, 3) := by decide +kernel
theorem dX7_setTray_18 : decode cX7_setTray 18 = .ok (.istore_n 2, 1) := by decide +kernel
theorem dX7_setTray_19 : decode cX7_setTray 19 = .ok (.aload_n 0, 1) := by decide +kernel
theorem dX7_setTray_2 : decode cX7_setTray 2 = .ok (.bipush 20, 2) := by decide +kernel
theorem dX7_setTray_20 : decode cX7_setTray 20 = .ok (.getfield 10, 3) := by decide +kernel
theorem dX7_setTray_23 : decode cX7_setTray 23 = .ok (.iload_n 1, 1) := by decide +kernel
theorem dX7_setTray_24 : decode cX7_setTray 24 = .ok (.putfield 121, 3) := by decide +kernel
theorem dX7_setTray_27 : decode cX7_setTray 27 = .ok (.iload_n 2, 1) := by decide +kernel
theorem dX7_setTray_28 : decode cX7_setTray 28 = .ok (.ireturn, 1) := by decide +kernel
theorem dX7_setTray_4 : decode cX7_setTray 4 = .ok (.invokestatic 251, 3) := by decide +kernel
theorem dX7_setTray_7 : decode cX7_setTray 7 = .ok (.aload_n 0, 1) := by decide +kernel
theorem dX7_setTray_8 : decode cX7_setTray 8 = .ok (.invokevirtual 292, 3) := by decide +kernel
theorem dX7_setTries_0 : decode cX7_setTries 0 = .ok (.iload_n 1, 1) := by decide +kernel
theorem dX7_setTries_1 : decode cX7_setTries 1 = .ok (.iconst 1, 1) := by decide +kernel
theorem dX7_setTries_11 : decode cX7_setTries 11 = .ok (.aload_n 0, 1) := by decide +kernel
theorem dX7_setTries_12 : decode cX7_setTries 12 = .ok (.getfield 10, 3) := by decide +kernel
theorem dX7_setTries_15 : decode cX7_setTries 15 = .ok (.getfield 124, 3) := by decide +kernel
theorem dX7_setTries_18 : decode cX7_setTries 18 = .ok (.istore_n 2, 1) := by decide +kernel
theorem dX7_setTries_19 : decode cX7_setTries 19 = .ok (.aload_n 0, 1) := by decide +kernel
theorem dX7_setTries_2 : decode cX7_setTries 2 = .ok (.bipush 9, 2) := by decide +kernel
theorem dX7_setTries_20 : decode cX7_setTries 20 = .ok (.getfield 10, 3) := by decide +kernel
theorem dX7_setTries_23 : decode cX7_setTries 23 = .ok (.iload_n 1, 1) := by decide +kernel
theorem dX7_setTries_24 : decode cX7_setTries 24 = .ok (.putfield 124, 3) := by decide +kernel
theorem dX7_setTries_27 : decode cX7_setTries 27 = .ok (.iload_n 2, 1) := by decide +kernel
theorem dX7_setTries_28 : decode cX7_setTries 28 = .ok (.ireturn, 1) := by decide +kernel
theorem dX7_setTries_4 : decode cX7_setTries 4 = .ok (.invokestatic 251, 3) := by decide +kernel
theorem dX7_setTries_7 : decode cX7_setTries 7 = .ok (.aload_n 0, 1) := by decide +kernel
theorem dX7_setTries_8 : decode cX7_setTries 8 = .ok (.invokevirtual 292, 3) := by decide +kernel
theorem dX7_setting_0 : decode cX7_setting 0 = .ok (.iload_n 1, 1) := by decide +kernel
theorem dX7_setting_1 : decode cX7_setting 1 = .ok (.tableswitch 75 0 4 #[35, 43, 51, 59, 67], 35) := by decide +kernel
theorem dX7_setting_36 : decode cX7_setting 36 = .ok (.aload_n 0, 1) := by decide +kernel
theorem dX7_setting_37 : decode cX7_setting 37 = .ok (.getfield 10, 3) := by decide +kernel
theorem dX7_setting_40 : decode cX7_setting 40 = .ok (.getfield 118, 3) := by decide +kernel
theorem dX7_setting_43 : decode cX7_setting 43 = .ok (.ireturn, 1) := by decide +kernel
theorem dX7_setting_44 : decode cX7_setting 44 = .ok (.aload_n 0, 1) := by decide +kernel
theorem dX7_setting_45 : decode cX7_setting 45 = .ok (.getfield 10, 3) := by decide +kernel
theorem dX7_setting_48 : decode cX7_setting 48 = .ok (.getfield 121, 3) := by decide +kernel
theorem dX7_setting_51 : decode cX7_setting 51 = .ok (.ireturn, 1) := by decide +kernel
theorem dX7_setting_52 : decode cX7_setting 52 = .ok (.aload_n 0, 1) := by decide +kernel
theorem dX7_setting_53 : decode cX7_setting 53 = .ok (.getfield 10, 3) := by decide +kernel
theorem dX7_setting_56 : decode cX7_setting 56 = .ok (.getfield 124, 3) := by decide +kernel
theorem dX7_setting_59 : decode cX7_setting 59 = .ok (.ireturn, 1) := by decide +kernel
theorem dX7_setting_60 : decode cX7_setting 60 = .ok (.aload_n 0, 1) := by decide +kernel
theorem dX7_setting_61 : decode cX7_setting 61 = .ok (.getfield 10, 3) := by decide +kernel
theorem dX7_setting_64 : decode cX7_setting 64 = .ok (.getfield 127, 3) := by decide +kernel
theorem dX7_setting_67 : decode cX7_setting 67 = .ok (.ireturn, 1) := by decide +kernel
theorem dX7_setting_68 : decode cX7_setting 68 = .ok (.aload_n 0, 1) := by decide +kernel
theorem dX7_setting_69 : decode cX7_setting 69 = .ok (.getfield 10, 3) := by decide +kernel
theorem dX7_setting_72 : decode cX7_setting 72 = .ok (.getfield 130, 3) := by decide +kernel
theorem dX7_setting_75 : decode cX7_setting 75 = .ok (.ireturn, 1) := by decide +kernel
theorem dX7_setting_76 : decode cX7_setting 76 = .ok (.new 105, 3) := by decide +kernel
theorem dX7_setting_79 : decode cX7_setting 79 = .ok (.dup, 1) := by decide +kernel
theorem dX7_setting_80 : decode cX7_setting 80 = .ok (.ldc 116, 2) := by decide +kernel
theorem dX7_setting_82 : decode cX7_setting 82 = .ok (.invokespecial 109, 3) := by decide +kernel
theorem dX7_setting_85 : decode cX7_setting 85 = .ok (.athrow, 1) := by decide +kernel
theorem dX7_station_0 : decode cX7_station 0 = .ok (.aload_n 0, 1) := by decide +kernel
theorem dX7_station_1 : decode cX7_station 1 = .ok (.iload_n 1, 1) := by decide +kernel
theorem dX7_station_100 : decode cX7_station 100 = .ok (.getfield 152, 3) := by decide +kernel
theorem dX7_station_103 : decode cX7_station 103 = .ok (.ireturn, 1) := by decide +kernel
theorem dX7_station_104 : decode cX7_station 104 = .ok (.aload_n 3, 1) := by decide +kernel
theorem dX7_station_105 : decode cX7_station 105 = .ok (.getfield 155, 3) := by decide +kernel
theorem dX7_station_108 : decode cX7_station 108 = .ok (.ireturn, 1) := by decide +kernel
theorem dX7_station_109 : decode cX7_station 109 = .ok (.aload_n 3, 1) := by decide +kernel
theorem dX7_station_110 : decode cX7_station 110 = .ok (.getfield 158, 3) := by decide +kernel
theorem dX7_station_113 : decode cX7_station 113 = .ok (.ireturn, 1) := by decide +kernel
theorem dX7_station_114 : decode cX7_station 114 = .ok (.aload_n 3, 1) := by decide +kernel
theorem dX7_station_115 : decode cX7_station 115 = .ok (.getfield 161, 3) := by decide +kernel
theorem dX7_station_118 : decode cX7_station 118 = .ok (.ireturn, 1) := by decide +kernel
theorem dX7_station_119 : decode cX7_station 119 = .ok (.aload_n 3, 1) := by decide +kernel
theorem dX7_station_12 : decode cX7_station 12 = .ok (.iload_n 1, 1) := by decide +kernel
theorem dX7_station_120 : decode cX7_station 120 = .ok (.getfield 164, 3) := by decide +kernel
theorem dX7_station_123 : decode cX7_station 123 = .ok (.ifCond .eq 7, 3) := by decide +kernel
theorem dX7_station_126 : decode cX7_station 126 = .ok (.iconst 1, 1) := by decide +kernel
theorem dX7_station_127 : decode cX7_station 127 = .ok (.goto 4, 3) := by decide +kernel
theorem dX7_station_13 : decode cX7_station 13 = .ok (.aaload, 1) := by decide +kernel
theorem dX7_station_130 : decode cX7_station 130 = .ok (.iconst 0, 1) := by decide +kernel
theorem dX7_station_131 : decode cX7_station 131 = .ok (.ireturn, 1) := by decide +kernel
theorem dX7_station_132 : decode cX7_station 132 = .ok (.aload_n 3, 1) := by decide +kernel
theorem dX7_station_133 : decode cX7_station 133 = .ok (.getfield 141, 3) := by decide +kernel
theorem dX7_station_136 : decode cX7_station 136 = .ok (.iconst 3, 1) := by decide +kernel
theorem dX7_station_137 : decode cX7_station 137 = .ok (.if_icmp .ne 10, 3) := by decide +kernel
theorem dX7_station_14 : decode cX7_station 14 = .ok (.astore_n 3, 1) := by decide +kernel
theorem dX7_station_140 : decode cX7_station 140 = .ok (.aload_n 3, 1) := by decide +kernel
theorem dX7_station_141 : decode cX7_station 141 = .ok (.getfield 168, 3) := by decide +kernel
theorem dX7_station_144 : decode cX7_station 144 = .ok (.goto 4, 3) := by decide +kernel
theorem dX7_station_147 : decode cX7_station 147 = .ok (.iconst (-1), 1) := by decide +kernel
theorem dX7_station_148 : decode cX7_station 148 = .ok (.ireturn, 1) := by decide +kernel
theorem dX7_station_149 : decode cX7_station 149 = .ok (.aload_n 3, 1) := by decide +kernel
theorem dX7_station_15 : decode cX7_station 15 = .ok (.iload_n 2, 1) := by decide +kernel
theorem dX7_station_150 : decode cX7_station 150 = .ok (.getfield 171, 3) := by decide +kernel
theorem dX7_station_153 : decode cX7_station 153 = .ok (.ireturn, 1) := by decide +kernel
theorem dX7_station_154 : decode cX7_station 154 = .ok (.aload_n 3, 1) := by decide +kernel
theorem dX7_station_155 : decode cX7_station 155 = .ok (.getfield 174, 3) := by decide +kernel
theorem dX7_station_158 : decode cX7_station 158 = .ok (.ireturn, 1) := by decide +kernel
theorem dX7_station_159 : decode cX7_station 159 = .ok (.aload_n 3, 1) := by decide +kernel
theorem dX7_station_16 : decode cX7_station 16 = .ok (.tableswitch 153 0 12 #[68, 73, 78, 83, 88, 93, 98, 103, 116, 133, 138, 143, 148], 68) := by decide +kernel
theorem dX7_station_160 : decode cX7_station 160 = .ok (.getfield 177, 3) := by decide +kernel
theorem dX7_station_163 : decode cX7_station 163 = .ok (.ireturn, 1) := by decide +kernel
theorem dX7_station_164 : decode cX7_station 164 = .ok (.aload_n 3, 1) := by decide +kernel
theorem dX7_station_165 : decode cX7_station 165 = .ok (.getfield 180, 3) := by decide +kernel
theorem dX7_station_168 : decode cX7_station 168 = .ok (.ireturn, 1) := by decide +kernel
theorem dX7_station_169 : decode cX7_station 169 = .ok (.new 105, 3) := by decide +kernel
theorem dX7_station_172 : decode cX7_station 172 = .ok (.dup, 1) := by decide +kernel
theorem dX7_station_173 : decode cX7_station 173 = .ok (.ldc 116, 2) := by decide +kernel
theorem dX7_station_175 : decode cX7_station 175 = .ok (.invokespecial 109, 3) := by decide +kernel
theorem dX7_station_178 : decode cX7_station 178 = .ok (.athrow, 1) := by decide +kernel
theorem dX7_station_2 : decode cX7_station 2 = .ok (.invokevirtual 133, 3) := by decide +kernel
theorem dX7_station_5 : decode cX7_station 5 = .ok (.aload_n 0, 1) := by decide +kernel
theorem dX7_station_6 : decode cX7_station 6 = .ok (.getfield 10, 3) := by decide +kernel
theorem dX7_station_84 : decode cX7_station 84 = .ok (.aload_n 3, 1) := by decide +kernel
theorem dX7_station_85 : decode cX7_station 85 = .ok (.getfield 141, 3) := by decide +kernel
theorem dX7_station_88 : decode cX7_station 88 = .ok (.ireturn, 1) := by decide +kernel
theorem dX7_station_89 : decode cX7_station 89 = .ok (.aload_n 3, 1) := by decide +kernel
theorem dX7_station_9 : decode cX7_station 9 = .ok (.getfield 137, 3) := by decide +kernel
theorem dX7_station_90 : decode cX7_station 90 = .ok (.getfield 146, 3) := by decide +kernel
theorem dX7_station_93 : decode cX7_station 93 = .ok (.ireturn, 1) := by decide +kernel
theorem dX7_station_94 : decode cX7_station 94 = .ok (.aload_n 3, 1) := by decide +kernel
theorem dX7_station_95 : decode cX7_station 95 = .ok (.getfield 149, 3) := by decide +kernel
theorem dX7_station_98 : decode cX7_station 98 = .ok (.ireturn, 1) := by decide +kernel
theorem dX7_station_99 : decode cX7_station 99 = .ok (.aload_n 3, 1) := by decide +kernel
theorem dX7_stepsOf_0 : decode cX7_stepsOf 0 = .ok (.iconst 0, 1) := by decide +kernel
theorem dX7_stepsOf_1 : decode cX7_stepsOf 1 = .ok (.istore_n 2, 1) := by decide +kernel
theorem dX7_stepsOf_10 : decode cX7_stepsOf 10 = .ok (.arraylength, 1) := by decide +kernel
theorem dX7_stepsOf_11 : decode cX7_stepsOf 11 = .ok (.if_icmp .ge 62, 3) := by decide +kernel
theorem dX7_stepsOf_14 : decode cX7_stepsOf 14 = .ok (.aload_n 0, 1) := by decide +kernel
theorem dX7_stepsOf_15 : decode cX7_stepsOf 15 = .ok (.iload 4, 2) := by decide +kernel
theorem dX7_stepsOf_17 : decode cX7_stepsOf 17 = .ok (.baload, 1) := by decide +kernel
theorem dX7_stepsOf_18 : decode cX7_stepsOf 18 = .ok (.iload_n 3, 1) := by decide +kernel
theorem dX7_stepsOf_19 : decode cX7_stepsOf 19 = .ok (.if_icmp .ge 12, 3) := by decide +kernel
theorem dX7_stepsOf_2 : decode cX7_stepsOf 2 = .ok (.iload_n 1, 1) := by decide +kernel
theorem dX7_stepsOf_22 : decode cX7_stepsOf 22 = .ok (.iload_n 3, 1) := by decide +kernel
theorem dX7_stepsOf_23 : decode cX7_stepsOf 23 = .ok (.aload_n 0, 1) := by decide +kernel
theorem dX7_stepsOf_24 : decode cX7_stepsOf 24 = .ok (.iload 4, 2) := by decide +kernel
theorem dX7_stepsOf_26 : decode cX7_stepsOf 26 = .ok (.baload, 1) := by decide +kernel
theorem dX7_stepsOf_27 : decode cX7_stepsOf 27 = .ok (.isub, 1) := by decide +kernel
theorem dX7_stepsOf_28 : decode cX7_stepsOf 28 = .ok (.goto 9, 3) := by decide +kernel
theorem dX7_stepsOf_3 : decode cX7_stepsOf 3 = .ok (.istore_n 3, 1) := by decide +kernel
theorem dX7_stepsOf_31 : decode cX7_stepsOf 31 = .ok (.aload_n 0, 1) := by decide +kernel
theorem dX7_stepsOf_32 : decode cX7_stepsOf 32 = .ok (.iload 4, 2) := by decide +kernel
theorem dX7_stepsOf_34 : decode cX7_stepsOf 34 = .ok (.baload, 1) := by decide +kernel
theorem dX7_stepsOf_35 : decode cX7_stepsOf 35 = .ok (.iload_n 3, 1) := by decide +kernel
theorem dX7_stepsOf_36 : decode cX7_stepsOf 36 = .ok (.isub, 1) := by decide +kernel
theorem dX7_stepsOf_37 : decode cX7_stepsOf 37 = .ok (.istore 5, 2) := by decide +kernel
theorem dX7_stepsOf_39 : decode cX7_stepsOf 39 = .ok (.iload_n 2, 1) := by decide +kernel
theorem dX7_stepsOf_4 : decode cX7_stepsOf 4 = .ok (.iconst 0, 1) := by decide +kernel
theorem dX7_stepsOf_40 : decode cX7_stepsOf 40 = .ok (.iload 5, 2) := by decide +kernel
theorem dX7_stepsOf_42 : decode cX7_stepsOf 42 = .ok (.bipush 26, 2) := by decide +kernel
theorem dX7_stepsOf_44 : decode cX7_stepsOf 44 = .ok (.iload 5, 2) := by decide +kernel
theorem dX7_stepsOf_46 : decode cX7_stepsOf 46 = .ok (.isub, 1) := by decide +kernel
theorem dX7_stepsOf_47 : decode cX7_stepsOf 47 = .ok (.if_icmp .le 11, 3) := by decide +kernel
theorem dX7_stepsOf_5 : decode cX7_stepsOf 5 = .ok (.istore 4, 2) := by decide +kernel
theorem dX7_stepsOf_50 : decode cX7_stepsOf 50 = .ok (.bipush 26, 2) := by decide +kernel
theorem dX7_stepsOf_52 : decode cX7_stepsOf 52 = .ok (.iload 5, 2) := by decide +kernel
theorem dX7_stepsOf_54 : decode cX7_stepsOf 54 = .ok (.isub, 1) := by decide +kernel
theorem dX7_stepsOf_55 : decode cX7_stepsOf 55 = .ok (.goto 5, 3) := by decide +kernel
theorem dX7_stepsOf_58 : decode cX7_stepsOf 58 = .ok (.iload 5, 2) := by decide +kernel
theorem dX7_stepsOf_60 : decode cX7_stepsOf 60 = .ok (.iadd, 1) := by decide +kernel
theorem dX7_stepsOf_61 : decode cX7_stepsOf 61 = .ok (.istore_n 2, 1) := by decide +kernel
theorem dX7_stepsOf_62 : decode cX7_stepsOf 62 = .ok (.aload_n 0, 1) := by decide +kernel
theorem dX7_stepsOf_63 : decode cX7_stepsOf 63 = .ok (.iload 4, 2) := by decide +kernel
theorem dX7_stepsOf_65 : decode cX7_stepsOf 65 = .ok (.baload, 1) := by decide +kernel
theorem dX7_stepsOf_66 : decode cX7_stepsOf 66 = .ok (.istore_n 3, 1) := by decide +kernel
theorem dX7_stepsOf_67 : decode cX7_stepsOf 67 = .ok (.iinc 4 1, 3) := by decide +kernel
theorem dX7_stepsOf_7 : decode cX7_stepsOf 7 = .ok (.iload 4, 2) := by decide +kernel
theorem dX7_stepsOf_70 : decode cX7_stepsOf 70 = .ok (.goto (-63), 3) := by decide +kernel
theorem dX7_stepsOf_73 : decode cX7_stepsOf 73 = .ok (.iload_n 2, 1) := by decide +kernel
theorem dX7_stepsOf_74 : decode cX7_stepsOf 74 = .ok (.ireturn, 1) := by decide +kernel
theorem dX7_stepsOf_9 : decode cX7_stepsOf 9 = .ok (.aload_n 0, 1) := by decide +kernel
theorem dX7_steps_0 : decode cX7_steps 0 = .ok (.aload_n 0, 1) := by decide +kernel
theorem dX7_steps_1 : decode cX7_steps 1 = .ok (.iload_n 1, 1) := by decide +kernel
theorem dX7_steps_12 : decode cX7_steps 12 = .ok (.aload_n 0, 1) := by decide +kernel
theorem dX7_steps_13 : decode cX7_steps 13 = .ok (.getfield 10, 3) := by decide +kernel
theorem dX7_steps_16 : decode cX7_steps 16 = .ok (.getfield 186, 3) := by decide +kernel
theorem dX7_steps_19 : decode cX7_steps 19 = .ok (.iload_n 1, 1) := by decide +kernel
theorem dX7_steps_2 : decode cX7_steps 2 = .ok (.invokevirtual 183, 3) := by decide +kernel
theorem dX7_steps_20 : decode cX7_steps 20 = .ok (.aaload, 1) := by decide +kernel
theorem dX7_steps_21 : decode cX7_steps 21 = .ok (.getfield 198, 3) := by decide +kernel
theorem dX7_steps_24 : decode cX7_steps 24 = .ok (.iload_n 2, 1) := by decide +kernel
theorem dX7_steps_25 : decode cX7_steps 25 = .ok (.invokestatic 255, 3) := by decide +kernel
theorem dX7_steps_28 : decode cX7_steps 28 = .ok (.ireturn, 1) := by decide +kernel
theorem dX7_steps_5 : decode cX7_steps 5 = .ok (.iload_n 2, 1) := by decide +kernel
theorem dX7_steps_6 : decode cX7_steps 6 = .ok (.iconst 0, 1) := by decide +kernel
theorem dX7_steps_7 : decode cX7_steps 7 = .ok (.bipush 25, 2) := by decide +kernel
theorem dX7_steps_9 : decode cX7_steps 9 = .ok (.invokestatic 251, 3) := by decide +kernel
theorem dX7_stop_0 : decode cX7_stop 0 = .ok (.aload_n 0, 1) := by decide +kernel
theorem dX7_stop_1 : decode cX7_stop 1 = .ok (.iload_n 1, 1) := by decide +kernel
theorem dX7_stop_10 : decode cX7_stop 10 = .ok (.getfield 10, 3) := by decide +kernel
theorem dX7_stop_13 : decode cX7_stop 13 = .ok (.getfield 137, 3) := by decide +kernel
theorem dX7_stop_16 : decode cX7_stop 16 = .ok (.iload_n 1, 1) := by decide +kernel
theorem dX7_stop_17 : decode cX7_stop 17 = .ok (.aaload, 1) := by decide +kernel
theorem dX7_stop_18 : decode cX7_stop 18 = .ok (.iload_n 2, 1) := by decide +kernel
theorem dX7_stop_19 : decode cX7_stop 19 = .ok (.putfield 164, 3) := by decide +kernel
theorem dX7_stop_2 : decode cX7_stop 2 = .ok (.invokevirtual 133, 3) := by decide +kernel
theorem dX7_stop_22 : decode cX7_stop 22 = .ok (.iconst 0, 1) := by decide +kernel
theorem dX7_stop_23 : decode cX7_stop 23 = .ok (.istore_n 3, 1) := by decide +kernel
theorem dX7_stop_24 : decode cX7_stop 24 = .ok (.iconst 0, 1) := by decide +kernel
theorem dX7_stop_25 : decode cX7_stop 25 = .ok (.istore 4, 2) := by decide +kernel
theorem dX7_stop_27 : decode cX7_stop 27 = .ok (.iload 4, 2) := by decide +kernel
theorem dX7_stop_29 : decode cX7_stop 29 = .ok (.aload_n 0, 1) := by decide +kernel
theorem dX7_stop_30 : decode cX7_stop 30 = .ok (.getfield 10, 3) := by decide +kernel
theorem dX7_stop_33 : decode cX7_stop 33 = .ok (.getfield 81, 3) := by decide +kernel
theorem dX7_stop_36 : decode cX7_stop 36 = .ok (.if_icmp .ge 28, 3) := by decide +kernel
theorem dX7_stop_39 : decode cX7_stop 39 = .ok (.aload_n 0, 1) := by decide +kernel
theorem dX7_stop_40 : decode cX7_stop 40 = .ok (.getfield 10, 3) := by decide +kernel
theorem dX7_stop_43 : decode cX7_stop 43 = .ok (.getfield 137, 3) := by decide +kernel
theorem dX7_stop_46 : decode cX7_stop 46 = .ok (.iload 4, 2) := by decide +kernel
theorem dX7_stop_48 : decode cX7_stop 48 = .ok (.aaload, 1) := by decide +kernel
theorem dX7_stop_49 : decode cX7_stop 49 = .ok (.getfield 164, 3) := by decide +kernel
theorem dX7_stop_5 : decode cX7_stop 5 = .ok (.aload_n 0, 1) := by decide +kernel
theorem dX7_stop_52 : decode cX7_stop 52 = .ok (.ifCond .eq 6, 3) := by decide +kernel
theorem dX7_stop_55 : decode cX7_stop 55 = .ok (.iinc 3 1, 3) := by decide +kernel
theorem dX7_stop_58 : decode cX7_stop 58 = .ok (.iinc 4 1, 3) := by decide +kernel
theorem dX7_stop_6 : decode cX7_stop 6 = .ok (.invokevirtual 292, 3) := by decide +kernel
theorem dX7_stop_61 : decode cX7_stop 61 = .ok (.goto (-34), 3) := by decide +kernel
theorem dX7_stop_64 : decode cX7_stop 64 = .ok (.iload_n 3, 1) := by decide +kernel
theorem dX7_stop_65 : decode cX7_stop 65 = .ok (.ireturn, 1) := by decide +kernel
theorem dX7_stop_9 : decode cX7_stop 9 = .ok (.aload_n 0, 1) := by decide +kernel
theorem dX7_swap_0 : decode cX7_swap 0 = .ok (.aload_n 0, 1) := by decide +kernel
theorem dX7_swap_1 : decode cX7_swap 1 = .ok (.iload_n 1, 1) := by decide +kernel
theorem dX7_swap_10 : decode cX7_swap 10 = .ok (.iload_n 1, 1) := by decide +kernel
theorem dX7_swap_101 : decode cX7_swap 101 = .ok (.iload_n 1, 1) := by decide +kernel
theorem dX7_swap_102 : decode cX7_swap 102 = .ok (.aaload, 1) := by decide +kernel
theorem dX7_swap_103 : decode cX7_swap 103 = .ok (.getfield 195, 3) := by decide +kernel
theorem dX7_swap_106 : decode cX7_swap 106 = .ok (.invokevirtual 318, 3) := by decide +kernel
theorem dX7_swap_109 : decode cX7_swap 109 = .ok (.aload_n 0, 1) := by decide +kernel
theorem dX7_swap_11 : decode cX7_swap 11 = .ok (.iload_n 2, 1) := by decide +kernel
theorem dX7_swap_110 : decode cX7_swap 110 = .ok (.getfield 10, 3) := by decide +kernel
theorem dX7_swap_113 : decode cX7_swap 113 = .ok (.iload_n 1, 1) := by decide +kernel
theorem dX7_swap_114 : decode cX7_swap 114 = .ok (.iload_n 3, 1) := by decide +kernel
theorem dX7_swap_115 : decode cX7_swap 115 = .ok (.invokevirtual 318, 3) := by decide +kernel
theorem dX7_swap_118 : decode cX7_swap 118 = .ok (.iload_n 3, 1) := by decide +kernel
theorem dX7_swap_119 : decode cX7_swap 119 = .ok (.ireturn, 1) := by decide +kernel
theorem dX7_swap_12 : decode cX7_swap 12 = .ok (.if_icmp .eq 30, 3) := by decide +kernel
theorem dX7_swap_15 : decode cX7_swap 15 = .ok (.aload_n 0, 1) := by decide +kernel
theorem dX7_swap_16 : decode cX7_swap 16 = .ok (.getfield 10, 3) := by decide +kernel
theorem dX7_swap_19 : decode cX7_swap 19 = .ok (.getfield 186, 3) := by decide +kernel
theorem dX7_swap_2 : decode cX7_swap 2 = .ok (.invokevirtual 183, 3) := by decide +kernel
theorem dX7_swap_22 : decode cX7_swap 22 = .ok (.iload_n 1, 1) := by decide +kernel
theorem dX7_swap_23 : decode cX7_swap 23 = .ok (.aaload, 1) := by decide +kernel
theorem dX7_swap_24 : decode cX7_swap 24 = .ok (.getfield 190, 3) := by decide +kernel
theorem dX7_swap_27 : decode cX7_swap 27 = .ok (.aload_n 0, 1) := by decide +kernel
theorem dX7_swap_28 : decode cX7_swap 28 = .ok (.getfield 10, 3) := by decide +kernel
theorem dX7_swap_31 : decode cX7_swap 31 = .ok (.getfield 186, 3) := by decide +kernel
theorem dX7_swap_34 : decode cX7_swap 34 = .ok (.iload_n 2, 1) := by decide +kernel
theorem dX7_swap_35 : decode cX7_swap 35 = .ok (.aaload, 1) := by decide +kernel
theorem dX7_swap_36 : decode cX7_swap 36 = .ok (.getfield 190, 3) := by decide +kernel
theorem dX7_swap_39 : decode cX7_swap 39 = .ok (.if_icmp .eq 14, 3) := by decide +kernel
theorem dX7_swap_42 : decode cX7_swap 42 = .ok (.new 105, 3) := by decide +kernel
theorem dX7_swap_45 : decode cX7_swap 45 = .ok (.dup, 1) := by decide +kernel
theorem dX7_swap_46 : decode cX7_swap 46 = .ok (.ldc_w 316, 3) := by decide +kernel
theorem dX7_swap_49 : decode cX7_swap 49 = .ok (.invokespecial 109, 3) := by decide +kernel
theorem dX7_swap_5 : decode cX7_swap 5 = .ok (.aload_n 0, 1) := by decide +kernel
theorem dX7_swap_52 : decode cX7_swap 52 = .ok (.athrow, 1) := by decide +kernel
theorem dX7_swap_53 : decode cX7_swap 53 = .ok (.aload_n 0, 1) := by decide +kernel
theorem dX7_swap_54 : decode cX7_swap 54 = .ok (.iload_n 1, 1) := by decide +kernel
theorem dX7_swap_55 : decode cX7_swap 55 = .ok (.invokevirtual 303, 3) := by decide +kernel
theorem dX7_swap_58 : decode cX7_swap 58 = .ok (.ifCond .eq 11, 3) := by decide +kernel
theorem dX7_swap_6 : decode cX7_swap 6 = .ok (.iload_n 2, 1) := by decide +kernel
theorem dX7_swap_61 : decode cX7_swap 61 = .ok (.aload_n 0, 1) := by decide +kernel
theorem dX7_swap_62 : decode cX7_swap 62 = .ok (.iload_n 2, 1) := by decide +kernel
theorem dX7_swap_63 : decode cX7_swap 63 = .ok (.invokevirtual 303, 3) := by decide +kernel
theorem dX7_swap_66 : decode cX7_swap 66 = .ok (.ifCond .ne 6, 3) := by decide +kernel
theorem dX7_swap_69 : decode cX7_swap 69 = .ok (.bipush (-3), 2) := by decide +kernel
theorem dX7_swap_7 : decode cX7_swap 7 = .ok (.invokevirtual 183, 3) := by decide +kernel
theorem dX7_swap_71 : decode cX7_swap 71 = .ok (.ireturn, 1) := by decide +kernel
theorem dX7_swap_72 : decode cX7_swap 72 = .ok (.aload_n 0, 1) := by decide +kernel
theorem dX7_swap_73 : decode cX7_swap 73 = .ok (.invokevirtual 292, 3) := by decide +kernel
theorem dX7_swap_76 : decode cX7_swap 76 = .ok (.aload_n 0, 1) := by decide +kernel
theorem dX7_swap_77 : decode cX7_swap 77 = .ok (.getfield 10, 3) := by decide +kernel
theorem dX7_swap_80 : decode cX7_swap 80 = .ok (.getfield 186, 3) := by decide +kernel
theorem dX7_swap_83 : decode cX7_swap 83 = .ok (.iload_n 2, 1) := by decide +kernel
theorem dX7_swap_84 : decode cX7_swap 84 = .ok (.aaload, 1) := by decide +kernel
theorem dX7_swap_85 : decode cX7_swap 85 = .ok (.getfield 195, 3) := by decide +kernel
theorem dX7_swap_88 : decode cX7_swap 88 = .ok (.istore_n 3, 1) := by decide +kernel
theorem dX7_swap_89 : decode cX7_swap 89 = .ok (.aload_n 0, 1) := by decide +kernel
theorem dX7_swap_90 : decode cX7_swap 90 = .ok (.getfield 10, 3) := by decide +kernel
theorem dX7_swap_93 : decode cX7_swap 93 = .ok (.iload_n 2, 1) := by decide +kernel
theorem dX7_swap_94 : decode cX7_swap 94 = .ok (.aload_n 0, 1) := by decide +kernel
theorem dX7_swap_95 : decode cX7_swap 95 = .ok (.getfield 10, 3) := by decide +kernel
theorem dX7_swap_98 : decode cX7_swap 98 = .ok (.getfield 186, 3) := by decide +kernel
theorem dX7_ticksFor_0 : decode cX7_ticksFor 0 = .ok (.aload_n 0, 1) := by decide +kernel
theorem dX7_ticksFor_1 : decode cX7_ticksFor 1 = .ok (.iload_n 1, 1) := by decide +kernel
theorem dX7_ticksFor_10 : decode cX7_ticksFor 10 = .ok (.aload_n 0, 1) := by decide +kernel
theorem dX7_ticksFor_11 : decode cX7_ticksFor 11 = .ok (.getfield 10, 3) := by decide +kernel
theorem dX7_ticksFor_14 : decode cX7_ticksFor 14 = .ok (.getfield 137, 3) := by decide +kernel
theorem dX7_ticksFor_17 : decode cX7_ticksFor 17 = .ok (.iload_n 1, 1) := by decide +kernel
theorem dX7_ticksFor_18 : decode cX7_ticksFor 18 = .ok (.aaload, 1) := by decide +kernel
theorem dX7_ticksFor_19 : decode cX7_ticksFor 19 = .ok (.aload_n 0, 1) := by decide +kernel
theorem dX7_ticksFor_2 : decode cX7_ticksFor 2 = .ok (.invokevirtual 133, 3) := by decide +kernel
theorem dX7_ticksFor_20 : decode cX7_ticksFor 20 = .ok (.getfield 10, 3) := by decide +kernel
theorem dX7_ticksFor_23 : decode cX7_ticksFor 23 = .ok (.getfield 186, 3) := by decide +kernel
theorem dX7_ticksFor_26 : decode cX7_ticksFor 26 = .ok (.iload_n 2, 1) := by decide +kernel
theorem dX7_ticksFor_27 : decode cX7_ticksFor 27 = .ok (.aaload, 1) := by decide +kernel
theorem dX7_ticksFor_28 : decode cX7_ticksFor 28 = .ok (.getfield 198, 3) := by decide +kernel
theorem dX7_ticksFor_31 : decode cX7_ticksFor 31 = .ok (.invokevirtual 259, 3) := by decide +kernel
theorem dX7_ticksFor_34 : decode cX7_ticksFor 34 = .ok (.ireturn, 1) := by decide +kernel
theorem dX7_ticksFor_5 : decode cX7_ticksFor 5 = .ok (.aload_n 0, 1) := by decide +kernel
theorem dX7_ticksFor_6 : decode cX7_ticksFor 6 = .ok (.iload_n 2, 1) := by decide +kernel
theorem dX7_ticksFor_7 : decode cX7_ticksFor 7 = .ok (.invokevirtual 183, 3) := by decide +kernel
theorem dX7_ticksUntil_0 : decode cX7_ticksUntil 0 = .ok (.iconst 0, 1) := by decide +kernel
theorem dX7_ticksUntil_1 : decode cX7_ticksUntil 1 = .ok (.istore 4, 2) := by decide +kernel
theorem dX7_ticksUntil_10 : decode cX7_ticksUntil 10 = .ok (.aload_n 1, 1) := by decide +kernel
theorem dX7_ticksUntil_11 : decode cX7_ticksUntil 11 = .ok (.iload_n 2, 1) := by decide +kernel
theorem dX7_ticksUntil_12 : decode cX7_ticksUntil 12 = .ok (.invokevirtual 326, 3) := by decide +kernel
theorem dX7_ticksUntil_15 : decode cX7_ticksUntil 15 = .ok (.ifCond .eq 6, 3) := by decide +kernel
theorem dX7_ticksUntil_18 : decode cX7_ticksUntil 18 = .ok (.iload 4, 2) := by decide +kernel
theorem dX7_ticksUntil_20 : decode cX7_ticksUntil 20 = .ok (.ireturn, 1) := by decide +kernel
theorem dX7_ticksUntil_21 : decode cX7_ticksUntil 21 = .ok (.iload 4, 2) := by decide +kernel
theorem dX7_ticksUntil_23 : decode cX7_ticksUntil 23 = .ok (.iload_n 3, 1) := by decide +kernel
theorem dX7_ticksUntil_24 : decode cX7_ticksUntil 24 = .ok (.if_icmp .eq 10, 3) := by decide +kernel
theorem dX7_ticksUntil_27 : decode cX7_ticksUntil 27 = .ok (.aload_n 0, 1) := by decide +kernel
theorem dX7_ticksUntil_28 : decode cX7_ticksUntil 28 = .ok (.invokevirtual 322, 3) := by decide +kernel
theorem dX7_ticksUntil_3 : decode cX7_ticksUntil 3 = .ok (.iload 4, 2) := by decide +kernel
theorem dX7_ticksUntil_31 : decode cX7_ticksUntil 31 = .ok (.ifCond .ne 5, 3) := by decide +kernel
theorem dX7_ticksUntil_34 : decode cX7_ticksUntil 34 = .ok (.iconst (-1), 1) := by decide +kernel
theorem dX7_ticksUntil_35 : decode cX7_ticksUntil 35 = .ok (.ireturn, 1) := by decide +kernel
theorem dX7_ticksUntil_36 : decode cX7_ticksUntil 36 = .ok (.iinc 4 1, 3) := by decide +kernel
theorem dX7_ticksUntil_39 : decode cX7_ticksUntil 39 = .ok (.goto (-36), 3) := by decide +kernel
theorem dX7_ticksUntil_42 : decode cX7_ticksUntil 42 = .ok (.iconst (-1), 1) := by decide +kernel
theorem dX7_ticksUntil_43 : decode cX7_ticksUntil 43 = .ok (.ireturn, 1) := by decide +kernel
theorem dX7_ticksUntil_5 : decode cX7_ticksUntil 5 = .ok (.iload_n 3, 1) := by decide +kernel
theorem dX7_ticksUntil_6 : decode cX7_ticksUntil 6 = .ok (.if_icmp .gt 36, 3) := by decide +kernel
theorem dX7_ticksUntil_9 : decode cX7_ticksUntil 9 = .ok (.aload_n 0, 1) := by decide +kernel
theorem dX7_today_0 : decode cX7_today 0 = .ok (.aload_n 0, 1) := by decide +kernel
theorem dX7_today_1 : decode cX7_today 1 = .ok (.iload_n 1, 1) := by decide +kernel
theorem dX7_today_11 : decode cX7_today 11 = .ok (.iload_n 2, 1) := by decide +kernel
theorem dX7_today_12 : decode cX7_today 12 = .ok (.ifCond .ne 18, 3) := by decide +kernel
theorem dX7_today_15 : decode cX7_today 15 = .ok (.aload_n 0, 1) := by decide +kernel
theorem dX7_today_16 : decode cX7_today 16 = .ok (.getfield 10, 3) := by decide +kernel
theorem dX7_today_19 : decode cX7_today 19 = .ok (.getfield 217, 3) := by decide +kernel
theorem dX7_today_2 : decode cX7_today 2 = .ok (.invokevirtual 214, 3) := by decide +kernel
theorem dX7_today_22 : decode cX7_today 22 = .ok (.iload_n 1, 1) := by decide +kernel
theorem dX7_today_23 : decode cX7_today 23 = .ok (.aaload, 1) := by decide +kernel
theorem dX7_today_24 : decode cX7_today 24 = .ok (.getfield 277, 3) := by decide +kernel
theorem dX7_today_27 : decode cX7_today 27 = .ok (.goto 15, 3) := by decide +kernel
theorem dX7_today_30 : decode cX7_today 30 = .ok (.aload_n 0, 1) := by decide +kernel
theorem dX7_today_31 : decode cX7_today 31 = .ok (.getfield 10, 3) := by decide +kernel
theorem dX7_today_34 : decode cX7_today 34 = .ok (.getfield 217, 3) := by decide +kernel
theorem dX7_today_37 : decode cX7_today 37 = .ok (.iload_n 1, 1) := by decide +kernel
theorem dX7_today_38 : decode cX7_today 38 = .ok (.aaload, 1) := by decide +kernel
theorem dX7_today_39 : decode cX7_today 39 = .ok (.getfield 280, 3) := by decide +kernel
theorem dX7_today_42 : decode cX7_today 42 = .ok (.ireturn, 1) := by decide +kernel
theorem dX7_today_5 : decode cX7_today 5 = .ok (.iload_n 2, 1) := by decide +kernel
theorem dX7_today_6 : decode cX7_today 6 = .ok (.iconst 0, 1) := by decide +kernel
theorem dX7_today_7 : decode cX7_today 7 = .ok (.iconst 1, 1) := by decide +kernel
theorem dX7_today_8 : decode cX7_today 8 = .ok (.invokestatic 251, 3) := by decide +kernel
theorem dX7_total_0 : decode cX7_total 0 = .ok (.iload_n 1, 1) := by decide +kernel
theorem dX7_total_1 : decode cX7_total 1 = .ok (.iconst 0, 1) := by decide +kernel
theorem dX7_total_10 : decode cX7_total 10 = .ok (.getfield 283, 3) := by decide +kernel
theorem dX7_total_13 : decode cX7_total 13 = .ok (.iload_n 1, 1) := by decide +kernel
theorem dX7_total_14 : decode cX7_total 14 = .ok (.iaload, 1) := by decide +kernel
theorem dX7_total_15 : decode cX7_total 15 = .ok (.ireturn, 1) := by decide +kernel
theorem dX7_total_2 : decode cX7_total 2 = .ok (.iconst 4, 1) := by decide +kernel
theorem dX7_total_3 : decode cX7_total 3 = .ok (.invokestatic 251, 3) := by decide +kernel
theorem dX7_total_6 : decode cX7_total 6 = .ok (.aload_n 0, 1) := by decide +kernel
theorem dX7_total_7 : decode cX7_total 7 = .ok (.getfield 10, 3) := by decide +kernel
theorem dX7_trayAt_0 : decode cX7_trayAt 0 = .ok (.iconst 0, 1) := by decide +kernel
theorem dX7_trayAt_1 : decode cX7_trayAt 1 = .ok (.istore_n 2, 1) := by decide +kernel
theorem dX7_trayAt_12 : decode cX7_trayAt 12 = .ok (.if_icmp .ge 35, 3) := by decide +kernel
theorem dX7_trayAt_15 : decode cX7_trayAt 15 = .ok (.aload_n 0, 1) := by decide +kernel
theorem dX7_trayAt_16 : decode cX7_trayAt 16 = .ok (.getfield 10, 3) := by decide +kernel
theorem dX7_trayAt_19 : decode cX7_trayAt 19 = .ok (.getfield 186, 3) := by decide +kernel
theorem dX7_trayAt_2 : decode cX7_trayAt 2 = .ok (.iconst 0, 1) := by decide +kernel
theorem dX7_trayAt_22 : decode cX7_trayAt 22 = .ok (.iload_n 3, 1) := by decide +kernel
theorem dX7_trayAt_23 : decode cX7_trayAt 23 = .ok (.aaload, 1) := by decide +kernel
theorem dX7_trayAt_24 : decode cX7_trayAt 24 = .ok (.getfield 201, 3) := by decide +kernel
theorem dX7_trayAt_27 : decode cX7_trayAt 27 = .ok (.iconst 2, 1) := by decide +kernel
theorem dX7_trayAt_28 : decode cX7_trayAt 28 = .ok (.if_icmp .ne 13, 3) := by decide +kernel
theorem dX7_trayAt_3 : decode cX7_trayAt 3 = .ok (.istore_n 3, 1) := by decide +kernel
theorem dX7_trayAt_31 : decode cX7_trayAt 31 = .ok (.iload_n 2, 1) := by decide +kernel
theorem dX7_trayAt_32 : decode cX7_trayAt 32 = .ok (.iload_n 1, 1) := by decide +kernel
theorem dX7_trayAt_33 : decode cX7_trayAt 33 = .ok (.if_icmp .ne 5, 3) := by decide +kernel
theorem dX7_trayAt_36 : decode cX7_trayAt 36 = .ok (.iload_n 3, 1) := by decide +kernel
theorem dX7_trayAt_37 : decode cX7_trayAt 37 = .ok (.ireturn, 1) := by decide +kernel
theorem dX7_trayAt_38 : decode cX7_trayAt 38 = .ok (.iinc 2 1, 3) := by decide +kernel
theorem dX7_trayAt_4 : decode cX7_trayAt 4 = .ok (.iload_n 3, 1) := by decide +kernel
theorem dX7_trayAt_41 : decode cX7_trayAt 41 = .ok (.iinc 3 1, 3) := by decide +kernel
theorem dX7_trayAt_44 : decode cX7_trayAt 44 = .ok (.goto (-40), 3) := by decide +kernel
theorem dX7_trayAt_47 : decode cX7_trayAt 47 = .ok (.iconst (-1), 1) := by decide +kernel
theorem dX7_trayAt_48 : decode cX7_trayAt 48 = .ok (.ireturn, 1) := by decide +kernel
theorem dX7_trayAt_5 : decode cX7_trayAt 5 = .ok (.aload_n 0, 1) := by decide +kernel
theorem dX7_trayAt_6 : decode cX7_trayAt 6 = .ok (.getfield 10, 3) := by decide +kernel
theorem dX7_trayAt_9 : decode cX7_trayAt 9 = .ok (.getfield 95, 3) := by decide +kernel
theorem dX7_undo_0 : decode cX7_undo 0 = .ok (.aload_n 0, 1) := by decide +kernel
theorem dX7_undo_1 : decode cX7_undo 1 = .ok (.getfield 54, 3) := by decide +kernel
theorem dX7_undo_10 : decode cX7_undo 10 = .ok (.dup, 1) := by decide +kernel
theorem dX7_undo_11 : decode cX7_undo 11 = .ok (.getfield 54, 3) := by decide +kernel
theorem dX7_undo_14 : decode cX7_undo 14 = .ok (.iconst 1, 1) := by decide +kernel
theorem dX7_undo_15 : decode cX7_undo 15 = .ok (.isub, 1) := by decide +kernel
theorem dX7_undo_16 : decode cX7_undo 16 = .ok (.putfield 54, 3) := by decide +kernel
theorem dX7_undo_19 : decode cX7_undo 19 = .ok (.aload_n 0, 1) := by decide +kernel
theorem dX7_undo_20 : decode cX7_undo 20 = .ok (.getfield 30, 3) := by decide +kernel
theorem dX7_undo_23 : decode cX7_undo 23 = .ok (.aload_n 0, 1) := by decide +kernel
theorem dX7_undo_24 : decode cX7_undo 24 = .ok (.getfield 51, 3) := by decide +kernel
theorem dX7_undo_27 : decode cX7_undo 27 = .ok (.aload_n 0, 1) := by decide +kernel
theorem dX7_undo_28 : decode cX7_undo 28 = .ok (.getfield 54, 3) := by decide +kernel
theorem dX7_undo_31 : decode cX7_undo 31 = .ok (.iadd, 1) := by decide +kernel
theorem dX7_undo_32 : decode cX7_undo 32 = .ok (.bipush 8, 2) := by decide +kernel
theorem dX7_undo_34 : decode cX7_undo 34 = .ok (.irem, 1) := by decide +kernel
theorem dX7_undo_35 : decode cX7_undo 35 = .ok (.aaload, 1) := by decide +kernel
theorem dX7_undo_36 : decode cX7_undo 36 = .ok (.astore_n 1, 1) := by decide +kernel
theorem dX7_undo_37 : decode cX7_undo 37 = .ok (.aload_n 1, 1) := by decide +kernel
theorem dX7_undo_38 : decode cX7_undo 38 = .ok (.ifnull 11, 3) := by decide +kernel
theorem dX7_undo_4 : decode cX7_undo 4 = .ok (.ifCond .ne 5, 3) := by decide +kernel
theorem dX7_undo_41 : decode cX7_undo 41 = .ok (.aload_n 0, 1) := by decide +kernel
theorem dX7_undo_42 : decode cX7_undo 42 = .ok (.getfield 10, 3) := by decide +kernel
theorem dX7_undo_45 : decode cX7_undo 45 = .ok (.aload_n 1, 1) := by decide +kernel
theorem dX7_undo_46 : decode cX7_undo 46 = .ok (.invokevirtual 78, 3) := by decide +kernel
theorem dX7_undo_49 : decode cX7_undo 49 = .ok (.aload_n 0, 1) := by decide +kernel
theorem dX7_undo_50 : decode cX7_undo 50 = .ok (.getfield 54, 3) := by decide +kernel
theorem dX7_undo_53 : decode cX7_undo 53 = .ok (.ireturn, 1) := by decide +kernel
theorem dX7_undo_7 : decode cX7_undo 7 = .ok (.iconst (-1), 1) := by decide +kernel
theorem dX7_undo_8 : decode cX7_undo 8 = .ok (.ireturn, 1) := by decide +kernel
theorem dX7_undo_9 : decode cX7_undo 9 = .ok (.aload_n 0, 1) := by decide +kernel
theorem dX7_waits_0 : decode cX7_waits 0 = .ok (.aload_n 0, 1) := by decide +kernel
theorem dX7_waits_1 : decode cX7_waits 1 = .ok (.getfield 10, 3) := by decide +kernel
theorem dX7_waits_12 : decode cX7_waits 12 = .ok (.ifCond .ne 7, 3) := by decide +kernel
theorem dX7_waits_15 : decode cX7_waits 15 = .ok (.iconst 1, 1) := by decide +kernel
theorem dX7_waits_16 : decode cX7_waits 16 = .ok (.goto 4, 3) := by decide +kernel
theorem dX7_waits_19 : decode cX7_waits 19 = .ok (.iconst 0, 1) := by decide +kernel
theorem dX7_waits_20 : decode cX7_waits 20 = .ok (.ireturn, 1) := by decide +kernel
theorem dX7_waits_4 : decode cX7_waits 4 = .ok (.getfield 186, 3) := by decide +kernel
theorem dX7_waits_7 : decode cX7_waits 7 = .ok (.iload_n 1, 1) := by decide +kernel
theorem dX7_waits_8 : decode cX7_waits 8 = .ok (.aaload, 1) := by decide +kernel
theorem dX7_waits_9 : decode cX7_waits 9 = .ok (.getfield 201, 3) := by decide +kernel
theorem dX7_writeCard_0 : decode cX7_writeCard 0 = .ok (.aload_n 0, 1) := by decide +kernel
theorem dX7_writeCard_1 : decode cX7_writeCard 1 = .ok (.iload_n 1, 1) := by decide +kernel
theorem dX7_writeCard_12 : decode cX7_writeCard 12 = .ok (.iload_n 1, 1) := by decide +kernel
theorem dX7_writeCard_13 : decode cX7_writeCard 13 = .ok (.aaload, 1) := by decide +kernel
theorem dX7_writeCard_14 : decode cX7_writeCard 14 = .ok (.getfield 198, 3) := by decide +kernel
theorem dX7_writeCard_17 : decode cX7_writeCard 17 = .ok (.astore_n 2, 1) := by decide +kernel
theorem dX7_writeCard_18 : decode cX7_writeCard 18 = .ok (.aload_n 0, 1) := by decide +kernel
theorem dX7_writeCard_19 : decode cX7_writeCard 19 = .ok (.aload_n 2, 1) := by decide +kernel
theorem dX7_writeCard_2 : decode cX7_writeCard 2 = .ok (.invokevirtual 183, 3) := by decide +kernel
theorem dX7_writeCard_20 : decode cX7_writeCard 20 = .ok (.arraylength, 1) := by decide +kernel
theorem dX7_writeCard_21 : decode cX7_writeCard 21 = .ok (.aload_n 0, 1) := by decide +kernel
theorem dX7_writeCard_22 : decode cX7_writeCard 22 = .ok (.getfield 26, 3) := by decide +kernel
theorem dX7_writeCard_25 : decode cX7_writeCard 25 = .ok (.arraylength, 1) := by decide +kernel
theorem dX7_writeCard_26 : decode cX7_writeCard 26 = .ok (.invokestatic 363, 3) := by decide +kernel
theorem dX7_writeCard_29 : decode cX7_writeCard 29 = .ok (.putfield 41, 3) := by decide +kernel
theorem dX7_writeCard_32 : decode cX7_writeCard 32 = .ok (.iconst 0, 1) := by decide +kernel
theorem dX7_writeCard_33 : decode cX7_writeCard 33 = .ok (.istore_n 3, 1) := by decide +kernel
theorem dX7_writeCard_34 : decode cX7_writeCard 34 = .ok (.iload_n 3, 1) := by decide +kernel
theorem dX7_writeCard_35 : decode cX7_writeCard 35 = .ok (.aload_n 0, 1) := by decide +kernel
theorem dX7_writeCard_36 : decode cX7_writeCard 36 = .ok (.getfield 41, 3) := by decide +kernel
theorem dX7_writeCard_39 : decode cX7_writeCard 39 = .ok (.if_icmp .ge 22, 3) := by decide +kernel
theorem dX7_writeCard_42 : decode cX7_writeCard 42 = .ok (.aload_n 0, 1) := by decide +kernel
theorem dX7_writeCard_43 : decode cX7_writeCard 43 = .ok (.getfield 26, 3) := by decide +kernel
theorem dX7_writeCard_46 : decode cX7_writeCard 46 = .ok (.iload_n 3, 1) := by decide +kernel
theorem dX7_writeCard_47 : decode cX7_writeCard 47 = .ok (.bipush 97, 2) := by decide +kernel
theorem dX7_writeCard_49 : decode cX7_writeCard 49 = .ok (.aload_n 2, 1) := by decide +kernel
theorem dX7_writeCard_5 : decode cX7_writeCard 5 = .ok (.aload_n 0, 1) := by decide +kernel
theorem dX7_writeCard_50 : decode cX7_writeCard 50 = .ok (.iload_n 3, 1) := by decide +kernel
theorem dX7_writeCard_51 : decode cX7_writeCard 51 = .ok (.baload, 1) := by decide +kernel
theorem dX7_writeCard_52 : decode cX7_writeCard 52 = .ok (.iadd, 1) := by decide +kernel
theorem dX7_writeCard_53 : decode cX7_writeCard 53 = .ok (.i2b, 1) := by decide +kernel
theorem dX7_writeCard_54 : decode cX7_writeCard 54 = .ok (.bastore, 1) := by decide +kernel
theorem dX7_writeCard_55 : decode cX7_writeCard 55 = .ok (.iinc 3 1, 3) := by decide +kernel
theorem dX7_writeCard_58 : decode cX7_writeCard 58 = .ok (.goto (-24), 3) := by decide +kernel
theorem dX7_writeCard_6 : decode cX7_writeCard 6 = .ok (.getfield 10, 3) := by decide +kernel
theorem dX7_writeCard_61 : decode cX7_writeCard 61 = .ok (.aload_n 0, 1) := by decide +kernel
theorem dX7_writeCard_62 : decode cX7_writeCard 62 = .ok (.getfield 41, 3) := by decide +kernel
theorem dX7_writeCard_65 : decode cX7_writeCard 65 = .ok (.ireturn, 1) := by decide +kernel
theorem dX7_writeCard_9 : decode cX7_writeCard 9 = .ok (.getfield 186, 3) := by decide +kernel
theorem dX7_yieldPart_0 : decode cX7_yieldPart 0 = .ok (.aload_n 0, 1) := by decide +kernel
theorem dX7_yieldPart_1 : decode cX7_yieldPart 1 = .ok (.getfield 10, 3) := by decide +kernel
theorem dX7_yieldPart_10 : decode cX7_yieldPart 10 = .ok (.iload_n 1, 1) := by decide +kernel
theorem dX7_yieldPart_11 : decode cX7_yieldPart 11 = .ok (.ifCond .ne 7, 3) := by decide +kernel
theorem dX7_yieldPart_14 : decode cX7_yieldPart 14 = .ok (.dconst 0, 1) := by decide +kernel
theorem dX7_yieldPart_15 : decode cX7_yieldPart 15 = .ok (.goto 16, 3) := by decide +kernel
theorem dX7_yieldPart_18 : decode cX7_yieldPart 18 = .ok (.aload_n 0, 1) := by decide +kernel
theorem dX7_yieldPart_19 : decode cX7_yieldPart 19 = .ok (.getfield 10, 3) := by decide +kernel
theorem dX7_yieldPart_22 : decode cX7_yieldPart 22 = .ok (.getfield 113, 3) := by decide +kernel
theorem dX7_yieldPart_25 : decode cX7_yieldPart 25 = .ok (.iconst 3, 1) := by decide +kernel
theorem dX7_yieldPart_26 : decode cX7_yieldPart 26 = .ok (.iaload, 1) := by decide +kernel
theorem dX7_yieldPart_27 : decode cX7_yieldPart 27 = .ok (.i2d, 1) := by decide +kernel
theorem dX7_yieldPart_28 : decode cX7_yieldPart 28 = .ok (.iload_n 1, 1) := by decide +kernel
theorem dX7_yieldPart_29 : decode cX7_yieldPart 29 = .ok (.i2d, 1) := by decide +kernel
theorem dX7_yieldPart_30 : decode cX7_yieldPart 30 = .ok (.ddiv, 1) := by decide +kernel
theorem dX7_yieldPart_31 : decode cX7_yieldPart 31 = .ok (.dreturn, 1) := by decide +kernel
theorem dX7_yieldPart_4 : decode cX7_yieldPart 4 = .ok (.getfield 283, 3) := by decide +kernel
theorem dX7_yieldPart_7 : decode cX7_yieldPart 7 = .ok (.iconst 0, 1) := by decide +kernel
theorem dX7_yieldPart_8 : decode cX7_yieldPart 8 = .ok (.iaload, 1) := by decide +kernel
theorem dX7_yieldPart_9 : decode cX7_yieldPart 9 = .ok (.istore_n 1, 1) := by decide +kernel
