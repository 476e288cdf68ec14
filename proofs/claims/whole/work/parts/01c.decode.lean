theorem dX7_parse_45 : decode cX7_parse 45 = .ok (.if_icmp .ne 24, 3) := by decide +kernel
theorem dX7_parse_48 : decode cX7_parse 48 = .ok (.aload_n 0, 1) := by decide +kernel
theorem dX7_parse_49 : decode cX7_parse 49 = .ok (.aload_n 0, 1) := by decide +kernel
theorem dX7_parse_50 : decode cX7_parse 50 = .ok (.getfield 45, 3) := by decide +kernel
theorem dX7_parse_53 : decode cX7_parse 53 = .ok (.ldc2_w 98, 3) := by decide +kernel
theorem dX7_parse_56 : decode cX7_parse 56 = .ok (.ldiv, 1) := by decide +kernel
theorem dX7_parse_57 : decode cX7_parse 57 = .ok (.lconst 1, 1) := by decide +kernel
theorem dX7_parse_58 : decode cX7_parse 58 = .ok (.ladd, 1) := by decide +kernel
theorem dX7_parse_59 : decode cX7_parse 59 = .ok (.ldc2_w 98, 3) := by decide +kernel
theorem dX7_parse_62 : decode cX7_parse 62 = .ok (.lmul, 1) := by decide +kernel
theorem dX7_parse_63 : decode cX7_parse 63 = .ok (.invokevirtual 79, 3) := by decide +kernel
theorem dX7_parse_66 : decode cX7_parse 66 = .ok (.goto 11, 3) := by decide +kernel
theorem dX7_parse_69 : decode cX7_parse 69 = .ok (.aload_n 0, 1) := by decide +kernel
theorem dX7_parse_70 : decode cX7_parse 70 = .ok (.aload_n 0, 1) := by decide +kernel
theorem dX7_parse_71 : decode cX7_parse 71 = .ok (.getfield 45, 3) := by decide +kernel
theorem dX7_parse_74 : decode cX7_parse 74 = .ok (.invokevirtual 79, 3) := by decide +kernel
theorem dX7_parse_77 : decode cX7_parse 77 = .ok (.return_, 1) := by decide +kernel
theorem dX7_keep_0 : decode cX7_keep 0 = .ok (.aload_n 0, 1) := by decide +kernel
theorem dX7_keep_1 : decode cX7_keep 1 = .ok (.getfield 21, 3) := by decide +kernel
theorem dX7_keep_4 : decode cX7_keep 4 = .ok (.bipush 40, 2) := by decide +kernel
theorem dX7_keep_6 : decode cX7_keep 6 = .ok (.if_icmp .ge 13, 3) := by decide +kernel
theorem dX7_keep_9 : decode cX7_keep 9 = .ok (.aload_n 0, 1) := by decide +kernel
theorem dX7_keep_10 : decode cX7_keep 10 = .ok (.getfield 11, 3) := by decide +kernel
theorem dX7_keep_13 : decode cX7_keep 13 = .ok (.aload_n 0, 1) := by decide +kernel
theorem dX7_keep_14 : decode cX7_keep 14 = .ok (.getfield 21, 3) := by decide +kernel
theorem dX7_keep_17 : decode cX7_keep 17 = .ok (.lload_n 1, 1) := by decide +kernel
theorem dX7_keep_18 : decode cX7_keep 18 = .ok (.lastore, 1) := by decide +kernel
theorem dX7_keep_19 : decode cX7_keep 19 = .ok (.aload_n 0, 1) := by decide +kernel
theorem dX7_keep_20 : decode cX7_keep 20 = .ok (.dup, 1) := by decide +kernel
theorem dX7_keep_21 : decode cX7_keep 21 = .ok (.getfield 21, 3) := by decide +kernel
theorem dX7_keep_24 : decode cX7_keep 24 = .ok (.iconst 1, 1) := by decide +kernel
theorem dX7_keep_25 : decode cX7_keep 25 = .ok (.iadd, 1) := by decide +kernel
theorem dX7_keep_26 : decode cX7_keep 26 = .ok (.putfield 21, 3) := by decide +kernel
theorem dX7_keep_29 : decode cX7_keep 29 = .ok (.return_, 1) := by decide +kernel
theorem dX8_init_0 : decode cX8_init 0 = .ok (.aload_n 0, 1) := by decide +kernel
theorem dX8_init_1 : decode cX8_init 1 = .ok (.invokespecial 1, 3) := by decide +kernel
theorem dX8_init_4 : decode cX8_init 4 = .ok (.aload_n 0, 1) := by decide +kernel
theorem dX8_init_5 : decode cX8_init 5 = .ok (.iload_n 1, 1) := by decide +kernel
theorem dX8_init_6 : decode cX8_init 6 = .ok (.putfield 7, 3) := by decide +kernel
theorem dX8_init_9 : decode cX8_init 9 = .ok (.aload_n 0, 1) := by decide +kernel
theorem dX8_init_10 : decode cX8_init 10 = .ok (.iload_n 2, 1) := by decide +kernel
theorem dX8_init_11 : decode cX8_init 11 = .ok (.putfield 13, 3) := by decide +kernel
theorem dX8_init_14 : decode cX8_init 14 = .ok (.return_, 1) := by decide +kernel
theorem dX8_isWrongWith_0 : decode cX8_isWrongWith 0 = .ok (.aload_n 0, 1) := by decide +kernel
theorem dX8_isWrongWith_1 : decode cX8_isWrongWith 1 = .ok (.getfield 13, 3) := by decide +kernel
theorem dX8_isWrongWith_4 : decode cX8_isWrongWith 4 = .ok (.aload_n 1, 1) := by decide +kernel
theorem dX8_isWrongWith_5 : decode cX8_isWrongWith 5 = .ok (.getfield 13, 3) := by decide +kernel
theorem dX8_isWrongWith_8 : decode cX8_isWrongWith 8 = .ok (.if_icmp .ge 19, 3) := by decide +kernel
theorem dX8_isWrongWith_11 : decode cX8_isWrongWith 11 = .ok (.aload_n 0, 1) := by decide +kernel
theorem dX8_isWrongWith_12 : decode cX8_isWrongWith 12 = .ok (.getfield 16, 3) := by decide +kernel
theorem dX8_isWrongWith_15 : decode cX8_isWrongWith 15 = .ok (.aload_n 1, 1) := by decide +kernel
theorem dX8_isWrongWith_16 : decode cX8_isWrongWith 16 = .ok (.getfield 16, 3) := by decide +kernel
theorem dX8_isWrongWith_19 : decode cX8_isWrongWith 19 = .ok (.lcmp, 1) := by decide +kernel
theorem dX8_isWrongWith_20 : decode cX8_isWrongWith 20 = .ok (.ifCond .lt 7, 3) := by decide +kernel
theorem dX8_isWrongWith_23 : decode cX8_isWrongWith 23 = .ok (.iconst 1, 1) := by decide +kernel
theorem dX8_isWrongWith_24 : decode cX8_isWrongWith 24 = .ok (.goto 4, 3) := by decide +kernel
theorem dX8_isWrongWith_27 : decode cX8_isWrongWith 27 = .ok (.iconst 0, 1) := by decide +kernel
theorem dX8_isWrongWith_28 : decode cX8_isWrongWith 28 = .ok (.ireturn, 1) := by decide +kernel
theorem dX9_init_0 : decode cX9_init 0 = .ok (.aload_n 0, 1) := by decide +kernel
theorem dX9_init_1 : decode cX9_init 1 = .ok (.invokespecial 3, 3) := by decide +kernel
theorem dX9_init_4 : decode cX9_init 4 = .ok (.aload_n 0, 1) := by decide +kernel
theorem dX9_init_5 : decode cX9_init 5 = .ok (.iload_n 1, 1) := by decide +kernel
theorem dX9_init_6 : decode cX9_init 6 = .ok (.newarray .int, 2) := by decide +kernel
theorem dX9_init_8 : decode cX9_init 8 = .ok (.putfield 9, 3) := by decide +kernel
theorem dX9_init_11 : decode cX9_init 11 = .ok (.aload_n 0, 1) := by decide +kernel
theorem dX9_init_12 : decode cX9_init 12 = .ok (.iload_n 1, 1) := by decide +kernel
theorem dX9_init_13 : decode cX9_init 13 = .ok (.newarray .int, 2) := by decide +kernel
theorem dX9_init_15 : decode cX9_init 15 = .ok (.putfield 15, 3) := by decide +kernel
theorem dX9_init_18 : decode cX9_init 18 = .ok (.aload_n 0, 1) := by decide +kernel
theorem dX9_init_19 : decode cX9_init 19 = .ok (.iload_n 1, 1) := by decide +kernel
theorem dX9_init_20 : decode cX9_init 20 = .ok (.newarray .long, 2) := by decide +kernel
theorem dX9_init_22 : decode cX9_init 22 = .ok (.putfield 18, 3) := by decide +kernel
theorem dX9_init_25 : decode cX9_init 25 = .ok (.return_, 1) := by decide +kernel
theorem dX9_clear_0 : decode cX9_clear 0 = .ok (.aload_n 0, 1) := by decide +kernel
theorem dX9_clear_1 : decode cX9_clear 1 = .ok (.iconst 0, 1) := by decide +kernel
theorem dX9_clear_2 : decode cX9_clear 2 = .ok (.putfield 22, 3) := by decide +kernel
theorem dX9_clear_5 : decode cX9_clear 5 = .ok (.return_, 1) := by decide +kernel
theorem dX9_isFull_0 : decode cX9_isFull 0 = .ok (.aload_n 0, 1) := by decide +kernel
theorem dX9_isFull_1 : decode cX9_isFull 1 = .ok (.getfield 22, 3) := by decide +kernel
theorem dX9_isFull_4 : decode cX9_isFull 4 = .ok (.aload_n 0, 1) := by decide +kernel
theorem dX9_isFull_5 : decode cX9_isFull 5 = .ok (.getfield 9, 3) := by decide +kernel
theorem dX9_isFull_8 : decode cX9_isFull 8 = .ok (.arraylength, 1) := by decide +kernel
theorem dX9_isFull_9 : decode cX9_isFull 9 = .ok (.if_icmp .lt 7, 3) := by decide +kernel
theorem dX9_isFull_12 : decode cX9_isFull 12 = .ok (.iconst 1, 1) := by decide +kernel
theorem dX9_isFull_13 : decode cX9_isFull 13 = .ok (.goto 4, 3) := by decide +kernel
theorem dX9_isFull_16 : decode cX9_isFull 16 = .ok (.iconst 0, 1) := by decide +kernel
theorem dX9_isFull_17 : decode cX9_isFull 17 = .ok (.ireturn, 1) := by decide +kernel
theorem dX9_kindOf_0 : decode cX9_kindOf 0 = .ok (.aload_n 0, 1) := by decide +kernel
theorem dX9_kindOf_1 : decode cX9_kindOf 1 = .ok (.iload_n 1, 1) := by decide +kernel
theorem dX9_kindOf_2 : decode cX9_kindOf 2 = .ok (.invokevirtual 26, 3) := by decide +kernel
theorem dX9_kindOf_5 : decode cX9_kindOf 5 = .ok (.istore_n 2, 1) := by decide +kernel
theorem dX9_kindOf_6 : decode cX9_kindOf 6 = .ok (.aload_n 0, 1) := by decide +kernel
theorem dX9_kindOf_7 : decode cX9_kindOf 7 = .ok (.iload_n 2, 1) := by decide +kernel
theorem dX9_kindOf_8 : decode cX9_kindOf 8 = .ok (.iload_n 1, 1) := by decide +kernel
theorem dX9_kindOf_9 : decode cX9_kindOf 9 = .ok (.invokevirtual 30, 3) := by decide +kernel
theorem dX9_kindOf_12 : decode cX9_kindOf 12 = .ok (.ifCond .eq 12, 3) := by decide +kernel
theorem dX9_kindOf_15 : decode cX9_kindOf 15 = .ok (.aload_n 0, 1) := by decide +kernel
theorem dX9_kindOf_16 : decode cX9_kindOf 16 = .ok (.getfield 15, 3) := by decide +kernel
theorem dX9_kindOf_19 : decode cX9_kindOf 19 = .ok (.iload_n 2, 1) := by decide +kernel
theorem dX9_kindOf_20 : decode cX9_kindOf 20 = .ok (.iaload, 1) := by decide +kernel
theorem dX9_kindOf_21 : decode cX9_kindOf 21 = .ok (.goto 4, 3) := by decide +kernel
theorem dX9_kindOf_24 : decode cX9_kindOf 24 = .ok (.iconst 0, 1) := by decide +kernel
theorem dX9_kindOf_25 : decode cX9_kindOf 25 = .ok (.ireturn, 1) := by decide +kernel
theorem dX9_lengthOf_0 : decode cX9_lengthOf 0 = .ok (.ldc 34, 2) := by decide +kernel
theorem dX9_lengthOf_2 : decode cX9_lengthOf 2 = .ok (.aload_n 0, 1) := by decide +kernel
theorem dX9_lengthOf_3 : decode cX9_lengthOf 3 = .ok (.iload_n 1, 1) := by decide +kernel
theorem dX9_lengthOf_4 : decode cX9_lengthOf 4 = .ok (.invokevirtual 35, 3) := by decide +kernel
theorem dX9_lengthOf_7 : decode cX9_lengthOf 7 = .ok (.iadd, 1) := by decide +kernel
theorem dX9_lengthOf_8 : decode cX9_lengthOf 8 = .ok (.ireturn, 1) := by decide +kernel
theorem dX9_tell_0 : decode cX9_tell 0 = .ok (.aload_n 0, 1) := by decide +kernel
theorem dX9_tell_1 : decode cX9_tell 1 = .ok (.iload_n 1, 1) := by decide +kernel
theorem dX9_tell_2 : decode cX9_tell 2 = .ok (.invokevirtual 26, 3) := by decide +kernel
theorem dX9_tell_5 : decode cX9_tell 5 = .ok (.istore_n 3, 1) := by decide +kernel
theorem dX9_tell_6 : decode cX9_tell 6 = .ok (.aload_n 0, 1) := by decide +kernel
theorem dX9_tell_7 : decode cX9_tell 7 = .ok (.iload_n 3, 1) := by decide +kernel
theorem dX9_tell_8 : decode cX9_tell 8 = .ok (.iload_n 1, 1) := by decide +kernel
theorem dX9_tell_9 : decode cX9_tell 9 = .ok (.invokevirtual 30, 3) := by decide +kernel
theorem dX9_tell_12 : decode cX9_tell 12 = .ok (.ifCond .eq 25, 3) := by decide +kernel
theorem dX9_tell_15 : decode cX9_tell 15 = .ok (.iload_n 2, 1) := by decide +kernel
theorem dX9_tell_16 : decode cX9_tell 16 = .ok (.ifCond .ne 11, 3) := by decide +kernel
theorem dX9_tell_19 : decode cX9_tell 19 = .ok (.aload_n 0, 1) := by decide +kernel
theorem dX9_tell_20 : decode cX9_tell 20 = .ok (.iload_n 3, 1) := by decide +kernel
theorem dX9_tell_21 : decode cX9_tell 21 = .ok (.invokevirtual 38, 3) := by decide +kernel
theorem dX9_tell_24 : decode cX9_tell 24 = .ok (.goto 31, 3) := by decide +kernel
theorem dX9_tell_27 : decode cX9_tell 27 = .ok (.aload_n 0, 1) := by decide +kernel
theorem dX9_tell_28 : decode cX9_tell 28 = .ok (.getfield 15, 3) := by decide +kernel
theorem dX9_tell_31 : decode cX9_tell 31 = .ok (.iload_n 3, 1) := by decide +kernel
theorem dX9_tell_32 : decode cX9_tell 32 = .ok (.iload_n 2, 1) := by decide +kernel
theorem dX9_tell_33 : decode cX9_tell 33 = .ok (.iastore, 1) := by decide +kernel
theorem dX9_tell_34 : decode cX9_tell 34 = .ok (.goto 21, 3) := by decide +kernel
theorem dX9_tell_37 : decode cX9_tell 37 = .ok (.iload_n 2, 1) := by decide +kernel
theorem dX9_tell_38 : decode cX9_tell 38 = .ok (.ifCond .eq 17, 3) := by decide +kernel
theorem dX9_tell_41 : decode cX9_tell 41 = .ok (.aload_n 0, 1) := by decide +kernel
theorem dX9_tell_42 : decode cX9_tell 42 = .ok (.invokevirtual 42, 3) := by decide +kernel
theorem dX9_tell_45 : decode cX9_tell 45 = .ok (.ifCond .ne 10, 3) := by decide +kernel
theorem dX9_tell_48 : decode cX9_tell 48 = .ok (.aload_n 0, 1) := by decide +kernel
theorem dX9_tell_49 : decode cX9_tell 49 = .ok (.iload_n 3, 1) := by decide +kernel
theorem dX9_tell_50 : decode cX9_tell 50 = .ok (.iload_n 1, 1) := by decide +kernel
theorem dX9_tell_51 : decode cX9_tell 51 = .ok (.iload_n 2, 1) := by decide +kernel
theorem dX9_tell_52 : decode cX9_tell 52 = .ok (.invokevirtual 46, 3) := by decide +kernel
theorem dX9_tell_55 : decode cX9_tell 55 = .ok (.aload_n 0, 1) := by decide +kernel
theorem dX9_tell_56 : decode cX9_tell 56 = .ok (.invokevirtual 50, 3) := by decide +kernel
theorem dX9_tell_59 : decode cX9_tell 59 = .ok (.return_, 1) := by decide +kernel
theorem dX9_startOf_0 : decode cX9_startOf 0 = .ok (.ldc2_w 53, 3) := by decide +kernel
theorem dX9_startOf_3 : decode cX9_startOf 3 = .ok (.iload_n 1, 1) := by decide +kernel
theorem dX9_startOf_4 : decode cX9_startOf 4 = .ok (.i2l, 1) := by decide +kernel
theorem dX9_startOf_5 : decode cX9_startOf 5 = .ok (.lmul, 1) := by decide +kernel
theorem dX9_startOf_6 : decode cX9_startOf 6 = .ok (.lstore_n 2, 1) := by decide +kernel
theorem dX9_startOf_7 : decode cX9_startOf 7 = .ok (.iconst 0, 1) := by decide +kernel
theorem dX9_startOf_8 : decode cX9_startOf 8 = .ok (.istore 4, 2) := by decide +kernel
theorem dX9_startOf_10 : decode cX9_startOf 10 = .ok (.iload 4, 2) := by decide +kernel
theorem dX9_startOf_12 : decode cX9_startOf 12 = .ok (.aload_n 0, 1) := by decide +kernel
theorem dX9_startOf_13 : decode cX9_startOf 13 = .ok (.getfield 22, 3) := by decide +kernel
theorem dX9_startOf_16 : decode cX9_startOf 16 = .ok (.if_icmp .ge 31, 3) := by decide +kernel
theorem dX9_startOf_19 : decode cX9_startOf 19 = .ok (.aload_n 0, 1) := by decide +kernel
theorem dX9_startOf_20 : decode cX9_startOf 20 = .ok (.getfield 9, 3) := by decide +kernel
theorem dX9_startOf_23 : decode cX9_startOf 23 = .ok (.iload 4, 2) := by decide +kernel
theorem dX9_startOf_25 : decode cX9_startOf 25 = .ok (.iaload, 1) := by decide +kernel
theorem dX9_startOf_26 : decode cX9_startOf 26 = .ok (.iload_n 1, 1) := by decide +kernel
theorem dX9_startOf_27 : decode cX9_startOf 27 = .ok (.if_icmp .ge 20, 3) := by decide +kernel
theorem dX9_startOf_30 : decode cX9_startOf 30 = .ok (.lload_n 2, 1) := by decide +kernel
theorem dX9_startOf_31 : decode cX9_startOf 31 = .ok (.aload_n 0, 1) := by decide +kernel
theorem dX9_startOf_32 : decode cX9_startOf 32 = .ok (.getfield 15, 3) := by decide +kernel
theorem dX9_startOf_35 : decode cX9_startOf 35 = .ok (.iload 4, 2) := by decide +kernel
theorem dX9_startOf_37 : decode cX9_startOf 37 = .ok (.iaload, 1) := by decide +kernel
theorem dX9_startOf_38 : decode cX9_startOf 38 = .ok (.i2l, 1) := by decide +kernel
theorem dX9_startOf_39 : decode cX9_startOf 39 = .ok (.ladd, 1) := by decide +kernel
theorem dX9_startOf_40 : decode cX9_startOf 40 = .ok (.lstore_n 2, 1) := by decide +kernel
theorem dX9_startOf_41 : decode cX9_startOf 41 = .ok (.iinc 4 1, 3) := by decide +kernel
theorem dX9_startOf_44 : decode cX9_startOf 44 = .ok (.goto (-34), 3) := by decide +kernel
theorem dX9_startOf_47 : decode cX9_startOf 47 = .ok (.lload_n 2, 1) := by decide +kernel
theorem dX9_startOf_48 : decode cX9_startOf 48 = .ok (.lreturn, 1) := by decide +kernel
theorem dX9_nearestCount_0 : decode cX9_nearestCount 0 = .ok (.iload_n 2, 1) := by decide +kernel
theorem dX9_nearestCount_1 : decode cX9_nearestCount 1 = .ok (.aload_n 0, 1) := by decide +kernel
theorem dX9_nearestCount_2 : decode cX9_nearestCount 2 = .ok (.iload_n 1, 1) := by decide +kernel
theorem dX9_nearestCount_3 : decode cX9_nearestCount 3 = .ok (.invokevirtual 55, 3) := by decide +kernel
theorem dX9_nearestCount_6 : decode cX9_nearestCount 6 = .ok (.if_icmp .ge 14, 3) := by decide +kernel
theorem dX9_nearestCount_9 : decode cX9_nearestCount 9 = .ok (.aload_n 0, 1) := by decide +kernel
theorem dX9_nearestCount_10 : decode cX9_nearestCount 10 = .ok (.iload_n 1, 1) := by decide +kernel
theorem dX9_nearestCount_11 : decode cX9_nearestCount 11 = .ok (.invokevirtual 58, 3) := by decide +kernel
theorem dX9_nearestCount_14 : decode cX9_nearestCount 14 = .ok (.iload_n 2, 1) := by decide +kernel
theorem dX9_nearestCount_15 : decode cX9_nearestCount 15 = .ok (.i2l, 1) := by decide +kernel
theorem dX9_nearestCount_16 : decode cX9_nearestCount 16 = .ok (.ladd, 1) := by decide +kernel
theorem dX9_nearestCount_17 : decode cX9_nearestCount 17 = .ok (.goto 10, 3) := by decide +kernel
theorem dX9_nearestCount_20 : decode cX9_nearestCount 20 = .ok (.aload_n 0, 1) := by decide +kernel
theorem dX9_nearestCount_21 : decode cX9_nearestCount 21 = .ok (.iload_n 1, 1) := by decide +kernel
theorem dX9_nearestCount_22 : decode cX9_nearestCount 22 = .ok (.iconst 1, 1) := by decide +kernel
theorem dX9_nearestCount_23 : decode cX9_nearestCount 23 = .ok (.iadd, 1) := by decide +kernel
theorem dX9_nearestCount_24 : decode cX9_nearestCount 24 = .ok (.invokevirtual 58, 3) := by decide +kernel
theorem dX9_nearestCount_27 : decode cX9_nearestCount 27 = .ok (.lreturn, 1) := by decide +kernel
theorem dX9_turnTo_0 : decode cX9_turnTo 0 = .ok (.iconst (-1), 1) := by decide +kernel
theorem dX9_turnTo_1 : decode cX9_turnTo 1 = .ok (.istore_n 3, 1) := by decide +kernel
theorem dX9_turnTo_2 : decode cX9_turnTo 2 = .ok (.iconst 0, 1) := by decide +kernel
theorem dX9_turnTo_3 : decode cX9_turnTo 3 = .ok (.istore 4, 2) := by decide +kernel
theorem dX9_turnTo_5 : decode cX9_turnTo 5 = .ok (.iload 4, 2) := by decide +kernel
theorem dX9_turnTo_7 : decode cX9_turnTo 7 = .ok (.aload_n 0, 1) := by decide +kernel
theorem dX9_turnTo_8 : decode cX9_turnTo 8 = .ok (.getfield 22, 3) := by decide +kernel
theorem dX9_turnTo_11 : decode cX9_turnTo 11 = .ok (.if_icmp .ge 24, 3) := by decide +kernel
theorem dX9_turnTo_14 : decode cX9_turnTo 14 = .ok (.aload_n 0, 1) := by decide +kernel
theorem dX9_turnTo_15 : decode cX9_turnTo 15 = .ok (.getfield 18, 3) := by decide +kernel
theorem dX9_turnTo_18 : decode cX9_turnTo 18 = .ok (.iload 4, 2) := by decide +kernel
theorem dX9_turnTo_20 : decode cX9_turnTo 20 = .ok (.laload, 1) := by decide +kernel
theorem dX9_turnTo_21 : decode cX9_turnTo 21 = .ok (.lload_n 1, 1) := by decide +kernel
theorem dX9_turnTo_22 : decode cX9_turnTo 22 = .ok (.lcmp, 1) := by decide +kernel
theorem dX9_turnTo_23 : decode cX9_turnTo 23 = .ok (.ifCond .gt 12, 3) := by decide +kernel
theorem dX9_turnTo_26 : decode cX9_turnTo 26 = .ok (.iload 4, 2) := by decide +kernel
theorem dX9_turnTo_28 : decode cX9_turnTo 28 = .ok (.istore_n 3, 1) := by decide +kernel
theorem dX9_turnTo_29 : decode cX9_turnTo 29 = .ok (.iinc 4 1, 3) := by decide +kernel
theorem dX9_turnTo_32 : decode cX9_turnTo 32 = .ok (.goto (-27), 3) := by decide +kernel
theorem dX9_turnTo_35 : decode cX9_turnTo 35 = .ok (.iload_n 3, 1) := by decide +kernel
theorem dX9_turnTo_36 : decode cX9_turnTo 36 = .ok (.iconst (-1), 1) := by decide +kernel
theorem dX9_turnTo_37 : decode cX9_turnTo 37 = .ok (.if_icmp .ne 10, 3) := by decide +kernel
theorem dX9_turnTo_40 : decode cX9_turnTo 40 = .ok (.aload_n 0, 1) := by decide +kernel
theorem dX9_turnTo_41 : decode cX9_turnTo 41 = .ok (.iconst 0, 1) := by decide +kernel
theorem dX9_turnTo_42 : decode cX9_turnTo 42 = .ok (.lload_n 1, 1) := by decide +kernel
theorem dX9_turnTo_43 : decode cX9_turnTo 43 = .ok (.invokevirtual 62, 3) := by decide +kernel
theorem dX9_turnTo_46 : decode cX9_turnTo 46 = .ok (.return_, 1) := by decide +kernel
theorem dX9_turnTo_47 : decode cX9_turnTo 47 = .ok (.lload_n 1, 1) := by decide +kernel
theorem dX9_turnTo_48 : decode cX9_turnTo 48 = .ok (.aload_n 0, 1) := by decide +kernel
theorem dX9_turnTo_49 : decode cX9_turnTo 49 = .ok (.getfield 18, 3) := by decide +kernel
theorem dX9_turnTo_52 : decode cX9_turnTo 52 = .ok (.iload_n 3, 1) := by decide +kernel
theorem dX9_turnTo_53 : decode cX9_turnTo 53 = .ok (.laload, 1) := by decide +kernel
theorem dX9_turnTo_54 : decode cX9_turnTo 54 = .ok (.lsub, 1) := by decide +kernel
theorem dX9_turnTo_55 : decode cX9_turnTo 55 = .ok (.lstore 4, 2) := by decide +kernel
theorem dX9_turnTo_57 : decode cX9_turnTo 57 = .ok (.ldc 34, 2) := by decide +kernel
theorem dX9_turnTo_59 : decode cX9_turnTo 59 = .ok (.aload_n 0, 1) := by decide +kernel
theorem dX9_turnTo_60 : decode cX9_turnTo 60 = .ok (.getfield 15, 3) := by decide +kernel
theorem dX9_turnTo_63 : decode cX9_turnTo 63 = .ok (.iload_n 3, 1) := by decide +kernel
theorem dX9_turnTo_64 : decode cX9_turnTo 64 = .ok (.iaload, 1) := by decide +kernel
theorem dX9_turnTo_65 : decode cX9_turnTo 65 = .ok (.iadd, 1) := by decide +kernel
theorem dX9_turnTo_66 : decode cX9_turnTo 66 = .ok (.istore 6, 2) := by decide +kernel
theorem dX9_turnTo_68 : decode cX9_turnTo 68 = .ok (.lload 4, 2) := by decide +kernel
theorem dX9_turnTo_70 : decode cX9_turnTo 70 = .ok (.iload 6, 2) := by decide +kernel
theorem dX9_turnTo_72 : decode cX9_turnTo 72 = .ok (.i2l, 1) := by decide +kernel
theorem dX9_turnTo_73 : decode cX9_turnTo 73 = .ok (.lcmp, 1) := by decide +kernel
theorem dX9_turnTo_74 : decode cX9_turnTo 74 = .ok (.ifCond .ge 33, 3) := by decide +kernel
theorem dX9_turnTo_77 : decode cX9_turnTo 77 = .ok (.aload_n 0, 1) := by decide +kernel
theorem dX9_turnTo_78 : decode cX9_turnTo 78 = .ok (.aload_n 0, 1) := by decide +kernel
theorem dX9_turnTo_79 : decode cX9_turnTo 79 = .ok (.getfield 9, 3) := by decide +kernel
theorem dX9_turnTo_82 : decode cX9_turnTo 82 = .ok (.iload_n 3, 1) := by decide +kernel
theorem dX9_turnTo_83 : decode cX9_turnTo 83 = .ok (.iaload, 1) := by decide +kernel
theorem dX9_turnTo_84 : decode cX9_turnTo 84 = .ok (.putfield 66, 3) := by decide +kernel
theorem dX9_turnTo_87 : decode cX9_turnTo 87 = .ok (.aload_n 0, 1) := by decide +kernel
theorem dX9_turnTo_88 : decode cX9_turnTo 88 = .ok (.lload 4, 2) := by decide +kernel
theorem dX9_turnTo_90 : decode cX9_turnTo 90 = .ok (.l2i, 1) := by decide +kernel
theorem dX9_turnTo_91 : decode cX9_turnTo 91 = .ok (.putfield 69, 3) := by decide +kernel
theorem dX9_turnTo_94 : decode cX9_turnTo 94 = .ok (.aload_n 0, 1) := by decide +kernel
theorem dX9_turnTo_95 : decode cX9_turnTo 95 = .ok (.aload_n 0, 1) := by decide +kernel
theorem dX9_turnTo_96 : decode cX9_turnTo 96 = .ok (.getfield 15, 3) := by decide +kernel
theorem dX9_turnTo_99 : decode cX9_turnTo 99 = .ok (.iload_n 3, 1) := by decide +kernel
theorem dX9_turnTo_100 : decode cX9_turnTo 100 = .ok (.iaload, 1) := by decide +kernel
theorem dX9_turnTo_101 : decode cX9_turnTo 101 = .ok (.putfield 72, 3) := by decide +kernel
theorem dX9_turnTo_104 : decode cX9_turnTo 104 = .ok (.goto 21, 3) := by decide +kernel
theorem dX9_turnTo_107 : decode cX9_turnTo 107 = .ok (.aload_n 0, 1) := by decide +kernel
theorem dX9_turnTo_108 : decode cX9_turnTo 108 = .ok (.aload_n 0, 1) := by decide +kernel
theorem dX9_turnTo_109 : decode cX9_turnTo 109 = .ok (.getfield 9, 3) := by decide +kernel
theorem dX9_turnTo_112 : decode cX9_turnTo 112 = .ok (.iload_n 3, 1) := by decide +kernel
theorem dX9_turnTo_113 : decode cX9_turnTo 113 = .ok (.iaload, 1) := by decide +kernel
theorem dX9_turnTo_114 : decode cX9_turnTo 114 = .ok (.iconst 1, 1) := by decide +kernel
theorem dX9_turnTo_115 : decode cX9_turnTo 115 = .ok (.iadd, 1) := by decide +kernel
theorem dX9_turnTo_116 : decode cX9_turnTo 116 = .ok (.lload 4, 2) := by decide +kernel
theorem dX9_turnTo_118 : decode cX9_turnTo 118 = .ok (.iload 6, 2) := by decide +kernel
theorem dX9_turnTo_120 : decode cX9_turnTo 120 = .ok (.i2l, 1) := by decide +kernel
theorem dX9_turnTo_121 : decode cX9_turnTo 121 = .ok (.lsub, 1) := by decide +kernel
theorem dX9_turnTo_122 : decode cX9_turnTo 122 = .ok (.invokevirtual 62, 3) := by decide +kernel
theorem dX9_turnTo_125 : decode cX9_turnTo 125 = .ok (.return_, 1) := by decide +kernel
theorem dX9_unlikeDays_0 : decode cX9_unlikeDays 0 = .ok (.iconst 0, 1) := by decide +kernel
theorem dX9_unlikeDays_1 : decode cX9_unlikeDays 1 = .ok (.istore_n 2, 1) := by decide +kernel
theorem dX9_unlikeDays_2 : decode cX9_unlikeDays 2 = .ok (.iconst 0, 1) := by decide +kernel
theorem dX9_unlikeDays_3 : decode cX9_unlikeDays 3 = .ok (.istore_n 3, 1) := by decide +kernel
theorem dX9_unlikeDays_4 : decode cX9_unlikeDays 4 = .ok (.iload_n 3, 1) := by decide +kernel
theorem dX9_unlikeDays_5 : decode cX9_unlikeDays 5 = .ok (.aload_n 0, 1) := by decide +kernel
theorem dX9_unlikeDays_6 : decode cX9_unlikeDays 6 = .ok (.getfield 22, 3) := by decide +kernel
theorem dX9_unlikeDays_9 : decode cX9_unlikeDays 9 = .ok (.if_icmp .ge 31, 3) := by decide +kernel
theorem dX9_unlikeDays_12 : decode cX9_unlikeDays 12 = .ok (.aload_n 1, 1) := by decide +kernel
theorem dX9_unlikeDays_13 : decode cX9_unlikeDays 13 = .ok (.aload_n 0, 1) := by decide +kernel
theorem dX9_unlikeDays_14 : decode cX9_unlikeDays 14 = .ok (.getfield 9, 3) := by decide +kernel
theorem dX9_unlikeDays_17 : decode cX9_unlikeDays 17 = .ok (.iload_n 3, 1) := by decide +kernel
theorem dX9_unlikeDays_18 : decode cX9_unlikeDays 18 = .ok (.iaload, 1) := by decide +kernel
theorem dX9_unlikeDays_19 : decode cX9_unlikeDays 19 = .ok (.invokevirtual 35, 3) := by decide +kernel
theorem dX9_unlikeDays_22 : decode cX9_unlikeDays 22 = .ok (.aload_n 0, 1) := by decide +kernel
theorem dX9_unlikeDays_23 : decode cX9_unlikeDays 23 = .ok (.getfield 15, 3) := by decide +kernel
theorem dX9_unlikeDays_26 : decode cX9_unlikeDays 26 = .ok (.iload_n 3, 1) := by decide +kernel
theorem dX9_unlikeDays_27 : decode cX9_unlikeDays 27 = .ok (.iaload, 1) := by decide +kernel
theorem dX9_unlikeDays_28 : decode cX9_unlikeDays 28 = .ok (.if_icmp .eq 6, 3) := by decide +kernel
theorem dX9_unlikeDays_31 : decode cX9_unlikeDays 31 = .ok (.iinc 2 1, 3) := by decide +kernel
theorem dX9_unlikeDays_34 : decode cX9_unlikeDays 34 = .ok (.iinc 3 1, 3) := by decide +kernel
theorem dX9_unlikeDays_37 : decode cX9_unlikeDays 37 = .ok (.goto (-33), 3) := by decide +kernel
theorem dX9_unlikeDays_40 : decode cX9_unlikeDays 40 = .ok (.iconst 0, 1) := by decide +kernel
theorem dX9_unlikeDays_41 : decode cX9_unlikeDays 41 = .ok (.istore_n 3, 1) := by decide +kernel
theorem dX9_unlikeDays_42 : decode cX9_unlikeDays 42 = .ok (.iload_n 3, 1) := by decide +kernel
theorem dX9_unlikeDays_43 : decode cX9_unlikeDays 43 = .ok (.aload_n 1, 1) := by decide +kernel
theorem dX9_unlikeDays_44 : decode cX9_unlikeDays 44 = .ok (.getfield 22, 3) := by decide +kernel
theorem dX9_unlikeDays_47 : decode cX9_unlikeDays 47 = .ok (.if_icmp .ge 25, 3) := by decide +kernel
theorem dX9_unlikeDays_50 : decode cX9_unlikeDays 50 = .ok (.aload_n 0, 1) := by decide +kernel
theorem dX9_unlikeDays_51 : decode cX9_unlikeDays 51 = .ok (.aload_n 1, 1) := by decide +kernel
theorem dX9_unlikeDays_52 : decode cX9_unlikeDays 52 = .ok (.getfield 9, 3) := by decide +kernel
theorem dX9_unlikeDays_55 : decode cX9_unlikeDays 55 = .ok (.iload_n 3, 1) := by decide +kernel
theorem dX9_unlikeDays_56 : decode cX9_unlikeDays 56 = .ok (.iaload, 1) := by decide +kernel
theorem dX9_unlikeDays_57 : decode cX9_unlikeDays 57 = .ok (.invokevirtual 35, 3) := by decide +kernel
theorem dX9_unlikeDays_60 : decode cX9_unlikeDays 60 = .ok (.ifCond .ne 6, 3) := by decide +kernel
theorem dX9_unlikeDays_63 : decode cX9_unlikeDays 63 = .ok (.iinc 2 1, 3) := by decide +kernel
theorem dX9_unlikeDays_66 : decode cX9_unlikeDays 66 = .ok (.iinc 3 1, 3) := by decide +kernel
theorem dX9_unlikeDays_69 : decode cX9_unlikeDays 69 = .ok (.goto (-27), 3) := by decide +kernel
theorem dX9_unlikeDays_72 : decode cX9_unlikeDays 72 = .ok (.iload_n 2, 1) := by decide +kernel
theorem dX9_unlikeDays_73 : decode cX9_unlikeDays 73 = .ok (.ireturn, 1) := by decide +kernel
theorem dX9_turnToPlainDay_0 : decode cX9_turnToPlainDay 0 = .ok (.aload_n 0, 1) := by decide +kernel
theorem dX9_turnToPlainDay_1 : decode cX9_turnToPlainDay 1 = .ok (.iload_n 1, 1) := by decide +kernel
theorem dX9_turnToPlainDay_2 : decode cX9_turnToPlainDay 2 = .ok (.lload_n 2, 1) := by decide +kernel
theorem dX9_turnToPlainDay_3 : decode cX9_turnToPlainDay 3 = .ok (.ldc2_w 53, 3) := by decide +kernel
theorem dX9_turnToPlainDay_6 : decode cX9_turnToPlainDay 6 = .ok (.ldiv, 1) := by decide +kernel
theorem dX9_turnToPlainDay_7 : decode cX9_turnToPlainDay 7 = .ok (.l2i, 1) := by decide +kernel
theorem dX9_turnToPlainDay_8 : decode cX9_turnToPlainDay 8 = .ok (.iadd, 1) := by decide +kernel
theorem dX9_turnToPlainDay_9 : decode cX9_turnToPlainDay 9 = .ok (.putfield 66, 3) := by decide +kernel
theorem dX9_turnToPlainDay_12 : decode cX9_turnToPlainDay 12 = .ok (.aload_n 0, 1) := by decide +kernel
theorem dX9_turnToPlainDay_13 : decode cX9_turnToPlainDay 13 = .ok (.lload_n 2, 1) := by decide +kernel
theorem dX9_turnToPlainDay_14 : decode cX9_turnToPlainDay 14 = .ok (.ldc2_w 53, 3) := by decide +kernel
theorem dX9_turnToPlainDay_17 : decode cX9_turnToPlainDay 17 = .ok (.lrem, 1) := by decide +kernel
theorem dX9_turnToPlainDay_18 : decode cX9_turnToPlainDay 18 = .ok (.l2i, 1) := by decide +kernel
theorem dX9_turnToPlainDay_19 : decode cX9_turnToPlainDay 19 = .ok (.putfield 69, 3) := by decide +kernel
theorem dX9_turnToPlainDay_22 : decode cX9_turnToPlainDay 22 = .ok (.aload_n 0, 1) := by decide +kernel
theorem dX9_turnToPlainDay_23 : decode cX9_turnToPlainDay 23 = .ok (.iconst 0, 1) := by decide +kernel
theorem dX9_turnToPlainDay_24 : decode cX9_turnToPlainDay 24 = .ok (.putfield 72, 3) := by decide +kernel
theorem dX9_turnToPlainDay_27 : decode cX9_turnToPlainDay 27 = .ok (.return_, 1) := by decide +kernel
theorem dX9_placeOf_0 : decode cX9_placeOf 0 = .ok (.iconst 0, 1) := by decide +kernel
theorem dX9_placeOf_1 : decode cX9_placeOf 1 = .ok (.istore_n 2, 1) := by decide +kernel
theorem dX9_placeOf_2 : decode cX9_placeOf 2 = .ok (.iload_n 2, 1) := by decide +kernel
theorem dX9_placeOf_3 : decode cX9_placeOf 3 = .ok (.aload_n 0, 1) := by decide +kernel
theorem dX9_placeOf_4 : decode cX9_placeOf 4 = .ok (.getfield 22, 3) := by decide +kernel
theorem dX9_placeOf_7 : decode cX9_placeOf 7 = .ok (.if_icmp .ge 19, 3) := by decide +kernel
theorem dX9_placeOf_10 : decode cX9_placeOf 10 = .ok (.aload_n 0, 1) := by decide +kernel
theorem dX9_placeOf_11 : decode cX9_placeOf 11 = .ok (.getfield 9, 3) := by decide +kernel
theorem dX9_placeOf_14 : decode cX9_placeOf 14 = .ok (.iload_n 2, 1) := by decide +kernel
theorem dX9_placeOf_15 : decode cX9_placeOf 15 = .ok (.iaload, 1) := by decide +kernel
theorem dX9_placeOf_16 : decode cX9_placeOf 16 = .ok (.iload_n 1, 1) := by decide +kernel
theorem dX9_placeOf_17 : decode cX9_placeOf 17 = .ok (.if_icmp .ge 9, 3) := by decide +kernel
theorem dX9_placeOf_20 : decode cX9_placeOf 20 = .ok (.iinc 2 1, 3) := by decide +kernel
theorem dX9_placeOf_23 : decode cX9_placeOf 23 = .ok (.goto (-21), 3) := by decide +kernel
theorem dX9_placeOf_26 : decode cX9_placeOf 26 = .ok (.iload_n 2, 1) := by decide +kernel
theorem dX9_placeOf_27 : decode cX9_placeOf 27 = .ok (.ireturn, 1) := by decide +kernel
theorem dX9_isAt_0 : decode cX9_isAt 0 = .ok (.iload_n 1, 1) := by decide +kernel
theorem dX9_isAt_1 : decode cX9_isAt 1 = .ok (.aload_n 0, 1) := by decide +kernel
theorem dX9_isAt_2 : decode cX9_isAt 2 = .ok (.getfield 22, 3) := by decide +kernel
theorem dX9_isAt_5 : decode cX9_isAt 5 = .ok (.if_icmp .ge 17, 3) := by decide +kernel
theorem dX9_isAt_8 : decode cX9_isAt 8 = .ok (.aload_n 0, 1) := by decide +kernel
theorem dX9_isAt_9 : decode cX9_isAt 9 = .ok (.getfield 9, 3) := by decide +kernel
theorem dX9_isAt_12 : decode cX9_isAt 12 = .ok (.iload_n 1, 1) := by decide +kernel
theorem dX9_isAt_13 : decode cX9_isAt 13 = .ok (.iaload, 1) := by decide +kernel
theorem dX9_isAt_14 : decode cX9_isAt 14 = .ok (.iload_n 2, 1) := by decide +kernel
theorem dX9_isAt_15 : decode cX9_isAt 15 = .ok (.if_icmp .ne 7, 3) := by decide +kernel
theorem dX9_isAt_18 : decode cX9_isAt 18 = .ok (.iconst 1, 1) := by decide +kernel
theorem dX9_isAt_19 : decode cX9_isAt 19 = .ok (.goto 4, 3) := by decide +kernel
theorem dX9_isAt_22 : decode cX9_isAt 22 = .ok (.iconst 0, 1) := by decide +kernel
theorem dX9_isAt_23 : decode cX9_isAt 23 = .ok (.ireturn, 1) := by decide +kernel
theorem dX9_insertAt_0 : decode cX9_insertAt 0 = .ok (.aload_n 0, 1) := by decide +kernel
theorem dX9_insertAt_1 : decode cX9_insertAt 1 = .ok (.getfield 22, 3) := by decide +kernel
theorem dX9_insertAt_4 : decode cX9_insertAt 4 = .ok (.istore 4, 2) := by decide +kernel
theorem dX9_insertAt_6 : decode cX9_insertAt 6 = .ok (.iload 4, 2) := by decide +kernel
theorem dX9_insertAt_8 : decode cX9_insertAt 8 = .ok (.iload_n 1, 1) := by decide +kernel
theorem dX9_insertAt_9 : decode cX9_insertAt 9 = .ok (.if_icmp .le 41, 3) := by decide +kernel
theorem dX9_insertAt_12 : decode cX9_insertAt 12 = .ok (.aload_n 0, 1) := by decide +kernel
theorem dX9_insertAt_13 : decode cX9_insertAt 13 = .ok (.getfield 9, 3) := by decide +kernel
theorem dX9_insertAt_16 : decode cX9_insertAt 16 = .ok (.iload 4, 2) := by decide +kernel
theorem dX9_insertAt_18 : decode cX9_insertAt 18 = .ok (.aload_n 0, 1) := by decide +kernel
theorem dX9_insertAt_19 : decode cX9_insertAt 19 = .ok (.getfield 9, 3) := by decide +kernel
theorem dX9_insertAt_22 : decode cX9_insertAt 22 = .ok (.iload 4, 2) := by decide +kernel
theorem dX9_insertAt_24 : decode cX9_insertAt 24 = .ok (.iconst 1, 1) := by decide +kernel
theorem dX9_insertAt_25 : decode cX9_insertAt 25 = .ok (.isub, 1) := by decide +kernel
theorem dX9_insertAt_26 : decode cX9_insertAt 26 = .ok (.iaload, 1) := by decide +kernel
theorem dX9_insertAt_27 : decode cX9_insertAt 27 = .ok (.iastore, 1) := by decide +kernel
theorem dX9_insertAt_28 : decode cX9_insertAt 28 = .ok (.aload_n 0, 1) := by decide +kernel
theorem dX9_insertAt_29 : decode cX9_insertAt 29 = .ok (.getfield 15, 3) := by decide +kernel
theorem dX9_insertAt_32 : decode cX9_insertAt 32 = .ok (.iload 4, 2) := by decide +kernel
theorem dX9_insertAt_34 : decode cX9_insertAt 34 = .ok (.aload_n 0, 1) := by decide +kernel
theorem dX9_insertAt_35 : decode cX9_insertAt 35 = .ok (.getfield 15, 3) := by decide +kernel
theorem dX9_insertAt_38 : decode cX9_insertAt 38 = .ok (.iload 4, 2) := by decide +kernel
theorem dX9_insertAt_40 : decode cX9_insertAt 40 = .ok (.iconst 1, 1) := by decide +kernel
theorem dX9_insertAt_41 : decode cX9_insertAt 41 = .ok (.isub, 1) := by decide +kernel
theorem dX9_insertAt_42 : decode cX9_insertAt 42 = .ok (.iaload, 1) := by decide +kernel
theorem dX9_insertAt_43 : decode cX9_insertAt 43 = .ok (.iastore, 1) := by decide +kernel
theorem dX9_insertAt_44 : decode cX9_insertAt 44 = .ok (.iinc 4 (-1), 3) := by decide +kernel
theorem dX9_insertAt_47 : decode cX9_insertAt 47 = .ok (.goto (-41), 3) := by decide +kernel
theorem dX9_insertAt_50 : decode cX9_insertAt 50 = .ok (.aload_n 0, 1) := by decide +kernel
theorem dX9_insertAt_51 : decode cX9_insertAt 51 = .ok (.getfield 9, 3) := by decide +kernel
theorem dX9_insertAt_54 : decode cX9_insertAt 54 = .ok (.iload_n 1, 1) := by decide +kernel
theorem dX9_insertAt_55 : decode cX9_insertAt 55 = .ok (.iload_n 2, 1) := by decide +kernel
theorem dX9_insertAt_56 : decode cX9_insertAt 56 = .ok (.iastore, 1) := by decide +kernel
theorem dX9_insertAt_57 : decode cX9_insertAt 57 = .ok (.aload_n 0, 1) := by decide +kernel
theorem dX9_insertAt_58 : decode cX9_insertAt 58 = .ok (.getfield 15, 3) := by decide +kernel
theorem dX9_insertAt_61 : decode cX9_insertAt 61 = .ok (.iload_n 1, 1) := by decide +kernel
theorem dX9_insertAt_62 : decode cX9_insertAt 62 = .ok (.iload_n 3, 1) := by decide +kernel
theorem dX9_insertAt_63 : decode cX9_insertAt 63 = .ok (.iastore, 1) := by decide +kernel
theorem dX9_insertAt_64 : decode cX9_insertAt 64 = .ok (.aload_n 0, 1) := by decide +kernel
theorem dX9_insertAt_65 : decode cX9_insertAt 65 = .ok (.dup, 1) := by decide +kernel
theorem dX9_insertAt_66 : decode cX9_insertAt 66 = .ok (.getfield 22, 3) := by decide +kernel
theorem dX9_insertAt_69 : decode cX9_insertAt 69 = .ok (.iconst 1, 1) := by decide +kernel
theorem dX9_insertAt_70 : decode cX9_insertAt 70 = .ok (.iadd, 1) := by decide +kernel
theorem dX9_insertAt_71 : decode cX9_insertAt 71 = .ok (.putfield 22, 3) := by decide +kernel
theorem dX9_insertAt_74 : decode cX9_insertAt 74 = .ok (.return_, 1) := by decide +kernel
theorem dX9_removeAt_0 : decode cX9_removeAt 0 = .ok (.aload_n 0, 1) := by decide +kernel
theorem dX9_removeAt_1 : decode cX9_removeAt 1 = .ok (.dup, 1) := by decide +kernel
theorem dX9_removeAt_2 : decode cX9_removeAt 2 = .ok (.getfield 22, 3) := by decide +kernel
theorem dX9_removeAt_5 : decode cX9_removeAt 5 = .ok (.iconst 1, 1) := by decide +kernel
theorem dX9_removeAt_6 : decode cX9_removeAt 6 = .ok (.isub, 1) := by decide +kernel
theorem dX9_removeAt_7 : decode cX9_removeAt 7 = .ok (.putfield 22, 3) := by decide +kernel
theorem dX9_removeAt_10 : decode cX9_removeAt 10 = .ok (.iload_n 1, 1) := by decide +kernel
theorem dX9_removeAt_11 : decode cX9_removeAt 11 = .ok (.istore_n 2, 1) := by decide +kernel
theorem dX9_removeAt_12 : decode cX9_removeAt 12 = .ok (.iload_n 2, 1) := by decide +kernel
theorem dX9_removeAt_13 : decode cX9_removeAt 13 = .ok (.aload_n 0, 1) := by decide +kernel
theorem dX9_removeAt_14 : decode cX9_removeAt 14 = .ok (.getfield 22, 3) := by decide +kernel
theorem dX9_removeAt_17 : decode cX9_removeAt 17 = .ok (.if_icmp .ge 37, 3) := by decide +kernel
theorem dX9_removeAt_20 : decode cX9_removeAt 20 = .ok (.aload_n 0, 1) := by decide +kernel
theorem dX9_removeAt_21 : decode cX9_removeAt 21 = .ok (.getfield 9, 3) := by decide +kernel
theorem dX9_removeAt_24 : decode cX9_removeAt 24 = .ok (.iload_n 2, 1) := by decide +kernel
theorem dX9_removeAt_25 : decode cX9_removeAt 25 = .ok (.aload_n 0, 1) := by decide +kernel
theorem dX9_removeAt_26 : decode cX9_removeAt 26 = .ok (.getfield 9, 3) := by decide +kernel
theorem dX9_removeAt_29 : decode cX9_removeAt 29 = .ok (.iload_n 2, 1) := by decide +kernel
theorem dX9_removeAt_30 : decode cX9_removeAt 30 = .ok (.iconst 1, 1) := by decide +kernel
theorem dX9_removeAt_31 : decode cX9_removeAt 31 = .ok (.iadd, 1) := by decide +kernel
theorem dX9_removeAt_32 : decode cX9_removeAt 32 = .ok (.iaload, 1) := by decide +kernel
theorem dX9_removeAt_33 : decode cX9_removeAt 33 = .ok (.iastore, 1) := by decide +kernel
theorem dX9_removeAt_34 : decode cX9_removeAt 34 = .ok (.aload_n 0, 1) := by decide +kernel
theorem dX9_removeAt_35 : decode cX9_removeAt 35 = .ok (.getfield 15, 3) := by decide +kernel
theorem dX9_removeAt_38 : decode cX9_removeAt 38 = .ok (.iload_n 2, 1) := by decide +kernel
theorem dX9_removeAt_39 : decode cX9_removeAt 39 = .ok (.aload_n 0, 1) := by decide +kernel
theorem dX9_removeAt_40 : decode cX9_removeAt 40 = .ok (.getfield 15, 3) := by decide +kernel
theorem dX9_removeAt_43 : decode cX9_removeAt 43 = .ok (.iload_n 2, 1) := by decide +kernel
theorem dX9_removeAt_44 : decode cX9_removeAt 44 = .ok (.iconst 1, 1) := by decide +kernel
theorem dX9_removeAt_45 : decode cX9_removeAt 45 = .ok (.iadd, 1) := by decide +kernel
theorem dX9_removeAt_46 : decode cX9_removeAt 46 = .ok (.iaload, 1) := by decide +kernel
theorem dX9_removeAt_47 : decode cX9_removeAt 47 = .ok (.iastore, 1) := by decide +kernel
theorem dX9_removeAt_48 : decode cX9_removeAt 48 = .ok (.iinc 2 1, 3) := by decide +kernel
theorem dX9_removeAt_51 : decode cX9_removeAt 51 = .ok (.goto (-39), 3) := by decide +kernel
theorem dX9_removeAt_54 : decode cX9_removeAt 54 = .ok (.return_, 1) := by decide +kernel
theorem dX9_reckonStarts_0 : decode cX9_reckonStarts 0 = .ok (.iconst 0, 1) := by decide +kernel
theorem dX9_reckonStarts_1 : decode cX9_reckonStarts 1 = .ok (.istore_n 1, 1) := by decide +kernel
theorem dX9_reckonStarts_2 : decode cX9_reckonStarts 2 = .ok (.iconst 0, 1) := by decide +kernel
theorem dX9_reckonStarts_3 : decode cX9_reckonStarts 3 = .ok (.istore_n 2, 1) := by decide +kernel
theorem dX9_reckonStarts_4 : decode cX9_reckonStarts 4 = .ok (.iload_n 2, 1) := by decide +kernel
theorem dX9_reckonStarts_5 : decode cX9_reckonStarts 5 = .ok (.aload_n 0, 1) := by decide +kernel
theorem dX9_reckonStarts_6 : decode cX9_reckonStarts 6 = .ok (.getfield 22, 3) := by decide +kernel
theorem dX9_reckonStarts_9 : decode cX9_reckonStarts 9 = .ok (.if_icmp .ge 38, 3) := by decide +kernel
theorem dX9_reckonStarts_12 : decode cX9_reckonStarts 12 = .ok (.aload_n 0, 1) := by decide +kernel
theorem dX9_reckonStarts_13 : decode cX9_reckonStarts 13 = .ok (.getfield 18, 3) := by decide +kernel
theorem dX9_reckonStarts_16 : decode cX9_reckonStarts 16 = .ok (.iload_n 2, 1) := by decide +kernel
theorem dX9_reckonStarts_17 : decode cX9_reckonStarts 17 = .ok (.ldc2_w 53, 3) := by decide +kernel
theorem dX9_reckonStarts_20 : decode cX9_reckonStarts 20 = .ok (.aload_n 0, 1) := by decide +kernel
theorem dX9_reckonStarts_21 : decode cX9_reckonStarts 21 = .ok (.getfield 9, 3) := by decide +kernel
theorem dX9_reckonStarts_24 : decode cX9_reckonStarts 24 = .ok (.iload_n 2, 1) := by decide +kernel
theorem dX9_reckonStarts_25 : decode cX9_reckonStarts 25 = .ok (.iaload, 1) := by decide +kernel
theorem dX9_reckonStarts_26 : decode cX9_reckonStarts 26 = .ok (.i2l, 1) := by decide +kernel
theorem dX9_reckonStarts_27 : decode cX9_reckonStarts 27 = .ok (.lmul, 1) := by decide +kernel
theorem dX9_reckonStarts_28 : decode cX9_reckonStarts 28 = .ok (.iload_n 1, 1) := by decide +kernel
theorem dX9_reckonStarts_29 : decode cX9_reckonStarts 29 = .ok (.i2l, 1) := by decide +kernel
theorem dX9_reckonStarts_30 : decode cX9_reckonStarts 30 = .ok (.ladd, 1) := by decide +kernel
theorem dX9_reckonStarts_31 : decode cX9_reckonStarts 31 = .ok (.lastore, 1) := by decide +kernel
theorem dX9_reckonStarts_32 : decode cX9_reckonStarts 32 = .ok (.iload_n 1, 1) := by decide +kernel
theorem dX9_reckonStarts_33 : decode cX9_reckonStarts 33 = .ok (.aload_n 0, 1) := by decide +kernel
theorem dX9_reckonStarts_34 : decode cX9_reckonStarts 34 = .ok (.getfield 15, 3) := by decide +kernel
theorem dX9_reckonStarts_37 : decode cX9_reckonStarts 37 = .ok (.iload_n 2, 1) := by decide +kernel
theorem dX9_reckonStarts_38 : decode cX9_reckonStarts 38 = .ok (.iaload, 1) := by decide +kernel
theorem dX9_reckonStarts_39 : decode cX9_reckonStarts 39 = .ok (.iadd, 1) := by decide +kernel
theorem dX9_reckonStarts_40 : decode cX9_reckonStarts 40 = .ok (.istore_n 1, 1) := by decide +kernel
theorem dX9_reckonStarts_41 : decode cX9_reckonStarts 41 = .ok (.iinc 2 1, 3) := by decide +kernel
theorem dX9_reckonStarts_44 : decode cX9_reckonStarts 44 = .ok (.goto (-40), 3) := by decide +kernel
theorem dX9_reckonStarts_47 : decode cX9_reckonStarts 47 = .ok (.return_, 1) := by decide +kernel
theorem dX10_init_0 : decode cX10_init 0 = .ok (.aload_n 0, 1) := by decide +kernel
theorem dX10_init_1 : decode cX10_init 1 = .ok (.invokespecial 1, 3) := by decide +kernel
theorem dX10_init_4 : decode cX10_init 4 = .ok (.aload_n 0, 1) := by decide +kernel
theorem dX10_init_5 : decode cX10_init 5 = .ok (.iload_n 1, 1) := by decide +kernel
theorem dX10_init_6 : decode cX10_init 6 = .ok (.putfield 7, 3) := by decide +kernel
theorem dX10_init_9 : decode cX10_init 9 = .ok (.aload_n 0, 1) := by decide +kernel
theorem dX10_init_10 : decode cX10_init 10 = .ok (.iconst 0, 1) := by decide +kernel
theorem dX10_init_11 : decode cX10_init 11 = .ok (.iload_n 2, 1) := by decide +kernel
theorem dX10_init_12 : decode cX10_init 12 = .ok (.invokestatic 13, 3) := by decide +kernel
theorem dX10_init_15 : decode cX10_init 15 = .ok (.newarray .long, 2) := by decide +kernel
theorem dX10_init_17 : decode cX10_init 17 = .ok (.putfield 19, 3) := by decide +kernel
theorem dX10_init_20 : decode cX10_init 20 = .ok (.return_, 1) := by decide +kernel
theorem dX10_size_0 : decode cX10_size 0 = .ok (.aload_n 0, 1) := by decide +kernel
theorem dX10_size_1 : decode cX10_size 1 = .ok (.getfield 19, 3) := by decide +kernel
theorem dX10_size_4 : decode cX10_size 4 = .ok (.arraylength, 1) := by decide +kernel
theorem dX10_size_5 : decode cX10_size 5 = .ok (.ireturn, 1) := by decide +kernel
theorem dX10_hasRow_0 : decode cX10_hasRow 0 = .ok (.iload_n 1, 1) := by decide +kernel
theorem dX10_hasRow_1 : decode cX10_hasRow 1 = .ok (.ifCond .lt 22, 3) := by decide +kernel
theorem dX10_hasRow_4 : decode cX10_hasRow 4 = .ok (.iload_n 2, 1) := by decide +kernel
theorem dX10_hasRow_5 : decode cX10_hasRow 5 = .ok (.ifCond .lt 18, 3) := by decide +kernel
theorem dX10_hasRow_8 : decode cX10_hasRow 8 = .ok (.iload_n 1, 1) := by decide +kernel
theorem dX10_hasRow_9 : decode cX10_hasRow 9 = .ok (.aload_n 0, 1) := by decide +kernel
theorem dX10_hasRow_10 : decode cX10_hasRow 10 = .ok (.getfield 19, 3) := by decide +kernel
theorem dX10_hasRow_13 : decode cX10_hasRow 13 = .ok (.arraylength, 1) := by decide +kernel
theorem dX10_hasRow_14 : decode cX10_hasRow 14 = .ok (.iload_n 2, 1) := by decide +kernel
theorem dX10_hasRow_15 : decode cX10_hasRow 15 = .ok (.isub, 1) := by decide +kernel
theorem dX10_hasRow_16 : decode cX10_hasRow 16 = .ok (.if_icmp .gt 7, 3) := by decide +kernel
theorem dX10_hasRow_19 : decode cX10_hasRow 19 = .ok (.iconst 1, 1) := by decide +kernel
theorem dX10_hasRow_20 : decode cX10_hasRow 20 = .ok (.goto 4, 3) := by decide +kernel
theorem dX10_hasRow_23 : decode cX10_hasRow 23 = .ok (.iconst 0, 1) := by decide +kernel
theorem dX10_hasRow_24 : decode cX10_hasRow 24 = .ok (.ireturn, 1) := by decide +kernel
theorem dX10_at_0 : decode cX10_at 0 = .ok (.iload_n 1, 1) := by decide +kernel
theorem dX10_at_1 : decode cX10_at 1 = .ok (.ifCond .lt 21, 3) := by decide +kernel
theorem dX10_at_4 : decode cX10_at 4 = .ok (.iload_n 1, 1) := by decide +kernel
theorem dX10_at_5 : decode cX10_at 5 = .ok (.aload_n 0, 1) := by decide +kernel
theorem dX10_at_6 : decode cX10_at 6 = .ok (.getfield 19, 3) := by decide +kernel
theorem dX10_at_9 : decode cX10_at 9 = .ok (.arraylength, 1) := by decide +kernel
theorem dX10_at_10 : decode cX10_at 10 = .ok (.if_icmp .ge 12, 3) := by decide +kernel
theorem dX10_at_13 : decode cX10_at 13 = .ok (.aload_n 0, 1) := by decide +kernel
theorem dX10_at_14 : decode cX10_at 14 = .ok (.getfield 19, 3) := by decide +kernel
theorem dX10_at_17 : decode cX10_at 17 = .ok (.iload_n 1, 1) := by decide +kernel
theorem dX10_at_18 : decode cX10_at 18 = .ok (.laload, 1) := by decide +kernel
theorem dX10_at_19 : decode cX10_at 19 = .ok (.goto 4, 3) := by decide +kernel
theorem dX10_at_22 : decode cX10_at 22 = .ok (.lconst 0, 1) := by decide +kernel
theorem dX10_at_23 : decode cX10_at 23 = .ok (.lreturn, 1) := by decide +kernel
theorem dX10_put_0 : decode cX10_put 0 = .ok (.bipush 64, 2) := by decide +kernel
theorem dX10_put_2 : decode cX10_put 2 = .ok (.bipush 8, 2) := by decide +kernel
theorem dX10_put_4 : decode cX10_put 4 = .ok (.aload_n 0, 1) := by decide +kernel
theorem dX10_put_5 : decode cX10_put 5 = .ok (.getfield 7, 3) := by decide +kernel
theorem dX10_put_8 : decode cX10_put 8 = .ok (.ishl, 1) := by decide +kernel
theorem dX10_put_9 : decode cX10_put 9 = .ok (.isub, 1) := by decide +kernel
theorem dX10_put_10 : decode cX10_put 10 = .ok (.istore 4, 2) := by decide +kernel
theorem dX10_put_12 : decode cX10_put 12 = .ok (.iload_n 1, 1) := by decide +kernel
theorem dX10_put_13 : decode cX10_put 13 = .ok (.ifCond .lt 25, 3) := by decide +kernel
theorem dX10_put_16 : decode cX10_put 16 = .ok (.iload_n 1, 1) := by decide +kernel
theorem dX10_put_17 : decode cX10_put 17 = .ok (.aload_n 0, 1) := by decide +kernel
theorem dX10_put_18 : decode cX10_put 18 = .ok (.getfield 19, 3) := by decide +kernel
theorem dX10_put_21 : decode cX10_put 21 = .ok (.arraylength, 1) := by decide +kernel
theorem dX10_put_22 : decode cX10_put 22 = .ok (.if_icmp .ge 16, 3) := by decide +kernel
theorem dX10_put_25 : decode cX10_put 25 = .ok (.aload_n 0, 1) := by decide +kernel
theorem dX10_put_26 : decode cX10_put 26 = .ok (.getfield 19, 3) := by decide +kernel
theorem dX10_put_29 : decode cX10_put 29 = .ok (.iload_n 1, 1) := by decide +kernel
theorem dX10_put_30 : decode cX10_put 30 = .ok (.lload_n 2, 1) := by decide +kernel
theorem dX10_put_31 : decode cX10_put 31 = .ok (.iload 4, 2) := by decide +kernel
theorem dX10_put_33 : decode cX10_put 33 = .ok (.lshl, 1) := by decide +kernel
theorem dX10_put_34 : decode cX10_put 34 = .ok (.iload 4, 2) := by decide +kernel
theorem dX10_put_36 : decode cX10_put 36 = .ok (.lshr, 1) := by decide +kernel
theorem dX10_put_37 : decode cX10_put 37 = .ok (.lastore, 1) := by decide +kernel
theorem dX10_put_38 : decode cX10_put 38 = .ok (.return_, 1) := by decide +kernel
theorem dX11_init_0 : decode cX11_init 0 = .ok (.aload_n 0, 1) := by decide +kernel
theorem dX11_init_1 : decode cX11_init 1 = .ok (.invokespecial 1, 3) := by decide +kernel
theorem dX11_init_4 : decode cX11_init 4 = .ok (.aload_n 0, 1) := by decide +kernel
theorem dX11_init_5 : decode cX11_init 5 = .ok (.iconst 0, 1) := by decide +kernel
theorem dX11_init_6 : decode cX11_init 6 = .ok (.putfield 9, 3) := by decide +kernel
theorem dX11_init_9 : decode cX11_init 9 = .ok (.aload_n 0, 1) := by decide +kernel
theorem dX11_init_10 : decode cX11_init 10 = .ok (.iconst 4, 1) := by decide +kernel
theorem dX11_init_11 : decode cX11_init 11 = .ok (.anewarray 13, 3) := by decide +kernel
theorem dX11_init_14 : decode cX11_init 14 = .ok (.putfield 15, 3) := by decide +kernel
theorem dX11_init_17 : decode cX11_init 17 = .ok (.aload_n 0, 1) := by decide +kernel
theorem dX11_init_18 : decode cX11_init 18 = .ok (.sipush 500, 3) := by decide +kernel
theorem dX11_init_21 : decode cX11_init 21 = .ok (.newarray .byte, 2) := by decide +kernel
theorem dX11_init_23 : decode cX11_init 23 = .ok (.putfield 19, 3) := by decide +kernel
theorem dX11_init_26 : decode cX11_init 26 = .ok (.aload_n 0, 1) := by decide +kernel
theorem dX11_init_27 : decode cX11_init 27 = .ok (.iconst (-1), 1) := by decide +kernel
theorem dX11_init_28 : decode cX11_init 28 = .ok (.putfield 23, 3) := by decide +kernel
theorem dX11_init_31 : decode cX11_init 31 = .ok (.aload_n 0, 1) := by decide +kernel
theorem dX11_init_32 : decode cX11_init 32 = .ok (.iconst (-1), 1) := by decide +kernel
theorem dX11_init_33 : decode cX11_init 33 = .ok (.putfield 26, 3) := by decide +kernel
theorem dX11_init_36 : decode cX11_init 36 = .ok (.aload_n 0, 1) := by decide +kernel
theorem dX11_init_37 : decode cX11_init 37 = .ok (.new 29, 3) := by decide +kernel
theorem dX11_init_40 : decode cX11_init 40 = .ok (.dup, 1) := by decide +kernel
theorem dX11_init_41 : decode cX11_init 41 = .ok (.bipush 20, 2) := by decide +kernel
theorem dX11_init_43 : decode cX11_init 43 = .ok (.invokespecial 31, 3) := by decide +kernel
theorem dX11_init_46 : decode cX11_init 46 = .ok (.putfield 34, 3) := by decide +kernel
theorem dX11_init_49 : decode cX11_init 49 = .ok (.aload_n 0, 1) := by decide +kernel
theorem dX11_init_50 : decode cX11_init 50 = .ok (.new 38, 3) := by decide +kernel
theorem dX11_init_53 : decode cX11_init 53 = .ok (.dup, 1) := by decide +kernel
theorem dX11_init_54 : decode cX11_init 54 = .ok (.invokespecial 40, 3) := by decide +kernel
theorem dX11_init_57 : decode cX11_init 57 = .ok (.putfield 41, 3) := by decide +kernel
theorem dX11_init_60 : decode cX11_init 60 = .ok (.aload_n 0, 1) := by decide +kernel
theorem dX11_init_61 : decode cX11_init 61 = .ok (.new 38, 3) := by decide +kernel
theorem dX11_init_64 : decode cX11_init 64 = .ok (.dup, 1) := by decide +kernel
theorem dX11_init_65 : decode cX11_init 65 = .ok (.invokespecial 40, 3) := by decide +kernel
theorem dX11_init_68 : decode cX11_init 68 = .ok (.putfield 45, 3) := by decide +kernel
theorem dX11_init_71 : decode cX11_init 71 = .ok (.aload_n 0, 1) := by decide +kernel
theorem dX11_init_72 : decode cX11_init 72 = .ok (.new 38, 3) := by decide +kernel
theorem dX11_init_75 : decode cX11_init 75 = .ok (.dup, 1) := by decide +kernel
theorem dX11_init_76 : decode cX11_init 76 = .ok (.invokespecial 40, 3) := by decide +kernel
theorem dX11_init_79 : decode cX11_init 79 = .ok (.putfield 48, 3) := by decide +kernel
theorem dX11_init_82 : decode cX11_init 82 = .ok (.aload_n 0, 1) := by decide +kernel
theorem dX11_init_83 : decode cX11_init 83 = .ok (.new 38, 3) := by decide +kernel
theorem dX11_init_86 : decode cX11_init 86 = .ok (.dup, 1) := by decide +kernel
theorem dX11_init_87 : decode cX11_init 87 = .ok (.invokespecial 40, 3) := by decide +kernel
theorem dX11_init_90 : decode cX11_init 90 = .ok (.putfield 51, 3) := by decide +kernel
theorem dX11_init_93 : decode cX11_init 93 = .ok (.aload_n 0, 1) := by decide +kernel
theorem dX11_init_94 : decode cX11_init 94 = .ok (.new 38, 3) := by decide +kernel
theorem dX11_init_97 : decode cX11_init 97 = .ok (.dup, 1) := by decide +kernel
theorem dX11_init_98 : decode cX11_init 98 = .ok (.invokespecial 40, 3) := by decide +kernel
theorem dX11_init_101 : decode cX11_init 101 = .ok (.putfield 54, 3) := by decide +kernel
theorem dX11_init_104 : decode cX11_init 104 = .ok (.aload_n 0, 1) := by decide +kernel
theorem dX11_init_105 : decode cX11_init 105 = .ok (.new 57, 3) := by decide +kernel
theorem dX11_init_108 : decode cX11_init 108 = .ok (.dup, 1) := by decide +kernel
theorem dX11_init_109 : decode cX11_init 109 = .ok (.invokespecial 59, 3) := by decide +kernel
theorem dX11_init_112 : decode cX11_init 112 = .ok (.putfield 60, 3) := by decide +kernel
theorem dX11_init_115 : decode cX11_init 115 = .ok (.aload_n 0, 1) := by decide +kernel
theorem dX11_init_116 : decode cX11_init 116 = .ok (.iconst (-1), 1) := by decide +kernel
theorem dX11_init_117 : decode cX11_init 117 = .ok (.putfield 64, 3) := by decide +kernel
theorem dX11_init_120 : decode cX11_init 120 = .ok (.aload_n 0, 1) := by decide +kernel
theorem dX11_init_121 : decode cX11_init 121 = .ok (.iconst 4, 1) := by decide +kernel
theorem dX11_init_122 : decode cX11_init 122 = .ok (.anewarray 67, 3) := by decide +kernel
theorem dX11_init_125 : decode cX11_init 125 = .ok (.putfield 69, 3) := by decide +kernel
theorem dX11_init_128 : decode cX11_init 128 = .ok (.iconst 0, 1) := by decide +kernel
theorem dX11_init_129 : decode cX11_init 129 = .ok (.istore_n 1, 1) := by decide +kernel
theorem dX11_init_130 : decode cX11_init 130 = .ok (.iload_n 1, 1) := by decide +kernel
theorem dX11_init_131 : decode cX11_init 131 = .ok (.iconst 4, 1) := by decide +kernel
theorem dX11_init_132 : decode cX11_init 132 = .ok (.if_icmp .ge 25, 3) := by decide +kernel
theorem dX11_init_135 : decode cX11_init 135 = .ok (.aload_n 0, 1) := by decide +kernel
theorem dX11_init_136 : decode cX11_init 136 = .ok (.getfield 69, 3) := by decide +kernel
theorem dX11_init_139 : decode cX11_init 139 = .ok (.iload_n 1, 1) := by decide +kernel
theorem dX11_init_140 : decode cX11_init 140 = .ok (.new 67, 3) := by decide +kernel
theorem dX11_init_143 : decode cX11_init 143 = .ok (.dup, 1) := by decide +kernel
theorem dX11_init_144 : decode cX11_init 144 = .ok (.iconst 0, 1) := by decide +kernel
theorem dX11_init_145 : decode cX11_init 145 = .ok (.iconst 0, 1) := by decide +kernel
theorem dX11_init_146 : decode cX11_init 146 = .ok (.iconst 0, 1) := by decide +kernel
theorem dX11_init_147 : decode cX11_init 147 = .ok (.invokespecial 73, 3) := by decide +kernel
theorem dX11_init_150 : decode cX11_init 150 = .ok (.aastore, 1) := by decide +kernel
theorem dX11_init_151 : decode cX11_init 151 = .ok (.iinc 1 1, 3) := by decide +kernel
theorem dX11_init_154 : decode cX11_init 154 = .ok (.goto (-24), 3) := by decide +kernel
theorem dX11_init_157 : decode cX11_init 157 = .ok (.return_, 1) := by decide +kernel
theorem dX11_status_0 : decode cX11_status 0 = .ok (.aload_n 0, 1) := by decide +kernel
theorem dX11_status_1 : decode cX11_status 1 = .ok (.getfield 9, 3) := by decide +kernel
theorem dX11_status_4 : decode cX11_status 4 = .ok (.ireturn, 1) := by decide +kernel
theorem dX11_tray_0 : decode cX11_tray 0 = .ok (.aload_n 0, 1) := by decide +kernel
theorem dX11_tray_1 : decode cX11_tray 1 = .ok (.iload_n 1, 1) := by decide +kernel
theorem dX11_tray_2 : decode cX11_tray 2 = .ok (.iload_n 2, 1) := by decide +kernel
theorem dX11_tray_3 : decode cX11_tray 3 = .ok (.iload_n 3, 1) := by decide +kernel
theorem dX11_tray_4 : decode cX11_tray 4 = .ok (.invokestatic 76, 3) := by decide +kernel
theorem dX11_tray_7 : decode cX11_tray 7 = .ok (.putfield 9, 3) := by decide +kernel
theorem dX11_tray_10 : decode cX11_tray 10 = .ok (.aload_n 0, 1) := by decide +kernel
theorem dX11_tray_11 : decode cX11_tray 11 = .ok (.getfield 9, 3) := by decide +kernel
theorem dX11_tray_14 : decode cX11_tray 14 = .ok (.ifCond .eq 5, 3) := by decide +kernel
theorem dX11_tray_17 : decode cX11_tray 17 = .ok (.iconst 0, 1) := by decide +kernel
theorem dX11_tray_18 : decode cX11_tray 18 = .ok (.ireturn, 1) := by decide +kernel
theorem dX11_tray_19 : decode cX11_tray 19 = .ok (.aload_n 0, 1) := by decide +kernel
theorem dX11_tray_20 : decode cX11_tray 20 = .ok (.getfield 15, 3) := by decide +kernel
theorem dX11_tray_23 : decode cX11_tray 23 = .ok (.iload_n 1, 1) := by decide +kernel
theorem dX11_tray_24 : decode cX11_tray 24 = .ok (.new 13, 3) := by decide +kernel
theorem dX11_tray_27 : decode cX11_tray 27 = .ok (.dup, 1) := by decide +kernel
theorem dX11_tray_28 : decode cX11_tray 28 = .ok (.iload_n 2, 1) := by decide +kernel
theorem dX11_tray_29 : decode cX11_tray 29 = .ok (.iload_n 3, 1) := by decide +kernel
theorem dX11_tray_30 : decode cX11_tray 30 = .ok (.invokespecial 80, 3) := by decide +kernel
theorem dX11_tray_33 : decode cX11_tray 33 = .ok (.aastore, 1) := by decide +kernel
theorem dX11_tray_34 : decode cX11_tray 34 = .ok (.iconst 1, 1) := by decide +kernel
theorem dX11_tray_35 : decode cX11_tray 35 = .ok (.ireturn, 1) := by decide +kernel
theorem dX11_write_0 : decode cX11_write 0 = .ok (.aload_n 0, 1) := by decide +kernel
theorem dX11_write_1 : decode cX11_write 1 = .ok (.aload_n 0, 1) := by decide +kernel
theorem dX11_write_2 : decode cX11_write 2 = .ok (.iload_n 1, 1) := by decide +kernel
theorem dX11_write_3 : decode cX11_write 3 = .ok (.iload_n 2, 1) := by decide +kernel
theorem dX11_write_4 : decode cX11_write 4 = .ok (.invokevirtual 83, 3) := by decide +kernel
theorem dX11_write_7 : decode cX11_write 7 = .ok (.putfield 9, 3) := by decide +kernel
theorem dX11_write_10 : decode cX11_write 10 = .ok (.aload_n 0, 1) := by decide +kernel
theorem dX11_write_11 : decode cX11_write 11 = .ok (.getfield 9, 3) := by decide +kernel
theorem dX11_write_14 : decode cX11_write 14 = .ok (.ifCond .eq 5, 3) := by decide +kernel
theorem dX11_write_17 : decode cX11_write 17 = .ok (.iconst 0, 1) := by decide +kernel
theorem dX11_write_18 : decode cX11_write 18 = .ok (.ireturn, 1) := by decide +kernel
theorem dX11_write_19 : decode cX11_write 19 = .ok (.aload_n 0, 1) := by decide +kernel
theorem dX11_write_20 : decode cX11_write 20 = .ok (.getfield 15, 3) := by decide +kernel
theorem dX11_write_23 : decode cX11_write 23 = .ok (.iload_n 1, 1) := by decide +kernel
theorem dX11_write_24 : decode cX11_write 24 = .ok (.aaload, 1) := by decide +kernel
theorem dX11_write_25 : decode cX11_write 25 = .ok (.iload_n 2, 1) := by decide +kernel
theorem dX11_write_26 : decode cX11_write 26 = .ok (.lload_n 3, 1) := by decide +kernel
theorem dX11_write_27 : decode cX11_write 27 = .ok (.invokevirtual 87, 3) := by decide +kernel
theorem dX11_write_30 : decode cX11_write 30 = .ok (.iconst 1, 1) := by decide +kernel
theorem dX11_write_31 : decode cX11_write 31 = .ok (.ireturn, 1) := by decide +kernel
theorem dX11_read_0 : decode cX11_read 0 = .ok (.aload_n 0, 1) := by decide +kernel
theorem dX11_read_1 : decode cX11_read 1 = .ok (.aload_n 0, 1) := by decide +kernel
theorem dX11_read_2 : decode cX11_read 2 = .ok (.iload_n 1, 1) := by decide +kernel
theorem dX11_read_3 : decode cX11_read 3 = .ok (.iload_n 2, 1) := by decide +kernel
theorem dX11_read_4 : decode cX11_read 4 = .ok (.invokevirtual 83, 3) := by decide +kernel
theorem dX11_read_7 : decode cX11_read 7 = .ok (.putfield 9, 3) := by decide +kernel
theorem dX11_read_10 : decode cX11_read 10 = .ok (.aload_n 0, 1) := by decide +kernel
theorem dX11_read_11 : decode cX11_read 11 = .ok (.getfield 9, 3) := by decide +kernel
theorem dX11_read_14 : decode cX11_read 14 = .ok (.ifCond .ne 16, 3) := by decide +kernel
theorem dX11_read_17 : decode cX11_read 17 = .ok (.aload_n 0, 1) := by decide +kernel
theorem dX11_read_18 : decode cX11_read 18 = .ok (.getfield 15, 3) := by decide +kernel
theorem dX11_read_21 : decode cX11_read 21 = .ok (.iload_n 1, 1) := by decide +kernel
theorem dX11_read_22 : decode cX11_read 22 = .ok (.aaload, 1) := by decide +kernel
theorem dX11_read_23 : decode cX11_read 23 = .ok (.iload_n 2, 1) := by decide +kernel
theorem dX11_read_24 : decode cX11_read 24 = .ok (.invokevirtual 91, 3) := by decide +kernel
theorem dX11_read_27 : decode cX11_read 27 = .ok (.goto 6, 3) := by decide +kernel
theorem dX11_read_30 : decode cX11_read 30 = .ok (.ldc2_w 95, 3) := by decide +kernel
theorem dX11_read_33 : decode cX11_read 33 = .ok (.lreturn, 1) := by decide +kernel
theorem dX11_pour_0 : decode cX11_pour 0 = .ok (.aload_n 0, 1) := by decide +kernel
theorem dX11_pour_1 : decode cX11_pour 1 = .ok (.aload_n 0, 1) := by decide +kernel
theorem dX11_pour_2 : decode cX11_pour 2 = .ok (.iload_n 1, 1) := by decide +kernel
theorem dX11_pour_3 : decode cX11_pour 3 = .ok (.iload_n 2, 1) := by decide +kernel
theorem dX11_pour_4 : decode cX11_pour 4 = .ok (.iload_n 3, 1) := by decide +kernel
theorem dX11_pour_5 : decode cX11_pour 5 = .ok (.iload 4, 2) := by decide +kernel
theorem dX11_pour_7 : decode cX11_pour 7 = .ok (.iload 5, 2) := by decide +kernel
theorem dX11_pour_9 : decode cX11_pour 9 = .ok (.invokevirtual 97, 3) := by decide +kernel
theorem dX11_pour_12 : decode cX11_pour 12 = .ok (.putfield 9, 3) := by decide +kernel
theorem dX11_pour_15 : decode cX11_pour 15 = .ok (.aload_n 0, 1) := by decide +kernel
theorem dX11_pour_16 : decode cX11_pour 16 = .ok (.getfield 9, 3) := by decide +kernel
theorem dX11_pour_19 : decode cX11_pour 19 = .ok (.ifCond .eq 5, 3) := by decide +kernel
theorem dX11_pour_22 : decode cX11_pour 22 = .ok (.iconst 0, 1) := by decide +kernel
theorem dX11_pour_23 : decode cX11_pour 23 = .ok (.ireturn, 1) := by decide +kernel
theorem dX11_pour_24 : decode cX11_pour 24 = .ok (.aload_n 0, 1) := by decide +kernel
theorem dX11_pour_25 : decode cX11_pour 25 = .ok (.getfield 15, 3) := by decide +kernel
theorem dX11_pour_28 : decode cX11_pour 28 = .ok (.iload_n 1, 1) := by decide +kernel
theorem dX11_pour_29 : decode cX11_pour 29 = .ok (.aaload, 1) := by decide +kernel
theorem dX11_pour_30 : decode cX11_pour 30 = .ok (.getfield 101, 3) := by decide +kernel
theorem dX11_pour_33 : decode cX11_pour 33 = .ok (.iload_n 2, 1) := by decide +kernel
theorem dX11_pour_34 : decode cX11_pour 34 = .ok (.aload_n 0, 1) := by decide +kernel
theorem dX11_pour_35 : decode cX11_pour 35 = .ok (.getfield 15, 3) := by decide +kernel
theorem dX11_pour_38 : decode cX11_pour 38 = .ok (.iload_n 3, 1) := by decide +kernel
theorem dX11_pour_39 : decode cX11_pour 39 = .ok (.aaload, 1) := by decide +kernel
theorem dX11_pour_40 : decode cX11_pour 40 = .ok (.getfield 101, 3) := by decide +kernel
theorem dX11_pour_43 : decode cX11_pour 43 = .ok (.iload 4, 2) := by decide +kernel
theorem dX11_pour_45 : decode cX11_pour 45 = .ok (.iload 5, 2) := by decide +kernel
theorem dX11_pour_47 : decode cX11_pour 47 = .ok (.invokestatic 105, 3) := by decide +kernel
theorem dX11_pour_50 : decode cX11_pour 50 = .ok (.iconst 1, 1) := by decide +kernel
theorem dX11_pour_51 : decode cX11_pour 51 = .ok (.ireturn, 1) := by decide +kernel
theorem dX11_newTrayStatus_0 : decode cX11_newTrayStatus 0 = .ok (.iload_n 0, 1) := by decide +kernel
theorem dX11_newTrayStatus_1 : decode cX11_newTrayStatus 1 = .ok (.invokestatic 111, 3) := by decide +kernel
theorem dX11_newTrayStatus_4 : decode cX11_newTrayStatus 4 = .ok (.ifCond .eq 12, 3) := by decide +kernel
theorem dX11_newTrayStatus_7 : decode cX11_newTrayStatus 7 = .ok (.iload_n 1, 1) := by decide +kernel
theorem dX11_newTrayStatus_8 : decode cX11_newTrayStatus 8 = .ok (.ifCond .lt 8, 3) := by decide +kernel
theorem dX11_newTrayStatus_11 : decode cX11_newTrayStatus 11 = .ok (.iload_n 1, 1) := by decide +kernel
theorem dX11_newTrayStatus_12 : decode cX11_newTrayStatus 12 = .ok (.iconst 3, 1) := by decide +kernel
theorem dX11_newTrayStatus_13 : decode cX11_newTrayStatus 13 = .ok (.if_icmp .le 5, 3) := by decide +kernel
theorem dX11_newTrayStatus_16 : decode cX11_newTrayStatus 16 = .ok (.iconst 1, 1) := by decide +kernel
theorem dX11_newTrayStatus_17 : decode cX11_newTrayStatus 17 = .ok (.ireturn, 1) := by decide +kernel
theorem dX11_newTrayStatus_18 : decode cX11_newTrayStatus 18 = .ok (.iload_n 2, 1) := by decide +kernel
theorem dX11_newTrayStatus_19 : decode cX11_newTrayStatus 19 = .ok (.bipush 40, 2) := by decide +kernel
theorem dX11_newTrayStatus_21 : decode cX11_newTrayStatus 21 = .ok (.if_icmp .le 5, 3) := by decide +kernel
theorem dX11_newTrayStatus_24 : decode cX11_newTrayStatus 24 = .ok (.iconst 5, 1) := by decide +kernel
theorem dX11_newTrayStatus_25 : decode cX11_newTrayStatus 25 = .ok (.ireturn, 1) := by decide +kernel
theorem dX11_newTrayStatus_26 : decode cX11_newTrayStatus 26 = .ok (.iload_n 2, 1) := by decide +kernel
theorem dX11_newTrayStatus_27 : decode cX11_newTrayStatus 27 = .ok (.ifCond .ge 8, 3) := by decide +kernel
theorem dX11_newTrayStatus_30 : decode cX11_newTrayStatus 30 = .ok (.bipush 6, 2) := by decide +kernel
theorem dX11_newTrayStatus_32 : decode cX11_newTrayStatus 32 = .ok (.goto 4, 3) := by decide +kernel
theorem dX11_newTrayStatus_35 : decode cX11_newTrayStatus 35 = .ok (.iconst 0, 1) := by decide +kernel
theorem dX11_newTrayStatus_36 : decode cX11_newTrayStatus 36 = .ok (.ireturn, 1) := by decide +kernel
theorem dX11_placeStatus_0 : decode cX11_placeStatus 0 = .ok (.iload_n 1, 1) := by decide +kernel
theorem dX11_placeStatus_1 : decode cX11_placeStatus 1 = .ok (.invokestatic 111, 3) := by decide +kernel
theorem dX11_placeStatus_4 : decode cX11_placeStatus 4 = .ok (.ifCond .ne 5, 3) := by decide +kernel
theorem dX11_placeStatus_7 : decode cX11_placeStatus 7 = .ok (.iconst 1, 1) := by decide +kernel
theorem dX11_placeStatus_8 : decode cX11_placeStatus 8 = .ok (.ireturn, 1) := by decide +kernel
theorem dX11_placeStatus_9 : decode cX11_placeStatus 9 = .ok (.aload_n 0, 1) := by decide +kernel
theorem dX11_placeStatus_10 : decode cX11_placeStatus 10 = .ok (.getfield 15, 3) := by decide +kernel
theorem dX11_placeStatus_13 : decode cX11_placeStatus 13 = .ok (.iload_n 1, 1) := by decide +kernel
theorem dX11_placeStatus_14 : decode cX11_placeStatus 14 = .ok (.aaload, 1) := by decide +kernel
theorem dX11_placeStatus_15 : decode cX11_placeStatus 15 = .ok (.ifnonnull 5, 3) := by decide +kernel
theorem dX11_placeStatus_18 : decode cX11_placeStatus 18 = .ok (.iconst 3, 1) := by decide +kernel
theorem dX11_placeStatus_19 : decode cX11_placeStatus 19 = .ok (.ireturn, 1) := by decide +kernel
theorem dX11_placeStatus_20 : decode cX11_placeStatus 20 = .ok (.iload_n 2, 1) := by decide +kernel
theorem dX11_placeStatus_21 : decode cX11_placeStatus 21 = .ok (.ifCond .lt 20, 3) := by decide +kernel
theorem dX11_placeStatus_24 : decode cX11_placeStatus 24 = .ok (.iload_n 2, 1) := by decide +kernel
theorem dX11_placeStatus_25 : decode cX11_placeStatus 25 = .ok (.aload_n 0, 1) := by decide +kernel
theorem dX11_placeStatus_26 : decode cX11_placeStatus 26 = .ok (.getfield 15, 3) := by decide +kernel
theorem dX11_placeStatus_29 : decode cX11_placeStatus 29 = .ok (.iload_n 1, 1) := by decide +kernel
theorem dX11_placeStatus_30 : decode cX11_placeStatus 30 = .ok (.aaload, 1) := by decide +kernel
theorem dX11_placeStatus_31 : decode cX11_placeStatus 31 = .ok (.invokevirtual 115, 3) := by decide +kernel
theorem dX11_placeStatus_34 : decode cX11_placeStatus 34 = .ok (.if_icmp .ge 7, 3) := by decide +kernel
theorem dX11_placeStatus_37 : decode cX11_placeStatus 37 = .ok (.iconst 0, 1) := by decide +kernel
theorem dX11_placeStatus_38 : decode cX11_placeStatus 38 = .ok (.goto 4, 3) := by decide +kernel
theorem dX11_placeStatus_41 : decode cX11_placeStatus 41 = .ok (.iconst 4, 1) := by decide +kernel
theorem dX11_placeStatus_42 : decode cX11_placeStatus 42 = .ok (.ireturn, 1) := by decide +kernel
theorem dX11_pourStatus_0 : decode cX11_pourStatus 0 = .ok (.iload_n 1, 1) := by decide +kernel
theorem dX11_pourStatus_1 : decode cX11_pourStatus 1 = .ok (.invokestatic 111, 3) := by decide +kernel
theorem dX11_pourStatus_4 : decode cX11_pourStatus 4 = .ok (.ifCond .eq 10, 3) := by decide +kernel
theorem dX11_pourStatus_7 : decode cX11_pourStatus 7 = .ok (.iload_n 3, 1) := by decide +kernel
theorem dX11_pourStatus_8 : decode cX11_pourStatus 8 = .ok (.invokestatic 111, 3) := by decide +kernel
theorem dX11_pourStatus_11 : decode cX11_pourStatus 11 = .ok (.ifCond .ne 5, 3) := by decide +kernel
theorem dX11_pourStatus_14 : decode cX11_pourStatus 14 = .ok (.iconst 1, 1) := by decide +kernel
theorem dX11_pourStatus_15 : decode cX11_pourStatus 15 = .ok (.ireturn, 1) := by decide +kernel
theorem dX11_pourStatus_16 : decode cX11_pourStatus 16 = .ok (.aload_n 0, 1) := by decide +kernel
theorem dX11_pourStatus_17 : decode cX11_pourStatus 17 = .ok (.getfield 15, 3) := by decide +kernel
theorem dX11_pourStatus_20 : decode cX11_pourStatus 20 = .ok (.iload_n 1, 1) := by decide +kernel
theorem dX11_pourStatus_21 : decode cX11_pourStatus 21 = .ok (.aaload, 1) := by decide +kernel
theorem dX11_pourStatus_22 : decode cX11_pourStatus 22 = .ok (.ifnull 12, 3) := by decide +kernel
theorem dX11_pourStatus_25 : decode cX11_pourStatus 25 = .ok (.aload_n 0, 1) := by decide +kernel
theorem dX11_pourStatus_26 : decode cX11_pourStatus 26 = .ok (.getfield 15, 3) := by decide +kernel
theorem dX11_pourStatus_29 : decode cX11_pourStatus 29 = .ok (.iload_n 3, 1) := by decide +kernel
theorem dX11_pourStatus_30 : decode cX11_pourStatus 30 = .ok (.aaload, 1) := by decide +kernel
theorem dX11_pourStatus_31 : decode cX11_pourStatus 31 = .ok (.ifnonnull 5, 3) := by decide +kernel
theorem dX11_pourStatus_34 : decode cX11_pourStatus 34 = .ok (.iconst 3, 1) := by decide +kernel
theorem dX11_pourStatus_35 : decode cX11_pourStatus 35 = .ok (.ireturn, 1) := by decide +kernel
theorem dX11_pourStatus_36 : decode cX11_pourStatus 36 = .ok (.aload_n 0, 1) := by decide +kernel
theorem dX11_pourStatus_37 : decode cX11_pourStatus 37 = .ok (.getfield 15, 3) := by decide +kernel
theorem dX11_pourStatus_40 : decode cX11_pourStatus 40 = .ok (.iload_n 1, 1) := by decide +kernel
theorem dX11_pourStatus_41 : decode cX11_pourStatus 41 = .ok (.aaload, 1) := by decide +kernel
theorem dX11_pourStatus_42 : decode cX11_pourStatus 42 = .ok (.getfield 119, 3) := by decide +kernel
theorem dX11_pourStatus_45 : decode cX11_pourStatus 45 = .ok (.aload_n 0, 1) := by decide +kernel
theorem dX11_pourStatus_46 : decode cX11_pourStatus 46 = .ok (.getfield 15, 3) := by decide +kernel
theorem dX11_pourStatus_49 : decode cX11_pourStatus 49 = .ok (.iload_n 3, 1) := by decide +kernel
theorem dX11_pourStatus_50 : decode cX11_pourStatus 50 = .ok (.aaload, 1) := by decide +kernel
theorem dX11_pourStatus_51 : decode cX11_pourStatus 51 = .ok (.getfield 119, 3) := by decide +kernel
theorem dX11_pourStatus_54 : decode cX11_pourStatus 54 = .ok (.if_icmp .eq 6, 3) := by decide +kernel
theorem dX11_pourStatus_57 : decode cX11_pourStatus 57 = .ok (.bipush 11, 2) := by decide +kernel
theorem dX11_pourStatus_59 : decode cX11_pourStatus 59 = .ok (.ireturn, 1) := by decide +kernel
theorem dX11_pourStatus_60 : decode cX11_pourStatus 60 = .ok (.iload 5, 2) := by decide +kernel
theorem dX11_pourStatus_62 : decode cX11_pourStatus 62 = .ok (.ifCond .ge 6, 3) := by decide +kernel
theorem dX11_pourStatus_65 : decode cX11_pourStatus 65 = .ok (.bipush 6, 2) := by decide +kernel
theorem dX11_pourStatus_67 : decode cX11_pourStatus 67 = .ok (.ireturn, 1) := by decide +kernel
theorem dX11_pourStatus_68 : decode cX11_pourStatus 68 = .ok (.aload_n 0, 1) := by decide +kernel
theorem dX11_pourStatus_69 : decode cX11_pourStatus 69 = .ok (.getfield 15, 3) := by decide +kernel
theorem dX11_pourStatus_72 : decode cX11_pourStatus 72 = .ok (.iload_n 1, 1) := by decide +kernel
theorem dX11_pourStatus_73 : decode cX11_pourStatus 73 = .ok (.aaload, 1) := by decide +kernel
theorem dX11_pourStatus_74 : decode cX11_pourStatus 74 = .ok (.iload_n 2, 1) := by decide +kernel
theorem dX11_pourStatus_75 : decode cX11_pourStatus 75 = .ok (.iload 5, 2) := by decide +kernel
theorem dX11_pourStatus_77 : decode cX11_pourStatus 77 = .ok (.invokevirtual 122, 3) := by decide +kernel
theorem dX11_pourStatus_80 : decode cX11_pourStatus 80 = .ok (.ifCond .eq 23, 3) := by decide +kernel
theorem dX11_pourStatus_83 : decode cX11_pourStatus 83 = .ok (.aload_n 0, 1) := by decide +kernel
theorem dX11_pourStatus_84 : decode cX11_pourStatus 84 = .ok (.getfield 15, 3) := by decide +kernel
theorem dX11_pourStatus_87 : decode cX11_pourStatus 87 = .ok (.iload_n 3, 1) := by decide +kernel
theorem dX11_pourStatus_88 : decode cX11_pourStatus 88 = .ok (.aaload, 1) := by decide +kernel
theorem dX11_pourStatus_89 : decode cX11_pourStatus 89 = .ok (.iload 4, 2) := by decide +kernel
theorem dX11_pourStatus_91 : decode cX11_pourStatus 91 = .ok (.iload 5, 2) := by decide +kernel
theorem dX11_pourStatus_93 : decode cX11_pourStatus 93 = .ok (.invokevirtual 122, 3) := by decide +kernel
theorem dX11_pourStatus_96 : decode cX11_pourStatus 96 = .ok (.ifCond .eq 7, 3) := by decide +kernel
theorem dX11_pourStatus_99 : decode cX11_pourStatus 99 = .ok (.iconst 0, 1) := by decide +kernel
theorem dX11_pourStatus_100 : decode cX11_pourStatus 100 = .ok (.goto 4, 3) := by decide +kernel
theorem dX11_pourStatus_103 : decode cX11_pourStatus 103 = .ok (.iconst 4, 1) := by decide +kernel
theorem dX11_pourStatus_104 : decode cX11_pourStatus 104 = .ok (.ireturn, 1) := by decide +kernel
theorem dX11_isTray_0 : decode cX11_isTray 0 = .ok (.iload_n 0, 1) := by decide +kernel
theorem dX11_isTray_1 : decode cX11_isTray 1 = .ok (.ifCond .lt 12, 3) := by decide +kernel
theorem dX11_isTray_4 : decode cX11_isTray 4 = .ok (.iload_n 0, 1) := by decide +kernel
theorem dX11_isTray_5 : decode cX11_isTray 5 = .ok (.iconst 4, 1) := by decide +kernel
theorem dX11_isTray_6 : decode cX11_isTray 6 = .ok (.if_icmp .ge 7, 3) := by decide +kernel
theorem dX11_isTray_9 : decode cX11_isTray 9 = .ok (.iconst 1, 1) := by decide +kernel
theorem dX11_isTray_10 : decode cX11_isTray 10 = .ok (.goto 4, 3) := by decide +kernel
theorem dX11_isTray_13 : decode cX11_isTray 13 = .ok (.iconst 0, 1) := by decide +kernel
theorem dX11_isTray_14 : decode cX11_isTray 14 = .ok (.ireturn, 1) := by decide +kernel
theorem dX11_leap_0 : decode cX11_leap 0 = .ok (.aload_n 0, 1) := by decide +kernel
theorem dX11_leap_1 : decode cX11_leap 1 = .ok (.aload_n 0, 1) := by decide +kernel
theorem dX11_leap_2 : decode cX11_leap 2 = .ok (.iload_n 1, 1) := by decide +kernel
theorem dX11_leap_3 : decode cX11_leap 3 = .ok (.iload_n 2, 1) := by decide +kernel
theorem dX11_leap_4 : decode cX11_leap 4 = .ok (.invokevirtual 126, 3) := by decide +kernel
theorem dX11_leap_7 : decode cX11_leap 7 = .ok (.putfield 9, 3) := by decide +kernel
theorem dX11_leap_10 : decode cX11_leap 10 = .ok (.aload_n 0, 1) := by decide +kernel
theorem dX11_leap_11 : decode cX11_leap 11 = .ok (.getfield 9, 3) := by decide +kernel
theorem dX11_leap_14 : decode cX11_leap 14 = .ok (.ifCond .eq 5, 3) := by decide +kernel
theorem dX11_leap_17 : decode cX11_leap 17 = .ok (.iconst 0, 1) := by decide +kernel
theorem dX11_leap_18 : decode cX11_leap 18 = .ok (.ireturn, 1) := by decide +kernel
theorem dX11_leap_19 : decode cX11_leap 19 = .ok (.aload_n 0, 1) := by decide +kernel
theorem dX11_leap_20 : decode cX11_leap 20 = .ok (.getfield 34, 3) := by decide +kernel
theorem dX11_leap_23 : decode cX11_leap 23 = .ok (.iload_n 1, 1) := by decide +kernel
theorem dX11_leap_24 : decode cX11_leap 24 = .ok (.iload_n 2, 1) := by decide +kernel
theorem dX11_leap_25 : decode cX11_leap 25 = .ok (.invokevirtual 129, 3) := by decide +kernel
theorem dX11_leap_28 : decode cX11_leap 28 = .ok (.aload_n 0, 1) := by decide +kernel
theorem dX11_leap_29 : decode cX11_leap 29 = .ok (.iconst 1, 1) := by decide +kernel
theorem dX11_leap_30 : decode cX11_leap 30 = .ok (.putfield 132, 3) := by decide +kernel
theorem dX11_leap_33 : decode cX11_leap 33 = .ok (.iconst 1, 1) := by decide +kernel
theorem dX11_leap_34 : decode cX11_leap 34 = .ok (.ireturn, 1) := by decide +kernel
theorem dX11_civil_0 : decode cX11_civil 0 = .ok (.aload_n 0, 1) := by decide +kernel
theorem dX11_civil_1 : decode cX11_civil 1 = .ok (.iload_n 1, 1) := by decide +kernel
theorem dX11_civil_2 : decode cX11_civil 2 = .ok (.invokestatic 136, 3) := by decide +kernel
theorem dX11_civil_5 : decode cX11_civil 5 = .ok (.ifCond .eq 16, 3) := by decide +kernel
theorem dX11_civil_8 : decode cX11_civil 8 = .ok (.iload_n 2, 1) := by decide +kernel
theorem dX11_civil_9 : decode cX11_civil 9 = .ok (.iconst 0, 1) := by decide +kernel
theorem dX11_civil_10 : decode cX11_civil 10 = .ok (.iconst 1, 1) := by decide +kernel
theorem dX11_civil_11 : decode cX11_civil 11 = .ok (.invokestatic 139, 3) := by decide +kernel
theorem dX11_civil_14 : decode cX11_civil 14 = .ok (.ifCond .eq 7, 3) := by decide +kernel
theorem dX11_civil_17 : decode cX11_civil 17 = .ok (.iconst 0, 1) := by decide +kernel
theorem dX11_civil_18 : decode cX11_civil 18 = .ok (.goto 4, 3) := by decide +kernel
theorem dX11_civil_21 : decode cX11_civil 21 = .ok (.iconst 5, 1) := by decide +kernel
theorem dX11_civil_22 : decode cX11_civil 22 = .ok (.putfield 9, 3) := by decide +kernel
theorem dX11_civil_25 : decode cX11_civil 25 = .ok (.aload_n 0, 1) := by decide +kernel
theorem dX11_civil_26 : decode cX11_civil 26 = .ok (.getfield 9, 3) := by decide +kernel
theorem dX11_civil_29 : decode cX11_civil 29 = .ok (.ifCond .eq 5, 3) := by decide +kernel
theorem dX11_civil_32 : decode cX11_civil 32 = .ok (.iconst (-1), 1) := by decide +kernel
theorem dX11_civil_33 : decode cX11_civil 33 = .ok (.ireturn, 1) := by decide +kernel
theorem dX11_civil_34 : decode cX11_civil 34 = .ok (.aload_n 0, 1) := by decide +kernel
theorem dX11_civil_35 : decode cX11_civil 35 = .ok (.getfield 34, 3) := by decide +kernel
theorem dX11_civil_38 : decode cX11_civil 38 = .ok (.iload_n 1, 1) := by decide +kernel
theorem dX11_civil_39 : decode cX11_civil 39 = .ok (.i2l, 1) := by decide +kernel
theorem dX11_civil_40 : decode cX11_civil 40 = .ok (.invokevirtual 143, 3) := by decide +kernel
theorem dX11_civil_43 : decode cX11_civil 43 = .ok (.iload_n 2, 1) := by decide +kernel
theorem dX11_civil_44 : decode cX11_civil 44 = .ok (.ifCond .ne 13, 3) := by decide +kernel
theorem dX11_civil_47 : decode cX11_civil 47 = .ok (.aload_n 0, 1) := by decide +kernel
theorem dX11_civil_48 : decode cX11_civil 48 = .ok (.getfield 34, 3) := by decide +kernel
theorem dX11_civil_51 : decode cX11_civil 51 = .ok (.getfield 147, 3) := by decide +kernel
theorem dX11_civil_54 : decode cX11_civil 54 = .ok (.goto 10, 3) := by decide +kernel
theorem dX11_civil_57 : decode cX11_civil 57 = .ok (.aload_n 0, 1) := by decide +kernel
theorem dX11_civil_58 : decode cX11_civil 58 = .ok (.getfield 34, 3) := by decide +kernel
theorem dX11_civil_61 : decode cX11_civil 61 = .ok (.getfield 150, 3) := by decide +kernel
theorem dX11_civil_64 : decode cX11_civil 64 = .ok (.ireturn, 1) := by decide +kernel
theorem dX11_count_0 : decode cX11_count 0 = .ok (.aload_n 0, 1) := by decide +kernel
theorem dX11_count_1 : decode cX11_count 1 = .ok (.aload_n 0, 1) := by decide +kernel
theorem dX11_count_2 : decode cX11_count 2 = .ok (.iload_n 1, 1) := by decide +kernel
theorem dX11_count_3 : decode cX11_count 3 = .ok (.iload_n 2, 1) := by decide +kernel
theorem dX11_count_4 : decode cX11_count 4 = .ok (.invokevirtual 153, 3) := by decide +kernel
theorem dX11_count_7 : decode cX11_count 7 = .ok (.putfield 9, 3) := by decide +kernel
theorem dX11_count_10 : decode cX11_count 10 = .ok (.aload_n 0, 1) := by decide +kernel
theorem dX11_count_11 : decode cX11_count 11 = .ok (.getfield 9, 3) := by decide +kernel
theorem dX11_count_14 : decode cX11_count 14 = .ok (.ifCond .ne 18, 3) := by decide +kernel
theorem dX11_count_17 : decode cX11_count 17 = .ok (.aload_n 0, 1) := by decide +kernel
theorem dX11_count_18 : decode cX11_count 18 = .ok (.getfield 34, 3) := by decide +kernel
theorem dX11_count_21 : decode cX11_count 21 = .ok (.iload_n 1, 1) := by decide +kernel
theorem dX11_count_22 : decode cX11_count 22 = .ok (.invokevirtual 156, 3) := by decide +kernel
theorem dX11_count_25 : decode cX11_count 25 = .ok (.iload_n 2, 1) := by decide +kernel
theorem dX11_count_26 : decode cX11_count 26 = .ok (.i2l, 1) := by decide +kernel
theorem dX11_count_27 : decode cX11_count 27 = .ok (.ladd, 1) := by decide +kernel
theorem dX11_count_28 : decode cX11_count 28 = .ok (.l2i, 1) := by decide +kernel
theorem dX11_count_29 : decode cX11_count 29 = .ok (.goto 4, 3) := by decide +kernel
theorem dX11_count_32 : decode cX11_count 32 = .ok (.iconst (-1), 1) := by decide +kernel
theorem dX11_count_33 : decode cX11_count 33 = .ok (.ireturn, 1) := by decide +kernel
theorem dX11_leapStatus_0 : decode cX11_leapStatus 0 = .ok (.iload_n 1, 1) := by decide +kernel
theorem dX11_leapStatus_1 : decode cX11_leapStatus 1 = .ok (.invokestatic 159, 3) := by decide +kernel
theorem dX11_leapStatus_4 : decode cX11_leapStatus 4 = .ok (.ifCond .eq 12, 3) := by decide +kernel
theorem dX11_leapStatus_7 : decode cX11_leapStatus 7 = .ok (.iload_n 2, 1) := by decide +kernel
theorem dX11_leapStatus_8 : decode cX11_leapStatus 8 = .ok (.iconst (-1), 1) := by decide +kernel
theorem dX11_leapStatus_9 : decode cX11_leapStatus 9 = .ok (.iconst 1, 1) := by decide +kernel
theorem dX11_leapStatus_10 : decode cX11_leapStatus 10 = .ok (.invokestatic 139, 3) := by decide +kernel
theorem dX11_leapStatus_13 : decode cX11_leapStatus 13 = .ok (.ifCond .ne 5, 3) := by decide +kernel
theorem dX11_leapStatus_16 : decode cX11_leapStatus 16 = .ok (.iconst 5, 1) := by decide +kernel
theorem dX11_leapStatus_17 : decode cX11_leapStatus 17 = .ok (.ireturn, 1) := by decide +kernel
theorem dX11_leapStatus_18 : decode cX11_leapStatus 18 = .ok (.iload_n 2, 1) := by decide +kernel
theorem dX11_leapStatus_19 : decode cX11_leapStatus 19 = .ok (.ifCond .eq 18, 3) := by decide +kernel
theorem dX11_leapStatus_22 : decode cX11_leapStatus 22 = .ok (.aload_n 0, 1) := by decide +kernel
theorem dX11_leapStatus_23 : decode cX11_leapStatus 23 = .ok (.getfield 34, 3) := by decide +kernel
theorem dX11_leapStatus_26 : decode cX11_leapStatus 26 = .ok (.iload_n 1, 1) := by decide +kernel
theorem dX11_leapStatus_27 : decode cX11_leapStatus 27 = .ok (.invokevirtual 162, 3) := by decide +kernel
theorem dX11_leapStatus_30 : decode cX11_leapStatus 30 = .ok (.ifCond .ne 7, 3) := by decide +kernel
theorem dX11_leapStatus_33 : decode cX11_leapStatus 33 = .ok (.iconst 1, 1) := by decide +kernel
theorem dX11_leapStatus_34 : decode cX11_leapStatus 34 = .ok (.goto 4, 3) := by decide +kernel
theorem dX11_leapStatus_37 : decode cX11_leapStatus 37 = .ok (.iconst 0, 1) := by decide +kernel
theorem dX11_leapStatus_38 : decode cX11_leapStatus 38 = .ok (.istore_n 3, 1) := by decide +kernel
theorem dX11_leapStatus_39 : decode cX11_leapStatus 39 = .ok (.iload_n 3, 1) := by decide +kernel
theorem dX11_leapStatus_40 : decode cX11_leapStatus 40 = .ok (.ifCond .eq 18, 3) := by decide +kernel
theorem dX11_leapStatus_43 : decode cX11_leapStatus 43 = .ok (.aload_n 0, 1) := by decide +kernel
theorem dX11_leapStatus_44 : decode cX11_leapStatus 44 = .ok (.getfield 34, 3) := by decide +kernel
theorem dX11_leapStatus_47 : decode cX11_leapStatus 47 = .ok (.invokevirtual 166, 3) := by decide +kernel
theorem dX11_leapStatus_50 : decode cX11_leapStatus 50 = .ok (.ifCond .eq 8, 3) := by decide +kernel
theorem dX11_leapStatus_53 : decode cX11_leapStatus 53 = .ok (.bipush 7, 2) := by decide +kernel
theorem dX11_leapStatus_55 : decode cX11_leapStatus 55 = .ok (.goto 4, 3) := by decide +kernel
theorem dX11_leapStatus_58 : decode cX11_leapStatus 58 = .ok (.iconst 0, 1) := by decide +kernel
theorem dX11_leapStatus_59 : decode cX11_leapStatus 59 = .ok (.ireturn, 1) := by decide +kernel
theorem dX11_countStatus_0 : decode cX11_countStatus 0 = .ok (.iload_n 1, 1) := by decide +kernel
theorem dX11_countStatus_1 : decode cX11_countStatus 1 = .ok (.invokestatic 159, 3) := by decide +kernel
theorem dX11_countStatus_4 : decode cX11_countStatus 4 = .ok (.ifCond .eq 31, 3) := by decide +kernel
theorem dX11_countStatus_7 : decode cX11_countStatus 7 = .ok (.iload_n 2, 1) := by decide +kernel
theorem dX11_countStatus_8 : decode cX11_countStatus 8 = .ok (.iconst 0, 1) := by decide +kernel
theorem dX11_countStatus_9 : decode cX11_countStatus 9 = .ok (.ldc 170, 2) := by decide +kernel
theorem dX11_countStatus_11 : decode cX11_countStatus 11 = .ok (.invokestatic 139, 3) := by decide +kernel
theorem dX11_countStatus_14 : decode cX11_countStatus 14 = .ok (.ifCond .eq 21, 3) := by decide +kernel
theorem dX11_countStatus_17 : decode cX11_countStatus 17 = .ok (.aload_n 0, 1) := by decide +kernel
theorem dX11_countStatus_18 : decode cX11_countStatus 18 = .ok (.getfield 34, 3) := by decide +kernel
theorem dX11_countStatus_21 : decode cX11_countStatus 21 = .ok (.iload_n 1, 1) := by decide +kernel
theorem dX11_countStatus_22 : decode cX11_countStatus 22 = .ok (.invokevirtual 156, 3) := by decide +kernel
theorem dX11_countStatus_25 : decode cX11_countStatus 25 = .ok (.iload_n 2, 1) := by decide +kernel
theorem dX11_countStatus_26 : decode cX11_countStatus 26 = .ok (.i2l, 1) := by decide +kernel
theorem dX11_countStatus_27 : decode cX11_countStatus 27 = .ok (.ladd, 1) := by decide +kernel
theorem dX11_countStatus_28 : decode cX11_countStatus 28 = .ok (.ldc2_w 171, 3) := by decide +kernel
theorem dX11_countStatus_31 : decode cX11_countStatus 31 = .ok (.lcmp, 1) := by decide +kernel
theorem dX11_countStatus_32 : decode cX11_countStatus 32 = .ok (.ifCond .le 5, 3) := by decide +kernel
theorem dX11_countStatus_35 : decode cX11_countStatus 35 = .ok (.iconst 5, 1) := by decide +kernel
theorem dX11_countStatus_36 : decode cX11_countStatus 36 = .ok (.ireturn, 1) := by decide +kernel
theorem dX11_countStatus_37 : decode cX11_countStatus 37 = .ok (.iload_n 2, 1) := by decide +kernel
theorem dX11_countStatus_38 : decode cX11_countStatus 38 = .ok (.aload_n 0, 1) := by decide +kernel
theorem dX11_countStatus_39 : decode cX11_countStatus 39 = .ok (.getfield 34, 3) := by decide +kernel
theorem dX11_countStatus_42 : decode cX11_countStatus 42 = .ok (.iload_n 1, 1) := by decide +kernel
theorem dX11_countStatus_43 : decode cX11_countStatus 43 = .ok (.invokevirtual 173, 3) := by decide +kernel
theorem dX11_countStatus_46 : decode cX11_countStatus 46 = .ok (.if_icmp .ge 7, 3) := by decide +kernel
theorem dX11_countStatus_49 : decode cX11_countStatus 49 = .ok (.iconst 0, 1) := by decide +kernel
theorem dX11_countStatus_50 : decode cX11_countStatus 50 = .ok (.goto 5, 3) := by decide +kernel
theorem dX11_countStatus_53 : decode cX11_countStatus 53 = .ok (.bipush 9, 2) := by decide +kernel
theorem dX11_countStatus_55 : decode cX11_countStatus 55 = .ok (.ireturn, 1) := by decide +kernel
theorem dX11_isWithin_0 : decode cX11_isWithin 0 = .ok (.iload_n 0, 1) := by decide +kernel
theorem dX11_isWithin_1 : decode cX11_isWithin 1 = .ok (.iload_n 1, 1) := by decide +kernel
theorem dX11_isWithin_2 : decode cX11_isWithin 2 = .ok (.if_icmp .lt 12, 3) := by decide +kernel
theorem dX11_isWithin_5 : decode cX11_isWithin 5 = .ok (.iload_n 0, 1) := by decide +kernel
theorem dX11_isWithin_6 : decode cX11_isWithin 6 = .ok (.iload_n 2, 1) := by decide +kernel
theorem dX11_isWithin_7 : decode cX11_isWithin 7 = .ok (.if_icmp .gt 7, 3) := by decide +kernel
theorem dX11_isWithin_10 : decode cX11_isWithin 10 = .ok (.iconst 1, 1) := by decide +kernel
theorem dX11_isWithin_11 : decode cX11_isWithin 11 = .ok (.goto 4, 3) := by decide +kernel
theorem dX11_isWithin_14 : decode cX11_isWithin 14 = .ok (.iconst 0, 1) := by decide +kernel
theorem dX11_isWithin_15 : decode cX11_isWithin 15 = .ok (.ireturn, 1) := by decide +kernel
theorem dX11_isCount_0 : decode cX11_isCount 0 = .ok (.iload_n 0, 1) := by decide +kernel
theorem dX11_isCount_1 : decode cX11_isCount 1 = .ok (.iconst 0, 1) := by decide +kernel
theorem dX11_isCount_2 : decode cX11_isCount 2 = .ok (.ldc 176, 2) := by decide +kernel
theorem dX11_isCount_4 : decode cX11_isCount 4 = .ok (.invokestatic 139, 3) := by decide +kernel
theorem dX11_isCount_7 : decode cX11_isCount 7 = .ok (.ireturn, 1) := by decide +kernel
theorem dX11_isDay_0 : decode cX11_isDay 0 = .ok (.iload_n 0, 1) := by decide +kernel
theorem dX11_isDay_1 : decode cX11_isDay 1 = .ok (.iconst 0, 1) := by decide +kernel
theorem dX11_isDay_2 : decode cX11_isDay 2 = .ok (.sipush 9999, 3) := by decide +kernel
theorem dX11_isDay_5 : decode cX11_isDay 5 = .ok (.invokestatic 139, 3) := by decide +kernel
theorem dX11_isDay_8 : decode cX11_isDay 8 = .ok (.ireturn, 1) := by decide +kernel
theorem dX11_clock_0 : decode cX11_clock 0 = .ok (.aload_n 0, 1) := by decide +kernel
theorem dX11_clock_1 : decode cX11_clock 1 = .ok (.iload_n 1, 1) := by decide +kernel
theorem dX11_clock_2 : decode cX11_clock 2 = .ok (.iconst 0, 1) := by decide +kernel
theorem dX11_clock_3 : decode cX11_clock 3 = .ok (.iconst 3, 1) := by decide +kernel
theorem dX11_clock_4 : decode cX11_clock 4 = .ok (.invokestatic 139, 3) := by decide +kernel
theorem dX11_clock_7 : decode cX11_clock 7 = .ok (.aload_n 0, 1) := by decide +kernel
theorem dX11_clock_8 : decode cX11_clock 8 = .ok (.getfield 41, 3) := by decide +kernel
theorem dX11_clock_11 : decode cX11_clock 11 = .ok (.invokevirtual 177, 3) := by decide +kernel
theorem dX11_clock_14 : decode cX11_clock 14 = .ok (.bipush 12, 2) := by decide +kernel
theorem dX11_clock_16 : decode cX11_clock 16 = .ok (.invokestatic 178, 3) := by decide +kernel
theorem dX11_clock_19 : decode cX11_clock 19 = .ok (.putfield 9, 3) := by decide +kernel
theorem dX11_clock_22 : decode cX11_clock 22 = .ok (.aload_n 0, 1) := by decide +kernel
theorem dX11_clock_23 : decode cX11_clock 23 = .ok (.getfield 9, 3) := by decide +kernel
theorem dX11_clock_26 : decode cX11_clock 26 = .ok (.ifCond .eq 5, 3) := by decide +kernel
theorem dX11_clock_29 : decode cX11_clock 29 = .ok (.iconst (-1), 1) := by decide +kernel
theorem dX11_clock_30 : decode cX11_clock 30 = .ok (.ireturn, 1) := by decide +kernel
theorem dX11_clock_31 : decode cX11_clock 31 = .ok (.aload_n 0, 1) := by decide +kernel
theorem dX11_clock_32 : decode cX11_clock 32 = .ok (.getfield 41, 3) := by decide +kernel
theorem dX11_clock_35 : decode cX11_clock 35 = .ok (.new 182, 3) := by decide +kernel
theorem dX11_clock_38 : decode cX11_clock 38 = .ok (.dup, 1) := by decide +kernel
theorem dX11_clock_39 : decode cX11_clock 39 = .ok (.iload_n 1, 1) := by decide +kernel
theorem dX11_clock_40 : decode cX11_clock 40 = .ok (.invokespecial 184, 3) := by decide +kernel
theorem dX11_clock_43 : decode cX11_clock 43 = .ok (.invokevirtual 185, 3) := by decide +kernel
theorem dX11_clock_46 : decode cX11_clock 46 = .ok (.pop, 1) := by decide +kernel
theorem dX11_clock_47 : decode cX11_clock 47 = .ok (.aload_n 0, 1) := by decide +kernel
theorem dX11_clock_48 : decode cX11_clock 48 = .ok (.getfield 41, 3) := by decide +kernel
theorem dX11_clock_51 : decode cX11_clock 51 = .ok (.invokevirtual 177, 3) := by decide +kernel
theorem dX11_clock_54 : decode cX11_clock 54 = .ok (.iconst 1, 1) := by decide +kernel
theorem dX11_clock_55 : decode cX11_clock 55 = .ok (.isub, 1) := by decide +kernel
theorem dX11_clock_56 : decode cX11_clock 56 = .ok (.ireturn, 1) := by decide +kernel
theorem dX11_step_0 : decode cX11_step 0 = .ok (.aload_n 0, 1) := by decide +kernel
theorem dX11_step_1 : decode cX11_step 1 = .ok (.aload_n 0, 1) := by decide +kernel
theorem dX11_step_2 : decode cX11_step 2 = .ok (.iload_n 1, 1) := by decide +kernel
theorem dX11_step_3 : decode cX11_step 3 = .ok (.invokevirtual 189, 3) := by decide +kernel
theorem dX11_step_6 : decode cX11_step 6 = .ok (.ifCond .eq 19, 3) := by decide +kernel
theorem dX11_step_9 : decode cX11_step 9 = .ok (.iload_n 2, 1) := by decide +kernel
theorem dX11_step_10 : decode cX11_step 10 = .ok (.invokestatic 136, 3) := by decide +kernel
theorem dX11_step_13 : decode cX11_step 13 = .ok (.aload_n 0, 1) := by decide +kernel
theorem dX11_step_14 : decode cX11_step 14 = .ok (.getfield 192, 3) := by decide +kernel
theorem dX11_step_17 : decode cX11_step 17 = .ok (.bipush 60, 2) := by decide +kernel
theorem dX11_step_19 : decode cX11_step 19 = .ok (.invokestatic 178, 3) := by decide +kernel
theorem dX11_step_22 : decode cX11_step 22 = .ok (.goto 4, 3) := by decide +kernel
theorem dX11_step_25 : decode cX11_step 25 = .ok (.iconst 2, 1) := by decide +kernel
theorem dX11_step_26 : decode cX11_step 26 = .ok (.putfield 9, 3) := by decide +kernel
theorem dX11_step_29 : decode cX11_step 29 = .ok (.aload_n 0, 1) := by decide +kernel
theorem dX11_step_30 : decode cX11_step 30 = .ok (.getfield 9, 3) := by decide +kernel
theorem dX11_step_33 : decode cX11_step 33 = .ok (.ifCond .eq 5, 3) := by decide +kernel
theorem dX11_step_36 : decode cX11_step 36 = .ok (.iconst 0, 1) := by decide +kernel
theorem dX11_step_37 : decode cX11_step 37 = .ok (.ireturn, 1) := by decide +kernel
theorem dX11_step_38 : decode cX11_step 38 = .ok (.aload_n 0, 1) := by decide +kernel
theorem dX11_step_39 : decode cX11_step 39 = .ok (.getfield 41, 3) := by decide +kernel
theorem dX11_step_42 : decode cX11_step 42 = .ok (.iload_n 1, 1) := by decide +kernel
theorem dX11_step_43 : decode cX11_step 43 = .ok (.invokevirtual 195, 3) := by decide +kernel
theorem dX11_step_46 : decode cX11_step 46 = .ok (.checkcast 182, 3) := by decide +kernel
theorem dX11_step_49 : decode cX11_step 49 = .ok (.iload_n 2, 1) := by decide +kernel
theorem dX11_step_50 : decode cX11_step 50 = .ok (.invokevirtual 199, 3) := by decide +kernel
theorem dX11_step_53 : decode cX11_step 53 = .ok (.aload_n 0, 1) := by decide +kernel
theorem dX11_step_54 : decode cX11_step 54 = .ok (.dup, 1) := by decide +kernel
theorem dX11_step_55 : decode cX11_step 55 = .ok (.getfield 192, 3) := by decide +kernel
theorem dX11_step_58 : decode cX11_step 58 = .ok (.iconst 1, 1) := by decide +kernel
theorem dX11_step_59 : decode cX11_step 59 = .ok (.iadd, 1) := by decide +kernel
theorem dX11_step_60 : decode cX11_step 60 = .ok (.putfield 192, 3) := by decide +kernel
theorem dX11_step_63 : decode cX11_step 63 = .ok (.aload_n 0, 1) := by decide +kernel
theorem dX11_step_64 : decode cX11_step 64 = .ok (.iconst 1, 1) := by decide +kernel
theorem dX11_step_65 : decode cX11_step 65 = .ok (.putfield 132, 3) := by decide +kernel
theorem dX11_step_68 : decode cX11_step 68 = .ok (.iconst 1, 1) := by decide +kernel
theorem dX11_step_69 : decode cX11_step 69 = .ok (.ireturn, 1) := by decide +kernel
theorem dX11_shows_0 : decode cX11_shows 0 = .ok (.aload_n 0, 1) := by decide +kernel
theorem dX11_shows_1 : decode cX11_shows 1 = .ok (.aload_n 0, 1) := by decide +kernel
theorem dX11_shows_2 : decode cX11_shows 2 = .ok (.iload_n 1, 1) := by decide +kernel
theorem dX11_shows_3 : decode cX11_shows 3 = .ok (.iload_n 2, 1) := by decide +kernel
theorem dX11_shows_4 : decode cX11_shows 4 = .ok (.invokevirtual 202, 3) := by decide +kernel
theorem dX11_shows_7 : decode cX11_shows 7 = .ok (.putfield 9, 3) := by decide +kernel
theorem dX11_shows_10 : decode cX11_shows 10 = .ok (.aload_n 0, 1) := by decide +kernel
theorem dX11_shows_11 : decode cX11_shows 11 = .ok (.getfield 9, 3) := by decide +kernel
theorem dX11_shows_14 : decode cX11_shows 14 = .ok (.ifCond .eq 7, 3) := by decide +kernel
theorem dX11_shows_17 : decode cX11_shows 17 = .ok (.ldc2_w 95, 3) := by decide +kernel
theorem dX11_shows_20 : decode cX11_shows 20 = .ok (.lreturn, 1) := by decide +kernel
theorem dX11_shows_21 : decode cX11_shows 21 = .ok (.aload_n 0, 1) := by decide +kernel
theorem dX11_shows_22 : decode cX11_shows 22 = .ok (.invokevirtual 205, 3) := by decide +kernel
theorem dX11_shows_25 : decode cX11_shows 25 = .ok (.aload_n 0, 1) := by decide +kernel
theorem dX11_shows_26 : decode cX11_shows 26 = .ok (.getfield 41, 3) := by decide +kernel
theorem dX11_shows_29 : decode cX11_shows 29 = .ok (.iload_n 1, 1) := by decide +kernel
theorem dX11_shows_30 : decode cX11_shows 30 = .ok (.invokevirtual 195, 3) := by decide +kernel
theorem dX11_shows_33 : decode cX11_shows 33 = .ok (.checkcast 182, 3) := by decide +kernel
theorem dX11_shows_36 : decode cX11_shows 36 = .ok (.iload_n 2, 1) := by decide +kernel
theorem dX11_shows_37 : decode cX11_shows 37 = .ok (.invokevirtual 208, 3) := by decide +kernel
theorem dX11_shows_40 : decode cX11_shows 40 = .ok (.lreturn, 1) := by decide +kernel
theorem dX11_ahead_0 : decode cX11_ahead 0 = .ok (.aload_n 0, 1) := by decide +kernel
theorem dX11_ahead_1 : decode cX11_ahead 1 = .ok (.aload_n 0, 1) := by decide +kernel
theorem dX11_ahead_2 : decode cX11_ahead 2 = .ok (.iload_n 1, 1) := by decide +kernel
theorem dX11_ahead_3 : decode cX11_ahead 3 = .ok (.iload_n 2, 1) := by decide +kernel
theorem dX11_ahead_4 : decode cX11_ahead 4 = .ok (.invokevirtual 202, 3) := by decide +kernel
theorem dX11_ahead_7 : decode cX11_ahead 7 = .ok (.putfield 9, 3) := by decide +kernel
theorem dX11_ahead_10 : decode cX11_ahead 10 = .ok (.aload_n 0, 1) := by decide +kernel
theorem dX11_ahead_11 : decode cX11_ahead 11 = .ok (.getfield 9, 3) := by decide +kernel
theorem dX11_ahead_14 : decode cX11_ahead 14 = .ok (.ifCond .eq 5, 3) := by decide +kernel
theorem dX11_ahead_17 : decode cX11_ahead 17 = .ok (.iconst (-1), 1) := by decide +kernel
theorem dX11_ahead_18 : decode cX11_ahead 18 = .ok (.ireturn, 1) := by decide +kernel
theorem dX11_ahead_19 : decode cX11_ahead 19 = .ok (.aload_n 0, 1) := by decide +kernel
theorem dX11_ahead_20 : decode cX11_ahead 20 = .ok (.invokevirtual 205, 3) := by decide +kernel
theorem dX11_ahead_23 : decode cX11_ahead 23 = .ok (.aload_n 0, 1) := by decide +kernel
theorem dX11_ahead_24 : decode cX11_ahead 24 = .ok (.getfield 41, 3) := by decide +kernel
theorem dX11_ahead_27 : decode cX11_ahead 27 = .ok (.iload_n 1, 1) := by decide +kernel
theorem dX11_ahead_28 : decode cX11_ahead 28 = .ok (.invokevirtual 195, 3) := by decide +kernel
theorem dX11_ahead_31 : decode cX11_ahead 31 = .ok (.checkcast 182, 3) := by decide +kernel
theorem dX11_ahead_34 : decode cX11_ahead 34 = .ok (.iload_n 2, 1) := by decide +kernel
theorem dX11_ahead_35 : decode cX11_ahead 35 = .ok (.invokevirtual 211, 3) := by decide +kernel
theorem dX11_ahead_38 : decode cX11_ahead 38 = .ok (.ireturn, 1) := by decide +kernel
theorem dX11_off_0 : decode cX11_off 0 = .ok (.aload_n 0, 1) := by decide +kernel
theorem dX11_off_1 : decode cX11_off 1 = .ok (.aload_n 0, 1) := by decide +kernel
theorem dX11_off_2 : decode cX11_off 2 = .ok (.iload_n 2, 1) := by decide +kernel
theorem dX11_off_3 : decode cX11_off 3 = .ok (.invokevirtual 189, 3) := by decide +kernel
theorem dX11_off_6 : decode cX11_off 6 = .ok (.ifCond .eq 12, 3) := by decide +kernel
theorem dX11_off_9 : decode cX11_off 9 = .ok (.aload_n 0, 1) := by decide +kernel
theorem dX11_off_10 : decode cX11_off 10 = .ok (.iload_n 1, 1) := by decide +kernel
theorem dX11_off_11 : decode cX11_off 11 = .ok (.iload_n 3, 1) := by decide +kernel
theorem dX11_off_12 : decode cX11_off 12 = .ok (.invokevirtual 202, 3) := by decide +kernel
theorem dX11_off_15 : decode cX11_off 15 = .ok (.goto 4, 3) := by decide +kernel
theorem dX11_off_18 : decode cX11_off 18 = .ok (.iconst 2, 1) := by decide +kernel
theorem dX11_off_19 : decode cX11_off 19 = .ok (.putfield 9, 3) := by decide +kernel
theorem dX11_off_22 : decode cX11_off 22 = .ok (.aload_n 0, 1) := by decide +kernel
theorem dX11_off_23 : decode cX11_off 23 = .ok (.getfield 9, 3) := by decide +kernel
theorem dX11_off_26 : decode cX11_off 26 = .ok (.ifCond .eq 7, 3) := by decide +kernel
theorem dX11_off_29 : decode cX11_off 29 = .ok (.ldc2_w 95, 3) := by decide +kernel
theorem dX11_off_32 : decode cX11_off 32 = .ok (.lreturn, 1) := by decide +kernel
theorem dX11_off_33 : decode cX11_off 33 = .ok (.aload_n 0, 1) := by decide +kernel
theorem dX11_off_34 : decode cX11_off 34 = .ok (.invokevirtual 205, 3) := by decide +kernel
theorem dX11_off_37 : decode cX11_off 37 = .ok (.aload_n 0, 1) := by decide +kernel
theorem dX11_off_38 : decode cX11_off 38 = .ok (.getfield 41, 3) := by decide +kernel
theorem dX11_off_41 : decode cX11_off 41 = .ok (.iload_n 1, 1) := by decide +kernel
theorem dX11_off_42 : decode cX11_off 42 = .ok (.invokevirtual 195, 3) := by decide +kernel
theorem dX11_off_45 : decode cX11_off 45 = .ok (.checkcast 182, 3) := by decide +kernel
theorem dX11_off_48 : decode cX11_off 48 = .ok (.iload_n 3, 1) := by decide +kernel
theorem dX11_off_49 : decode cX11_off 49 = .ok (.invokevirtual 208, 3) := by decide +kernel
theorem dX11_off_52 : decode cX11_off 52 = .ok (.invokestatic 214, 3) := by decide +kernel
theorem dX11_off_55 : decode cX11_off 55 = .ok (.aload_n 0, 1) := by decide +kernel
theorem dX11_off_56 : decode cX11_off 56 = .ok (.getfield 41, 3) := by decide +kernel
theorem dX11_off_59 : decode cX11_off 59 = .ok (.iload_n 2, 1) := by decide +kernel
theorem dX11_off_60 : decode cX11_off 60 = .ok (.invokevirtual 195, 3) := by decide +kernel
theorem dX11_off_63 : decode cX11_off 63 = .ok (.checkcast 182, 3) := by decide +kernel
theorem dX11_off_66 : decode cX11_off 66 = .ok (.iload_n 3, 1) := by decide +kernel
theorem dX11_off_67 : decode cX11_off 67 = .ok (.invokevirtual 208, 3) := by decide +kernel
theorem dX11_off_70 : decode cX11_off 70 = .ok (.invokestatic 214, 3) := by decide +kernel
theorem dX11_off_73 : decode cX11_off 73 = .ok (.lsub, 1) := by decide +kernel
theorem dX11_off_74 : decode cX11_off 74 = .ok (.lreturn, 1) := by decide +kernel
theorem dX11_worst_0 : decode cX11_worst 0 = .ok (.aload_n 0, 1) := by decide +kernel
theorem dX11_worst_1 : decode cX11_worst 1 = .ok (.aload_n 0, 1) := by decide +kernel
theorem dX11_worst_2 : decode cX11_worst 2 = .ok (.iload_n 1, 1) := by decide +kernel
theorem dX11_worst_3 : decode cX11_worst 3 = .ok (.iload_n 2, 1) := by decide +kernel
theorem dX11_worst_4 : decode cX11_worst 4 = .ok (.iload_n 3, 1) := by decide +kernel
theorem dX11_worst_5 : decode cX11_worst 5 = .ok (.invokevirtual 218, 3) := by decide +kernel
theorem dX11_worst_8 : decode cX11_worst 8 = .ok (.putfield 9, 3) := by decide +kernel
theorem dX11_worst_11 : decode cX11_worst 11 = .ok (.aload_n 0, 1) := by decide +kernel
theorem dX11_worst_12 : decode cX11_worst 12 = .ok (.getfield 9, 3) := by decide +kernel
theorem dX11_worst_15 : decode cX11_worst 15 = .ok (.ifCond .eq 7, 3) := by decide +kernel
theorem dX11_worst_18 : decode cX11_worst 18 = .ok (.ldc2_w 95, 3) := by decide +kernel
theorem dX11_worst_21 : decode cX11_worst 21 = .ok (.lreturn, 1) := by decide +kernel
theorem dX11_worst_22 : decode cX11_worst 22 = .ok (.aload_n 0, 1) := by decide +kernel
theorem dX11_worst_23 : decode cX11_worst 23 = .ok (.invokevirtual 205, 3) := by decide +kernel
theorem dX11_worst_26 : decode cX11_worst 26 = .ok (.ldc2_w 95, 3) := by decide +kernel
theorem dX11_worst_29 : decode cX11_worst 29 = .ok (.lstore 4, 2) := by decide +kernel
theorem dX11_worst_31 : decode cX11_worst 31 = .ok (.iload_n 1, 1) := by decide +kernel
theorem dX11_worst_32 : decode cX11_worst 32 = .ok (.istore 6, 2) := by decide +kernel
theorem dX11_worst_34 : decode cX11_worst 34 = .ok (.iload_n 1, 1) := by decide +kernel
theorem dX11_worst_35 : decode cX11_worst 35 = .ok (.istore 7, 2) := by decide +kernel
theorem dX11_worst_37 : decode cX11_worst 37 = .ok (.iload 7, 2) := by decide +kernel
theorem dX11_worst_39 : decode cX11_worst 39 = .ok (.iload_n 2, 1) := by decide +kernel
theorem dX11_worst_40 : decode cX11_worst 40 = .ok (.if_icmp .gt 33, 3) := by decide +kernel
theorem dX11_worst_43 : decode cX11_worst 43 = .ok (.aload_n 0, 1) := by decide +kernel
theorem dX11_worst_44 : decode cX11_worst 44 = .ok (.iload 7, 2) := by decide +kernel
theorem dX11_worst_46 : decode cX11_worst 46 = .ok (.invokevirtual 221, 3) := by decide +kernel
theorem dX11_worst_49 : decode cX11_worst 49 = .ok (.lstore 8, 2) := by decide +kernel
theorem dX11_worst_51 : decode cX11_worst 51 = .ok (.lload 8, 2) := by decide +kernel
theorem dX11_worst_53 : decode cX11_worst 53 = .ok (.lload 4, 2) := by decide +kernel
theorem dX11_worst_55 : decode cX11_worst 55 = .ok (.lcmp, 1) := by decide +kernel
theorem dX11_worst_56 : decode cX11_worst 56 = .ok (.ifCond .le 11, 3) := by decide +kernel
theorem dX11_worst_59 : decode cX11_worst 59 = .ok (.lload 8, 2) := by decide +kernel
theorem dX11_worst_61 : decode cX11_worst 61 = .ok (.lstore 4, 2) := by decide +kernel
theorem dX11_worst_63 : decode cX11_worst 63 = .ok (.iload 7, 2) := by decide +kernel
theorem dX11_worst_65 : decode cX11_worst 65 = .ok (.istore 6, 2) := by decide +kernel
theorem dX11_worst_67 : decode cX11_worst 67 = .ok (.iinc 7 1, 3) := by decide +kernel
theorem dX11_worst_70 : decode cX11_worst 70 = .ok (.goto (-33), 3) := by decide +kernel
theorem dX11_worst_73 : decode cX11_worst 73 = .ok (.iload_n 3, 1) := by decide +kernel
theorem dX11_worst_74 : decode cX11_worst 74 = .ok (.ifCond .ne 8, 3) := by decide +kernel
theorem dX11_worst_77 : decode cX11_worst 77 = .ok (.lload 4, 2) := by decide +kernel
theorem dX11_worst_79 : decode cX11_worst 79 = .ok (.goto 6, 3) := by decide +kernel
theorem dX11_worst_82 : decode cX11_worst 82 = .ok (.iload 6, 2) := by decide +kernel
theorem dX11_worst_84 : decode cX11_worst 84 = .ok (.i2l, 1) := by decide +kernel
theorem dX11_worst_85 : decode cX11_worst 85 = .ok (.lreturn, 1) := by decide +kernel
theorem dX11_moreStatus_0 : decode cX11_moreStatus 0 = .ok (.iload_n 0, 1) := by decide +kernel
theorem dX11_moreStatus_1 : decode cX11_moreStatus 1 = .ok (.ifCond .ne 5, 3) := by decide +kernel
theorem dX11_moreStatus_4 : decode cX11_moreStatus 4 = .ok (.iconst 5, 1) := by decide +kernel
theorem dX11_moreStatus_5 : decode cX11_moreStatus 5 = .ok (.ireturn, 1) := by decide +kernel
theorem dX11_moreStatus_6 : decode cX11_moreStatus 6 = .ok (.iload_n 1, 1) := by decide +kernel
theorem dX11_moreStatus_7 : decode cX11_moreStatus 7 = .ok (.iload_n 2, 1) := by decide +kernel
theorem dX11_moreStatus_8 : decode cX11_moreStatus 8 = .ok (.if_icmp .lt 8, 3) := by decide +kernel
theorem dX11_moreStatus_11 : decode cX11_moreStatus 11 = .ok (.bipush 7, 2) := by decide +kernel
theorem dX11_moreStatus_13 : decode cX11_moreStatus 13 = .ok (.goto 4, 3) := by decide +kernel
theorem dX11_moreStatus_16 : decode cX11_moreStatus 16 = .ok (.iconst 0, 1) := by decide +kernel
theorem dX11_moreStatus_17 : decode cX11_moreStatus 17 = .ok (.ireturn, 1) := by decide +kernel
theorem dX11_isClock_0 : decode cX11_isClock 0 = .ok (.iload_n 1, 1) := by decide +kernel
theorem dX11_isClock_1 : decode cX11_isClock 1 = .ok (.ifCond .lt 18, 3) := by decide +kernel
theorem dX11_isClock_4 : decode cX11_isClock 4 = .ok (.iload_n 1, 1) := by decide +kernel
theorem dX11_isClock_5 : decode cX11_isClock 5 = .ok (.aload_n 0, 1) := by decide +kernel
theorem dX11_isClock_6 : decode cX11_isClock 6 = .ok (.getfield 41, 3) := by decide +kernel
theorem dX11_isClock_9 : decode cX11_isClock 9 = .ok (.invokevirtual 177, 3) := by decide +kernel
theorem dX11_isClock_12 : decode cX11_isClock 12 = .ok (.if_icmp .ge 7, 3) := by decide +kernel
theorem dX11_isClock_15 : decode cX11_isClock 15 = .ok (.iconst 1, 1) := by decide +kernel
theorem dX11_isClock_16 : decode cX11_isClock 16 = .ok (.goto 4, 3) := by decide +kernel
theorem dX11_isClock_19 : decode cX11_isClock 19 = .ok (.iconst 0, 1) := by decide +kernel
theorem dX11_isClock_20 : decode cX11_isClock 20 = .ok (.ireturn, 1) := by decide +kernel
theorem dX11_clockCountStatus_0 : decode cX11_clockCountStatus 0 = .ok (.aload_n 0, 1) := by decide +kernel
theorem dX11_clockCountStatus_1 : decode cX11_clockCountStatus 1 = .ok (.iload_n 1, 1) := by decide +kernel
theorem dX11_clockCountStatus_2 : decode cX11_clockCountStatus 2 = .ok (.invokevirtual 189, 3) := by decide +kernel
theorem dX11_clockCountStatus_5 : decode cX11_clockCountStatus 5 = .ok (.ifCond .ne 5, 3) := by decide +kernel
theorem dX11_clockCountStatus_8 : decode cX11_clockCountStatus 8 = .ok (.iconst 2, 1) := by decide +kernel
theorem dX11_clockCountStatus_9 : decode cX11_clockCountStatus 9 = .ok (.ireturn, 1) := by decide +kernel
theorem dX11_clockCountStatus_10 : decode cX11_clockCountStatus 10 = .ok (.iload_n 2, 1) := by decide +kernel
theorem dX11_clockCountStatus_11 : decode cX11_clockCountStatus 11 = .ok (.invokestatic 136, 3) := by decide +kernel
theorem dX11_clockCountStatus_14 : decode cX11_clockCountStatus 14 = .ok (.ifCond .eq 7, 3) := by decide +kernel
theorem dX11_clockCountStatus_17 : decode cX11_clockCountStatus 17 = .ok (.iconst 0, 1) := by decide +kernel
theorem dX11_clockCountStatus_18 : decode cX11_clockCountStatus 18 = .ok (.goto 4, 3) := by decide +kernel
theorem dX11_clockCountStatus_21 : decode cX11_clockCountStatus 21 = .ok (.iconst 5, 1) := by decide +kernel
theorem dX11_clockCountStatus_22 : decode cX11_clockCountStatus 22 = .ok (.ireturn, 1) := by decide +kernel
theorem dX11_worstStatus_0 : decode cX11_worstStatus 0 = .ok (.iload_n 1, 1) := by decide +kernel
theorem dX11_worstStatus_1 : decode cX11_worstStatus 1 = .ok (.invokestatic 136, 3) := by decide +kernel
theorem dX11_worstStatus_4 : decode cX11_worstStatus 4 = .ok (.ifCond .eq 33, 3) := by decide +kernel
theorem dX11_worstStatus_7 : decode cX11_worstStatus 7 = .ok (.iload_n 2, 1) := by decide +kernel
theorem dX11_worstStatus_8 : decode cX11_worstStatus 8 = .ok (.invokestatic 136, 3) := by decide +kernel
theorem dX11_worstStatus_11 : decode cX11_worstStatus 11 = .ok (.ifCond .eq 26, 3) := by decide +kernel
theorem dX11_worstStatus_14 : decode cX11_worstStatus 14 = .ok (.iload_n 1, 1) := by decide +kernel
theorem dX11_worstStatus_15 : decode cX11_worstStatus 15 = .ok (.iload_n 2, 1) := by decide +kernel
theorem dX11_worstStatus_16 : decode cX11_worstStatus 16 = .ok (.if_icmp .gt 21, 3) := by decide +kernel
theorem dX11_worstStatus_19 : decode cX11_worstStatus 19 = .ok (.iload_n 2, 1) := by decide +kernel
theorem dX11_worstStatus_20 : decode cX11_worstStatus 20 = .ok (.iload_n 1, 1) := by decide +kernel
theorem dX11_worstStatus_21 : decode cX11_worstStatus 21 = .ok (.isub, 1) := by decide +kernel
theorem dX11_worstStatus_22 : decode cX11_worstStatus 22 = .ok (.sipush 2000, 3) := by decide +kernel
theorem dX11_worstStatus_25 : decode cX11_worstStatus 25 = .ok (.if_icmp .gt 12, 3) := by decide +kernel
theorem dX11_worstStatus_28 : decode cX11_worstStatus 28 = .ok (.iload_n 3, 1) := by decide +kernel
theorem dX11_worstStatus_29 : decode cX11_worstStatus 29 = .ok (.iconst 0, 1) := by decide +kernel
theorem dX11_worstStatus_30 : decode cX11_worstStatus 30 = .ok (.iconst 1, 1) := by decide +kernel
theorem dX11_worstStatus_31 : decode cX11_worstStatus 31 = .ok (.invokestatic 139, 3) := by decide +kernel
theorem dX11_worstStatus_34 : decode cX11_worstStatus 34 = .ok (.ifCond .ne 5, 3) := by decide +kernel
theorem dX11_worstStatus_37 : decode cX11_worstStatus 37 = .ok (.iconst 5, 1) := by decide +kernel
theorem dX11_worstStatus_38 : decode cX11_worstStatus 38 = .ok (.ireturn, 1) := by decide +kernel
theorem dX11_worstStatus_39 : decode cX11_worstStatus 39 = .ok (.aload_n 0, 1) := by decide +kernel
theorem dX11_worstStatus_40 : decode cX11_worstStatus 40 = .ok (.getfield 41, 3) := by decide +kernel
theorem dX11_worstStatus_43 : decode cX11_worstStatus 43 = .ok (.invokevirtual 177, 3) := by decide +kernel
theorem dX11_worstStatus_46 : decode cX11_worstStatus 46 = .ok (.iconst 2, 1) := by decide +kernel
theorem dX11_worstStatus_47 : decode cX11_worstStatus 47 = .ok (.if_icmp .ge 8, 3) := by decide +kernel
theorem dX11_worstStatus_50 : decode cX11_worstStatus 50 = .ok (.bipush 8, 2) := by decide +kernel
theorem dX11_worstStatus_52 : decode cX11_worstStatus 52 = .ok (.goto 4, 3) := by decide +kernel
theorem dX11_worstStatus_55 : decode cX11_worstStatus 55 = .ok (.iconst 0, 1) := by decide +kernel
theorem dX11_worstStatus_56 : decode cX11_worstStatus 56 = .ok (.ireturn, 1) := by decide +kernel
theorem dX11_spreadAt_0 : decode cX11_spreadAt 0 = .ok (.lconst 0, 1) := by decide +kernel
theorem dX11_spreadAt_1 : decode cX11_spreadAt 1 = .ok (.lstore_n 2, 1) := by decide +kernel
theorem dX11_spreadAt_2 : decode cX11_spreadAt 2 = .ok (.lconst 0, 1) := by decide +kernel
theorem dX11_spreadAt_3 : decode cX11_spreadAt 3 = .ok (.lstore 4, 2) := by decide +kernel
theorem dX11_spreadAt_5 : decode cX11_spreadAt 5 = .ok (.iconst 0, 1) := by decide +kernel
theorem dX11_spreadAt_6 : decode cX11_spreadAt 6 = .ok (.istore 6, 2) := by decide +kernel
theorem dX11_spreadAt_8 : decode cX11_spreadAt 8 = .ok (.iload 6, 2) := by decide +kernel
theorem dX11_spreadAt_10 : decode cX11_spreadAt 10 = .ok (.aload_n 0, 1) := by decide +kernel
theorem dX11_spreadAt_11 : decode cX11_spreadAt 11 = .ok (.getfield 41, 3) := by decide +kernel
theorem dX11_spreadAt_14 : decode cX11_spreadAt 14 = .ok (.invokevirtual 177, 3) := by decide +kernel
theorem dX11_spreadAt_17 : decode cX11_spreadAt 17 = .ok (.if_icmp .ge 66, 3) := by decide +kernel
theorem dX11_spreadAt_20 : decode cX11_spreadAt 20 = .ok (.aload_n 0, 1) := by decide +kernel
theorem dX11_spreadAt_21 : decode cX11_spreadAt 21 = .ok (.getfield 41, 3) := by decide +kernel
theorem dX11_spreadAt_24 : decode cX11_spreadAt 24 = .ok (.iload 6, 2) := by decide +kernel
theorem dX11_spreadAt_26 : decode cX11_spreadAt 26 = .ok (.invokevirtual 195, 3) := by decide +kernel
theorem dX11_spreadAt_29 : decode cX11_spreadAt 29 = .ok (.checkcast 182, 3) := by decide +kernel
theorem dX11_spreadAt_32 : decode cX11_spreadAt 32 = .ok (.iload_n 1, 1) := by decide +kernel
theorem dX11_spreadAt_33 : decode cX11_spreadAt 33 = .ok (.invokevirtual 208, 3) := by decide +kernel
theorem dX11_spreadAt_36 : decode cX11_spreadAt 36 = .ok (.invokestatic 214, 3) := by decide +kernel
theorem dX11_spreadAt_39 : decode cX11_spreadAt 39 = .ok (.lstore 7, 2) := by decide +kernel
theorem dX11_spreadAt_41 : decode cX11_spreadAt 41 = .ok (.iload 6, 2) := by decide +kernel
theorem dX11_spreadAt_43 : decode cX11_spreadAt 43 = .ok (.ifCond .ne 8, 3) := by decide +kernel
theorem dX11_spreadAt_46 : decode cX11_spreadAt 46 = .ok (.lload 7, 2) := by decide +kernel
theorem dX11_spreadAt_48 : decode cX11_spreadAt 48 = .ok (.goto 9, 3) := by decide +kernel
theorem dX11_spreadAt_51 : decode cX11_spreadAt 51 = .ok (.lload_n 2, 1) := by decide +kernel
theorem dX11_spreadAt_52 : decode cX11_spreadAt 52 = .ok (.lload 7, 2) := by decide +kernel
theorem dX11_spreadAt_54 : decode cX11_spreadAt 54 = .ok (.invokestatic 224, 3) := by decide +kernel
theorem dX11_spreadAt_57 : decode cX11_spreadAt 57 = .ok (.lstore_n 2, 1) := by decide +kernel
theorem dX11_spreadAt_58 : decode cX11_spreadAt 58 = .ok (.iload 6, 2) := by decide +kernel
theorem dX11_spreadAt_60 : decode cX11_spreadAt 60 = .ok (.ifCond .ne 8, 3) := by decide +kernel
theorem dX11_spreadAt_63 : decode cX11_spreadAt 63 = .ok (.lload 7, 2) := by decide +kernel
theorem dX11_spreadAt_65 : decode cX11_spreadAt 65 = .ok (.goto 10, 3) := by decide +kernel
theorem dX11_spreadAt_68 : decode cX11_spreadAt 68 = .ok (.lload 4, 2) := by decide +kernel
theorem dX11_spreadAt_70 : decode cX11_spreadAt 70 = .ok (.lload 7, 2) := by decide +kernel
theorem dX11_spreadAt_72 : decode cX11_spreadAt 72 = .ok (.invokestatic 230, 3) := by decide +kernel
theorem dX11_spreadAt_75 : decode cX11_spreadAt 75 = .ok (.lstore 4, 2) := by decide +kernel
theorem dX11_spreadAt_77 : decode cX11_spreadAt 77 = .ok (.iinc 6 1, 3) := by decide +kernel
theorem dX11_spreadAt_80 : decode cX11_spreadAt 80 = .ok (.goto (-72), 3) := by decide +kernel
theorem dX11_spreadAt_83 : decode cX11_spreadAt 83 = .ok (.lload 4, 2) := by decide +kernel
theorem dX11_spreadAt_85 : decode cX11_spreadAt 85 = .ok (.lload_n 2, 1) := by decide +kernel
theorem dX11_spreadAt_86 : decode cX11_spreadAt 86 = .ok (.lsub, 1) := by decide +kernel
theorem dX11_spreadAt_87 : decode cX11_spreadAt 87 = .ok (.lreturn, 1) := by decide +kernel
theorem dX11_thousandthsInAll_0 : decode cX11_thousandthsInAll 0 = .ok (.lload_n 0, 1) := by decide +kernel
theorem dX11_thousandthsInAll_1 : decode cX11_thousandthsInAll 1 = .ok (.ldc2_w 233, 3) := by decide +kernel
theorem dX11_thousandthsInAll_4 : decode cX11_thousandthsInAll 4 = .ok (.ldiv, 1) := by decide +kernel
theorem dX11_thousandthsInAll_5 : decode cX11_thousandthsInAll 5 = .ok (.ldc2_w 235, 3) := by decide +kernel
theorem dX11_thousandthsInAll_8 : decode cX11_thousandthsInAll 8 = .ok (.lmul, 1) := by decide +kernel
theorem dX11_thousandthsInAll_9 : decode cX11_thousandthsInAll 9 = .ok (.lload_n 0, 1) := by decide +kernel
theorem dX11_thousandthsInAll_10 : decode cX11_thousandthsInAll 10 = .ok (.ldc2_w 233, 3) := by decide +kernel
theorem dX11_thousandthsInAll_13 : decode cX11_thousandthsInAll 13 = .ok (.lrem, 1) := by decide +kernel
theorem dX11_thousandthsInAll_14 : decode cX11_thousandthsInAll 14 = .ok (.ladd, 1) := by decide +kernel
theorem dX11_thousandthsInAll_15 : decode cX11_thousandthsInAll 15 = .ok (.lreturn, 1) := by decide +kernel
theorem dX11_thousandthsShown_0 : decode cX11_thousandthsShown 0 = .ok (.iload_n 0, 1) := by decide +kernel
theorem dX11_thousandthsShown_1 : decode cX11_thousandthsShown 1 = .ok (.iconst 3, 1) := by decide +kernel
theorem dX11_thousandthsShown_2 : decode cX11_thousandthsShown 2 = .ok (.if_icmp .ne 18, 3) := by decide +kernel
theorem dX11_thousandthsShown_5 : decode cX11_thousandthsShown 5 = .ok (.iload_n 2, 1) := by decide +kernel
theorem dX11_thousandthsShown_6 : decode cX11_thousandthsShown 6 = .ok (.ifCond .le 14, 3) := by decide +kernel
theorem dX11_thousandthsShown_9 : decode cX11_thousandthsShown 9 = .ok (.ldc2_w 235, 3) := by decide +kernel
theorem dX11_thousandthsShown_12 : decode cX11_thousandthsShown 12 = .ok (.iload_n 1, 1) := by decide +kernel
theorem dX11_thousandthsShown_13 : decode cX11_thousandthsShown 13 = .ok (.i2l, 1) := by decide +kernel
theorem dX11_thousandthsShown_14 : decode cX11_thousandthsShown 14 = .ok (.lmul, 1) := by decide +kernel
theorem dX11_thousandthsShown_15 : decode cX11_thousandthsShown 15 = .ok (.ldc2_w 237, 3) := by decide +kernel
theorem dX11_thousandthsShown_18 : decode cX11_thousandthsShown 18 = .ok (.ldiv, 1) := by decide +kernel
theorem dX11_thousandthsShown_19 : decode cX11_thousandthsShown 19 = .ok (.lreturn, 1) := by decide +kernel
theorem dX11_thousandthsShown_20 : decode cX11_thousandthsShown 20 = .ok (.iload_n 0, 1) := by decide +kernel
theorem dX11_thousandthsShown_21 : decode cX11_thousandthsShown 21 = .ok (.iconst 3, 1) := by decide +kernel
theorem dX11_thousandthsShown_22 : decode cX11_thousandthsShown 22 = .ok (.if_icmp .ne 18, 3) := by decide +kernel
theorem dX11_thousandthsShown_25 : decode cX11_thousandthsShown 25 = .ok (.iload_n 2, 1) := by decide +kernel
theorem dX11_thousandthsShown_26 : decode cX11_thousandthsShown 26 = .ok (.ifCond .ge 14, 3) := by decide +kernel
theorem dX11_thousandthsShown_29 : decode cX11_thousandthsShown 29 = .ok (.ldc2_w 235, 3) := by decide +kernel
theorem dX11_thousandthsShown_32 : decode cX11_thousandthsShown 32 = .ok (.iload_n 1, 1) := by decide +kernel
theorem dX11_thousandthsShown_33 : decode cX11_thousandthsShown 33 = .ok (.i2l, 1) := by decide +kernel
theorem dX11_thousandthsShown_34 : decode cX11_thousandthsShown 34 = .ok (.lmul, 1) := by decide +kernel
theorem dX11_thousandthsShown_35 : decode cX11_thousandthsShown 35 = .ok (.ldc2_w 239, 3) := by decide +kernel
theorem dX11_thousandthsShown_38 : decode cX11_thousandthsShown 38 = .ok (.ldiv, 1) := by decide +kernel
theorem dX11_thousandthsShown_39 : decode cX11_thousandthsShown 39 = .ok (.lreturn, 1) := by decide +kernel
theorem dX11_thousandthsShown_40 : decode cX11_thousandthsShown 40 = .ok (.iload_n 1, 1) := by decide +kernel
theorem dX11_thousandthsShown_41 : decode cX11_thousandthsShown 41 = .ok (.ldc 170, 2) := by decide +kernel
theorem dX11_thousandthsShown_43 : decode cX11_thousandthsShown 43 = .ok (.if_icmp .lt 7, 3) := by decide +kernel
theorem dX11_thousandthsShown_46 : decode cX11_thousandthsShown 46 = .ok (.iload_n 0, 1) := by decide +kernel
theorem dX11_thousandthsShown_47 : decode cX11_thousandthsShown 47 = .ok (.ifCond .ne 10, 3) := by decide +kernel
theorem dX11_thousandthsShown_50 : decode cX11_thousandthsShown 50 = .ok (.ldc2_w 241, 3) := by decide +kernel
theorem dX11_thousandthsShown_53 : decode cX11_thousandthsShown 53 = .ok (.iload_n 1, 1) := by decide +kernel
theorem dX11_thousandthsShown_54 : decode cX11_thousandthsShown 54 = .ok (.i2l, 1) := by decide +kernel
theorem dX11_thousandthsShown_55 : decode cX11_thousandthsShown 55 = .ok (.lmul, 1) := by decide +kernel
theorem dX11_thousandthsShown_56 : decode cX11_thousandthsShown 56 = .ok (.lreturn, 1) := by decide +kernel
theorem dX11_thousandthsShown_57 : decode cX11_thousandthsShown 57 = .ok (.iload_n 0, 1) := by decide +kernel
theorem dX11_thousandthsShown_58 : decode cX11_thousandthsShown 58 = .ok (.iconst 1, 1) := by decide +kernel
theorem dX11_thousandthsShown_59 : decode cX11_thousandthsShown 59 = .ok (.if_icmp .ne 7, 3) := by decide +kernel
theorem dX11_thousandthsShown_62 : decode cX11_thousandthsShown 62 = .ok (.ldc2_w 243, 3) := by decide +kernel
theorem dX11_thousandthsShown_65 : decode cX11_thousandthsShown 65 = .ok (.lreturn, 1) := by decide +kernel
theorem dX11_thousandthsShown_66 : decode cX11_thousandthsShown 66 = .ok (.iload_n 0, 1) := by decide +kernel
theorem dX11_thousandthsShown_67 : decode cX11_thousandthsShown 67 = .ok (.iconst 2, 1) := by decide +kernel
theorem dX11_thousandthsShown_68 : decode cX11_thousandthsShown 68 = .ok (.if_icmp .ne 9, 3) := by decide +kernel
theorem dX11_thousandthsShown_71 : decode cX11_thousandthsShown 71 = .ok (.ldc2_w 245, 3) := by decide +kernel
theorem dX11_thousandthsShown_74 : decode cX11_thousandthsShown 74 = .ok (.goto 4, 3) := by decide +kernel
theorem dX11_thousandthsShown_77 : decode cX11_thousandthsShown 77 = .ok (.lconst 0, 1) := by decide +kernel
theorem dX11_thousandthsShown_78 : decode cX11_thousandthsShown 78 = .ok (.lreturn, 1) := by decide +kernel
theorem dX11_settle_0 : decode cX11_settle 0 = .ok (.aload_n 0, 1) := by decide +kernel
theorem dX11_settle_1 : decode cX11_settle 1 = .ok (.getfield 132, 3) := by decide +kernel
theorem dX11_settle_4 : decode cX11_settle 4 = .ok (.ifCond .ne 4, 3) := by decide +kernel
theorem dX11_settle_7 : decode cX11_settle 7 = .ok (.return_, 1) := by decide +kernel
theorem dX11_settle_8 : decode cX11_settle 8 = .ok (.iconst 0, 1) := by decide +kernel
theorem dX11_settle_9 : decode cX11_settle 9 = .ok (.istore_n 1, 1) := by decide +kernel
theorem dX11_settle_10 : decode cX11_settle 10 = .ok (.iload_n 1, 1) := by decide +kernel
theorem dX11_settle_11 : decode cX11_settle 11 = .ok (.aload_n 0, 1) := by decide +kernel
theorem dX11_settle_12 : decode cX11_settle 12 = .ok (.getfield 41, 3) := by decide +kernel
theorem dX11_settle_15 : decode cX11_settle 15 = .ok (.invokevirtual 177, 3) := by decide +kernel
theorem dX11_settle_18 : decode cX11_settle 18 = .ok (.if_icmp .ge 26, 3) := by decide +kernel
theorem dX11_settle_21 : decode cX11_settle 21 = .ok (.aload_n 0, 1) := by decide +kernel
theorem dX11_settle_22 : decode cX11_settle 22 = .ok (.getfield 41, 3) := by decide +kernel
theorem dX11_settle_25 : decode cX11_settle 25 = .ok (.iload_n 1, 1) := by decide +kernel
theorem dX11_settle_26 : decode cX11_settle 26 = .ok (.invokevirtual 195, 3) := by decide +kernel
theorem dX11_settle_29 : decode cX11_settle 29 = .ok (.checkcast 182, 3) := by decide +kernel
theorem dX11_settle_32 : decode cX11_settle 32 = .ok (.getfield 247, 3) := by decide +kernel
theorem dX11_settle_35 : decode cX11_settle 35 = .ok (.invokevirtual 250, 3) := by decide +kernel
theorem dX11_settle_38 : decode cX11_settle 38 = .ok (.iinc 1 1, 3) := by decide +kernel
theorem dX11_settle_41 : decode cX11_settle 41 = .ok (.goto (-31), 3) := by decide +kernel
theorem dX11_settle_44 : decode cX11_settle 44 = .ok (.iconst 0, 1) := by decide +kernel
theorem dX11_settle_45 : decode cX11_settle 45 = .ok (.istore_n 1, 1) := by decide +kernel
theorem dX11_settle_46 : decode cX11_settle 46 = .ok (.iload_n 1, 1) := by decide +kernel
theorem dX11_settle_47 : decode cX11_settle 47 = .ok (.aload_n 0, 1) := by decide +kernel
theorem dX11_settle_48 : decode cX11_settle 48 = .ok (.getfield 48, 3) := by decide +kernel
theorem dX11_settle_51 : decode cX11_settle 51 = .ok (.invokevirtual 177, 3) := by decide +kernel
theorem dX11_settle_54 : decode cX11_settle 54 = .ok (.if_icmp .ge 96, 3) := by decide +kernel
theorem dX11_settle_57 : decode cX11_settle 57 = .ok (.aload_n 0, 1) := by decide +kernel
theorem dX11_settle_58 : decode cX11_settle 58 = .ok (.getfield 48, 3) := by decide +kernel
theorem dX11_settle_61 : decode cX11_settle 61 = .ok (.iload_n 1, 1) := by decide +kernel
theorem dX11_settle_62 : decode cX11_settle 62 = .ok (.invokevirtual 195, 3) := by decide +kernel
theorem dX11_settle_65 : decode cX11_settle 65 = .ok (.checkcast 253, 3) := by decide +kernel
theorem dX11_settle_68 : decode cX11_settle 68 = .ok (.astore_n 2, 1) := by decide +kernel
theorem dX11_settle_69 : decode cX11_settle 69 = .ok (.aload_n 2, 1) := by decide +kernel
theorem dX11_settle_70 : decode cX11_settle 70 = .ok (.aload_n 2, 1) := by decide +kernel
theorem dX11_settle_71 : decode cX11_settle 71 = .ok (.getfield 255, 3) := by decide +kernel
theorem dX11_settle_74 : decode cX11_settle 74 = .ok (.i2l, 1) := by decide +kernel
theorem dX11_settle_75 : decode cX11_settle 75 = .ok (.aload_n 0, 1) := by decide +kernel
theorem dX11_settle_76 : decode cX11_settle 76 = .ok (.getfield 34, 3) := by decide +kernel
theorem dX11_settle_79 : decode cX11_settle 79 = .ok (.aload_n 2, 1) := by decide +kernel
theorem dX11_settle_80 : decode cX11_settle 80 = .ok (.getfield 258, 3) := by decide +kernel
theorem dX11_settle_83 : decode cX11_settle 83 = .ok (.iconst 1, 1) := by decide +kernel
theorem dX11_settle_84 : decode cX11_settle 84 = .ok (.iadd, 1) := by decide +kernel
theorem dX11_settle_85 : decode cX11_settle 85 = .ok (.invokevirtual 156, 3) := by decide +kernel
theorem dX11_settle_88 : decode cX11_settle 88 = .ok (.lcmp, 1) := by decide +kernel
theorem dX11_settle_89 : decode cX11_settle 89 = .ok (.ifCond .ge 7, 3) := by decide +kernel
theorem dX11_settle_92 : decode cX11_settle 92 = .ok (.iconst 1, 1) := by decide +kernel
theorem dX11_settle_93 : decode cX11_settle 93 = .ok (.goto 4, 3) := by decide +kernel
theorem dX11_settle_96 : decode cX11_settle 96 = .ok (.iconst 0, 1) := by decide +kernel
theorem dX11_settle_97 : decode cX11_settle 97 = .ok (.putfield 259, 3) := by decide +kernel
theorem dX11_settle_100 : decode cX11_settle 100 = .ok (.aload_n 2, 1) := by decide +kernel
theorem dX11_settle_101 : decode cX11_settle 101 = .ok (.aload_n 0, 1) := by decide +kernel
theorem dX11_settle_102 : decode cX11_settle 102 = .ok (.iload_n 1, 1) := by decide +kernel
theorem dX11_settle_103 : decode cX11_settle 103 = .ok (.invokevirtual 262, 3) := by decide +kernel
theorem dX11_settle_106 : decode cX11_settle 106 = .ok (.putfield 265, 3) := by decide +kernel
theorem dX11_settle_109 : decode cX11_settle 109 = .ok (.aload_n 2, 1) := by decide +kernel
theorem dX11_settle_110 : decode cX11_settle 110 = .ok (.invokevirtual 268, 3) := by decide +kernel
theorem dX11_settle_113 : decode cX11_settle 113 = .ok (.ifCond .eq 31, 3) := by decide +kernel
theorem dX11_settle_116 : decode cX11_settle 116 = .ok (.aload_n 0, 1) := by decide +kernel
theorem dX11_settle_117 : decode cX11_settle 117 = .ok (.getfield 41, 3) := by decide +kernel
theorem dX11_settle_120 : decode cX11_settle 120 = .ok (.aload_n 2, 1) := by decide +kernel
theorem dX11_settle_121 : decode cX11_settle 121 = .ok (.getfield 271, 3) := by decide +kernel
theorem dX11_settle_124 : decode cX11_settle 124 = .ok (.invokevirtual 195, 3) := by decide +kernel
theorem dX11_settle_127 : decode cX11_settle 127 = .ok (.checkcast 182, 3) := by decide +kernel
theorem dX11_settle_130 : decode cX11_settle 130 = .ok (.getfield 247, 3) := by decide +kernel
theorem dX11_settle_133 : decode cX11_settle 133 = .ok (.aload_n 2, 1) := by decide +kernel
theorem dX11_settle_134 : decode cX11_settle 134 = .ok (.getfield 258, 3) := by decide +kernel
theorem dX11_settle_137 : decode cX11_settle 137 = .ok (.aload_n 2, 1) := by decide +kernel
theorem dX11_settle_138 : decode cX11_settle 138 = .ok (.getfield 274, 3) := by decide +kernel
theorem dX11_settle_141 : decode cX11_settle 141 = .ok (.invokevirtual 129, 3) := by decide +kernel
theorem dX11_settle_144 : decode cX11_settle 144 = .ok (.iinc 1 1, 3) := by decide +kernel
theorem dX11_settle_147 : decode cX11_settle 147 = .ok (.goto (-101), 3) := by decide +kernel
theorem dX11_settle_150 : decode cX11_settle 150 = .ok (.iconst 0, 1) := by decide +kernel
theorem dX11_settle_151 : decode cX11_settle 151 = .ok (.istore_n 1, 1) := by decide +kernel
theorem dX11_settle_152 : decode cX11_settle 152 = .ok (.iload_n 1, 1) := by decide +kernel
theorem dX11_settle_153 : decode cX11_settle 153 = .ok (.aload_n 0, 1) := by decide +kernel
theorem dX11_settle_154 : decode cX11_settle 154 = .ok (.getfield 41, 3) := by decide +kernel
theorem dX11_settle_157 : decode cX11_settle 157 = .ok (.invokevirtual 177, 3) := by decide +kernel
theorem dX11_settle_160 : decode cX11_settle 160 = .ok (.if_icmp .ge 27, 3) := by decide +kernel
theorem dX11_settle_163 : decode cX11_settle 163 = .ok (.aload_n 0, 1) := by decide +kernel
theorem dX11_settle_164 : decode cX11_settle 164 = .ok (.getfield 41, 3) := by decide +kernel
theorem dX11_settle_167 : decode cX11_settle 167 = .ok (.iload_n 1, 1) := by decide +kernel
theorem dX11_settle_168 : decode cX11_settle 168 = .ok (.invokevirtual 195, 3) := by decide +kernel
theorem dX11_settle_171 : decode cX11_settle 171 = .ok (.checkcast 182, 3) := by decide +kernel
theorem dX11_settle_174 : decode cX11_settle 174 = .ok (.aload_n 0, 1) := by decide +kernel
theorem dX11_settle_175 : decode cX11_settle 175 = .ok (.getfield 34, 3) := by decide +kernel
theorem dX11_settle_178 : decode cX11_settle 178 = .ok (.invokevirtual 277, 3) := by decide +kernel
theorem dX11_settle_181 : decode cX11_settle 181 = .ok (.iinc 1 1, 3) := by decide +kernel
theorem dX11_settle_184 : decode cX11_settle 184 = .ok (.goto (-32), 3) := by decide +kernel
theorem dX11_settle_187 : decode cX11_settle 187 = .ok (.aload_n 0, 1) := by decide +kernel
theorem dX11_settle_188 : decode cX11_settle 188 = .ok (.iconst 0, 1) := by decide +kernel
theorem dX11_settle_189 : decode cX11_settle 189 = .ok (.putfield 132, 3) := by decide +kernel
theorem dX11_settle_192 : decode cX11_settle 192 = .ok (.return_, 1) := by decide +kernel
theorem dX11_feed_0 : decode cX11_feed 0 = .ok (.aload_n 0, 1) := by decide +kernel
theorem dX11_feed_1 : decode cX11_feed 1 = .ok (.getfield 281, 3) := by decide +kernel
theorem dX11_feed_4 : decode cX11_feed 4 = .ok (.bipush 20, 2) := by decide +kernel
theorem dX11_feed_6 : decode cX11_feed 6 = .ok (.iadd, 1) := by decide +kernel
theorem dX11_feed_7 : decode cX11_feed 7 = .ok (.sipush 500, 3) := by decide +kernel
theorem dX11_feed_10 : decode cX11_feed 10 = .ok (.if_icmp .le 5, 3) := by decide +kernel
theorem dX11_feed_13 : decode cX11_feed 13 = .ok (.iconst (-1), 1) := by decide +kernel
theorem dX11_feed_14 : decode cX11_feed 14 = .ok (.ireturn, 1) := by decide +kernel
theorem dX11_feed_15 : decode cX11_feed 15 = .ok (.aload_n 0, 1) := by decide +kernel
theorem dX11_feed_16 : decode cX11_feed 16 = .ok (.iload_n 1, 1) := by decide +kernel
theorem dX11_feed_17 : decode cX11_feed 17 = .ok (.invokevirtual 284, 3) := by decide +kernel
theorem dX11_feed_20 : decode cX11_feed 20 = .ok (.aload_n 0, 1) := by decide +kernel
theorem dX11_feed_21 : decode cX11_feed 21 = .ok (.iload_n 2, 1) := by decide +kernel
theorem dX11_feed_22 : decode cX11_feed 22 = .ok (.invokevirtual 284, 3) := by decide +kernel
theorem dX11_feed_25 : decode cX11_feed 25 = .ok (.aload_n 0, 1) := by decide +kernel
theorem dX11_feed_26 : decode cX11_feed 26 = .ok (.iload_n 3, 1) := by decide +kernel
theorem dX11_feed_27 : decode cX11_feed 27 = .ok (.invokevirtual 284, 3) := by decide +kernel
theorem dX11_feed_30 : decode cX11_feed 30 = .ok (.aload_n 0, 1) := by decide +kernel
theorem dX11_feed_31 : decode cX11_feed 31 = .ok (.iload 4, 2) := by decide +kernel
theorem dX11_feed_33 : decode cX11_feed 33 = .ok (.invokevirtual 284, 3) := by decide +kernel
theorem dX11_feed_36 : decode cX11_feed 36 = .ok (.aload_n 0, 1) := by decide +kernel
theorem dX11_feed_37 : decode cX11_feed 37 = .ok (.iload 5, 2) := by decide +kernel
theorem dX11_feed_39 : decode cX11_feed 39 = .ok (.invokevirtual 284, 3) := by decide +kernel
theorem dX11_feed_42 : decode cX11_feed 42 = .ok (.aload_n 0, 1) := by decide +kernel
theorem dX11_feed_43 : decode cX11_feed 43 = .ok (.getfield 281, 3) := by decide +kernel
theorem dX11_feed_46 : decode cX11_feed 46 = .ok (.ireturn, 1) := by decide +kernel
theorem dX11_rules_0 : decode cX11_rules 0 = .ok (.aload_n 0, 1) := by decide +kernel
theorem dX11_rules_1 : decode cX11_rules 1 = .ok (.iload_n 1, 1) := by decide +kernel
theorem dX11_rules_2 : decode cX11_rules 2 = .ok (.iconst 0, 1) := by decide +kernel
theorem dX11_rules_3 : decode cX11_rules 3 = .ok (.aload_n 0, 1) := by decide +kernel
theorem dX11_rules_4 : decode cX11_rules 4 = .ok (.getfield 281, 3) := by decide +kernel
theorem dX11_rules_7 : decode cX11_rules 7 = .ok (.invokestatic 139, 3) := by decide +kernel
theorem dX11_rules_10 : decode cX11_rules 10 = .ok (.ifCond .eq 14, 3) := by decide +kernel
theorem dX11_rules_13 : decode cX11_rules 13 = .ok (.iload_n 2, 1) := by decide +kernel
theorem dX11_rules_14 : decode cX11_rules 14 = .ok (.invokestatic 159, 3) := by decide +kernel
theorem dX11_rules_17 : decode cX11_rules 17 = .ok (.ifCond .eq 7, 3) := by decide +kernel
theorem dX11_rules_20 : decode cX11_rules 20 = .ok (.iconst 1, 1) := by decide +kernel
theorem dX11_rules_21 : decode cX11_rules 21 = .ok (.goto 4, 3) := by decide +kernel
theorem dX11_rules_24 : decode cX11_rules 24 = .ok (.iconst 0, 1) := by decide +kernel
theorem dX11_rules_25 : decode cX11_rules 25 = .ok (.aload_n 0, 1) := by decide +kernel
theorem dX11_rules_26 : decode cX11_rules 26 = .ok (.getfield 51, 3) := by decide +kernel
theorem dX11_rules_29 : decode cX11_rules 29 = .ok (.invokevirtual 177, 3) := by decide +kernel
theorem dX11_rules_32 : decode cX11_rules 32 = .ok (.iconst 4, 1) := by decide +kernel
theorem dX11_rules_33 : decode cX11_rules 33 = .ok (.invokestatic 178, 3) := by decide +kernel
theorem dX11_rules_36 : decode cX11_rules 36 = .ok (.putfield 9, 3) := by decide +kernel
theorem dX11_rules_39 : decode cX11_rules 39 = .ok (.aload_n 0, 1) := by decide +kernel
theorem dX11_rules_40 : decode cX11_rules 40 = .ok (.getfield 9, 3) := by decide +kernel
theorem dX11_rules_43 : decode cX11_rules 43 = .ok (.ifCond .eq 5, 3) := by decide +kernel
theorem dX11_rules_46 : decode cX11_rules 46 = .ok (.iconst (-1), 1) := by decide +kernel
theorem dX11_rules_47 : decode cX11_rules 47 = .ok (.ireturn, 1) := by decide +kernel
theorem dX11_rules_48 : decode cX11_rules 48 = .ok (.new 287, 3) := by decide +kernel
theorem dX11_rules_51 : decode cX11_rules 51 = .ok (.dup, 1) := by decide +kernel
theorem dX11_rules_52 : decode cX11_rules 52 = .ok (.aload_n 0, 1) := by decide +kernel
theorem dX11_rules_53 : decode cX11_rules 53 = .ok (.getfield 19, 3) := by decide +kernel
theorem dX11_rules_56 : decode cX11_rules 56 = .ok (.iload_n 1, 1) := by decide +kernel
theorem dX11_rules_57 : decode cX11_rules 57 = .ok (.ldc_w 291, 3) := by decide +kernel
theorem dX11_rules_60 : decode cX11_rules 60 = .ok (.ldc_w 293, 3) := by decide +kernel
theorem dX11_rules_63 : decode cX11_rules 63 = .ok (.invokespecial 295, 3) := by decide +kernel
theorem dX11_rules_66 : decode cX11_rules 66 = .ok (.astore_n 3, 1) := by decide +kernel
theorem dX11_rules_67 : decode cX11_rules 67 = .ok (.aload_n 3, 1) := by decide +kernel
theorem dX11_rules_68 : decode cX11_rules 68 = .ok (.invokevirtual 298, 3) := by decide +kernel
theorem dX11_rules_71 : decode cX11_rules 71 = .ok (.new 289, 3) := by decide +kernel
theorem dX11_rules_74 : decode cX11_rules 74 = .ok (.dup, 1) := by decide +kernel
theorem dX11_rules_75 : decode cX11_rules 75 = .ok (.aload_n 3, 1) := by decide +kernel
theorem dX11_rules_76 : decode cX11_rules 76 = .ok (.iload_n 2, 1) := by decide +kernel
theorem dX11_rules_77 : decode cX11_rules 77 = .ok (.invokespecial 301, 3) := by decide +kernel
theorem dX11_rules_80 : decode cX11_rules 80 = .ok (.astore 4, 2) := by decide +kernel
theorem dX11_rules_82 : decode cX11_rules 82 = .ok (.aload 4, 2) := by decide +kernel
theorem dX11_rules_84 : decode cX11_rules 84 = .ok (.invokevirtual 304, 3) := by decide +kernel
theorem dX11_rules_87 : decode cX11_rules 87 = .ok (.aload_n 0, 1) := by decide +kernel
theorem dX11_rules_88 : decode cX11_rules 88 = .ok (.aload_n 3, 1) := by decide +kernel
theorem dX11_rules_89 : decode cX11_rules 89 = .ok (.invokevirtual 307, 3) := by decide +kernel
theorem dX11_rules_92 : decode cX11_rules 92 = .ok (.aload_n 0, 1) := by decide +kernel
theorem dX11_rules_93 : decode cX11_rules 93 = .ok (.getfield 9, 3) := by decide +kernel
theorem dX11_rules_96 : decode cX11_rules 96 = .ok (.ifCond .eq 5, 3) := by decide +kernel
theorem dX11_rules_99 : decode cX11_rules 99 = .ok (.iconst (-1), 1) := by decide +kernel
theorem dX11_rules_100 : decode cX11_rules 100 = .ok (.ireturn, 1) := by decide +kernel
theorem dX11_rules_101 : decode cX11_rules 101 = .ok (.aload_n 0, 1) := by decide +kernel
theorem dX11_rules_102 : decode cX11_rules 102 = .ok (.getfield 51, 3) := by decide +kernel
theorem dX11_rules_105 : decode cX11_rules 105 = .ok (.aload 4, 2) := by decide +kernel
theorem dX11_rules_107 : decode cX11_rules 107 = .ok (.invokevirtual 185, 3) := by decide +kernel
theorem dX11_rules_110 : decode cX11_rules 110 = .ok (.pop, 1) := by decide +kernel
theorem dX11_rules_111 : decode cX11_rules 111 = .ok (.aload_n 0, 1) := by decide +kernel
theorem dX11_rules_112 : decode cX11_rules 112 = .ok (.iconst 1, 1) := by decide +kernel
theorem dX11_rules_113 : decode cX11_rules 113 = .ok (.putfield 132, 3) := by decide +kernel
theorem dX11_rules_116 : decode cX11_rules 116 = .ok (.aload 4, 2) := by decide +kernel
theorem dX11_rules_118 : decode cX11_rules 118 = .ok (.getfield 311, 3) := by decide +kernel
theorem dX11_rules_121 : decode cX11_rules 121 = .ok (.ireturn, 1) := by decide +kernel
theorem dX11_fault_0 : decode cX11_fault 0 = .ok (.iload_n 1, 1) := by decide +kernel
theorem dX11_fault_1 : decode cX11_fault 1 = .ok (.ifCond .ne 8, 3) := by decide +kernel
theorem dX11_fault_4 : decode cX11_fault 4 = .ok (.aload_n 0, 1) := by decide +kernel
theorem dX11_fault_5 : decode cX11_fault 5 = .ok (.getfield 23, 3) := by decide +kernel
theorem dX11_fault_8 : decode cX11_fault 8 = .ok (.ireturn, 1) := by decide +kernel
theorem dX11_fault_9 : decode cX11_fault 9 = .ok (.iload_n 1, 1) := by decide +kernel
theorem dX11_fault_10 : decode cX11_fault 10 = .ok (.iconst 1, 1) := by decide +kernel
theorem dX11_fault_11 : decode cX11_fault 11 = .ok (.if_icmp .ne 10, 3) := by decide +kernel
theorem dX11_fault_14 : decode cX11_fault 14 = .ok (.aload_n 0, 1) := by decide +kernel
theorem dX11_fault_15 : decode cX11_fault 15 = .ok (.getfield 26, 3) := by decide +kernel
theorem dX11_fault_18 : decode cX11_fault 18 = .ok (.goto 4, 3) := by decide +kernel
theorem dX11_fault_21 : decode cX11_fault 21 = .ok (.iconst (-1), 1) := by decide +kernel
theorem dX11_fault_22 : decode cX11_fault 22 = .ok (.ireturn, 1) := by decide +kernel
theorem dX11_server_0 : decode cX11_server 0 = .ok (.aload_n 0, 1) := by decide +kernel
theorem dX11_server_1 : decode cX11_server 1 = .ok (.iload_n 1, 1) := by decide +kernel
theorem dX11_server_2 : decode cX11_server 2 = .ok (.iconst 0, 1) := by decide +kernel
theorem dX11_server_3 : decode cX11_server 3 = .ok (.bipush 15, 2) := by decide +kernel
theorem dX11_server_5 : decode cX11_server 5 = .ok (.invokestatic 139, 3) := by decide +kernel
theorem dX11_server_8 : decode cX11_server 8 = .ok (.aload_n 0, 1) := by decide +kernel
theorem dX11_server_9 : decode cX11_server 9 = .ok (.getfield 45, 3) := by decide +kernel
theorem dX11_server_12 : decode cX11_server 12 = .ok (.invokevirtual 177, 3) := by decide +kernel
theorem dX11_server_15 : decode cX11_server 15 = .ok (.bipush 8, 2) := by decide +kernel
theorem dX11_server_17 : decode cX11_server 17 = .ok (.invokestatic 178, 3) := by decide +kernel
theorem dX11_server_20 : decode cX11_server 20 = .ok (.putfield 9, 3) := by decide +kernel
theorem dX11_server_23 : decode cX11_server 23 = .ok (.aload_n 0, 1) := by decide +kernel
theorem dX11_server_24 : decode cX11_server 24 = .ok (.getfield 9, 3) := by decide +kernel
theorem dX11_server_27 : decode cX11_server 27 = .ok (.ifCond .eq 5, 3) := by decide +kernel
theorem dX11_server_30 : decode cX11_server 30 = .ok (.iconst (-1), 1) := by decide +kernel
theorem dX11_server_31 : decode cX11_server 31 = .ok (.ireturn, 1) := by decide +kernel
theorem dX11_server_32 : decode cX11_server 32 = .ok (.aload_n 0, 1) := by decide +kernel
theorem dX11_server_33 : decode cX11_server 33 = .ok (.getfield 45, 3) := by decide +kernel
theorem dX11_server_36 : decode cX11_server 36 = .ok (.iload_n 1, 1) := by decide +kernel
theorem dX11_server_37 : decode cX11_server 37 = .ok (.invokestatic 314, 3) := by decide +kernel
theorem dX11_server_40 : decode cX11_server 40 = .ok (.invokevirtual 185, 3) := by decide +kernel
theorem dX11_server_43 : decode cX11_server 43 = .ok (.pop, 1) := by decide +kernel
theorem dX11_server_44 : decode cX11_server 44 = .ok (.aload_n 0, 1) := by decide +kernel
theorem dX11_server_45 : decode cX11_server 45 = .ok (.getfield 45, 3) := by decide +kernel
theorem dX11_server_48 : decode cX11_server 48 = .ok (.invokevirtual 177, 3) := by decide +kernel
theorem dX11_server_51 : decode cX11_server 51 = .ok (.iconst 1, 1) := by decide +kernel
theorem dX11_server_52 : decode cX11_server 52 = .ok (.isub, 1) := by decide +kernel
theorem dX11_server_53 : decode cX11_server 53 = .ok (.ireturn, 1) := by decide +kernel
theorem dX11_notice_0 : decode cX11_notice 0 = .ok (.aload_n 0, 1) := by decide +kernel
theorem dX11_notice_1 : decode cX11_notice 1 = .ok (.aload_n 0, 1) := by decide +kernel
theorem dX11_notice_2 : decode cX11_notice 2 = .ok (.iload_n 1, 1) := by decide +kernel
theorem dX11_notice_3 : decode cX11_notice 3 = .ok (.iload_n 2, 1) := by decide +kernel
theorem dX11_notice_4 : decode cX11_notice 4 = .ok (.iload_n 3, 1) := by decide +kernel
theorem dX11_notice_5 : decode cX11_notice 5 = .ok (.iload 4, 2) := by decide +kernel
theorem dX11_notice_7 : decode cX11_notice 7 = .ok (.iload 5, 2) := by decide +kernel
theorem dX11_notice_9 : decode cX11_notice 9 = .ok (.invokevirtual 320, 3) := by decide +kernel
theorem dX11_notice_12 : decode cX11_notice 12 = .ok (.putfield 9, 3) := by decide +kernel
theorem dX11_notice_15 : decode cX11_notice 15 = .ok (.aload_n 0, 1) := by decide +kernel
theorem dX11_notice_16 : decode cX11_notice 16 = .ok (.getfield 9, 3) := by decide +kernel
theorem dX11_notice_19 : decode cX11_notice 19 = .ok (.ifCond .eq 5, 3) := by decide +kernel
theorem dX11_notice_22 : decode cX11_notice 22 = .ok (.iconst (-1), 1) := by decide +kernel
theorem dX11_notice_23 : decode cX11_notice 23 = .ok (.ireturn, 1) := by decide +kernel
theorem dX11_notice_24 : decode cX11_notice 24 = .ok (.aload_n 0, 1) := by decide +kernel
theorem dX11_notice_25 : decode cX11_notice 25 = .ok (.getfield 48, 3) := by decide +kernel
theorem dX11_notice_28 : decode cX11_notice 28 = .ok (.new 253, 3) := by decide +kernel
theorem dX11_notice_31 : decode cX11_notice 31 = .ok (.dup, 1) := by decide +kernel
theorem dX11_notice_32 : decode cX11_notice 32 = .ok (.iload_n 1, 1) := by decide +kernel
theorem dX11_notice_33 : decode cX11_notice 33 = .ok (.iload_n 2, 1) := by decide +kernel
theorem dX11_notice_34 : decode cX11_notice 34 = .ok (.iload_n 3, 1) := by decide +kernel
theorem dX11_notice_35 : decode cX11_notice 35 = .ok (.iload 4, 2) := by decide +kernel
theorem dX11_notice_37 : decode cX11_notice 37 = .ok (.iload 5, 2) := by decide +kernel
theorem dX11_notice_39 : decode cX11_notice 39 = .ok (.invokespecial 323, 3) := by decide +kernel
theorem dX11_notice_42 : decode cX11_notice 42 = .ok (.invokevirtual 185, 3) := by decide +kernel
theorem dX11_notice_45 : decode cX11_notice 45 = .ok (.pop, 1) := by decide +kernel
theorem dX11_notice_46 : decode cX11_notice 46 = .ok (.aload_n 0, 1) := by decide +kernel
theorem dX11_notice_47 : decode cX11_notice 47 = .ok (.iconst 1, 1) := by decide +kernel
theorem dX11_notice_48 : decode cX11_notice 48 = .ok (.putfield 132, 3) := by decide +kernel
theorem dX11_notice_51 : decode cX11_notice 51 = .ok (.aload_n 0, 1) := by decide +kernel
theorem dX11_notice_52 : decode cX11_notice 52 = .ok (.getfield 48, 3) := by decide +kernel
theorem dX11_notice_55 : decode cX11_notice 55 = .ok (.invokevirtual 177, 3) := by decide +kernel
theorem dX11_notice_58 : decode cX11_notice 58 = .ok (.iconst 1, 1) := by decide +kernel
theorem dX11_notice_59 : decode cX11_notice 59 = .ok (.isub, 1) := by decide +kernel
theorem dX11_notice_60 : decode cX11_notice 60 = .ok (.ireturn, 1) := by decide +kernel
theorem dX11_told_0 : decode cX11_told 0 = .ok (.aload_n 0, 1) := by decide +kernel
theorem dX11_told_1 : decode cX11_told 1 = .ok (.aload_n 0, 1) := by decide +kernel
theorem dX11_told_2 : decode cX11_told 2 = .ok (.iload_n 1, 1) := by decide +kernel
theorem dX11_told_3 : decode cX11_told 3 = .ok (.iload_n 2, 1) := by decide +kernel
theorem dX11_told_4 : decode cX11_told 4 = .ok (.invokevirtual 326, 3) := by decide +kernel
theorem dX11_told_7 : decode cX11_told 7 = .ok (.putfield 9, 3) := by decide +kernel
theorem dX11_told_10 : decode cX11_told 10 = .ok (.aload_n 0, 1) := by decide +kernel
theorem dX11_told_11 : decode cX11_told 11 = .ok (.getfield 9, 3) := by decide +kernel
theorem dX11_told_14 : decode cX11_told 14 = .ok (.ifCond .eq 5, 3) := by decide +kernel
theorem dX11_told_17 : decode cX11_told 17 = .ok (.iconst (-1), 1) := by decide +kernel
theorem dX11_told_18 : decode cX11_told 18 = .ok (.ireturn, 1) := by decide +kernel
theorem dX11_told_19 : decode cX11_told 19 = .ok (.aload_n 0, 1) := by decide +kernel
theorem dX11_told_20 : decode cX11_told 20 = .ok (.invokevirtual 205, 3) := by decide +kernel
theorem dX11_told_23 : decode cX11_told 23 = .ok (.aload_n 0, 1) := by decide +kernel
theorem dX11_told_24 : decode cX11_told 24 = .ok (.iload_n 1, 1) := by decide +kernel
theorem dX11_told_25 : decode cX11_told 25 = .ok (.iload_n 2, 1) := by decide +kernel
theorem dX11_told_26 : decode cX11_told 26 = .ok (.invokevirtual 329, 3) := by decide +kernel
theorem dX11_told_29 : decode cX11_told 29 = .ok (.ifCond .eq 7, 3) := by decide +kernel
theorem dX11_told_32 : decode cX11_told 32 = .ok (.iconst 1, 1) := by decide +kernel
theorem dX11_told_33 : decode cX11_told 33 = .ok (.goto 4, 3) := by decide +kernel
theorem dX11_told_36 : decode cX11_told 36 = .ok (.iconst 0, 1) := by decide +kernel
theorem dX11_told_37 : decode cX11_told 37 = .ok (.ireturn, 1) := by decide +kernel
theorem dX11_table_0 : decode cX11_table 0 = .ok (.aload_n 0, 1) := by decide +kernel
theorem dX11_table_1 : decode cX11_table 1 = .ok (.iload_n 1, 1) := by decide +kernel
theorem dX11_table_2 : decode cX11_table 2 = .ok (.invokevirtual 189, 3) := by decide +kernel
theorem dX11_table_5 : decode cX11_table 5 = .ok (.ifCond .ne 11, 3) := by decide +kernel
theorem dX11_table_8 : decode cX11_table 8 = .ok (.aload_n 0, 1) := by decide +kernel
theorem dX11_table_9 : decode cX11_table 9 = .ok (.iconst 2, 1) := by decide +kernel
theorem dX11_table_10 : decode cX11_table 10 = .ok (.putfield 9, 3) := by decide +kernel
theorem dX11_table_13 : decode cX11_table 13 = .ok (.goto 19, 3) := by decide +kernel
theorem dX11_table_16 : decode cX11_table 16 = .ok (.aload_n 0, 1) := by decide +kernel
theorem dX11_table_17 : decode cX11_table 17 = .ok (.iload_n 2, 1) := by decide +kernel
theorem dX11_table_18 : decode cX11_table 18 = .ok (.invokestatic 159, 3) := by decide +kernel
theorem dX11_table_21 : decode cX11_table 21 = .ok (.ifCond .eq 7, 3) := by decide +kernel
theorem dX11_table_24 : decode cX11_table 24 = .ok (.iconst 0, 1) := by decide +kernel
theorem dX11_table_25 : decode cX11_table 25 = .ok (.goto 4, 3) := by decide +kernel
theorem dX11_table_28 : decode cX11_table 28 = .ok (.iconst 5, 1) := by decide +kernel
theorem dX11_table_29 : decode cX11_table 29 = .ok (.putfield 9, 3) := by decide +kernel
theorem dX11_table_32 : decode cX11_table 32 = .ok (.aload_n 0, 1) := by decide +kernel
theorem dX11_table_33 : decode cX11_table 33 = .ok (.getfield 9, 3) := by decide +kernel
theorem dX11_table_36 : decode cX11_table 36 = .ok (.ifCond .eq 5, 3) := by decide +kernel
theorem dX11_table_39 : decode cX11_table 39 = .ok (.iconst (-1), 1) := by decide +kernel
theorem dX11_table_40 : decode cX11_table 40 = .ok (.ireturn, 1) := by decide +kernel
theorem dX11_table_41 : decode cX11_table 41 = .ok (.aload_n 0, 1) := by decide +kernel
theorem dX11_table_42 : decode cX11_table 42 = .ok (.invokevirtual 205, 3) := by decide +kernel
theorem dX11_table_45 : decode cX11_table 45 = .ok (.aload_n 0, 1) := by decide +kernel
theorem dX11_table_46 : decode cX11_table 46 = .ok (.getfield 41, 3) := by decide +kernel
theorem dX11_table_49 : decode cX11_table 49 = .ok (.iload_n 1, 1) := by decide +kernel
theorem dX11_table_50 : decode cX11_table 50 = .ok (.invokevirtual 195, 3) := by decide +kernel
theorem dX11_table_53 : decode cX11_table 53 = .ok (.checkcast 182, 3) := by decide +kernel
theorem dX11_table_56 : decode cX11_table 56 = .ok (.getfield 247, 3) := by decide +kernel
theorem dX11_table_59 : decode cX11_table 59 = .ok (.iload_n 2, 1) := by decide +kernel
theorem dX11_table_60 : decode cX11_table 60 = .ok (.invokevirtual 162, 3) := by decide +kernel
theorem dX11_table_63 : decode cX11_table 63 = .ok (.ireturn, 1) := by decide +kernel
theorem dX11_misses_0 : decode cX11_misses 0 = .ok (.aload_n 0, 1) := by decide +kernel
theorem dX11_misses_1 : decode cX11_misses 1 = .ok (.aload_n 0, 1) := by decide +kernel
theorem dX11_misses_2 : decode cX11_misses 2 = .ok (.iload_n 1, 1) := by decide +kernel
theorem dX11_misses_3 : decode cX11_misses 3 = .ok (.invokevirtual 189, 3) := by decide +kernel
theorem dX11_misses_6 : decode cX11_misses 6 = .ok (.ifCond .eq 7, 3) := by decide +kernel
theorem dX11_misses_9 : decode cX11_misses 9 = .ok (.iconst 0, 1) := by decide +kernel
theorem dX11_misses_10 : decode cX11_misses 10 = .ok (.goto 4, 3) := by decide +kernel
theorem dX11_misses_13 : decode cX11_misses 13 = .ok (.iconst 2, 1) := by decide +kernel
theorem dX11_misses_14 : decode cX11_misses 14 = .ok (.putfield 9, 3) := by decide +kernel
theorem dX11_misses_17 : decode cX11_misses 17 = .ok (.aload_n 0, 1) := by decide +kernel
theorem dX11_misses_18 : decode cX11_misses 18 = .ok (.getfield 9, 3) := by decide +kernel
theorem dX11_misses_21 : decode cX11_misses 21 = .ok (.ifCond .eq 5, 3) := by decide +kernel
theorem dX11_misses_24 : decode cX11_misses 24 = .ok (.iconst (-1), 1) := by decide +kernel
theorem dX11_misses_25 : decode cX11_misses 25 = .ok (.ireturn, 1) := by decide +kernel
theorem dX11_misses_26 : decode cX11_misses 26 = .ok (.aload_n 0, 1) := by decide +kernel
theorem dX11_misses_27 : decode cX11_misses 27 = .ok (.invokevirtual 205, 3) := by decide +kernel
theorem dX11_misses_30 : decode cX11_misses 30 = .ok (.aload_n 0, 1) := by decide +kernel
theorem dX11_misses_31 : decode cX11_misses 31 = .ok (.getfield 41, 3) := by decide +kernel
theorem dX11_misses_34 : decode cX11_misses 34 = .ok (.iload_n 1, 1) := by decide +kernel
theorem dX11_misses_35 : decode cX11_misses 35 = .ok (.invokevirtual 195, 3) := by decide +kernel
theorem dX11_misses_38 : decode cX11_misses 38 = .ok (.checkcast 182, 3) := by decide +kernel
theorem dX11_misses_41 : decode cX11_misses 41 = .ok (.getfield 247, 3) := by decide +kernel
theorem dX11_misses_44 : decode cX11_misses 44 = .ok (.aload_n 0, 1) := by decide +kernel
theorem dX11_misses_45 : decode cX11_misses 45 = .ok (.getfield 34, 3) := by decide +kernel
theorem dX11_misses_48 : decode cX11_misses 48 = .ok (.invokevirtual 332, 3) := by decide +kernel
theorem dX11_misses_51 : decode cX11_misses 51 = .ok (.ireturn, 1) := by decide +kernel
theorem dX11_feedOne_0 : decode cX11_feedOne 0 = .ok (.bipush 24, 2) := by decide +kernel
theorem dX11_feedOne_2 : decode cX11_feedOne 2 = .ok (.istore_n 2, 1) := by decide +kernel
theorem dX11_feedOne_3 : decode cX11_feedOne 3 = .ok (.iload_n 2, 1) := by decide +kernel
theorem dX11_feedOne_4 : decode cX11_feedOne 4 = .ok (.ifCond .lt 32, 3) := by decide +kernel
theorem dX11_feedOne_7 : decode cX11_feedOne 7 = .ok (.aload_n 0, 1) := by decide +kernel
theorem dX11_feedOne_8 : decode cX11_feedOne 8 = .ok (.getfield 19, 3) := by decide +kernel
theorem dX11_feedOne_11 : decode cX11_feedOne 11 = .ok (.aload_n 0, 1) := by decide +kernel
theorem dX11_feedOne_12 : decode cX11_feedOne 12 = .ok (.getfield 281, 3) := by decide +kernel
theorem dX11_feedOne_15 : decode cX11_feedOne 15 = .ok (.iload_n 1, 1) := by decide +kernel
theorem dX11_feedOne_16 : decode cX11_feedOne 16 = .ok (.iload_n 2, 1) := by decide +kernel
theorem dX11_feedOne_17 : decode cX11_feedOne 17 = .ok (.ishr, 1) := by decide +kernel
theorem dX11_feedOne_18 : decode cX11_feedOne 18 = .ok (.i2b, 1) := by decide +kernel
theorem dX11_feedOne_19 : decode cX11_feedOne 19 = .ok (.bastore, 1) := by decide +kernel
theorem dX11_feedOne_20 : decode cX11_feedOne 20 = .ok (.aload_n 0, 1) := by decide +kernel
theorem dX11_feedOne_21 : decode cX11_feedOne 21 = .ok (.dup, 1) := by decide +kernel
theorem dX11_feedOne_22 : decode cX11_feedOne 22 = .ok (.getfield 281, 3) := by decide +kernel
theorem dX11_feedOne_25 : decode cX11_feedOne 25 = .ok (.iconst 1, 1) := by decide +kernel
theorem dX11_feedOne_26 : decode cX11_feedOne 26 = .ok (.iadd, 1) := by decide +kernel
theorem dX11_feedOne_27 : decode cX11_feedOne 27 = .ok (.putfield 281, 3) := by decide +kernel
theorem dX11_feedOne_30 : decode cX11_feedOne 30 = .ok (.iinc 2 (-8), 3) := by decide +kernel
theorem dX11_feedOne_33 : decode cX11_feedOne 33 = .ok (.goto (-30), 3) := by decide +kernel
theorem dX11_feedOne_36 : decode cX11_feedOne 36 = .ok (.return_, 1) := by decide +kernel
theorem dX11_endReading_0 : decode cX11_endReading 0 = .ok (.aload_n 0, 1) := by decide +kernel
theorem dX11_endReading_1 : decode cX11_endReading 1 = .ok (.iconst 0, 1) := by decide +kernel
theorem dX11_endReading_2 : decode cX11_endReading 2 = .ok (.putfield 281, 3) := by decide +kernel
theorem dX11_endReading_5 : decode cX11_endReading 5 = .ok (.aload_n 0, 1) := by decide +kernel
theorem dX11_endReading_6 : decode cX11_endReading 6 = .ok (.aload_n 1, 1) := by decide +kernel
theorem dX11_endReading_7 : decode cX11_endReading 7 = .ok (.getfield 336, 3) := by decide +kernel
theorem dX11_endReading_10 : decode cX11_endReading 10 = .ok (.putfield 23, 3) := by decide +kernel
theorem dX11_endReading_13 : decode cX11_endReading 13 = .ok (.aload_n 0, 1) := by decide +kernel
theorem dX11_endReading_14 : decode cX11_endReading 14 = .ok (.aload_n 1, 1) := by decide +kernel
theorem dX11_endReading_15 : decode cX11_endReading 15 = .ok (.getfield 337, 3) := by decide +kernel
theorem dX11_endReading_18 : decode cX11_endReading 18 = .ok (.putfield 26, 3) := by decide +kernel
theorem dX11_endReading_21 : decode cX11_endReading 21 = .ok (.aload_n 0, 1) := by decide +kernel
theorem dX11_endReading_22 : decode cX11_endReading 22 = .ok (.aload_n 0, 1) := by decide +kernel
theorem dX11_endReading_23 : decode cX11_endReading 23 = .ok (.getfield 23, 3) := by decide +kernel
theorem dX11_endReading_26 : decode cX11_endReading 26 = .ok (.ifCond .ne 7, 3) := by decide +kernel
theorem dX11_endReading_29 : decode cX11_endReading 29 = .ok (.iconst 0, 1) := by decide +kernel
theorem dX11_endReading_30 : decode cX11_endReading 30 = .ok (.goto 5, 3) := by decide +kernel
theorem dX11_endReading_33 : decode cX11_endReading 33 = .ok (.bipush 10, 2) := by decide +kernel
theorem dX11_endReading_35 : decode cX11_endReading 35 = .ok (.putfield 9, 3) := by decide +kernel
theorem dX11_endReading_38 : decode cX11_endReading 38 = .ok (.return_, 1) := by decide +kernel
theorem dX11_noticeStatus_0 : decode cX11_noticeStatus 0 = .ok (.iload_n 1, 1) := by decide +kernel
theorem dX11_noticeStatus_1 : decode cX11_noticeStatus 1 = .ok (.ifCond .lt 22, 3) := by decide +kernel
theorem dX11_noticeStatus_4 : decode cX11_noticeStatus 4 = .ok (.iload_n 1, 1) := by decide +kernel
theorem dX11_noticeStatus_5 : decode cX11_noticeStatus 5 = .ok (.aload_n 0, 1) := by decide +kernel
theorem dX11_noticeStatus_6 : decode cX11_noticeStatus 6 = .ok (.getfield 45, 3) := by decide +kernel
theorem dX11_noticeStatus_9 : decode cX11_noticeStatus 9 = .ok (.invokevirtual 177, 3) := by decide +kernel
theorem dX11_noticeStatus_12 : decode cX11_noticeStatus 12 = .ok (.if_icmp .ge 11, 3) := by decide +kernel
theorem dX11_noticeStatus_15 : decode cX11_noticeStatus 15 = .ok (.aload_n 0, 1) := by decide +kernel
theorem dX11_noticeStatus_16 : decode cX11_noticeStatus 16 = .ok (.iload_n 2, 1) := by decide +kernel
theorem dX11_noticeStatus_17 : decode cX11_noticeStatus 17 = .ok (.invokevirtual 189, 3) := by decide +kernel
theorem dX11_noticeStatus_20 : decode cX11_noticeStatus 20 = .ok (.ifCond .ne 5, 3) := by decide +kernel
theorem dX11_noticeStatus_23 : decode cX11_noticeStatus 23 = .ok (.iconst 2, 1) := by decide +kernel
theorem dX11_noticeStatus_24 : decode cX11_noticeStatus 24 = .ok (.ireturn, 1) := by decide +kernel
theorem dX11_noticeStatus_25 : decode cX11_noticeStatus 25 = .ok (.iload_n 3, 1) := by decide +kernel
theorem dX11_noticeStatus_26 : decode cX11_noticeStatus 26 = .ok (.invokestatic 159, 3) := by decide +kernel
theorem dX11_noticeStatus_29 : decode cX11_noticeStatus 29 = .ok (.ifCond .eq 23, 3) := by decide +kernel
theorem dX11_noticeStatus_32 : decode cX11_noticeStatus 32 = .ok (.iload 4, 2) := by decide +kernel
theorem dX11_noticeStatus_34 : decode cX11_noticeStatus 34 = .ok (.iconst 1, 1) := by decide +kernel
theorem dX11_noticeStatus_35 : decode cX11_noticeStatus 35 = .ok (.if_icmp .eq 9, 3) := by decide +kernel
theorem dX11_noticeStatus_38 : decode cX11_noticeStatus 38 = .ok (.iload 4, 2) := by decide +kernel
theorem dX11_noticeStatus_40 : decode cX11_noticeStatus 40 = .ok (.iconst (-1), 1) := by decide +kernel
theorem dX11_noticeStatus_41 : decode cX11_noticeStatus 41 = .ok (.if_icmp .ne 11, 3) := by decide +kernel
theorem dX11_noticeStatus_44 : decode cX11_noticeStatus 44 = .ok (.iload 5, 2) := by decide +kernel
theorem dX11_noticeStatus_46 : decode cX11_noticeStatus 46 = .ok (.invokestatic 136, 3) := by decide +kernel
theorem dX11_noticeStatus_49 : decode cX11_noticeStatus 49 = .ok (.ifCond .ne 5, 3) := by decide +kernel
theorem dX11_noticeStatus_52 : decode cX11_noticeStatus 52 = .ok (.iconst 5, 1) := by decide +kernel
theorem dX11_noticeStatus_53 : decode cX11_noticeStatus 53 = .ok (.ireturn, 1) := by decide +kernel
theorem dX11_noticeStatus_54 : decode cX11_noticeStatus 54 = .ok (.aload_n 0, 1) := by decide +kernel
theorem dX11_noticeStatus_55 : decode cX11_noticeStatus 55 = .ok (.getfield 48, 3) := by decide +kernel
theorem dX11_noticeStatus_58 : decode cX11_noticeStatus 58 = .ok (.invokevirtual 177, 3) := by decide +kernel
theorem dX11_noticeStatus_61 : decode cX11_noticeStatus 61 = .ok (.istore 6, 2) := by decide +kernel
theorem dX11_noticeStatus_63 : decode cX11_noticeStatus 63 = .ok (.iload 6, 2) := by decide +kernel
theorem dX11_noticeStatus_65 : decode cX11_noticeStatus 65 = .ok (.bipush 60, 2) := by decide +kernel
theorem dX11_noticeStatus_67 : decode cX11_noticeStatus 67 = .ok (.if_icmp .lt 6, 3) := by decide +kernel
theorem dX11_noticeStatus_70 : decode cX11_noticeStatus 70 = .ok (.bipush 7, 2) := by decide +kernel
theorem dX11_noticeStatus_72 : decode cX11_noticeStatus 72 = .ok (.ireturn, 1) := by decide +kernel
theorem dX11_noticeStatus_73 : decode cX11_noticeStatus 73 = .ok (.iload 6, 2) := by decide +kernel
theorem dX11_noticeStatus_75 : decode cX11_noticeStatus 75 = .ok (.ifCond .le 30, 3) := by decide +kernel
theorem dX11_noticeStatus_78 : decode cX11_noticeStatus 78 = .ok (.iload 5, 2) := by decide +kernel
theorem dX11_noticeStatus_80 : decode cX11_noticeStatus 80 = .ok (.aload_n 0, 1) := by decide +kernel
theorem dX11_noticeStatus_81 : decode cX11_noticeStatus 81 = .ok (.getfield 48, 3) := by decide +kernel
theorem dX11_noticeStatus_84 : decode cX11_noticeStatus 84 = .ok (.iload 6, 2) := by decide +kernel
theorem dX11_noticeStatus_86 : decode cX11_noticeStatus 86 = .ok (.iconst 1, 1) := by decide +kernel
theorem dX11_noticeStatus_87 : decode cX11_noticeStatus 87 = .ok (.isub, 1) := by decide +kernel
theorem dX11_noticeStatus_88 : decode cX11_noticeStatus 88 = .ok (.invokevirtual 195, 3) := by decide +kernel
theorem dX11_noticeStatus_91 : decode cX11_noticeStatus 91 = .ok (.checkcast 253, 3) := by decide +kernel
theorem dX11_noticeStatus_94 : decode cX11_noticeStatus 94 = .ok (.getfield 255, 3) := by decide +kernel
theorem dX11_noticeStatus_97 : decode cX11_noticeStatus 97 = .ok (.if_icmp .ge 8, 3) := by decide +kernel
theorem dX11_noticeStatus_100 : decode cX11_noticeStatus 100 = .ok (.bipush 12, 2) := by decide +kernel
theorem dX11_noticeStatus_102 : decode cX11_noticeStatus 102 = .ok (.goto 4, 3) := by decide +kernel
theorem dX11_noticeStatus_105 : decode cX11_noticeStatus 105 = .ok (.iconst 0, 1) := by decide +kernel
theorem dX11_noticeStatus_106 : decode cX11_noticeStatus 106 = .ok (.ireturn, 1) := by decide +kernel
theorem dX11_toldStatus_0 : decode cX11_toldStatus 0 = .ok (.iload_n 1, 1) := by decide +kernel
theorem dX11_toldStatus_1 : decode cX11_toldStatus 1 = .ok (.ifCond .lt 14, 3) := by decide +kernel
theorem dX11_toldStatus_4 : decode cX11_toldStatus 4 = .ok (.iload_n 1, 1) := by decide +kernel
theorem dX11_toldStatus_5 : decode cX11_toldStatus 5 = .ok (.aload_n 0, 1) := by decide +kernel
theorem dX11_toldStatus_6 : decode cX11_toldStatus 6 = .ok (.getfield 48, 3) := by decide +kernel
theorem dX11_toldStatus_9 : decode cX11_toldStatus 9 = .ok (.invokevirtual 177, 3) := by decide +kernel
theorem dX11_toldStatus_12 : decode cX11_toldStatus 12 = .ok (.if_icmp .lt 5, 3) := by decide +kernel
theorem dX11_toldStatus_15 : decode cX11_toldStatus 15 = .ok (.iconst 2, 1) := by decide +kernel
theorem dX11_toldStatus_16 : decode cX11_toldStatus 16 = .ok (.ireturn, 1) := by decide +kernel
theorem dX11_toldStatus_17 : decode cX11_toldStatus 17 = .ok (.iload_n 2, 1) := by decide +kernel
theorem dX11_toldStatus_18 : decode cX11_toldStatus 18 = .ok (.iconst 0, 1) := by decide +kernel
theorem dX11_toldStatus_19 : decode cX11_toldStatus 19 = .ok (.iconst 3, 1) := by decide +kernel
theorem dX11_toldStatus_20 : decode cX11_toldStatus 20 = .ok (.invokestatic 139, 3) := by decide +kernel
theorem dX11_toldStatus_23 : decode cX11_toldStatus 23 = .ok (.ifCond .eq 7, 3) := by decide +kernel
theorem dX11_toldStatus_26 : decode cX11_toldStatus 26 = .ok (.iconst 0, 1) := by decide +kernel
theorem dX11_toldStatus_27 : decode cX11_toldStatus 27 = .ok (.goto 4, 3) := by decide +kernel
theorem dX11_toldStatus_30 : decode cX11_toldStatus 30 = .ok (.iconst 5, 1) := by decide +kernel
theorem dX11_toldStatus_31 : decode cX11_toldStatus 31 = .ok (.ireturn, 1) := by decide +kernel
theorem dX11_isTold_0 : decode cX11_isTold 0 = .ok (.aload_n 0, 1) := by decide +kernel
theorem dX11_isTold_1 : decode cX11_isTold 1 = .ok (.getfield 48, 3) := by decide +kernel
theorem dX11_isTold_4 : decode cX11_isTold 4 = .ok (.iload_n 1, 1) := by decide +kernel
theorem dX11_isTold_5 : decode cX11_isTold 5 = .ok (.invokevirtual 195, 3) := by decide +kernel
theorem dX11_isTold_8 : decode cX11_isTold 8 = .ok (.checkcast 253, 3) := by decide +kernel
theorem dX11_isTold_11 : decode cX11_isTold 11 = .ok (.astore_n 3, 1) := by decide +kernel
theorem dX11_isTold_12 : decode cX11_isTold 12 = .ok (.iload_n 2, 1) := by decide +kernel
theorem dX11_isTold_13 : decode cX11_isTold 13 = .ok (.ifCond .ne 8, 3) := by decide +kernel
theorem dX11_isTold_16 : decode cX11_isTold 16 = .ok (.aload_n 3, 1) := by decide +kernel
theorem dX11_isTold_17 : decode cX11_isTold 17 = .ok (.getfield 259, 3) := by decide +kernel
theorem dX11_isTold_20 : decode cX11_isTold 20 = .ok (.ireturn, 1) := by decide +kernel
theorem dX11_isTold_21 : decode cX11_isTold 21 = .ok (.iload_n 2, 1) := by decide +kernel
theorem dX11_isTold_22 : decode cX11_isTold 22 = .ok (.iconst 1, 1) := by decide +kernel
theorem dX11_isTold_23 : decode cX11_isTold 23 = .ok (.if_icmp .ne 8, 3) := by decide +kernel
theorem dX11_isTold_26 : decode cX11_isTold 26 = .ok (.aload_n 3, 1) := by decide +kernel
theorem dX11_isTold_27 : decode cX11_isTold 27 = .ok (.getfield 265, 3) := by decide +kernel
theorem dX11_isTold_30 : decode cX11_isTold 30 = .ok (.ireturn, 1) := by decide +kernel
theorem dX11_isTold_31 : decode cX11_isTold 31 = .ok (.aload_n 3, 1) := by decide +kernel
theorem dX11_isTold_32 : decode cX11_isTold 32 = .ok (.getfield 274, 3) := by decide +kernel
theorem dX11_isTold_35 : decode cX11_isTold 35 = .ok (.aload_n 0, 1) := by decide +kernel
theorem dX11_isTold_36 : decode cX11_isTold 36 = .ok (.getfield 34, 3) := by decide +kernel
theorem dX11_isTold_39 : decode cX11_isTold 39 = .ok (.aload_n 3, 1) := by decide +kernel
theorem dX11_isTold_40 : decode cX11_isTold 40 = .ok (.getfield 258, 3) := by decide +kernel
theorem dX11_isTold_43 : decode cX11_isTold 43 = .ok (.invokevirtual 162, 3) := by decide +kernel
theorem dX11_isTold_46 : decode cX11_isTold 46 = .ok (.if_icmp .eq 7, 3) := by decide +kernel
theorem dX11_isTold_49 : decode cX11_isTold 49 = .ok (.iconst 1, 1) := by decide +kernel
theorem dX11_isTold_50 : decode cX11_isTold 50 = .ok (.goto 4, 3) := by decide +kernel
theorem dX11_isTold_53 : decode cX11_isTold 53 = .ok (.iconst 0, 1) := by decide +kernel
theorem dX11_isTold_54 : decode cX11_isTold 54 = .ok (.istore 4, 2) := by decide +kernel
theorem dX11_isTold_56 : decode cX11_isTold 56 = .ok (.iload 4, 2) := by decide +kernel
theorem dX11_isTold_58 : decode cX11_isTold 58 = .ok (.ifCond .eq 20, 3) := by decide +kernel
theorem dX11_isTold_61 : decode cX11_isTold 61 = .ok (.iload_n 2, 1) := by decide +kernel
theorem dX11_isTold_62 : decode cX11_isTold 62 = .ok (.iconst 2, 1) := by decide +kernel
theorem dX11_isTold_63 : decode cX11_isTold 63 = .ok (.if_icmp .eq 11, 3) := by decide +kernel
theorem dX11_isTold_66 : decode cX11_isTold 66 = .ok (.aload_n 0, 1) := by decide +kernel
theorem dX11_isTold_67 : decode cX11_isTold 67 = .ok (.iload_n 1, 1) := by decide +kernel
theorem dX11_isTold_68 : decode cX11_isTold 68 = .ok (.invokevirtual 338, 3) := by decide +kernel
theorem dX11_isTold_71 : decode cX11_isTold 71 = .ok (.ifCond .eq 7, 3) := by decide +kernel
theorem dX11_isTold_74 : decode cX11_isTold 74 = .ok (.iconst 1, 1) := by decide +kernel
theorem dX11_isTold_75 : decode cX11_isTold 75 = .ok (.goto 4, 3) := by decide +kernel
theorem dX11_isTold_78 : decode cX11_isTold 78 = .ok (.iconst 0, 1) := by decide +kernel
theorem dX11_isTold_79 : decode cX11_isTold 79 = .ok (.ireturn, 1) := by decide +kernel
theorem dX11_isLastToGovern_0 : decode cX11_isLastToGovern 0 = .ok (.aload_n 0, 1) := by decide +kernel
theorem dX11_isLastToGovern_1 : decode cX11_isLastToGovern 1 = .ok (.getfield 48, 3) := by decide +kernel
theorem dX11_isLastToGovern_4 : decode cX11_isLastToGovern 4 = .ok (.iload_n 1, 1) := by decide +kernel
theorem dX11_isLastToGovern_5 : decode cX11_isLastToGovern 5 = .ok (.invokevirtual 195, 3) := by decide +kernel
theorem dX11_isLastToGovern_8 : decode cX11_isLastToGovern 8 = .ok (.checkcast 253, 3) := by decide +kernel
theorem dX11_isLastToGovern_11 : decode cX11_isLastToGovern 11 = .ok (.astore_n 2, 1) := by decide +kernel
theorem dX11_isLastToGovern_12 : decode cX11_isLastToGovern 12 = .ok (.iload_n 1, 1) := by decide +kernel
theorem dX11_isLastToGovern_13 : decode cX11_isLastToGovern 13 = .ok (.iconst 1, 1) := by decide +kernel
theorem dX11_isLastToGovern_14 : decode cX11_isLastToGovern 14 = .ok (.iadd, 1) := by decide +kernel
theorem dX11_isLastToGovern_15 : decode cX11_isLastToGovern 15 = .ok (.istore_n 3, 1) := by decide +kernel
theorem dX11_isLastToGovern_16 : decode cX11_isLastToGovern 16 = .ok (.iload_n 3, 1) := by decide +kernel
theorem dX11_isLastToGovern_17 : decode cX11_isLastToGovern 17 = .ok (.aload_n 0, 1) := by decide +kernel
theorem dX11_isLastToGovern_18 : decode cX11_isLastToGovern 18 = .ok (.getfield 48, 3) := by decide +kernel
theorem dX11_isLastToGovern_21 : decode cX11_isLastToGovern 21 = .ok (.invokevirtual 177, 3) := by decide +kernel
theorem dX11_isLastToGovern_24 : decode cX11_isLastToGovern 24 = .ok (.if_icmp .ge 46, 3) := by decide +kernel
theorem dX11_isLastToGovern_27 : decode cX11_isLastToGovern 27 = .ok (.aload_n 0, 1) := by decide +kernel
theorem dX11_isLastToGovern_28 : decode cX11_isLastToGovern 28 = .ok (.getfield 48, 3) := by decide +kernel
theorem dX11_isLastToGovern_31 : decode cX11_isLastToGovern 31 = .ok (.iload_n 3, 1) := by decide +kernel
theorem dX11_isLastToGovern_32 : decode cX11_isLastToGovern 32 = .ok (.invokevirtual 195, 3) := by decide +kernel
theorem dX11_isLastToGovern_35 : decode cX11_isLastToGovern 35 = .ok (.checkcast 253, 3) := by decide +kernel
theorem dX11_isLastToGovern_38 : decode cX11_isLastToGovern 38 = .ok (.aload_n 2, 1) := by decide +kernel
theorem dX11_isLastToGovern_39 : decode cX11_isLastToGovern 39 = .ok (.invokevirtual 341, 3) := by decide +kernel
theorem dX11_isLastToGovern_42 : decode cX11_isLastToGovern 42 = .ok (.ifCond .eq 22, 3) := by decide +kernel
theorem dX11_isLastToGovern_45 : decode cX11_isLastToGovern 45 = .ok (.aload_n 0, 1) := by decide +kernel
theorem dX11_isLastToGovern_46 : decode cX11_isLastToGovern 46 = .ok (.getfield 48, 3) := by decide +kernel
theorem dX11_isLastToGovern_49 : decode cX11_isLastToGovern 49 = .ok (.iload_n 3, 1) := by decide +kernel
theorem dX11_isLastToGovern_50 : decode cX11_isLastToGovern 50 = .ok (.invokevirtual 195, 3) := by decide +kernel
theorem dX11_isLastToGovern_53 : decode cX11_isLastToGovern 53 = .ok (.checkcast 253, 3) := by decide +kernel
theorem dX11_isLastToGovern_56 : decode cX11_isLastToGovern 56 = .ok (.invokevirtual 268, 3) := by decide +kernel
theorem dX11_isLastToGovern_59 : decode cX11_isLastToGovern 59 = .ok (.ifCond .eq 5, 3) := by decide +kernel
theorem dX11_isLastToGovern_62 : decode cX11_isLastToGovern 62 = .ok (.iconst 0, 1) := by decide +kernel
theorem dX11_isLastToGovern_63 : decode cX11_isLastToGovern 63 = .ok (.ireturn, 1) := by decide +kernel
theorem dX11_isLastToGovern_64 : decode cX11_isLastToGovern 64 = .ok (.iinc 3 1, 3) := by decide +kernel
theorem dX11_isLastToGovern_67 : decode cX11_isLastToGovern 67 = .ok (.goto (-51), 3) := by decide +kernel
theorem dX11_isLastToGovern_70 : decode cX11_isLastToGovern 70 = .ok (.aload_n 2, 1) := by decide +kernel
theorem dX11_isLastToGovern_71 : decode cX11_isLastToGovern 71 = .ok (.invokevirtual 268, 3) := by decide +kernel
theorem dX11_isLastToGovern_74 : decode cX11_isLastToGovern 74 = .ok (.ireturn, 1) := by decide +kernel
theorem dX11_isBelieved_0 : decode cX11_isBelieved 0 = .ok (.aload_n 0, 1) := by decide +kernel
theorem dX11_isBelieved_1 : decode cX11_isBelieved 1 = .ok (.getfield 48, 3) := by decide +kernel
theorem dX11_isBelieved_4 : decode cX11_isBelieved 4 = .ok (.iload_n 1, 1) := by decide +kernel
theorem dX11_isBelieved_5 : decode cX11_isBelieved 5 = .ok (.invokevirtual 195, 3) := by decide +kernel
theorem dX11_isBelieved_8 : decode cX11_isBelieved 8 = .ok (.checkcast 253, 3) := by decide +kernel
theorem dX11_isBelieved_11 : decode cX11_isBelieved 11 = .ok (.astore_n 2, 1) := by decide +kernel
theorem dX11_isBelieved_12 : decode cX11_isBelieved 12 = .ok (.aload_n 0, 1) := by decide +kernel
theorem dX11_isBelieved_13 : decode cX11_isBelieved 13 = .ok (.getfield 34, 3) := by decide +kernel
theorem dX11_isBelieved_16 : decode cX11_isBelieved 16 = .ok (.aload_n 2, 1) := by decide +kernel
theorem dX11_isBelieved_17 : decode cX11_isBelieved 17 = .ok (.getfield 255, 3) := by decide +kernel
theorem dX11_isBelieved_20 : decode cX11_isBelieved 20 = .ok (.i2l, 1) := by decide +kernel
theorem dX11_isBelieved_21 : decode cX11_isBelieved 21 = .ok (.invokevirtual 143, 3) := by decide +kernel
theorem dX11_isBelieved_24 : decode cX11_isBelieved 24 = .ok (.aload_n 0, 1) := by decide +kernel
theorem dX11_isBelieved_25 : decode cX11_isBelieved 25 = .ok (.aload_n 0, 1) := by decide +kernel
theorem dX11_isBelieved_26 : decode cX11_isBelieved 26 = .ok (.getfield 34, 3) := by decide +kernel
theorem dX11_isBelieved_29 : decode cX11_isBelieved 29 = .ok (.getfield 147, 3) := by decide +kernel
theorem dX11_isBelieved_32 : decode cX11_isBelieved 32 = .ok (.invokevirtual 345, 3) := by decide +kernel
theorem dX11_isBelieved_35 : decode cX11_isBelieved 35 = .ok (.astore_n 3, 1) := by decide +kernel
theorem dX11_isBelieved_36 : decode cX11_isBelieved 36 = .ok (.aload_n 3, 1) := by decide +kernel
theorem dX11_isBelieved_37 : decode cX11_isBelieved 37 = .ok (.ifnull 11, 3) := by decide +kernel
theorem dX11_isBelieved_40 : decode cX11_isBelieved 40 = .ok (.aload_n 3, 1) := by decide +kernel
theorem dX11_isBelieved_41 : decode cX11_isBelieved 41 = .ok (.getfield 349, 3) := by decide +kernel
theorem dX11_isBelieved_44 : decode cX11_isBelieved 44 = .ok (.iconst (-1), 1) := by decide +kernel
theorem dX11_isBelieved_45 : decode cX11_isBelieved 45 = .ok (.if_icmp .ne 5, 3) := by decide +kernel
theorem dX11_isBelieved_48 : decode cX11_isBelieved 48 = .ok (.iconst 1, 1) := by decide +kernel
theorem dX11_isBelieved_49 : decode cX11_isBelieved 49 = .ok (.ireturn, 1) := by decide +kernel
theorem dX11_isBelieved_50 : decode cX11_isBelieved 50 = .ok (.aload_n 0, 1) := by decide +kernel
theorem dX11_isBelieved_51 : decode cX11_isBelieved 51 = .ok (.aload_n 3, 1) := by decide +kernel
theorem dX11_isBelieved_52 : decode cX11_isBelieved 52 = .ok (.getfield 352, 3) := by decide +kernel
theorem dX11_isBelieved_55 : decode cX11_isBelieved 55 = .ok (.iload_n 1, 1) := by decide +kernel
theorem dX11_isBelieved_56 : decode cX11_isBelieved 56 = .ok (.aload_n 0, 1) := by decide +kernel
theorem dX11_isBelieved_57 : decode cX11_isBelieved 57 = .ok (.getfield 34, 3) := by decide +kernel
theorem dX11_isBelieved_60 : decode cX11_isBelieved 60 = .ok (.getfield 147, 3) := by decide +kernel
theorem dX11_isBelieved_63 : decode cX11_isBelieved 63 = .ok (.invokevirtual 355, 3) := by decide +kernel
theorem dX11_isBelieved_66 : decode cX11_isBelieved 66 = .ok (.aload_n 3, 1) := by decide +kernel
theorem dX11_isBelieved_67 : decode cX11_isBelieved 67 = .ok (.invokevirtual 359, 3) := by decide +kernel
theorem dX11_isBelieved_70 : decode cX11_isBelieved 70 = .ok (.ireturn, 1) := by decide +kernel
theorem dX11_textInForce_0 : decode cX11_textInForce 0 = .ok (.aconst_null, 1) := by decide +kernel
theorem dX11_textInForce_1 : decode cX11_textInForce 1 = .ok (.astore_n 2, 1) := by decide +kernel
theorem dX11_textInForce_2 : decode cX11_textInForce 2 = .ok (.iconst 0, 1) := by decide +kernel
theorem dX11_textInForce_3 : decode cX11_textInForce 3 = .ok (.istore_n 3, 1) := by decide +kernel
theorem dX11_textInForce_4 : decode cX11_textInForce 4 = .ok (.iload_n 3, 1) := by decide +kernel
theorem dX11_textInForce_5 : decode cX11_textInForce 5 = .ok (.aload_n 0, 1) := by decide +kernel
theorem dX11_textInForce_6 : decode cX11_textInForce 6 = .ok (.getfield 51, 3) := by decide +kernel
theorem dX11_textInForce_9 : decode cX11_textInForce 9 = .ok (.invokevirtual 177, 3) := by decide +kernel
theorem dX11_textInForce_12 : decode cX11_textInForce 12 = .ok (.if_icmp .ge 50, 3) := by decide +kernel
theorem dX11_textInForce_15 : decode cX11_textInForce 15 = .ok (.aload_n 0, 1) := by decide +kernel
theorem dX11_textInForce_16 : decode cX11_textInForce 16 = .ok (.getfield 51, 3) := by decide +kernel
theorem dX11_textInForce_19 : decode cX11_textInForce 19 = .ok (.iload_n 3, 1) := by decide +kernel
theorem dX11_textInForce_20 : decode cX11_textInForce 20 = .ok (.invokevirtual 195, 3) := by decide +kernel
theorem dX11_textInForce_23 : decode cX11_textInForce 23 = .ok (.checkcast 289, 3) := by decide +kernel
theorem dX11_textInForce_26 : decode cX11_textInForce 26 = .ok (.astore 4, 2) := by decide +kernel
theorem dX11_textInForce_28 : decode cX11_textInForce 28 = .ok (.aload 4, 2) := by decide +kernel
theorem dX11_textInForce_30 : decode cX11_textInForce 30 = .ok (.getfield 362, 3) := by decide +kernel
theorem dX11_textInForce_33 : decode cX11_textInForce 33 = .ok (.iload_n 1, 1) := by decide +kernel
theorem dX11_textInForce_34 : decode cX11_textInForce 34 = .ok (.if_icmp .gt 22, 3) := by decide +kernel
theorem dX11_textInForce_37 : decode cX11_textInForce 37 = .ok (.aload_n 2, 1) := by decide +kernel
theorem dX11_textInForce_38 : decode cX11_textInForce 38 = .ok (.ifnull 15, 3) := by decide +kernel
theorem dX11_textInForce_41 : decode cX11_textInForce 41 = .ok (.aload 4, 2) := by decide +kernel
theorem dX11_textInForce_43 : decode cX11_textInForce 43 = .ok (.getfield 362, 3) := by decide +kernel
theorem dX11_textInForce_46 : decode cX11_textInForce 46 = .ok (.aload_n 2, 1) := by decide +kernel
theorem dX11_textInForce_47 : decode cX11_textInForce 47 = .ok (.getfield 362, 3) := by decide +kernel
theorem dX11_textInForce_50 : decode cX11_textInForce 50 = .ok (.if_icmp .lt 6, 3) := by decide +kernel
theorem dX11_textInForce_53 : decode cX11_textInForce 53 = .ok (.aload 4, 2) := by decide +kernel
theorem dX11_textInForce_55 : decode cX11_textInForce 55 = .ok (.astore_n 2, 1) := by decide +kernel
theorem dX11_textInForce_56 : decode cX11_textInForce 56 = .ok (.iinc 3 1, 3) := by decide +kernel
theorem dX11_textInForce_59 : decode cX11_textInForce 59 = .ok (.goto (-55), 3) := by decide +kernel
theorem dX11_textInForce_62 : decode cX11_textInForce 62 = .ok (.aload_n 2, 1) := by decide +kernel
theorem dX11_textInForce_63 : decode cX11_textInForce 63 = .ok (.areturn, 1) := by decide +kernel
theorem dX11_fillVariables_0 : decode cX11_fillVariables 0 = .ok (.aload_n 0, 1) := by decide +kernel
theorem dX11_fillVariables_1 : decode cX11_fillVariables 1 = .ok (.getfield 48, 3) := by decide +kernel
theorem dX11_fillVariables_4 : decode cX11_fillVariables 4 = .ok (.iload_n 2, 1) := by decide +kernel
theorem dX11_fillVariables_5 : decode cX11_fillVariables 5 = .ok (.invokevirtual 195, 3) := by decide +kernel
theorem dX11_fillVariables_8 : decode cX11_fillVariables 8 = .ok (.checkcast 253, 3) := by decide +kernel
theorem dX11_fillVariables_11 : decode cX11_fillVariables 11 = .ok (.astore 4, 2) := by decide +kernel
theorem dX11_fillVariables_13 : decode cX11_fillVariables 13 = .ok (.iconst 0, 1) := by decide +kernel
theorem dX11_fillVariables_14 : decode cX11_fillVariables 14 = .ok (.istore 5, 2) := by decide +kernel
theorem dX11_fillVariables_16 : decode cX11_fillVariables 16 = .ok (.iconst 0, 1) := by decide +kernel
theorem dX11_fillVariables_17 : decode cX11_fillVariables 17 = .ok (.istore 6, 2) := by decide +kernel
theorem dX11_fillVariables_19 : decode cX11_fillVariables 19 = .ok (.iconst 0, 1) := by decide +kernel
theorem dX11_fillVariables_20 : decode cX11_fillVariables 20 = .ok (.istore 7, 2) := by decide +kernel
theorem dX11_fillVariables_22 : decode cX11_fillVariables 22 = .ok (.iload 7, 2) := by decide +kernel
theorem dX11_fillVariables_24 : decode cX11_fillVariables 24 = .ok (.iload_n 2, 1) := by decide +kernel
theorem dX11_fillVariables_25 : decode cX11_fillVariables 25 = .ok (.if_icmp .ge 61, 3) := by decide +kernel
theorem dX11_fillVariables_28 : decode cX11_fillVariables 28 = .ok (.aload_n 0, 1) := by decide +kernel
theorem dX11_fillVariables_29 : decode cX11_fillVariables 29 = .ok (.getfield 48, 3) := by decide +kernel
theorem dX11_fillVariables_32 : decode cX11_fillVariables 32 = .ok (.iload 7, 2) := by decide +kernel
theorem dX11_fillVariables_34 : decode cX11_fillVariables 34 = .ok (.invokevirtual 195, 3) := by decide +kernel
theorem dX11_fillVariables_37 : decode cX11_fillVariables 37 = .ok (.checkcast 253, 3) := by decide +kernel
theorem dX11_fillVariables_40 : decode cX11_fillVariables 40 = .ok (.aload 4, 2) := by decide +kernel
theorem dX11_fillVariables_42 : decode cX11_fillVariables 42 = .ok (.invokevirtual 341, 3) := by decide +kernel
theorem dX11_fillVariables_45 : decode cX11_fillVariables 45 = .ok (.ifCond .eq 35, 3) := by decide +kernel
theorem dX11_fillVariables_48 : decode cX11_fillVariables 48 = .ok (.aload_n 0, 1) := by decide +kernel
theorem dX11_fillVariables_49 : decode cX11_fillVariables 49 = .ok (.getfield 48, 3) := by decide +kernel
theorem dX11_fillVariables_52 : decode cX11_fillVariables 52 = .ok (.iload 7, 2) := by decide +kernel
theorem dX11_fillVariables_54 : decode cX11_fillVariables 54 = .ok (.invokevirtual 195, 3) := by decide +kernel
theorem dX11_fillVariables_57 : decode cX11_fillVariables 57 = .ok (.checkcast 253, 3) := by decide +kernel
theorem dX11_fillVariables_60 : decode cX11_fillVariables 60 = .ok (.getfield 274, 3) := by decide +kernel
theorem dX11_fillVariables_63 : decode cX11_fillVariables 63 = .ok (.aload 4, 2) := by decide +kernel
theorem dX11_fillVariables_65 : decode cX11_fillVariables 65 = .ok (.getfield 274, 3) := by decide +kernel
theorem dX11_fillVariables_68 : decode cX11_fillVariables 68 = .ok (.if_icmp .ne 9, 3) := by decide +kernel
theorem dX11_fillVariables_71 : decode cX11_fillVariables 71 = .ok (.iinc 5 1, 3) := by decide +kernel
theorem dX11_fillVariables_74 : decode cX11_fillVariables 74 = .ok (.goto 6, 3) := by decide +kernel
theorem dX11_fillVariables_77 : decode cX11_fillVariables 77 = .ok (.iinc 6 1, 3) := by decide +kernel
theorem dX11_fillVariables_80 : decode cX11_fillVariables 80 = .ok (.iinc 7 1, 3) := by decide +kernel
theorem dX11_fillVariables_83 : decode cX11_fillVariables 83 = .ok (.goto (-61), 3) := by decide +kernel
theorem dX11_fillVariables_86 : decode cX11_fillVariables 86 = .ok (.iload_n 3, 1) := by decide +kernel
theorem dX11_fillVariables_87 : decode cX11_fillVariables 87 = .ok (.sipush 365, 3) := by decide +kernel
theorem dX11_fillVariables_90 : decode cX11_fillVariables 90 = .ok (.idiv, 1) := by decide +kernel
theorem dX11_fillVariables_91 : decode cX11_fillVariables 91 = .ok (.istore 7, 2) := by decide +kernel
theorem dX11_fillVariables_93 : decode cX11_fillVariables 93 = .ok (.aload_n 1, 1) := by decide +kernel
theorem dX11_fillVariables_94 : decode cX11_fillVariables 94 = .ok (.iconst 0, 1) := by decide +kernel
theorem dX11_fillVariables_95 : decode cX11_fillVariables 95 = .ok (.aload 4, 2) := by decide +kernel
theorem dX11_fillVariables_97 : decode cX11_fillVariables 97 = .ok (.getfield 365, 3) := by decide +kernel
theorem dX11_fillVariables_100 : decode cX11_fillVariables 100 = .ok (.i2l, 1) := by decide +kernel
theorem dX11_fillVariables_101 : decode cX11_fillVariables 101 = .ok (.lastore, 1) := by decide +kernel
theorem dX11_fillVariables_102 : decode cX11_fillVariables 102 = .ok (.aload_n 1, 1) := by decide +kernel
theorem dX11_fillVariables_103 : decode cX11_fillVariables 103 = .ok (.iconst 1, 1) := by decide +kernel
theorem dX11_fillVariables_104 : decode cX11_fillVariables 104 = .ok (.aload_n 0, 1) := by decide +kernel
theorem dX11_fillVariables_105 : decode cX11_fillVariables 105 = .ok (.getfield 45, 3) := by decide +kernel
theorem dX11_fillVariables_108 : decode cX11_fillVariables 108 = .ok (.aload 4, 2) := by decide +kernel
theorem dX11_fillVariables_110 : decode cX11_fillVariables 110 = .ok (.getfield 365, 3) := by decide +kernel
theorem dX11_fillVariables_113 : decode cX11_fillVariables 113 = .ok (.invokevirtual 195, 3) := by decide +kernel
theorem dX11_fillVariables_116 : decode cX11_fillVariables 116 = .ok (.checkcast 315, 3) := by decide +kernel
theorem dX11_fillVariables_119 : decode cX11_fillVariables 119 = .ok (.invokevirtual 368, 3) := by decide +kernel
theorem dX11_fillVariables_122 : decode cX11_fillVariables 122 = .ok (.i2l, 1) := by decide +kernel
theorem dX11_fillVariables_123 : decode cX11_fillVariables 123 = .ok (.lastore, 1) := by decide +kernel
theorem dX11_fillVariables_124 : decode cX11_fillVariables 124 = .ok (.aload_n 1, 1) := by decide +kernel
theorem dX11_fillVariables_125 : decode cX11_fillVariables 125 = .ok (.iconst 2, 1) := by decide +kernel
theorem dX11_fillVariables_126 : decode cX11_fillVariables 126 = .ok (.aload 4, 2) := by decide +kernel
theorem dX11_fillVariables_128 : decode cX11_fillVariables 128 = .ok (.getfield 258, 3) := by decide +kernel
theorem dX11_fillVariables_131 : decode cX11_fillVariables 131 = .ok (.iload_n 3, 1) := by decide +kernel
theorem dX11_fillVariables_132 : decode cX11_fillVariables 132 = .ok (.isub, 1) := by decide +kernel
theorem dX11_fillVariables_133 : decode cX11_fillVariables 133 = .ok (.i2l, 1) := by decide +kernel
theorem dX11_fillVariables_134 : decode cX11_fillVariables 134 = .ok (.lastore, 1) := by decide +kernel
theorem dX11_fillVariables_135 : decode cX11_fillVariables 135 = .ok (.aload_n 1, 1) := by decide +kernel
theorem dX11_fillVariables_136 : decode cX11_fillVariables 136 = .ok (.iconst 3, 1) := by decide +kernel
theorem dX11_fillVariables_137 : decode cX11_fillVariables 137 = .ok (.aload 4, 2) := by decide +kernel
theorem dX11_fillVariables_139 : decode cX11_fillVariables 139 = .ok (.getfield 274, 3) := by decide +kernel
theorem dX11_fillVariables_142 : decode cX11_fillVariables 142 = .ok (.i2l, 1) := by decide +kernel
theorem dX11_fillVariables_143 : decode cX11_fillVariables 143 = .ok (.lastore, 1) := by decide +kernel
theorem dX11_fillVariables_144 : decode cX11_fillVariables 144 = .ok (.aload_n 1, 1) := by decide +kernel
theorem dX11_fillVariables_145 : decode cX11_fillVariables 145 = .ok (.iconst 4, 1) := by decide +kernel
theorem dX11_fillVariables_146 : decode cX11_fillVariables 146 = .ok (.iload 5, 2) := by decide +kernel
theorem dX11_fillVariables_148 : decode cX11_fillVariables 148 = .ok (.i2l, 1) := by decide +kernel
theorem dX11_fillVariables_149 : decode cX11_fillVariables 149 = .ok (.lastore, 1) := by decide +kernel
theorem dX11_fillVariables_150 : decode cX11_fillVariables 150 = .ok (.aload_n 1, 1) := by decide +kernel
theorem dX11_fillVariables_151 : decode cX11_fillVariables 151 = .ok (.iconst 5, 1) := by decide +kernel
theorem dX11_fillVariables_152 : decode cX11_fillVariables 152 = .ok (.iload 6, 2) := by decide +kernel
theorem dX11_fillVariables_154 : decode cX11_fillVariables 154 = .ok (.i2l, 1) := by decide +kernel
theorem dX11_fillVariables_155 : decode cX11_fillVariables 155 = .ok (.lastore, 1) := by decide +kernel
theorem dX11_fillVariables_156 : decode cX11_fillVariables 156 = .ok (.aload_n 1, 1) := by decide +kernel
theorem dX11_fillVariables_157 : decode cX11_fillVariables 157 = .ok (.bipush 6, 2) := by decide +kernel
theorem dX11_fillVariables_159 : decode cX11_fillVariables 159 = .ok (.aload_n 0, 1) := by decide +kernel
theorem dX11_fillVariables_160 : decode cX11_fillVariables 160 = .ok (.getfield 41, 3) := by decide +kernel
theorem dX11_fillVariables_163 : decode cX11_fillVariables 163 = .ok (.aload 4, 2) := by decide +kernel
theorem dX11_fillVariables_165 : decode cX11_fillVariables 165 = .ok (.getfield 271, 3) := by decide +kernel
theorem dX11_fillVariables_168 : decode cX11_fillVariables 168 = .ok (.invokevirtual 195, 3) := by decide +kernel
theorem dX11_fillVariables_171 : decode cX11_fillVariables 171 = .ok (.checkcast 182, 3) := by decide +kernel
theorem dX11_fillVariables_174 : decode cX11_fillVariables 174 = .ok (.getfield 371, 3) := by decide +kernel
theorem dX11_fillVariables_177 : decode cX11_fillVariables 177 = .ok (.i2l, 1) := by decide +kernel
theorem dX11_fillVariables_178 : decode cX11_fillVariables 178 = .ok (.lastore, 1) := by decide +kernel
theorem dX11_fillVariables_179 : decode cX11_fillVariables 179 = .ok (.aload_n 1, 1) := by decide +kernel
theorem dX11_fillVariables_180 : decode cX11_fillVariables 180 = .ok (.bipush 7, 2) := by decide +kernel
theorem dX11_fillVariables_182 : decode cX11_fillVariables 182 = .ok (.aload 4, 2) := by decide +kernel
theorem dX11_fillVariables_184 : decode cX11_fillVariables 184 = .ok (.getfield 271, 3) := by decide +kernel
theorem dX11_fillVariables_187 : decode cX11_fillVariables 187 = .ok (.i2l, 1) := by decide +kernel
theorem dX11_fillVariables_188 : decode cX11_fillVariables 188 = .ok (.lastore, 1) := by decide +kernel
theorem dX11_fillVariables_189 : decode cX11_fillVariables 189 = .ok (.aload_n 1, 1) := by decide +kernel
theorem dX11_fillVariables_190 : decode cX11_fillVariables 190 = .ok (.bipush 8, 2) := by decide +kernel
theorem dX11_fillVariables_192 : decode cX11_fillVariables 192 = .ok (.iload_n 3, 1) := by decide +kernel
theorem dX11_fillVariables_193 : decode cX11_fillVariables 193 = .ok (.i2l, 1) := by decide +kernel
theorem dX11_fillVariables_194 : decode cX11_fillVariables 194 = .ok (.lastore, 1) := by decide +kernel
theorem dX11_fillVariables_195 : decode cX11_fillVariables 195 = .ok (.aload_n 1, 1) := by decide +kernel
theorem dX11_fillVariables_196 : decode cX11_fillVariables 196 = .ok (.bipush 9, 2) := by decide +kernel
theorem dX11_fillVariables_198 : decode cX11_fillVariables 198 = .ok (.bipush 11, 2) := by decide +kernel
theorem dX11_fillVariables_200 : decode cX11_fillVariables 200 = .ok (.iload_n 3, 1) := by decide +kernel
theorem dX11_fillVariables_201 : decode cX11_fillVariables 201 = .ok (.sipush 365, 3) := by decide +kernel
theorem dX11_fillVariables_204 : decode cX11_fillVariables 204 = .ok (.iload 7, 2) := by decide +kernel
theorem dX11_fillVariables_206 : decode cX11_fillVariables 206 = .ok (.imul, 1) := by decide +kernel
theorem dX11_fillVariables_207 : decode cX11_fillVariables 207 = .ok (.isub, 1) := by decide +kernel
theorem dX11_fillVariables_208 : decode cX11_fillVariables 208 = .ok (.bipush 30, 2) := by decide +kernel
theorem dX11_fillVariables_210 : decode cX11_fillVariables 210 = .ok (.idiv, 1) := by decide +kernel
theorem dX11_fillVariables_211 : decode cX11_fillVariables 211 = .ok (.invokestatic 374, 3) := by decide +kernel
theorem dX11_fillVariables_214 : decode cX11_fillVariables 214 = .ok (.i2l, 1) := by decide +kernel
theorem dX11_fillVariables_215 : decode cX11_fillVariables 215 = .ok (.lastore, 1) := by decide +kernel
theorem dX11_fillVariables_216 : decode cX11_fillVariables 216 = .ok (.aload_n 1, 1) := by decide +kernel
theorem dX11_fillVariables_217 : decode cX11_fillVariables 217 = .ok (.bipush 10, 2) := by decide +kernel
theorem dX11_fillVariables_219 : decode cX11_fillVariables 219 = .ok (.iload 7, 2) := by decide +kernel
theorem dX11_fillVariables_221 : decode cX11_fillVariables 221 = .ok (.i2l, 1) := by decide +kernel
theorem dX11_fillVariables_222 : decode cX11_fillVariables 222 = .ok (.lastore, 1) := by decide +kernel
theorem dX11_fillVariables_223 : decode cX11_fillVariables 223 = .ok (.return_, 1) := by decide +kernel
theorem dX11_stamp_0 : decode cX11_stamp 0 = .ok (.aload_n 0, 1) := by decide +kernel
theorem dX11_stamp_1 : decode cX11_stamp 1 = .ok (.aload_n 0, 1) := by decide +kernel
theorem dX11_stamp_2 : decode cX11_stamp 2 = .ok (.iload_n 1, 1) := by decide +kernel
theorem dX11_stamp_3 : decode cX11_stamp 3 = .ok (.iload_n 2, 1) := by decide +kernel
theorem dX11_stamp_4 : decode cX11_stamp 4 = .ok (.invokevirtual 376, 3) := by decide +kernel
theorem dX11_stamp_7 : decode cX11_stamp 7 = .ok (.putfield 9, 3) := by decide +kernel
theorem dX11_stamp_10 : decode cX11_stamp 10 = .ok (.aload_n 0, 1) := by decide +kernel
theorem dX11_stamp_11 : decode cX11_stamp 11 = .ok (.getfield 9, 3) := by decide +kernel
theorem dX11_stamp_14 : decode cX11_stamp 14 = .ok (.ifCond .eq 5, 3) := by decide +kernel
theorem dX11_stamp_17 : decode cX11_stamp 17 = .ok (.iconst (-1), 1) := by decide +kernel
theorem dX11_stamp_18 : decode cX11_stamp 18 = .ok (.ireturn, 1) := by decide +kernel
theorem dX11_stamp_19 : decode cX11_stamp 19 = .ok (.aload_n 0, 1) := by decide +kernel
theorem dX11_stamp_20 : decode cX11_stamp 20 = .ok (.getfield 54, 3) := by decide +kernel
theorem dX11_stamp_23 : decode cX11_stamp 23 = .ok (.new 379, 3) := by decide +kernel
theorem dX11_stamp_26 : decode cX11_stamp 26 = .ok (.dup, 1) := by decide +kernel
theorem dX11_stamp_27 : decode cX11_stamp 27 = .ok (.iload_n 1, 1) := by decide +kernel
theorem dX11_stamp_28 : decode cX11_stamp 28 = .ok (.iload_n 2, 1) := by decide +kernel
theorem dX11_stamp_29 : decode cX11_stamp 29 = .ok (.invokespecial 381, 3) := by decide +kernel
theorem dX11_stamp_32 : decode cX11_stamp 32 = .ok (.invokevirtual 185, 3) := by decide +kernel
theorem dX11_stamp_35 : decode cX11_stamp 35 = .ok (.pop, 1) := by decide +kernel
theorem dX11_stamp_36 : decode cX11_stamp 36 = .ok (.aload_n 0, 1) := by decide +kernel
theorem dX11_stamp_37 : decode cX11_stamp 37 = .ok (.getfield 54, 3) := by decide +kernel
theorem dX11_stamp_40 : decode cX11_stamp 40 = .ok (.invokevirtual 177, 3) := by decide +kernel
theorem dX11_stamp_43 : decode cX11_stamp 43 = .ok (.iconst 1, 1) := by decide +kernel
theorem dX11_stamp_44 : decode cX11_stamp 44 = .ok (.isub, 1) := by decide +kernel
theorem dX11_stamp_45 : decode cX11_stamp 45 = .ok (.ireturn, 1) := by decide +kernel
theorem dX11_wrong_0 : decode cX11_wrong 0 = .ok (.aload_n 0, 1) := by decide +kernel
theorem dX11_wrong_1 : decode cX11_wrong 1 = .ok (.iconst 0, 1) := by decide +kernel
theorem dX11_wrong_2 : decode cX11_wrong 2 = .ok (.putfield 9, 3) := by decide +kernel
theorem dX11_wrong_5 : decode cX11_wrong 5 = .ok (.aload_n 0, 1) := by decide +kernel
theorem dX11_wrong_6 : decode cX11_wrong 6 = .ok (.invokevirtual 205, 3) := by decide +kernel
theorem dX11_wrong_9 : decode cX11_wrong 9 = .ok (.aload_n 0, 1) := by decide +kernel
theorem dX11_wrong_10 : decode cX11_wrong 10 = .ok (.invokevirtual 382, 3) := by decide +kernel
theorem dX11_wrong_13 : decode cX11_wrong 13 = .ok (.iconst 0, 1) := by decide +kernel
theorem dX11_wrong_14 : decode cX11_wrong 14 = .ok (.istore_n 1, 1) := by decide +kernel
theorem dX11_wrong_15 : decode cX11_wrong 15 = .ok (.iconst 1, 1) := by decide +kernel
theorem dX11_wrong_16 : decode cX11_wrong 16 = .ok (.istore_n 2, 1) := by decide +kernel
theorem dX11_wrong_17 : decode cX11_wrong 17 = .ok (.iload_n 2, 1) := by decide +kernel
theorem dX11_wrong_18 : decode cX11_wrong 18 = .ok (.aload_n 0, 1) := by decide +kernel
theorem dX11_wrong_19 : decode cX11_wrong 19 = .ok (.getfield 54, 3) := by decide +kernel
theorem dX11_wrong_22 : decode cX11_wrong 22 = .ok (.invokevirtual 177, 3) := by decide +kernel
theorem dX11_wrong_25 : decode cX11_wrong 25 = .ok (.if_icmp .ge 53, 3) := by decide +kernel
theorem dX11_wrong_28 : decode cX11_wrong 28 = .ok (.iconst 0, 1) := by decide +kernel
theorem dX11_wrong_29 : decode cX11_wrong 29 = .ok (.istore_n 3, 1) := by decide +kernel
theorem dX11_wrong_30 : decode cX11_wrong 30 = .ok (.iload_n 3, 1) := by decide +kernel
theorem dX11_wrong_31 : decode cX11_wrong 31 = .ok (.iload_n 2, 1) := by decide +kernel
theorem dX11_wrong_32 : decode cX11_wrong 32 = .ok (.if_icmp .ge 40, 3) := by decide +kernel
theorem dX11_wrong_35 : decode cX11_wrong 35 = .ok (.aload_n 0, 1) := by decide +kernel
theorem dX11_wrong_36 : decode cX11_wrong 36 = .ok (.getfield 54, 3) := by decide +kernel
theorem dX11_wrong_39 : decode cX11_wrong 39 = .ok (.iload_n 3, 1) := by decide +kernel
theorem dX11_wrong_40 : decode cX11_wrong 40 = .ok (.invokevirtual 195, 3) := by decide +kernel
theorem dX11_wrong_43 : decode cX11_wrong 43 = .ok (.checkcast 379, 3) := by decide +kernel
theorem dX11_wrong_46 : decode cX11_wrong 46 = .ok (.aload_n 0, 1) := by decide +kernel
theorem dX11_wrong_47 : decode cX11_wrong 47 = .ok (.getfield 54, 3) := by decide +kernel
theorem dX11_wrong_50 : decode cX11_wrong 50 = .ok (.iload_n 2, 1) := by decide +kernel
theorem dX11_wrong_51 : decode cX11_wrong 51 = .ok (.invokevirtual 195, 3) := by decide +kernel
theorem dX11_wrong_54 : decode cX11_wrong 54 = .ok (.checkcast 379, 3) := by decide +kernel
theorem dX11_wrong_57 : decode cX11_wrong 57 = .ok (.invokevirtual 385, 3) := by decide +kernel
theorem dX11_wrong_60 : decode cX11_wrong 60 = .ok (.ifCond .eq 6, 3) := by decide +kernel
theorem dX11_wrong_63 : decode cX11_wrong 63 = .ok (.iinc 1 1, 3) := by decide +kernel
theorem dX11_wrong_66 : decode cX11_wrong 66 = .ok (.iinc 3 1, 3) := by decide +kernel
theorem dX11_wrong_69 : decode cX11_wrong 69 = .ok (.goto (-39), 3) := by decide +kernel
theorem dX11_wrong_72 : decode cX11_wrong 72 = .ok (.iinc 2 1, 3) := by decide +kernel
theorem dX11_wrong_75 : decode cX11_wrong 75 = .ok (.goto (-58), 3) := by decide +kernel
theorem dX11_wrong_78 : decode cX11_wrong 78 = .ok (.iload_n 1, 1) := by decide +kernel
theorem dX11_wrong_79 : decode cX11_wrong 79 = .ok (.ireturn, 1) := by decide +kernel
theorem dX11_blamed_0 : decode cX11_blamed 0 = .ok (.aload_n 0, 1) := by decide +kernel
theorem dX11_blamed_1 : decode cX11_blamed 1 = .ok (.iload_n 1, 1) := by decide +kernel
theorem dX11_blamed_2 : decode cX11_blamed 2 = .ok (.iconst 0, 1) := by decide +kernel
theorem dX11_blamed_3 : decode cX11_blamed 3 = .ok (.iconst 2, 1) := by decide +kernel
theorem dX11_blamed_4 : decode cX11_blamed 4 = .ok (.invokestatic 139, 3) := by decide +kernel
theorem dX11_blamed_7 : decode cX11_blamed 7 = .ok (.ifCond .eq 7, 3) := by decide +kernel
theorem dX11_blamed_10 : decode cX11_blamed 10 = .ok (.iconst 0, 1) := by decide +kernel
theorem dX11_blamed_11 : decode cX11_blamed 11 = .ok (.goto 4, 3) := by decide +kernel
theorem dX11_blamed_14 : decode cX11_blamed 14 = .ok (.iconst 5, 1) := by decide +kernel
theorem dX11_blamed_15 : decode cX11_blamed 15 = .ok (.putfield 9, 3) := by decide +kernel
theorem dX11_blamed_18 : decode cX11_blamed 18 = .ok (.aload_n 0, 1) := by decide +kernel
theorem dX11_blamed_19 : decode cX11_blamed 19 = .ok (.getfield 9, 3) := by decide +kernel
theorem dX11_blamed_22 : decode cX11_blamed 22 = .ok (.ifCond .eq 5, 3) := by decide +kernel
theorem dX11_blamed_25 : decode cX11_blamed 25 = .ok (.iconst (-1), 1) := by decide +kernel
theorem dX11_blamed_26 : decode cX11_blamed 26 = .ok (.ireturn, 1) := by decide +kernel
theorem dX11_blamed_27 : decode cX11_blamed 27 = .ok (.aload_n 0, 1) := by decide +kernel
theorem dX11_blamed_28 : decode cX11_blamed 28 = .ok (.invokevirtual 205, 3) := by decide +kernel
theorem dX11_blamed_31 : decode cX11_blamed 31 = .ok (.aload_n 0, 1) := by decide +kernel
theorem dX11_blamed_32 : decode cX11_blamed 32 = .ok (.invokevirtual 382, 3) := by decide +kernel
theorem dX11_blamed_35 : decode cX11_blamed 35 = .ok (.aload_n 0, 1) := by decide +kernel
theorem dX11_blamed_36 : decode cX11_blamed 36 = .ok (.invokevirtual 389, 3) := by decide +kernel
theorem dX11_blamed_39 : decode cX11_blamed 39 = .ok (.astore_n 2, 1) := by decide +kernel
theorem dX11_blamed_40 : decode cX11_blamed 40 = .ok (.bipush 13, 2) := by decide +kernel
theorem dX11_blamed_42 : decode cX11_blamed 42 = .ok (.istore_n 3, 1) := by decide +kernel
theorem dX11_blamed_43 : decode cX11_blamed 43 = .ok (.iconst 0, 1) := by decide +kernel
theorem dX11_blamed_44 : decode cX11_blamed 44 = .ok (.istore 4, 2) := by decide +kernel
theorem dX11_blamed_46 : decode cX11_blamed 46 = .ok (.iconst 0, 1) := by decide +kernel
theorem dX11_blamed_47 : decode cX11_blamed 47 = .ok (.istore 5, 2) := by decide +kernel
theorem dX11_blamed_49 : decode cX11_blamed 49 = .ok (.iconst 0, 1) := by decide +kernel
theorem dX11_blamed_50 : decode cX11_blamed 50 = .ok (.istore 6, 2) := by decide +kernel
theorem dX11_blamed_52 : decode cX11_blamed 52 = .ok (.iload 6, 2) := by decide +kernel
theorem dX11_blamed_54 : decode cX11_blamed 54 = .ok (.iconst 1, 1) := by decide +kernel
theorem dX11_blamed_55 : decode cX11_blamed 55 = .ok (.aload_n 0, 1) := by decide +kernel
theorem dX11_blamed_56 : decode cX11_blamed 56 = .ok (.getfield 41, 3) := by decide +kernel
theorem dX11_blamed_59 : decode cX11_blamed 59 = .ok (.invokevirtual 177, 3) := by decide +kernel
theorem dX11_blamed_62 : decode cX11_blamed 62 = .ok (.ishl, 1) := by decide +kernel
theorem dX11_blamed_63 : decode cX11_blamed 63 = .ok (.if_icmp .ge 51, 3) := by decide +kernel
theorem dX11_blamed_66 : decode cX11_blamed 66 = .ok (.iload 6, 2) := by decide +kernel
theorem dX11_blamed_68 : decode cX11_blamed 68 = .ok (.invokestatic 393, 3) := by decide +kernel
theorem dX11_blamed_71 : decode cX11_blamed 71 = .ok (.istore 7, 2) := by decide +kernel
theorem dX11_blamed_73 : decode cX11_blamed 73 = .ok (.iload 7, 2) := by decide +kernel
theorem dX11_blamed_75 : decode cX11_blamed 75 = .ok (.iload_n 3, 1) := by decide +kernel
theorem dX11_blamed_76 : decode cX11_blamed 76 = .ok (.if_icmp .gt 32, 3) := by decide +kernel
theorem dX11_blamed_79 : decode cX11_blamed 79 = .ok (.aload_n 0, 1) := by decide +kernel
theorem dX11_blamed_80 : decode cX11_blamed 80 = .ok (.iload 6, 2) := by decide +kernel
theorem dX11_blamed_82 : decode cX11_blamed 82 = .ok (.aload_n 2, 1) := by decide +kernel
theorem dX11_blamed_83 : decode cX11_blamed 83 = .ok (.invokevirtual 396, 3) := by decide +kernel
theorem dX11_blamed_86 : decode cX11_blamed 86 = .ok (.ifCond .eq 22, 3) := by decide +kernel
theorem dX11_blamed_89 : decode cX11_blamed 89 = .ok (.iload 7, 2) := by decide +kernel
theorem dX11_blamed_91 : decode cX11_blamed 91 = .ok (.iload_n 3, 1) := by decide +kernel
theorem dX11_blamed_92 : decode cX11_blamed 92 = .ok (.if_icmp .ge 13, 3) := by decide +kernel
theorem dX11_blamed_95 : decode cX11_blamed 95 = .ok (.iload 7, 2) := by decide +kernel
theorem dX11_blamed_97 : decode cX11_blamed 97 = .ok (.istore_n 3, 1) := by decide +kernel
theorem dX11_blamed_98 : decode cX11_blamed 98 = .ok (.iload 6, 2) := by decide +kernel
theorem dX11_blamed_100 : decode cX11_blamed 100 = .ok (.istore 4, 2) := by decide +kernel
theorem dX11_blamed_102 : decode cX11_blamed 102 = .ok (.iconst 0, 1) := by decide +kernel
theorem dX11_blamed_103 : decode cX11_blamed 103 = .ok (.istore 5, 2) := by decide +kernel
theorem dX11_blamed_105 : decode cX11_blamed 105 = .ok (.iinc 5 1, 3) := by decide +kernel
theorem dX11_blamed_108 : decode cX11_blamed 108 = .ok (.iinc 6 1, 3) := by decide +kernel
theorem dX11_blamed_111 : decode cX11_blamed 111 = .ok (.goto (-59), 3) := by decide +kernel
theorem dX11_blamed_114 : decode cX11_blamed 114 = .ok (.iload_n 1, 1) := by decide +kernel
theorem dX11_blamed_115 : decode cX11_blamed 115 = .ok (.ifCond .ne 5, 3) := by decide +kernel
theorem dX11_blamed_118 : decode cX11_blamed 118 = .ok (.iload_n 3, 1) := by decide +kernel
theorem dX11_blamed_119 : decode cX11_blamed 119 = .ok (.ireturn, 1) := by decide +kernel
theorem dX11_blamed_120 : decode cX11_blamed 120 = .ok (.iload_n 1, 1) := by decide +kernel
theorem dX11_blamed_121 : decode cX11_blamed 121 = .ok (.iconst 1, 1) := by decide +kernel
theorem dX11_blamed_122 : decode cX11_blamed 122 = .ok (.if_icmp .ne 8, 3) := by decide +kernel
theorem dX11_blamed_125 : decode cX11_blamed 125 = .ok (.iload 4, 2) := by decide +kernel
theorem dX11_blamed_127 : decode cX11_blamed 127 = .ok (.goto 5, 3) := by decide +kernel
theorem dX11_blamed_130 : decode cX11_blamed 130 = .ok (.iload 5, 2) := by decide +kernel
theorem dX11_blamed_132 : decode cX11_blamed 132 = .ok (.ireturn, 1) := by decide +kernel
theorem dX11_stampStatus_0 : decode cX11_stampStatus 0 = .ok (.aload_n 0, 1) := by decide +kernel
theorem dX11_stampStatus_1 : decode cX11_stampStatus 1 = .ok (.iload_n 1, 1) := by decide +kernel
theorem dX11_stampStatus_2 : decode cX11_stampStatus 2 = .ok (.iload_n 2, 1) := by decide +kernel
theorem dX11_stampStatus_3 : decode cX11_stampStatus 3 = .ok (.invokevirtual 202, 3) := by decide +kernel
theorem dX11_stampStatus_6 : decode cX11_stampStatus 6 = .ok (.istore_n 3, 1) := by decide +kernel
theorem dX11_stampStatus_7 : decode cX11_stampStatus 7 = .ok (.iload_n 3, 1) := by decide +kernel
theorem dX11_stampStatus_8 : decode cX11_stampStatus 8 = .ok (.ifCond .eq 5, 3) := by decide +kernel
theorem dX11_stampStatus_11 : decode cX11_stampStatus 11 = .ok (.iload_n 3, 1) := by decide +kernel
theorem dX11_stampStatus_12 : decode cX11_stampStatus 12 = .ok (.ireturn, 1) := by decide +kernel
theorem dX11_stampStatus_13 : decode cX11_stampStatus 13 = .ok (.aload_n 0, 1) := by decide +kernel
theorem dX11_stampStatus_14 : decode cX11_stampStatus 14 = .ok (.getfield 54, 3) := by decide +kernel
theorem dX11_stampStatus_17 : decode cX11_stampStatus 17 = .ok (.invokevirtual 177, 3) := by decide +kernel
theorem dX11_stampStatus_20 : decode cX11_stampStatus 20 = .ok (.istore 4, 2) := by decide +kernel
theorem dX11_stampStatus_22 : decode cX11_stampStatus 22 = .ok (.iload 4, 2) := by decide +kernel
theorem dX11_stampStatus_24 : decode cX11_stampStatus 24 = .ok (.bipush 60, 2) := by decide +kernel
theorem dX11_stampStatus_26 : decode cX11_stampStatus 26 = .ok (.if_icmp .lt 6, 3) := by decide +kernel
theorem dX11_stampStatus_29 : decode cX11_stampStatus 29 = .ok (.bipush 7, 2) := by decide +kernel
theorem dX11_stampStatus_31 : decode cX11_stampStatus 31 = .ok (.ireturn, 1) := by decide +kernel
theorem dX11_stampStatus_32 : decode cX11_stampStatus 32 = .ok (.iload 4, 2) := by decide +kernel
theorem dX11_stampStatus_34 : decode cX11_stampStatus 34 = .ok (.ifCond .le 29, 3) := by decide +kernel
theorem dX11_stampStatus_37 : decode cX11_stampStatus 37 = .ok (.iload_n 2, 1) := by decide +kernel
theorem dX11_stampStatus_38 : decode cX11_stampStatus 38 = .ok (.aload_n 0, 1) := by decide +kernel
theorem dX11_stampStatus_39 : decode cX11_stampStatus 39 = .ok (.getfield 54, 3) := by decide +kernel
theorem dX11_stampStatus_42 : decode cX11_stampStatus 42 = .ok (.iload 4, 2) := by decide +kernel
theorem dX11_stampStatus_44 : decode cX11_stampStatus 44 = .ok (.iconst 1, 1) := by decide +kernel
theorem dX11_stampStatus_45 : decode cX11_stampStatus 45 = .ok (.isub, 1) := by decide +kernel
theorem dX11_stampStatus_46 : decode cX11_stampStatus 46 = .ok (.invokevirtual 195, 3) := by decide +kernel
theorem dX11_stampStatus_49 : decode cX11_stampStatus 49 = .ok (.checkcast 379, 3) := by decide +kernel
theorem dX11_stampStatus_52 : decode cX11_stampStatus 52 = .ok (.getfield 400, 3) := by decide +kernel
theorem dX11_stampStatus_55 : decode cX11_stampStatus 55 = .ok (.if_icmp .ge 8, 3) := by decide +kernel
theorem dX11_stampStatus_58 : decode cX11_stampStatus 58 = .ok (.bipush 12, 2) := by decide +kernel
theorem dX11_stampStatus_60 : decode cX11_stampStatus 60 = .ok (.goto 4, 3) := by decide +kernel
theorem dX11_stampStatus_63 : decode cX11_stampStatus 63 = .ok (.iconst 0, 1) := by decide +kernel
theorem dX11_stampStatus_64 : decode cX11_stampStatus 64 = .ok (.ireturn, 1) := by decide +kernel
theorem dX11_readStamps_0 : decode cX11_readStamps 0 = .ok (.iconst 0, 1) := by decide +kernel
theorem dX11_readStamps_1 : decode cX11_readStamps 1 = .ok (.istore_n 1, 1) := by decide +kernel
theorem dX11_readStamps_2 : decode cX11_readStamps 2 = .ok (.iload_n 1, 1) := by decide +kernel
theorem dX11_readStamps_3 : decode cX11_readStamps 3 = .ok (.aload_n 0, 1) := by decide +kernel
theorem dX11_readStamps_4 : decode cX11_readStamps 4 = .ok (.getfield 54, 3) := by decide +kernel
theorem dX11_readStamps_7 : decode cX11_readStamps 7 = .ok (.invokevirtual 177, 3) := by decide +kernel
theorem dX11_readStamps_10 : decode cX11_readStamps 10 = .ok (.if_icmp .ge 46, 3) := by decide +kernel
theorem dX11_readStamps_13 : decode cX11_readStamps 13 = .ok (.aload_n 0, 1) := by decide +kernel
theorem dX11_readStamps_14 : decode cX11_readStamps 14 = .ok (.getfield 54, 3) := by decide +kernel
theorem dX11_readStamps_17 : decode cX11_readStamps 17 = .ok (.iload_n 1, 1) := by decide +kernel
theorem dX11_readStamps_18 : decode cX11_readStamps 18 = .ok (.invokevirtual 195, 3) := by decide +kernel
theorem dX11_readStamps_21 : decode cX11_readStamps 21 = .ok (.checkcast 379, 3) := by decide +kernel
theorem dX11_readStamps_24 : decode cX11_readStamps 24 = .ok (.astore_n 2, 1) := by decide +kernel
theorem dX11_readStamps_25 : decode cX11_readStamps 25 = .ok (.aload_n 2, 1) := by decide +kernel
theorem dX11_readStamps_26 : decode cX11_readStamps 26 = .ok (.aload_n 0, 1) := by decide +kernel
theorem dX11_readStamps_27 : decode cX11_readStamps 27 = .ok (.getfield 41, 3) := by decide +kernel
theorem dX11_readStamps_30 : decode cX11_readStamps 30 = .ok (.aload_n 2, 1) := by decide +kernel
theorem dX11_readStamps_31 : decode cX11_readStamps 31 = .ok (.getfield 401, 3) := by decide +kernel
theorem dX11_readStamps_34 : decode cX11_readStamps 34 = .ok (.invokevirtual 195, 3) := by decide +kernel
theorem dX11_readStamps_37 : decode cX11_readStamps 37 = .ok (.checkcast 182, 3) := by decide +kernel
theorem dX11_readStamps_40 : decode cX11_readStamps 40 = .ok (.aload_n 2, 1) := by decide +kernel
theorem dX11_readStamps_41 : decode cX11_readStamps 41 = .ok (.getfield 400, 3) := by decide +kernel
theorem dX11_readStamps_44 : decode cX11_readStamps 44 = .ok (.invokevirtual 208, 3) := by decide +kernel
theorem dX11_readStamps_47 : decode cX11_readStamps 47 = .ok (.putfield 402, 3) := by decide +kernel
theorem dX11_readStamps_50 : decode cX11_readStamps 50 = .ok (.iinc 1 1, 3) := by decide +kernel
theorem dX11_readStamps_53 : decode cX11_readStamps 53 = .ok (.goto (-51), 3) := by decide +kernel
theorem dX11_readStamps_56 : decode cX11_readStamps 56 = .ok (.return_, 1) := by decide +kernel
theorem dX11_quarrels_0 : decode cX11_quarrels 0 = .ok (.bipush 12, 2) := by decide +kernel
theorem dX11_quarrels_2 : decode cX11_quarrels 2 = .ok (.newarray .int, 2) := by decide +kernel
theorem dX11_quarrels_4 : decode cX11_quarrels 4 = .ok (.astore_n 1, 1) := by decide +kernel
theorem dX11_quarrels_5 : decode cX11_quarrels 5 = .ok (.iconst 1, 1) := by decide +kernel
theorem dX11_quarrels_6 : decode cX11_quarrels 6 = .ok (.istore_n 2, 1) := by decide +kernel
theorem dX11_quarrels_7 : decode cX11_quarrels 7 = .ok (.iload_n 2, 1) := by decide +kernel
theorem dX11_quarrels_8 : decode cX11_quarrels 8 = .ok (.aload_n 0, 1) := by decide +kernel
theorem dX11_quarrels_9 : decode cX11_quarrels 9 = .ok (.getfield 54, 3) := by decide +kernel
theorem dX11_quarrels_12 : decode cX11_quarrels 12 = .ok (.invokevirtual 177, 3) := by decide +kernel
theorem dX11_quarrels_15 : decode cX11_quarrels 15 = .ok (.if_icmp .ge 91, 3) := by decide +kernel
theorem dX11_quarrels_18 : decode cX11_quarrels 18 = .ok (.aload_n 0, 1) := by decide +kernel
theorem dX11_quarrels_19 : decode cX11_quarrels 19 = .ok (.getfield 54, 3) := by decide +kernel
theorem dX11_quarrels_22 : decode cX11_quarrels 22 = .ok (.iload_n 2, 1) := by decide +kernel
theorem dX11_quarrels_23 : decode cX11_quarrels 23 = .ok (.invokevirtual 195, 3) := by decide +kernel
theorem dX11_quarrels_26 : decode cX11_quarrels 26 = .ok (.checkcast 379, 3) := by decide +kernel
theorem dX11_quarrels_29 : decode cX11_quarrels 29 = .ok (.astore_n 3, 1) := by decide +kernel
theorem dX11_quarrels_30 : decode cX11_quarrels 30 = .ok (.iconst 0, 1) := by decide +kernel
theorem dX11_quarrels_31 : decode cX11_quarrels 31 = .ok (.istore 4, 2) := by decide +kernel
theorem dX11_quarrels_33 : decode cX11_quarrels 33 = .ok (.iload 4, 2) := by decide +kernel
theorem dX11_quarrels_35 : decode cX11_quarrels 35 = .ok (.iload_n 2, 1) := by decide +kernel
theorem dX11_quarrels_36 : decode cX11_quarrels 36 = .ok (.if_icmp .ge 64, 3) := by decide +kernel
theorem dX11_quarrels_39 : decode cX11_quarrels 39 = .ok (.aload_n 0, 1) := by decide +kernel
theorem dX11_quarrels_40 : decode cX11_quarrels 40 = .ok (.getfield 54, 3) := by decide +kernel
theorem dX11_quarrels_43 : decode cX11_quarrels 43 = .ok (.iload 4, 2) := by decide +kernel
theorem dX11_quarrels_45 : decode cX11_quarrels 45 = .ok (.invokevirtual 195, 3) := by decide +kernel
theorem dX11_quarrels_48 : decode cX11_quarrels 48 = .ok (.checkcast 379, 3) := by decide +kernel
theorem dX11_quarrels_51 : decode cX11_quarrels 51 = .ok (.astore 5, 2) := by decide +kernel
theorem dX11_quarrels_53 : decode cX11_quarrels 53 = .ok (.aload 5, 2) := by decide +kernel
theorem dX11_quarrels_55 : decode cX11_quarrels 55 = .ok (.aload_n 3, 1) := by decide +kernel
theorem dX11_quarrels_56 : decode cX11_quarrels 56 = .ok (.invokevirtual 385, 3) := by decide +kernel
theorem dX11_quarrels_59 : decode cX11_quarrels 59 = .ok (.ifCond .eq 35, 3) := by decide +kernel
theorem dX11_quarrels_62 : decode cX11_quarrels 62 = .ok (.aload_n 1, 1) := by decide +kernel
theorem dX11_quarrels_63 : decode cX11_quarrels 63 = .ok (.aload 5, 2) := by decide +kernel
theorem dX11_quarrels_65 : decode cX11_quarrels 65 = .ok (.getfield 401, 3) := by decide +kernel
theorem dX11_quarrels_68 : decode cX11_quarrels 68 = .ok (.dup2, 1) := by decide +kernel
theorem dX11_quarrels_69 : decode cX11_quarrels 69 = .ok (.iaload, 1) := by decide +kernel
theorem dX11_quarrels_70 : decode cX11_quarrels 70 = .ok (.iconst 1, 1) := by decide +kernel
theorem dX11_quarrels_71 : decode cX11_quarrels 71 = .ok (.aload_n 3, 1) := by decide +kernel
theorem dX11_quarrels_72 : decode cX11_quarrels 72 = .ok (.getfield 401, 3) := by decide +kernel
theorem dX11_quarrels_75 : decode cX11_quarrels 75 = .ok (.ishl, 1) := by decide +kernel
theorem dX11_quarrels_76 : decode cX11_quarrels 76 = .ok (.ior, 1) := by decide +kernel
theorem dX11_quarrels_77 : decode cX11_quarrels 77 = .ok (.iastore, 1) := by decide +kernel
theorem dX11_quarrels_78 : decode cX11_quarrels 78 = .ok (.aload_n 1, 1) := by decide +kernel
theorem dX11_quarrels_79 : decode cX11_quarrels 79 = .ok (.aload_n 3, 1) := by decide +kernel
theorem dX11_quarrels_80 : decode cX11_quarrels 80 = .ok (.getfield 401, 3) := by decide +kernel
theorem dX11_quarrels_83 : decode cX11_quarrels 83 = .ok (.dup2, 1) := by decide +kernel
theorem dX11_quarrels_84 : decode cX11_quarrels 84 = .ok (.iaload, 1) := by decide +kernel
theorem dX11_quarrels_85 : decode cX11_quarrels 85 = .ok (.iconst 1, 1) := by decide +kernel
theorem dX11_quarrels_86 : decode cX11_quarrels 86 = .ok (.aload 5, 2) := by decide +kernel
theorem dX11_quarrels_88 : decode cX11_quarrels 88 = .ok (.getfield 401, 3) := by decide +kernel
theorem dX11_quarrels_91 : decode cX11_quarrels 91 = .ok (.ishl, 1) := by decide +kernel
theorem dX11_quarrels_92 : decode cX11_quarrels 92 = .ok (.ior, 1) := by decide +kernel
theorem dX11_quarrels_93 : decode cX11_quarrels 93 = .ok (.iastore, 1) := by decide +kernel
theorem dX11_quarrels_94 : decode cX11_quarrels 94 = .ok (.iinc 4 1, 3) := by decide +kernel
theorem dX11_quarrels_97 : decode cX11_quarrels 97 = .ok (.goto (-64), 3) := by decide +kernel
theorem dX11_quarrels_100 : decode cX11_quarrels 100 = .ok (.iinc 2 1, 3) := by decide +kernel
theorem dX11_quarrels_103 : decode cX11_quarrels 103 = .ok (.goto (-96), 3) := by decide +kernel
theorem dX11_quarrels_106 : decode cX11_quarrels 106 = .ok (.aload_n 1, 1) := by decide +kernel
theorem dX11_quarrels_107 : decode cX11_quarrels 107 = .ok (.areturn, 1) := by decide +kernel
theorem dX11_isBlamable_0 : decode cX11_isBlamable 0 = .ok (.iconst 0, 1) := by decide +kernel
theorem dX11_isBlamable_1 : decode cX11_isBlamable 1 = .ok (.istore_n 3, 1) := by decide +kernel
theorem dX11_isBlamable_2 : decode cX11_isBlamable 2 = .ok (.iload_n 3, 1) := by decide +kernel
theorem dX11_isBlamable_3 : decode cX11_isBlamable 3 = .ok (.aload_n 0, 1) := by decide +kernel
theorem dX11_isBlamable_4 : decode cX11_isBlamable 4 = .ok (.getfield 41, 3) := by decide +kernel
theorem dX11_isBlamable_7 : decode cX11_isBlamable 7 = .ok (.invokevirtual 177, 3) := by decide +kernel
theorem dX11_isBlamable_10 : decode cX11_isBlamable 10 = .ok (.if_icmp .ge 41, 3) := by decide +kernel
theorem dX11_isBlamable_13 : decode cX11_isBlamable 13 = .ok (.iload_n 1, 1) := by decide +kernel
theorem dX11_isBlamable_14 : decode cX11_isBlamable 14 = .ok (.iload_n 3, 1) := by decide +kernel
theorem dX11_isBlamable_15 : decode cX11_isBlamable 15 = .ok (.ishr, 1) := by decide +kernel
theorem dX11_isBlamable_16 : decode cX11_isBlamable 16 = .ok (.iconst 1, 1) := by decide +kernel
theorem dX11_isBlamable_17 : decode cX11_isBlamable 17 = .ok (.iand, 1) := by decide +kernel
theorem dX11_isBlamable_18 : decode cX11_isBlamable 18 = .ok (.ifCond .ne 7, 3) := by decide +kernel
theorem dX11_isBlamable_21 : decode cX11_isBlamable 21 = .ok (.iconst 1, 1) := by decide +kernel
theorem dX11_isBlamable_22 : decode cX11_isBlamable 22 = .ok (.goto 4, 3) := by decide +kernel
theorem dX11_isBlamable_25 : decode cX11_isBlamable 25 = .ok (.iconst 0, 1) := by decide +kernel
theorem dX11_isBlamable_26 : decode cX11_isBlamable 26 = .ok (.istore 4, 2) := by decide +kernel
theorem dX11_isBlamable_28 : decode cX11_isBlamable 28 = .ok (.iload 4, 2) := by decide +kernel
theorem dX11_isBlamable_30 : decode cX11_isBlamable 30 = .ok (.ifCond .eq 15, 3) := by decide +kernel
theorem dX11_isBlamable_33 : decode cX11_isBlamable 33 = .ok (.aload_n 2, 1) := by decide +kernel
theorem dX11_isBlamable_34 : decode cX11_isBlamable 34 = .ok (.iload_n 3, 1) := by decide +kernel
theorem dX11_isBlamable_35 : decode cX11_isBlamable 35 = .ok (.iaload, 1) := by decide +kernel
theorem dX11_isBlamable_36 : decode cX11_isBlamable 36 = .ok (.iload_n 1, 1) := by decide +kernel
theorem dX11_isBlamable_37 : decode cX11_isBlamable 37 = .ok (.iconst (-1), 1) := by decide +kernel
theorem dX11_isBlamable_38 : decode cX11_isBlamable 38 = .ok (.ixor, 1) := by decide +kernel
theorem dX11_isBlamable_39 : decode cX11_isBlamable 39 = .ok (.iand, 1) := by decide +kernel
theorem dX11_isBlamable_40 : decode cX11_isBlamable 40 = .ok (.ifCond .eq 5, 3) := by decide +kernel
theorem dX11_isBlamable_43 : decode cX11_isBlamable 43 = .ok (.iconst 0, 1) := by decide +kernel
theorem dX11_isBlamable_44 : decode cX11_isBlamable 44 = .ok (.ireturn, 1) := by decide +kernel
theorem dX11_isBlamable_45 : decode cX11_isBlamable 45 = .ok (.iinc 3 1, 3) := by decide +kernel
theorem dX11_isBlamable_48 : decode cX11_isBlamable 48 = .ok (.goto (-46), 3) := by decide +kernel
theorem dX11_isBlamable_51 : decode cX11_isBlamable 51 = .ok (.iconst 1, 1) := by decide +kernel
theorem dX11_isBlamable_52 : decode cX11_isBlamable 52 = .ok (.ireturn, 1) := by decide +kernel
theorem dX11_program_0 : decode cX11_program 0 = .ok (.aload_n 0, 1) := by decide +kernel
theorem dX11_program_1 : decode cX11_program 1 = .ok (.iload_n 1, 1) := by decide +kernel
theorem dX11_program_2 : decode cX11_program 2 = .ok (.iconst 0, 1) := by decide +kernel
theorem dX11_program_3 : decode cX11_program 3 = .ok (.aload_n 0, 1) := by decide +kernel
theorem dX11_program_4 : decode cX11_program 4 = .ok (.getfield 281, 3) := by decide +kernel
theorem dX11_program_7 : decode cX11_program 7 = .ok (.invokestatic 139, 3) := by decide +kernel
theorem dX11_program_10 : decode cX11_program 10 = .ok (.ifCond .eq 7, 3) := by decide +kernel
theorem dX11_program_13 : decode cX11_program 13 = .ok (.iconst 0, 1) := by decide +kernel
theorem dX11_program_14 : decode cX11_program 14 = .ok (.goto 4, 3) := by decide +kernel
theorem dX11_program_17 : decode cX11_program 17 = .ok (.iconst 5, 1) := by decide +kernel
theorem dX11_program_18 : decode cX11_program 18 = .ok (.putfield 9, 3) := by decide +kernel
theorem dX11_program_21 : decode cX11_program 21 = .ok (.aload_n 0, 1) := by decide +kernel
theorem dX11_program_22 : decode cX11_program 22 = .ok (.getfield 9, 3) := by decide +kernel
theorem dX11_program_25 : decode cX11_program 25 = .ok (.ifCond .eq 5, 3) := by decide +kernel
theorem dX11_program_28 : decode cX11_program 28 = .ok (.iconst (-1), 1) := by decide +kernel
theorem dX11_program_29 : decode cX11_program 29 = .ok (.ireturn, 1) := by decide +kernel
theorem dX11_program_30 : decode cX11_program 30 = .ok (.new 287, 3) := by decide +kernel
theorem dX11_program_33 : decode cX11_program 33 = .ok (.dup, 1) := by decide +kernel
theorem dX11_program_34 : decode cX11_program 34 = .ok (.aload_n 0, 1) := by decide +kernel
theorem dX11_program_35 : decode cX11_program 35 = .ok (.getfield 19, 3) := by decide +kernel
theorem dX11_program_38 : decode cX11_program 38 = .ok (.iload_n 1, 1) := by decide +kernel
theorem dX11_program_39 : decode cX11_program 39 = .ok (.ldc_w 408, 3) := by decide +kernel
theorem dX11_program_42 : decode cX11_program 42 = .ok (.ldc_w 410, 3) := by decide +kernel
theorem dX11_program_45 : decode cX11_program 45 = .ok (.invokespecial 295, 3) := by decide +kernel
theorem dX11_program_48 : decode cX11_program 48 = .ok (.astore_n 2, 1) := by decide +kernel
theorem dX11_program_49 : decode cX11_program 49 = .ok (.aload_n 2, 1) := by decide +kernel
theorem dX11_program_50 : decode cX11_program 50 = .ok (.invokevirtual 298, 3) := by decide +kernel
theorem dX11_program_53 : decode cX11_program 53 = .ok (.new 406, 3) := by decide +kernel
theorem dX11_program_56 : decode cX11_program 56 = .ok (.dup, 1) := by decide +kernel
theorem dX11_program_57 : decode cX11_program 57 = .ok (.aload_n 2, 1) := by decide +kernel
theorem dX11_program_58 : decode cX11_program 58 = .ok (.invokespecial 412, 3) := by decide +kernel
theorem dX11_program_61 : decode cX11_program 61 = .ok (.astore_n 3, 1) := by decide +kernel
theorem dX11_program_62 : decode cX11_program 62 = .ok (.aload_n 3, 1) := by decide +kernel
theorem dX11_program_63 : decode cX11_program 63 = .ok (.invokevirtual 414, 3) := by decide +kernel
theorem dX11_program_66 : decode cX11_program 66 = .ok (.aload_n 0, 1) := by decide +kernel
theorem dX11_program_67 : decode cX11_program 67 = .ok (.aload_n 2, 1) := by decide +kernel
theorem dX11_program_68 : decode cX11_program 68 = .ok (.invokevirtual 307, 3) := by decide +kernel
theorem dX11_program_71 : decode cX11_program 71 = .ok (.aload_n 0, 1) := by decide +kernel
theorem dX11_program_72 : decode cX11_program 72 = .ok (.getfield 9, 3) := by decide +kernel
theorem dX11_program_75 : decode cX11_program 75 = .ok (.ifCond .eq 5, 3) := by decide +kernel
theorem dX11_program_78 : decode cX11_program 78 = .ok (.iconst (-1), 1) := by decide +kernel
theorem dX11_program_79 : decode cX11_program 79 = .ok (.ireturn, 1) := by decide +kernel
theorem dX11_program_80 : decode cX11_program 80 = .ok (.aload_n 0, 1) := by decide +kernel
theorem dX11_program_81 : decode cX11_program 81 = .ok (.aload_n 3, 1) := by decide +kernel
theorem dX11_program_82 : decode cX11_program 82 = .ok (.putfield 417, 3) := by decide +kernel
theorem dX11_program_85 : decode cX11_program 85 = .ok (.aload_n 3, 1) := by decide +kernel
theorem dX11_program_86 : decode cX11_program 86 = .ok (.getfield 421, 3) := by decide +kernel
theorem dX11_program_89 : decode cX11_program 89 = .ok (.ireturn, 1) := by decide +kernel
theorem dX11_run_0 : decode cX11_run 0 = .ok (.aload_n 0, 1) := by decide +kernel
theorem dX11_run_1 : decode cX11_run 1 = .ok (.aload_n 0, 1) := by decide +kernel
theorem dX11_run_2 : decode cX11_run 2 = .ok (.iload_n 1, 1) := by decide +kernel
theorem dX11_run_3 : decode cX11_run 3 = .ok (.iload_n 2, 1) := by decide +kernel
theorem dX11_run_4 : decode cX11_run 4 = .ok (.invokevirtual 424, 3) := by decide +kernel
theorem dX11_run_7 : decode cX11_run 7 = .ok (.putfield 9, 3) := by decide +kernel
theorem dX11_run_10 : decode cX11_run 10 = .ok (.aload_n 0, 1) := by decide +kernel
theorem dX11_run_11 : decode cX11_run 11 = .ok (.getfield 9, 3) := by decide +kernel
theorem dX11_run_14 : decode cX11_run 14 = .ok (.ifCond .ne 10, 3) := by decide +kernel
theorem dX11_run_17 : decode cX11_run 17 = .ok (.aload_n 0, 1) := by decide +kernel
theorem dX11_run_18 : decode cX11_run 18 = .ok (.getfield 417, 3) := by decide +kernel
theorem dX11_run_21 : decode cX11_run 21 = .ok (.ifnonnull 5, 3) := by decide +kernel
theorem dX11_run_24 : decode cX11_run 24 = .ok (.iconst (-1), 1) := by decide +kernel
theorem dX11_run_25 : decode cX11_run 25 = .ok (.ireturn, 1) := by decide +kernel
theorem dX11_run_26 : decode cX11_run 26 = .ok (.aload_n 0, 1) := by decide +kernel
theorem dX11_run_27 : decode cX11_run 27 = .ok (.invokevirtual 205, 3) := by decide +kernel
theorem dX11_run_30 : decode cX11_run 30 = .ok (.aload_n 0, 1) := by decide +kernel
theorem dX11_run_31 : decode cX11_run 31 = .ok (.getfield 60, 3) := by decide +kernel
theorem dX11_run_34 : decode cX11_run 34 = .ok (.aload_n 0, 1) := by decide +kernel
theorem dX11_run_35 : decode cX11_run 35 = .ok (.getfield 417, 3) := by decide +kernel
theorem dX11_run_38 : decode cX11_run 38 = .ok (.aload_n 0, 1) := by decide +kernel
theorem dX11_run_39 : decode cX11_run 39 = .ok (.getfield 41, 3) := by decide +kernel
theorem dX11_run_42 : decode cX11_run 42 = .ok (.iload_n 1, 1) := by decide +kernel
theorem dX11_run_43 : decode cX11_run 43 = .ok (.invokevirtual 195, 3) := by decide +kernel
theorem dX11_run_46 : decode cX11_run 46 = .ok (.checkcast 182, 3) := by decide +kernel
theorem dX11_run_49 : decode cX11_run 49 = .ok (.iload_n 2, 1) := by decide +kernel
theorem dX11_run_50 : decode cX11_run 50 = .ok (.invokevirtual 427, 3) := by decide +kernel
theorem dX11_run_53 : decode cX11_run 53 = .ok (.ireturn, 1) := by decide +kernel
theorem dX11_ran_0 : decode cX11_ran 0 = .ok (.iload_n 1, 1) := by decide +kernel
theorem dX11_ran_1 : decode cX11_ran 1 = .ok (.iconst 0, 1) := by decide +kernel
theorem dX11_ran_2 : decode cX11_ran 2 = .ok (.iconst 2, 1) := by decide +kernel
theorem dX11_ran_3 : decode cX11_ran 3 = .ok (.invokestatic 139, 3) := by decide +kernel
theorem dX11_ran_6 : decode cX11_ran 6 = .ok (.ifCond .ne 11, 3) := by decide +kernel
theorem dX11_ran_9 : decode cX11_ran 9 = .ok (.aload_n 0, 1) := by decide +kernel
theorem dX11_ran_10 : decode cX11_ran 10 = .ok (.iconst 5, 1) := by decide +kernel
theorem dX11_ran_11 : decode cX11_ran 11 = .ok (.putfield 9, 3) := by decide +kernel
theorem dX11_ran_14 : decode cX11_ran 14 = .ok (.goto 23, 3) := by decide +kernel
theorem dX11_ran_17 : decode cX11_ran 17 = .ok (.aload_n 0, 1) := by decide +kernel
theorem dX11_ran_18 : decode cX11_ran 18 = .ok (.aload_n 0, 1) := by decide +kernel
theorem dX11_ran_19 : decode cX11_ran 19 = .ok (.getfield 60, 3) := by decide +kernel
theorem dX11_ran_22 : decode cX11_ran 22 = .ok (.getfield 431, 3) := by decide +kernel
theorem dX11_ran_25 : decode cX11_ran 25 = .ok (.ifnonnull 8, 3) := by decide +kernel
theorem dX11_ran_28 : decode cX11_ran 28 = .ok (.bipush 8, 2) := by decide +kernel
theorem dX11_ran_30 : decode cX11_ran 30 = .ok (.goto 4, 3) := by decide +kernel
theorem dX11_ran_33 : decode cX11_ran 33 = .ok (.iconst 0, 1) := by decide +kernel
theorem dX11_ran_34 : decode cX11_ran 34 = .ok (.putfield 9, 3) := by decide +kernel
theorem dX11_ran_37 : decode cX11_ran 37 = .ok (.aload_n 0, 1) := by decide +kernel
theorem dX11_ran_38 : decode cX11_ran 38 = .ok (.getfield 9, 3) := by decide +kernel
theorem dX11_ran_41 : decode cX11_ran 41 = .ok (.ifCond .eq 5, 3) := by decide +kernel
theorem dX11_ran_44 : decode cX11_ran 44 = .ok (.iconst (-1), 1) := by decide +kernel
theorem dX11_ran_45 : decode cX11_ran 45 = .ok (.ireturn, 1) := by decide +kernel
theorem dX11_ran_46 : decode cX11_ran 46 = .ok (.iload_n 1, 1) := by decide +kernel
theorem dX11_ran_47 : decode cX11_ran 47 = .ok (.ifCond .ne 11, 3) := by decide +kernel
theorem dX11_ran_50 : decode cX11_ran 50 = .ok (.aload_n 0, 1) := by decide +kernel
theorem dX11_ran_51 : decode cX11_ran 51 = .ok (.getfield 60, 3) := by decide +kernel
theorem dX11_ran_54 : decode cX11_ran 54 = .ok (.getfield 434, 3) := by decide +kernel
theorem dX11_ran_57 : decode cX11_ran 57 = .ok (.ireturn, 1) := by decide +kernel
theorem dX11_ran_58 : decode cX11_ran 58 = .ok (.iload_n 1, 1) := by decide +kernel
theorem dX11_ran_59 : decode cX11_ran 59 = .ok (.iconst 1, 1) := by decide +kernel
theorem dX11_ran_60 : decode cX11_ran 60 = .ok (.if_icmp .ne 13, 3) := by decide +kernel
theorem dX11_ran_63 : decode cX11_ran 63 = .ok (.aload_n 0, 1) := by decide +kernel
theorem dX11_ran_64 : decode cX11_ran 64 = .ok (.getfield 60, 3) := by decide +kernel
theorem dX11_ran_67 : decode cX11_ran 67 = .ok (.getfield 436, 3) := by decide +kernel
theorem dX11_ran_70 : decode cX11_ran 70 = .ok (.goto 10, 3) := by decide +kernel
theorem dX11_ran_73 : decode cX11_ran 73 = .ok (.aload_n 0, 1) := by decide +kernel
theorem dX11_ran_74 : decode cX11_ran 74 = .ok (.getfield 60, 3) := by decide +kernel
theorem dX11_ran_77 : decode cX11_ran 77 = .ok (.getfield 439, 3) := by decide +kernel
theorem dX11_ran_80 : decode cX11_ran 80 = .ok (.ireturn, 1) := by decide +kernel
theorem dX11_kept_0 : decode cX11_kept 0 = .ok (.aload_n 0, 1) := by decide +kernel
theorem dX11_kept_1 : decode cX11_kept 1 = .ok (.aload_n 0, 1) := by decide +kernel
theorem dX11_kept_2 : decode cX11_kept 2 = .ok (.getfield 60, 3) := by decide +kernel
theorem dX11_kept_5 : decode cX11_kept 5 = .ok (.iload_n 1, 1) := by decide +kernel
theorem dX11_kept_6 : decode cX11_kept 6 = .ok (.invokevirtual 442, 3) := by decide +kernel
theorem dX11_kept_9 : decode cX11_kept 9 = .ok (.ifCond .eq 7, 3) := by decide +kernel
theorem dX11_kept_12 : decode cX11_kept 12 = .ok (.iconst 0, 1) := by decide +kernel
theorem dX11_kept_13 : decode cX11_kept 13 = .ok (.goto 5, 3) := by decide +kernel
theorem dX11_kept_16 : decode cX11_kept 16 = .ok (.bipush 8, 2) := by decide +kernel
theorem dX11_kept_18 : decode cX11_kept 18 = .ok (.putfield 9, 3) := by decide +kernel
theorem dX11_kept_21 : decode cX11_kept 21 = .ok (.aload_n 0, 1) := by decide +kernel
theorem dX11_kept_22 : decode cX11_kept 22 = .ok (.getfield 9, 3) := by decide +kernel
theorem dX11_kept_25 : decode cX11_kept 25 = .ok (.ifCond .ne 15, 3) := by decide +kernel
theorem dX11_kept_28 : decode cX11_kept 28 = .ok (.aload_n 0, 1) := by decide +kernel
theorem dX11_kept_29 : decode cX11_kept 29 = .ok (.getfield 60, 3) := by decide +kernel
theorem dX11_kept_32 : decode cX11_kept 32 = .ok (.getfield 445, 3) := by decide +kernel
theorem dX11_kept_35 : decode cX11_kept 35 = .ok (.iload_n 1, 1) := by decide +kernel
theorem dX11_kept_36 : decode cX11_kept 36 = .ok (.laload, 1) := by decide +kernel
theorem dX11_kept_37 : decode cX11_kept 37 = .ok (.goto 6, 3) := by decide +kernel
theorem dX11_kept_40 : decode cX11_kept 40 = .ok (.ldc2_w 95, 3) := by decide +kernel
theorem dX11_kept_43 : decode cX11_kept 43 = .ok (.lreturn, 1) := by decide +kernel
theorem dX11_runStatus_0 : decode cX11_runStatus 0 = .ok (.aload_n 0, 1) := by decide +kernel
theorem dX11_runStatus_1 : decode cX11_runStatus 1 = .ok (.iload_n 1, 1) := by decide +kernel
theorem dX11_runStatus_2 : decode cX11_runStatus 2 = .ok (.invokevirtual 189, 3) := by decide +kernel
theorem dX11_runStatus_5 : decode cX11_runStatus 5 = .ok (.ifCond .ne 5, 3) := by decide +kernel
theorem dX11_runStatus_8 : decode cX11_runStatus 8 = .ok (.iconst 2, 1) := by decide +kernel
theorem dX11_runStatus_9 : decode cX11_runStatus 9 = .ok (.ireturn, 1) := by decide +kernel
theorem dX11_runStatus_10 : decode cX11_runStatus 10 = .ok (.iload_n 2, 1) := by decide +kernel
theorem dX11_runStatus_11 : decode cX11_runStatus 11 = .ok (.iconst 0, 1) := by decide +kernel
theorem dX11_runStatus_12 : decode cX11_runStatus 12 = .ok (.ldc_w 448, 3) := by decide +kernel
theorem dX11_runStatus_15 : decode cX11_runStatus 15 = .ok (.invokestatic 139, 3) := by decide +kernel
theorem dX11_runStatus_18 : decode cX11_runStatus 18 = .ok (.ifCond .ne 5, 3) := by decide +kernel
theorem dX11_runStatus_21 : decode cX11_runStatus 21 = .ok (.iconst 5, 1) := by decide +kernel
theorem dX11_runStatus_22 : decode cX11_runStatus 22 = .ok (.ireturn, 1) := by decide +kernel
theorem dX11_runStatus_23 : decode cX11_runStatus 23 = .ok (.aload_n 0, 1) := by decide +kernel
theorem dX11_runStatus_24 : decode cX11_runStatus 24 = .ok (.getfield 417, 3) := by decide +kernel
theorem dX11_runStatus_27 : decode cX11_runStatus 27 = .ok (.ifnonnull 8, 3) := by decide +kernel
theorem dX11_runStatus_30 : decode cX11_runStatus 30 = .ok (.bipush 8, 2) := by decide +kernel
theorem dX11_runStatus_32 : decode cX11_runStatus 32 = .ok (.goto 4, 3) := by decide +kernel
theorem dX11_runStatus_35 : decode cX11_runStatus 35 = .ok (.iconst 0, 1) := by decide +kernel
theorem dX11_runStatus_36 : decode cX11_runStatus 36 = .ok (.ireturn, 1) := by decide +kernel
theorem dX11_answers_0 : decode cX11_answers 0 = .ok (.aload_n 0, 1) := by decide +kernel
theorem dX11_answers_1 : decode cX11_answers 1 = .ok (.aload_n 0, 1) := by decide +kernel
theorem dX11_answers_2 : decode cX11_answers 2 = .ok (.iload_n 1, 1) := by decide +kernel
theorem dX11_answers_3 : decode cX11_answers 3 = .ok (.iload_n 2, 1) := by decide +kernel
theorem dX11_answers_4 : decode cX11_answers 4 = .ok (.iload_n 3, 1) := by decide +kernel
theorem dX11_answers_5 : decode cX11_answers 5 = .ok (.bipush 12, 2) := by decide +kernel
theorem dX11_answers_7 : decode cX11_answers 7 = .ok (.invokevirtual 449, 3) := by decide +kernel
theorem dX11_answers_10 : decode cX11_answers 10 = .ok (.putfield 9, 3) := by decide +kernel
theorem dX11_answers_13 : decode cX11_answers 13 = .ok (.aload_n 0, 1) := by decide +kernel
theorem dX11_answers_14 : decode cX11_answers 14 = .ok (.getfield 9, 3) := by decide +kernel
theorem dX11_answers_17 : decode cX11_answers 17 = .ok (.ifCond .ne 27, 3) := by decide +kernel
theorem dX11_answers_20 : decode cX11_answers 20 = .ok (.aload_n 0, 1) := by decide +kernel
theorem dX11_answers_21 : decode cX11_answers 21 = .ok (.getfield 15, 3) := by decide +kernel
theorem dX11_answers_24 : decode cX11_answers 24 = .ok (.iload_n 1, 1) := by decide +kernel
theorem dX11_answers_25 : decode cX11_answers 25 = .ok (.aaload, 1) := by decide +kernel
theorem dX11_answers_26 : decode cX11_answers 26 = .ok (.aload_n 0, 1) := by decide +kernel
theorem dX11_answers_27 : decode cX11_answers 27 = .ok (.getfield 15, 3) := by decide +kernel
theorem dX11_answers_30 : decode cX11_answers 30 = .ok (.iload_n 2, 1) := by decide +kernel
theorem dX11_answers_31 : decode cX11_answers 31 = .ok (.aaload, 1) := by decide +kernel
theorem dX11_answers_32 : decode cX11_answers 32 = .ok (.iload_n 3, 1) := by decide +kernel
theorem dX11_answers_33 : decode cX11_answers 33 = .ok (.invokestatic 453, 3) := by decide +kernel
theorem dX11_answers_36 : decode cX11_answers 36 = .ok (.ifCond .ne 8, 3) := by decide +kernel
theorem dX11_answers_39 : decode cX11_answers 39 = .ok (.aload_n 0, 1) := by decide +kernel
theorem dX11_answers_40 : decode cX11_answers 40 = .ok (.iconst 5, 1) := by decide +kernel
theorem dX11_answers_41 : decode cX11_answers 41 = .ok (.putfield 9, 3) := by decide +kernel
theorem dX11_answers_44 : decode cX11_answers 44 = .ok (.aload_n 0, 1) := by decide +kernel
theorem dX11_answers_45 : decode cX11_answers 45 = .ok (.getfield 9, 3) := by decide +kernel
theorem dX11_answers_48 : decode cX11_answers 48 = .ok (.ifCond .eq 5, 3) := by decide +kernel
theorem dX11_answers_51 : decode cX11_answers 51 = .ok (.iconst (-1), 1) := by decide +kernel
theorem dX11_answers_52 : decode cX11_answers 52 = .ok (.ireturn, 1) := by decide +kernel
theorem dX11_answers_53 : decode cX11_answers 53 = .ok (.aload_n 0, 1) := by decide +kernel
theorem dX11_answers_54 : decode cX11_answers 54 = .ok (.new 457, 3) := by decide +kernel
theorem dX11_answers_57 : decode cX11_answers 57 = .ok (.dup, 1) := by decide +kernel
theorem dX11_answers_58 : decode cX11_answers 58 = .ok (.aload_n 0, 1) := by decide +kernel
theorem dX11_answers_59 : decode cX11_answers 59 = .ok (.getfield 15, 3) := by decide +kernel
theorem dX11_answers_62 : decode cX11_answers 62 = .ok (.iload_n 1, 1) := by decide +kernel
theorem dX11_answers_63 : decode cX11_answers 63 = .ok (.aaload, 1) := by decide +kernel
theorem dX11_answers_64 : decode cX11_answers 64 = .ok (.getfield 101, 3) := by decide +kernel
theorem dX11_answers_67 : decode cX11_answers 67 = .ok (.aload_n 0, 1) := by decide +kernel
theorem dX11_answers_68 : decode cX11_answers 68 = .ok (.getfield 15, 3) := by decide +kernel
theorem dX11_answers_71 : decode cX11_answers 71 = .ok (.iload_n 2, 1) := by decide +kernel
theorem dX11_answers_72 : decode cX11_answers 72 = .ok (.aaload, 1) := by decide +kernel
theorem dX11_answers_73 : decode cX11_answers 73 = .ok (.getfield 101, 3) := by decide +kernel
theorem dX11_answers_76 : decode cX11_answers 76 = .ok (.iload_n 3, 1) := by decide +kernel
theorem dX11_answers_77 : decode cX11_answers 77 = .ok (.invokespecial 459, 3) := by decide +kernel
theorem dX11_answers_80 : decode cX11_answers 80 = .ok (.putfield 462, 3) := by decide +kernel
theorem dX11_answers_83 : decode cX11_answers 83 = .ok (.aload_n 0, 1) := by decide +kernel
theorem dX11_answers_84 : decode cX11_answers 84 = .ok (.getfield 462, 3) := by decide +kernel
theorem dX11_answers_87 : decode cX11_answers 87 = .ok (.invokevirtual 466, 3) := by decide +kernel
theorem dX11_answers_90 : decode cX11_answers 90 = .ok (.iload_n 3, 1) := by decide +kernel
theorem dX11_answers_91 : decode cX11_answers 91 = .ok (.aload_n 0, 1) := by decide +kernel
theorem dX11_answers_92 : decode cX11_answers 92 = .ok (.getfield 462, 3) := by decide +kernel
theorem dX11_answers_95 : decode cX11_answers 95 = .ok (.getfield 469, 3) := by decide +kernel
theorem dX11_answers_98 : decode cX11_answers 98 = .ok (.isub, 1) := by decide +kernel
theorem dX11_answers_99 : decode cX11_answers 99 = .ok (.ireturn, 1) := by decide +kernel
theorem dX11_span_0 : decode cX11_span 0 = .ok (.iload_n 1, 1) := by decide +kernel
theorem dX11_span_1 : decode cX11_span 1 = .ok (.iconst 0, 1) := by decide +kernel
theorem dX11_span_2 : decode cX11_span 2 = .ok (.iconst 1, 1) := by decide +kernel
theorem dX11_span_3 : decode cX11_span 3 = .ok (.invokestatic 139, 3) := by decide +kernel
theorem dX11_span_6 : decode cX11_span 6 = .ok (.ifCond .ne 11, 3) := by decide +kernel
theorem dX11_span_9 : decode cX11_span 9 = .ok (.aload_n 0, 1) := by decide +kernel
theorem dX11_span_10 : decode cX11_span 10 = .ok (.iconst 5, 1) := by decide +kernel
theorem dX11_span_11 : decode cX11_span 11 = .ok (.putfield 9, 3) := by decide +kernel
theorem dX11_span_14 : decode cX11_span 14 = .ok (.goto 20, 3) := by decide +kernel
theorem dX11_span_17 : decode cX11_span 17 = .ok (.aload_n 0, 1) := by decide +kernel
theorem dX11_span_18 : decode cX11_span 18 = .ok (.aload_n 0, 1) := by decide +kernel
theorem dX11_span_19 : decode cX11_span 19 = .ok (.getfield 462, 3) := by decide +kernel
theorem dX11_span_22 : decode cX11_span 22 = .ok (.ifnonnull 8, 3) := by decide +kernel
theorem dX11_span_25 : decode cX11_span 25 = .ok (.bipush 8, 2) := by decide +kernel
theorem dX11_span_27 : decode cX11_span 27 = .ok (.goto 4, 3) := by decide +kernel
theorem dX11_span_30 : decode cX11_span 30 = .ok (.iconst 0, 1) := by decide +kernel
theorem dX11_span_31 : decode cX11_span 31 = .ok (.putfield 9, 3) := by decide +kernel
theorem dX11_span_34 : decode cX11_span 34 = .ok (.aload_n 0, 1) := by decide +kernel
theorem dX11_span_35 : decode cX11_span 35 = .ok (.getfield 9, 3) := by decide +kernel
theorem dX11_span_38 : decode cX11_span 38 = .ok (.ifCond .ne 10, 3) := by decide +kernel
theorem dX11_span_41 : decode cX11_span 41 = .ok (.aload_n 0, 1) := by decide +kernel
theorem dX11_span_42 : decode cX11_span 42 = .ok (.getfield 462, 3) := by decide +kernel
theorem dX11_span_45 : decode cX11_span 45 = .ok (.ifnonnull 5, 3) := by decide +kernel
theorem dX11_span_48 : decode cX11_span 48 = .ok (.iconst (-1), 1) := by decide +kernel
theorem dX11_span_49 : decode cX11_span 49 = .ok (.ireturn, 1) := by decide +kernel
theorem dX11_span_50 : decode cX11_span 50 = .ok (.iload_n 1, 1) := by decide +kernel
theorem dX11_span_51 : decode cX11_span 51 = .ok (.ifCond .ne 13, 3) := by decide +kernel
theorem dX11_span_54 : decode cX11_span 54 = .ok (.aload_n 0, 1) := by decide +kernel
theorem dX11_span_55 : decode cX11_span 55 = .ok (.getfield 462, 3) := by decide +kernel
theorem dX11_span_58 : decode cX11_span 58 = .ok (.getfield 472, 3) := by decide +kernel
theorem dX11_span_61 : decode cX11_span 61 = .ok (.goto 10, 3) := by decide +kernel
theorem dX11_span_64 : decode cX11_span 64 = .ok (.aload_n 0, 1) := by decide +kernel
theorem dX11_span_65 : decode cX11_span 65 = .ok (.getfield 462, 3) := by decide +kernel
theorem dX11_span_68 : decode cX11_span 68 = .ok (.getfield 475, 3) := by decide +kernel
theorem dX11_span_71 : decode cX11_span 71 = .ok (.l2i, 1) := by decide +kernel
theorem dX11_span_72 : decode cX11_span 72 = .ok (.ireturn, 1) := by decide +kernel
theorem dX11_lies_0 : decode cX11_lies 0 = .ok (.aload_n 0, 1) := by decide +kernel
theorem dX11_lies_1 : decode cX11_lies 1 = .ok (.getfield 462, 3) := by decide +kernel
theorem dX11_lies_4 : decode cX11_lies 4 = .ok (.ifnull 18, 3) := by decide +kernel
theorem dX11_lies_7 : decode cX11_lies 7 = .ok (.iload_n 1, 1) := by decide +kernel
theorem dX11_lies_8 : decode cX11_lies 8 = .ok (.ifCond .lt 14, 3) := by decide +kernel
theorem dX11_lies_11 : decode cX11_lies 11 = .ok (.iload_n 1, 1) := by decide +kernel
theorem dX11_lies_12 : decode cX11_lies 12 = .ok (.aload_n 0, 1) := by decide +kernel
theorem dX11_lies_13 : decode cX11_lies 13 = .ok (.getfield 462, 3) := by decide +kernel
theorem dX11_lies_16 : decode cX11_lies 16 = .ok (.getfield 478, 3) := by decide +kernel
theorem dX11_lies_19 : decode cX11_lies 19 = .ok (.if_icmp .lt 11, 3) := by decide +kernel
theorem dX11_lies_22 : decode cX11_lies 22 = .ok (.aload_n 0, 1) := by decide +kernel
theorem dX11_lies_23 : decode cX11_lies 23 = .ok (.bipush 8, 2) := by decide +kernel
theorem dX11_lies_25 : decode cX11_lies 25 = .ok (.putfield 9, 3) := by decide +kernel
theorem dX11_lies_28 : decode cX11_lies 28 = .ok (.iconst (-1), 1) := by decide +kernel
