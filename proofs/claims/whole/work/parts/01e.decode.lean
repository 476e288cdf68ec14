theorem dX12_isAnd_10 : decode cX12_isAnd 10 = .ok (.invokestatic 393, 3) := by decide +kernel
theorem dX12_isAnd_13 : decode cX12_isAnd 13 = .ok (.invokevirtual 397, 3) := by decide +kernel
theorem dX12_isAnd_16 : decode cX12_isAnd 16 = .ok (.ireturn, 1) := by decide +kernel
theorem dX12_isOr_0 : decode cX12_isOr 0 = .ok (.aload_n 0, 1) := by decide +kernel
theorem dX12_isOr_1 : decode cX12_isOr 1 = .ok (.bipush 111, 2) := by decide +kernel
theorem dX12_isOr_3 : decode cX12_isOr 3 = .ok (.bipush 114, 2) := by decide +kernel
theorem dX12_isOr_5 : decode cX12_isOr 5 = .ok (.iconst 0, 1) := by decide +kernel
theorem dX12_isOr_6 : decode cX12_isOr 6 = .ok (.iconst 0, 1) := by decide +kernel
theorem dX12_isOr_7 : decode cX12_isOr 7 = .ok (.iconst 0, 1) := by decide +kernel
theorem dX12_isOr_8 : decode cX12_isOr 8 = .ok (.iconst 0, 1) := by decide +kernel
theorem dX12_isOr_9 : decode cX12_isOr 9 = .ok (.invokestatic 393, 3) := by decide +kernel
theorem dX12_isOr_12 : decode cX12_isOr 12 = .ok (.invokevirtual 397, 3) := by decide +kernel
theorem dX12_isOr_15 : decode cX12_isOr 15 = .ok (.ireturn, 1) := by decide +kernel
theorem dX12_isNot_0 : decode cX12_isNot 0 = .ok (.aload_n 0, 1) := by decide +kernel
theorem dX12_isNot_1 : decode cX12_isNot 1 = .ok (.bipush 110, 2) := by decide +kernel
theorem dX12_isNot_3 : decode cX12_isNot 3 = .ok (.bipush 111, 2) := by decide +kernel
theorem dX12_isNot_5 : decode cX12_isNot 5 = .ok (.bipush 116, 2) := by decide +kernel
theorem dX12_isNot_7 : decode cX12_isNot 7 = .ok (.iconst 0, 1) := by decide +kernel
theorem dX12_isNot_8 : decode cX12_isNot 8 = .ok (.iconst 0, 1) := by decide +kernel
theorem dX12_isNot_9 : decode cX12_isNot 9 = .ok (.iconst 0, 1) := by decide +kernel
theorem dX12_isNot_10 : decode cX12_isNot 10 = .ok (.invokestatic 393, 3) := by decide +kernel
theorem dX12_isNot_13 : decode cX12_isNot 13 = .ok (.invokevirtual 397, 3) := by decide +kernel
theorem dX12_isNot_16 : decode cX12_isNot 16 = .ok (.ireturn, 1) := by decide +kernel
theorem dX12_isLeast_0 : decode cX12_isLeast 0 = .ok (.aload_n 0, 1) := by decide +kernel
theorem dX12_isLeast_1 : decode cX12_isLeast 1 = .ok (.bipush 108, 2) := by decide +kernel
theorem dX12_isLeast_3 : decode cX12_isLeast 3 = .ok (.bipush 101, 2) := by decide +kernel
theorem dX12_isLeast_5 : decode cX12_isLeast 5 = .ok (.bipush 97, 2) := by decide +kernel
theorem dX12_isLeast_7 : decode cX12_isLeast 7 = .ok (.bipush 115, 2) := by decide +kernel
theorem dX12_isLeast_9 : decode cX12_isLeast 9 = .ok (.bipush 116, 2) := by decide +kernel
theorem dX12_isLeast_11 : decode cX12_isLeast 11 = .ok (.iconst 0, 1) := by decide +kernel
theorem dX12_isLeast_12 : decode cX12_isLeast 12 = .ok (.invokestatic 393, 3) := by decide +kernel
theorem dX12_isLeast_15 : decode cX12_isLeast 15 = .ok (.invokevirtual 397, 3) := by decide +kernel
theorem dX12_isLeast_18 : decode cX12_isLeast 18 = .ok (.ireturn, 1) := by decide +kernel
theorem dX12_isMost_0 : decode cX12_isMost 0 = .ok (.aload_n 0, 1) := by decide +kernel
theorem dX12_isMost_1 : decode cX12_isMost 1 = .ok (.bipush 109, 2) := by decide +kernel
theorem dX12_isMost_3 : decode cX12_isMost 3 = .ok (.bipush 111, 2) := by decide +kernel
theorem dX12_isMost_5 : decode cX12_isMost 5 = .ok (.bipush 115, 2) := by decide +kernel
theorem dX12_isMost_7 : decode cX12_isMost 7 = .ok (.bipush 116, 2) := by decide +kernel
theorem dX12_isMost_9 : decode cX12_isMost 9 = .ok (.iconst 0, 1) := by decide +kernel
theorem dX12_isMost_10 : decode cX12_isMost 10 = .ok (.iconst 0, 1) := by decide +kernel
theorem dX12_isMost_11 : decode cX12_isMost 11 = .ok (.invokestatic 393, 3) := by decide +kernel
theorem dX12_isMost_14 : decode cX12_isMost 14 = .ok (.invokevirtual 397, 3) := by decide +kernel
theorem dX12_isMost_17 : decode cX12_isMost 17 = .ok (.ireturn, 1) := by decide +kernel
theorem dX12_isKept_0 : decode cX12_isKept 0 = .ok (.aload_n 0, 1) := by decide +kernel
theorem dX12_isKept_1 : decode cX12_isKept 1 = .ok (.invokevirtual 405, 3) := by decide +kernel
theorem dX12_isKept_4 : decode cX12_isKept 4 = .ok (.ifCond .ne 52, 3) := by decide +kernel
theorem dX12_isKept_7 : decode cX12_isKept 7 = .ok (.aload_n 0, 1) := by decide +kernel
theorem dX12_isKept_8 : decode cX12_isKept 8 = .ok (.invokevirtual 409, 3) := by decide +kernel
theorem dX12_isKept_11 : decode cX12_isKept 11 = .ok (.ifCond .ne 45, 3) := by decide +kernel
theorem dX12_isKept_14 : decode cX12_isKept 14 = .ok (.aload_n 0, 1) := by decide +kernel
theorem dX12_isKept_15 : decode cX12_isKept 15 = .ok (.invokevirtual 412, 3) := by decide +kernel
theorem dX12_isKept_18 : decode cX12_isKept 18 = .ok (.ifCond .ne 38, 3) := by decide +kernel
theorem dX12_isKept_21 : decode cX12_isKept 21 = .ok (.aload_n 0, 1) := by decide +kernel
theorem dX12_isKept_22 : decode cX12_isKept 22 = .ok (.invokevirtual 415, 3) := by decide +kernel
theorem dX12_isKept_25 : decode cX12_isKept 25 = .ok (.ifCond .ne 31, 3) := by decide +kernel
theorem dX12_isKept_28 : decode cX12_isKept 28 = .ok (.aload_n 0, 1) := by decide +kernel
theorem dX12_isKept_29 : decode cX12_isKept 29 = .ok (.invokevirtual 418, 3) := by decide +kernel
theorem dX12_isKept_32 : decode cX12_isKept 32 = .ok (.ifCond .ne 24, 3) := by decide +kernel
theorem dX12_isKept_35 : decode cX12_isKept 35 = .ok (.aload_n 0, 1) := by decide +kernel
theorem dX12_isKept_36 : decode cX12_isKept 36 = .ok (.invokevirtual 421, 3) := by decide +kernel
theorem dX12_isKept_39 : decode cX12_isKept 39 = .ok (.ifCond .ne 17, 3) := by decide +kernel
theorem dX12_isKept_42 : decode cX12_isKept 42 = .ok (.aload_n 0, 1) := by decide +kernel
theorem dX12_isKept_43 : decode cX12_isKept 43 = .ok (.invokevirtual 424, 3) := by decide +kernel
theorem dX12_isKept_46 : decode cX12_isKept 46 = .ok (.ifCond .ne 10, 3) := by decide +kernel
theorem dX12_isKept_49 : decode cX12_isKept 49 = .ok (.aload_n 0, 1) := by decide +kernel
theorem dX12_isKept_50 : decode cX12_isKept 50 = .ok (.invokevirtual 427, 3) := by decide +kernel
theorem dX12_isKept_53 : decode cX12_isKept 53 = .ok (.ifCond .eq 7, 3) := by decide +kernel
theorem dX12_isKept_56 : decode cX12_isKept 56 = .ok (.iconst 1, 1) := by decide +kernel
theorem dX12_isKept_57 : decode cX12_isKept 57 = .ok (.goto 4, 3) := by decide +kernel
theorem dX12_isKept_60 : decode cX12_isKept 60 = .ok (.iconst 0, 1) := by decide +kernel
theorem dX12_isKept_61 : decode cX12_isKept 61 = .ok (.ireturn, 1) := by decide +kernel
theorem dX12_named_0 : decode cX12_named 0 = .ok (.iconst 0, 1) := by decide +kernel
theorem dX12_named_1 : decode cX12_named 1 = .ok (.istore_n 1, 1) := by decide +kernel
theorem dX12_named_2 : decode cX12_named 2 = .ok (.aload_n 0, 1) := by decide +kernel
theorem dX12_named_3 : decode cX12_named 3 = .ok (.getfield 348, 3) := by decide +kernel
theorem dX12_named_6 : decode cX12_named 6 = .ok (.iconst 1, 1) := by decide +kernel
theorem dX12_named_7 : decode cX12_named 7 = .ok (.if_icmp .ne 42, 3) := by decide +kernel
theorem dX12_named_10 : decode cX12_named 10 = .ok (.aload_n 0, 1) := by decide +kernel
theorem dX12_named_11 : decode cX12_named 11 = .ok (.getfield 362, 3) := by decide +kernel
theorem dX12_named_14 : decode cX12_named 14 = .ok (.bipush 8, 2) := by decide +kernel
theorem dX12_named_16 : decode cX12_named 16 = .ok (.if_icmp .gt 33, 3) := by decide +kernel
theorem dX12_named_19 : decode cX12_named 19 = .ok (.iload_n 1, 1) := by decide +kernel
theorem dX12_named_20 : decode cX12_named 20 = .ok (.aload_n 0, 1) := by decide +kernel
theorem dX12_named_21 : decode cX12_named 21 = .ok (.getfield 430, 3) := by decide +kernel
theorem dX12_named_24 : decode cX12_named 24 = .ok (.if_icmp .ge 25, 3) := by decide +kernel
theorem dX12_named_27 : decode cX12_named 27 = .ok (.aload_n 0, 1) := by decide +kernel
theorem dX12_named_28 : decode cX12_named 28 = .ok (.getfield 73, 3) := by decide +kernel
theorem dX12_named_31 : decode cX12_named 31 = .ok (.iload_n 1, 1) := by decide +kernel
theorem dX12_named_32 : decode cX12_named 32 = .ok (.laload, 1) := by decide +kernel
theorem dX12_named_33 : decode cX12_named 33 = .ok (.aload_n 0, 1) := by decide +kernel
theorem dX12_named_34 : decode cX12_named 34 = .ok (.getfield 354, 3) := by decide +kernel
theorem dX12_named_37 : decode cX12_named 37 = .ok (.lcmp, 1) := by decide +kernel
theorem dX12_named_38 : decode cX12_named 38 = .ok (.ifCond .ne 5, 3) := by decide +kernel
theorem dX12_named_41 : decode cX12_named 41 = .ok (.iload_n 1, 1) := by decide +kernel
theorem dX12_named_42 : decode cX12_named 42 = .ok (.ireturn, 1) := by decide +kernel
theorem dX12_named_43 : decode cX12_named 43 = .ok (.iinc 1 1, 3) := by decide +kernel
theorem dX12_named_46 : decode cX12_named 46 = .ok (.goto (-44), 3) := by decide +kernel
theorem dX12_named_49 : decode cX12_named 49 = .ok (.iconst (-1), 1) := by decide +kernel
theorem dX12_named_50 : decode cX12_named 50 = .ok (.ireturn, 1) := by decide +kernel
theorem dX12_mark_0 : decode cX12_mark 0 = .ok (.aload_n 0, 1) := by decide +kernel
theorem dX12_mark_1 : decode cX12_mark 1 = .ok (.getfield 67, 3) := by decide +kernel
theorem dX12_mark_4 : decode cX12_mark 4 = .ok (.aload_n 0, 1) := by decide +kernel
theorem dX12_mark_5 : decode cX12_mark 5 = .ok (.getfield 433, 3) := by decide +kernel
theorem dX12_mark_8 : decode cX12_mark 8 = .ok (.ldc_w 436, 3) := by decide +kernel
theorem dX12_mark_11 : decode cX12_mark 11 = .ok (.iload_n 1, 1) := by decide +kernel
theorem dX12_mark_12 : decode cX12_mark 12 = .ok (.imul, 1) := by decide +kernel
theorem dX12_mark_13 : decode cX12_mark 13 = .ok (.iload_n 2, 1) := by decide +kernel
theorem dX12_mark_14 : decode cX12_mark 14 = .ok (.iadd, 1) := by decide +kernel
theorem dX12_mark_15 : decode cX12_mark 15 = .ok (.iastore, 1) := by decide +kernel
theorem dX12_mark_16 : decode cX12_mark 16 = .ok (.aload_n 0, 1) := by decide +kernel
theorem dX12_mark_17 : decode cX12_mark 17 = .ok (.dup, 1) := by decide +kernel
theorem dX12_mark_18 : decode cX12_mark 18 = .ok (.getfield 433, 3) := by decide +kernel
theorem dX12_mark_21 : decode cX12_mark 21 = .ok (.iconst 1, 1) := by decide +kernel
theorem dX12_mark_22 : decode cX12_mark 22 = .ok (.iadd, 1) := by decide +kernel
theorem dX12_mark_23 : decode cX12_mark 23 = .ok (.putfield 433, 3) := by decide +kernel
theorem dX12_mark_26 : decode cX12_mark 26 = .ok (.return_, 1) := by decide +kernel
theorem dX12_canBegin_0 : decode cX12_canBegin 0 = .ok (.aload_n 0, 1) := by decide +kernel
theorem dX12_canBegin_1 : decode cX12_canBegin 1 = .ok (.invokevirtual 405, 3) := by decide +kernel
theorem dX12_canBegin_4 : decode cX12_canBegin 4 = .ok (.ifCond .ne 10, 3) := by decide +kernel
theorem dX12_canBegin_7 : decode cX12_canBegin 7 = .ok (.aload_n 0, 1) := by decide +kernel
theorem dX12_canBegin_8 : decode cX12_canBegin 8 = .ok (.invokevirtual 437, 3) := by decide +kernel
theorem dX12_canBegin_11 : decode cX12_canBegin 11 = .ok (.ifCond .eq 7, 3) := by decide +kernel
theorem dX12_canBegin_14 : decode cX12_canBegin 14 = .ok (.iconst 1, 1) := by decide +kernel
theorem dX12_canBegin_15 : decode cX12_canBegin 15 = .ok (.goto 4, 3) := by decide +kernel
theorem dX12_canBegin_18 : decode cX12_canBegin 18 = .ok (.iconst 0, 1) := by decide +kernel
theorem dX12_canBegin_19 : decode cX12_canBegin 19 = .ok (.ireturn, 1) := by decide +kernel
theorem dX12_canBeginSum_0 : decode cX12_canBeginSum 0 = .ok (.aload_n 0, 1) := by decide +kernel
theorem dX12_canBeginSum_1 : decode cX12_canBeginSum 1 = .ok (.getfield 348, 3) := by decide +kernel
theorem dX12_canBeginSum_4 : decode cX12_canBeginSum 4 = .ok (.iconst 2, 1) := by decide +kernel
theorem dX12_canBeginSum_5 : decode cX12_canBeginSum 5 = .ok (.if_icmp .eq 41, 3) := by decide +kernel
theorem dX12_canBeginSum_8 : decode cX12_canBeginSum 8 = .ok (.aload_n 0, 1) := by decide +kernel
theorem dX12_canBeginSum_9 : decode cX12_canBeginSum 9 = .ok (.bipush 40, 2) := by decide +kernel
theorem dX12_canBeginSum_11 : decode cX12_canBeginSum 11 = .ok (.invokevirtual 440, 3) := by decide +kernel
theorem dX12_canBeginSum_14 : decode cX12_canBeginSum 14 = .ok (.ifCond .ne 32, 3) := by decide +kernel
theorem dX12_canBeginSum_17 : decode cX12_canBeginSum 17 = .ok (.aload_n 0, 1) := by decide +kernel
theorem dX12_canBeginSum_18 : decode cX12_canBeginSum 18 = .ok (.invokevirtual 424, 3) := by decide +kernel
theorem dX12_canBeginSum_21 : decode cX12_canBeginSum 21 = .ok (.ifCond .ne 25, 3) := by decide +kernel
theorem dX12_canBeginSum_24 : decode cX12_canBeginSum 24 = .ok (.aload_n 0, 1) := by decide +kernel
theorem dX12_canBeginSum_25 : decode cX12_canBeginSum 25 = .ok (.invokevirtual 427, 3) := by decide +kernel
theorem dX12_canBeginSum_28 : decode cX12_canBeginSum 28 = .ok (.ifCond .ne 18, 3) := by decide +kernel
theorem dX12_canBeginSum_31 : decode cX12_canBeginSum 31 = .ok (.aload_n 0, 1) := by decide +kernel
theorem dX12_canBeginSum_32 : decode cX12_canBeginSum 32 = .ok (.getfield 348, 3) := by decide +kernel
theorem dX12_canBeginSum_35 : decode cX12_canBeginSum 35 = .ok (.iconst 1, 1) := by decide +kernel
theorem dX12_canBeginSum_36 : decode cX12_canBeginSum 36 = .ok (.if_icmp .ne 14, 3) := by decide +kernel
theorem dX12_canBeginSum_39 : decode cX12_canBeginSum 39 = .ok (.aload_n 0, 1) := by decide +kernel
theorem dX12_canBeginSum_40 : decode cX12_canBeginSum 40 = .ok (.invokevirtual 443, 3) := by decide +kernel
theorem dX12_canBeginSum_43 : decode cX12_canBeginSum 43 = .ok (.ifCond .ne 7, 3) := by decide +kernel
theorem dX12_canBeginSum_46 : decode cX12_canBeginSum 46 = .ok (.iconst 1, 1) := by decide +kernel
theorem dX12_canBeginSum_47 : decode cX12_canBeginSum 47 = .ok (.goto 4, 3) := by decide +kernel
theorem dX12_canBeginSum_50 : decode cX12_canBeginSum 50 = .ok (.iconst 0, 1) := by decide +kernel
theorem dX12_canBeginSum_51 : decode cX12_canBeginSum 51 = .ok (.ireturn, 1) := by decide +kernel
theorem dX12_readWhole_0 : decode cX12_readWhole 0 = .ok (.aload_n 0, 1) := by decide +kernel
theorem dX12_readWhole_1 : decode cX12_readWhole 1 = .ok (.invokevirtual 446, 3) := by decide +kernel
theorem dX12_readWhole_4 : decode cX12_readWhole 4 = .ok (.ifCond .ne 7, 3) := by decide +kernel
theorem dX12_readWhole_7 : decode cX12_readWhole 7 = .ok (.aload_n 0, 1) := by decide +kernel
theorem dX12_readWhole_8 : decode cX12_readWhole 8 = .ok (.invokevirtual 449, 3) := by decide +kernel
theorem dX12_readWhole_11 : decode cX12_readWhole 11 = .ok (.iload_n 1, 1) := by decide +kernel
theorem dX12_readWhole_12 : decode cX12_readWhole 12 = .ok (.bipush 8, 2) := by decide +kernel
theorem dX12_readWhole_14 : decode cX12_readWhole 14 = .ok (.if_icmp .le 12, 3) := by decide +kernel
theorem dX12_readWhole_17 : decode cX12_readWhole 17 = .ok (.aload_n 0, 1) := by decide +kernel
theorem dX12_readWhole_18 : decode cX12_readWhole 18 = .ok (.iconst 5, 1) := by decide +kernel
theorem dX12_readWhole_19 : decode cX12_readWhole 19 = .ok (.aload_n 0, 1) := by decide +kernel
theorem dX12_readWhole_20 : decode cX12_readWhole 20 = .ok (.getfield 342, 3) := by decide +kernel
theorem dX12_readWhole_23 : decode cX12_readWhole 23 = .ok (.invokevirtual 389, 3) := by decide +kernel
theorem dX12_readWhole_26 : decode cX12_readWhole 26 = .ok (.aload_n 0, 1) := by decide +kernel
theorem dX12_readWhole_27 : decode cX12_readWhole 27 = .ok (.getfield 383, 3) := by decide +kernel
theorem dX12_readWhole_30 : decode cX12_readWhole 30 = .ok (.ifCond .le 4, 3) := by decide +kernel
theorem dX12_readWhole_33 : decode cX12_readWhole 33 = .ok (.return_, 1) := by decide +kernel
theorem dX12_readWhole_34 : decode cX12_readWhole 34 = .ok (.aload_n 0, 1) := by decide +kernel
theorem dX12_readWhole_35 : decode cX12_readWhole 35 = .ok (.invokevirtual 405, 3) := by decide +kernel
theorem dX12_readWhole_38 : decode cX12_readWhole 38 = .ok (.ifCond .ne 9, 3) := by decide +kernel
theorem dX12_readWhole_41 : decode cX12_readWhole 41 = .ok (.aload_n 0, 1) := by decide +kernel
theorem dX12_readWhole_42 : decode cX12_readWhole 42 = .ok (.iload_n 1, 1) := by decide +kernel
theorem dX12_readWhole_43 : decode cX12_readWhole 43 = .ok (.invokevirtual 452, 3) := by decide +kernel
theorem dX12_readWhole_46 : decode cX12_readWhole 46 = .ok (.return_, 1) := by decide +kernel
theorem dX12_readWhole_47 : decode cX12_readWhole 47 = .ok (.aload_n 0, 1) := by decide +kernel
theorem dX12_readWhole_48 : decode cX12_readWhole 48 = .ok (.invokevirtual 455, 3) := by decide +kernel
theorem dX12_readWhole_51 : decode cX12_readWhole 51 = .ok (.aload_n 0, 1) := by decide +kernel
theorem dX12_readWhole_52 : decode cX12_readWhole 52 = .ok (.iload_n 1, 1) := by decide +kernel
theorem dX12_readWhole_53 : decode cX12_readWhole 53 = .ok (.invokevirtual 458, 3) := by decide +kernel
theorem dX12_readWhole_56 : decode cX12_readWhole 56 = .ok (.aload_n 0, 1) := by decide +kernel
theorem dX12_readWhole_57 : decode cX12_readWhole 57 = .ok (.getfield 383, 3) := by decide +kernel
theorem dX12_readWhole_60 : decode cX12_readWhole 60 = .ok (.ifCond .ne 14, 3) := by decide +kernel
theorem dX12_readWhole_63 : decode cX12_readWhole 63 = .ok (.aload_n 0, 1) := by decide +kernel
theorem dX12_readWhole_64 : decode cX12_readWhole 64 = .ok (.invokevirtual 409, 3) := by decide +kernel
theorem dX12_readWhole_67 : decode cX12_readWhole 67 = .ok (.ifCond .ne 7, 3) := by decide +kernel
theorem dX12_readWhole_70 : decode cX12_readWhole 70 = .ok (.aload_n 0, 1) := by decide +kernel
theorem dX12_readWhole_71 : decode cX12_readWhole 71 = .ok (.invokevirtual 449, 3) := by decide +kernel
theorem dX12_readWhole_74 : decode cX12_readWhole 74 = .ok (.aload_n 0, 1) := by decide +kernel
theorem dX12_readWhole_75 : decode cX12_readWhole 75 = .ok (.getfield 383, 3) := by decide +kernel
theorem dX12_readWhole_78 : decode cX12_readWhole 78 = .ok (.ifCond .le 4, 3) := by decide +kernel
theorem dX12_readWhole_81 : decode cX12_readWhole 81 = .ok (.return_, 1) := by decide +kernel
theorem dX12_readWhole_82 : decode cX12_readWhole 82 = .ok (.aload_n 0, 1) := by decide +kernel
theorem dX12_readWhole_83 : decode cX12_readWhole 83 = .ok (.getfield 433, 3) := by decide +kernel
theorem dX12_readWhole_86 : decode cX12_readWhole 86 = .ok (.istore_n 2, 1) := by decide +kernel
theorem dX12_readWhole_87 : decode cX12_readWhole 87 = .ok (.aload_n 0, 1) := by decide +kernel
theorem dX12_readWhole_88 : decode cX12_readWhole 88 = .ok (.bipush 15, 2) := by decide +kernel
theorem dX12_readWhole_90 : decode cX12_readWhole 90 = .ok (.iconst 0, 1) := by decide +kernel
theorem dX12_readWhole_91 : decode cX12_readWhole 91 = .ok (.invokevirtual 461, 3) := by decide +kernel
theorem dX12_readWhole_94 : decode cX12_readWhole 94 = .ok (.aload_n 0, 1) := by decide +kernel
theorem dX12_readWhole_95 : decode cX12_readWhole 95 = .ok (.invokevirtual 455, 3) := by decide +kernel
theorem dX12_readWhole_98 : decode cX12_readWhole 98 = .ok (.aload_n 0, 1) := by decide +kernel
theorem dX12_readWhole_99 : decode cX12_readWhole 99 = .ok (.iload_n 1, 1) := by decide +kernel
theorem dX12_readWhole_100 : decode cX12_readWhole 100 = .ok (.iconst 1, 1) := by decide +kernel
theorem dX12_readWhole_101 : decode cX12_readWhole 101 = .ok (.iadd, 1) := by decide +kernel
theorem dX12_readWhole_102 : decode cX12_readWhole 102 = .ok (.invokevirtual 464, 3) := by decide +kernel
theorem dX12_readWhole_105 : decode cX12_readWhole 105 = .ok (.aload_n 0, 1) := by decide +kernel
theorem dX12_readWhole_106 : decode cX12_readWhole 106 = .ok (.getfield 383, 3) := by decide +kernel
theorem dX12_readWhole_109 : decode cX12_readWhole 109 = .ok (.ifCond .ne 14, 3) := by decide +kernel
theorem dX12_readWhole_112 : decode cX12_readWhole 112 = .ok (.aload_n 0, 1) := by decide +kernel
theorem dX12_readWhole_113 : decode cX12_readWhole 113 = .ok (.invokevirtual 412, 3) := by decide +kernel
theorem dX12_readWhole_116 : decode cX12_readWhole 116 = .ok (.ifCond .ne 7, 3) := by decide +kernel
theorem dX12_readWhole_119 : decode cX12_readWhole 119 = .ok (.aload_n 0, 1) := by decide +kernel
theorem dX12_readWhole_120 : decode cX12_readWhole 120 = .ok (.invokevirtual 449, 3) := by decide +kernel
theorem dX12_readWhole_123 : decode cX12_readWhole 123 = .ok (.aload_n 0, 1) := by decide +kernel
theorem dX12_readWhole_124 : decode cX12_readWhole 124 = .ok (.getfield 383, 3) := by decide +kernel
theorem dX12_readWhole_127 : decode cX12_readWhole 127 = .ok (.ifCond .le 4, 3) := by decide +kernel
theorem dX12_readWhole_130 : decode cX12_readWhole 130 = .ok (.return_, 1) := by decide +kernel
theorem dX12_readWhole_131 : decode cX12_readWhole 131 = .ok (.aload_n 0, 1) := by decide +kernel
theorem dX12_readWhole_132 : decode cX12_readWhole 132 = .ok (.getfield 433, 3) := by decide +kernel
theorem dX12_readWhole_135 : decode cX12_readWhole 135 = .ok (.istore_n 3, 1) := by decide +kernel
theorem dX12_readWhole_136 : decode cX12_readWhole 136 = .ok (.aload_n 0, 1) := by decide +kernel
theorem dX12_readWhole_137 : decode cX12_readWhole 137 = .ok (.bipush 16, 2) := by decide +kernel
theorem dX12_readWhole_139 : decode cX12_readWhole 139 = .ok (.iconst 0, 1) := by decide +kernel
theorem dX12_readWhole_140 : decode cX12_readWhole 140 = .ok (.invokevirtual 461, 3) := by decide +kernel
theorem dX12_readWhole_143 : decode cX12_readWhole 143 = .ok (.aload_n 0, 1) := by decide +kernel
theorem dX12_readWhole_144 : decode cX12_readWhole 144 = .ok (.getfield 67, 3) := by decide +kernel
theorem dX12_readWhole_147 : decode cX12_readWhole 147 = .ok (.iload_n 2, 1) := by decide +kernel
theorem dX12_readWhole_148 : decode cX12_readWhole 148 = .ok (.dup2, 1) := by decide +kernel
theorem dX12_readWhole_149 : decode cX12_readWhole 149 = .ok (.iaload, 1) := by decide +kernel
theorem dX12_readWhole_150 : decode cX12_readWhole 150 = .ok (.aload_n 0, 1) := by decide +kernel
theorem dX12_readWhole_151 : decode cX12_readWhole 151 = .ok (.getfield 433, 3) := by decide +kernel
theorem dX12_readWhole_154 : decode cX12_readWhole 154 = .ok (.iadd, 1) := by decide +kernel
theorem dX12_readWhole_155 : decode cX12_readWhole 155 = .ok (.iastore, 1) := by decide +kernel
theorem dX12_readWhole_156 : decode cX12_readWhole 156 = .ok (.aload_n 0, 1) := by decide +kernel
theorem dX12_readWhole_157 : decode cX12_readWhole 157 = .ok (.invokevirtual 455, 3) := by decide +kernel
theorem dX12_readWhole_160 : decode cX12_readWhole 160 = .ok (.aload_n 0, 1) := by decide +kernel
theorem dX12_readWhole_161 : decode cX12_readWhole 161 = .ok (.iload_n 1, 1) := by decide +kernel
theorem dX12_readWhole_162 : decode cX12_readWhole 162 = .ok (.iconst 1, 1) := by decide +kernel
theorem dX12_readWhole_163 : decode cX12_readWhole 163 = .ok (.iadd, 1) := by decide +kernel
theorem dX12_readWhole_164 : decode cX12_readWhole 164 = .ok (.invokevirtual 464, 3) := by decide +kernel
theorem dX12_readWhole_167 : decode cX12_readWhole 167 = .ok (.aload_n 0, 1) := by decide +kernel
theorem dX12_readWhole_168 : decode cX12_readWhole 168 = .ok (.getfield 67, 3) := by decide +kernel
theorem dX12_readWhole_171 : decode cX12_readWhole 171 = .ok (.iload_n 3, 1) := by decide +kernel
theorem dX12_readWhole_172 : decode cX12_readWhole 172 = .ok (.dup2, 1) := by decide +kernel
theorem dX12_readWhole_173 : decode cX12_readWhole 173 = .ok (.iaload, 1) := by decide +kernel
theorem dX12_readWhole_174 : decode cX12_readWhole 174 = .ok (.aload_n 0, 1) := by decide +kernel
theorem dX12_readWhole_175 : decode cX12_readWhole 175 = .ok (.getfield 433, 3) := by decide +kernel
theorem dX12_readWhole_178 : decode cX12_readWhole 178 = .ok (.iadd, 1) := by decide +kernel
theorem dX12_readWhole_179 : decode cX12_readWhole 179 = .ok (.iastore, 1) := by decide +kernel
theorem dX12_readWhole_180 : decode cX12_readWhole 180 = .ok (.return_, 1) := by decide +kernel
theorem dX12_readTest_0 : decode cX12_readTest 0 = .ok (.aload_n 0, 1) := by decide +kernel
theorem dX12_readTest_1 : decode cX12_readTest 1 = .ok (.iload_n 1, 1) := by decide +kernel
theorem dX12_readTest_2 : decode cX12_readTest 2 = .ok (.invokevirtual 467, 3) := by decide +kernel
theorem dX12_readTest_5 : decode cX12_readTest 5 = .ok (.aload_n 0, 1) := by decide +kernel
theorem dX12_readTest_6 : decode cX12_readTest 6 = .ok (.getfield 383, 3) := by decide +kernel
theorem dX12_readTest_9 : decode cX12_readTest 9 = .ok (.ifCond .le 4, 3) := by decide +kernel
theorem dX12_readTest_12 : decode cX12_readTest 12 = .ok (.return_, 1) := by decide +kernel
theorem dX12_readTest_13 : decode cX12_readTest 13 = .ok (.aload_n 0, 1) := by decide +kernel
theorem dX12_readTest_14 : decode cX12_readTest 14 = .ok (.invokevirtual 415, 3) := by decide +kernel
theorem dX12_readTest_17 : decode cX12_readTest 17 = .ok (.istore_n 2, 1) := by decide +kernel
theorem dX12_readTest_18 : decode cX12_readTest 18 = .ok (.aload_n 0, 1) := by decide +kernel
theorem dX12_readTest_19 : decode cX12_readTest 19 = .ok (.getfield 383, 3) := by decide +kernel
theorem dX12_readTest_22 : decode cX12_readTest 22 = .ok (.ifCond .ne 52, 3) := by decide +kernel
theorem dX12_readTest_25 : decode cX12_readTest 25 = .ok (.iload_n 2, 1) := by decide +kernel
theorem dX12_readTest_26 : decode cX12_readTest 26 = .ok (.ifCond .eq 13, 3) := by decide +kernel
theorem dX12_readTest_29 : decode cX12_readTest 29 = .ok (.aload_n 0, 1) := by decide +kernel
theorem dX12_readTest_30 : decode cX12_readTest 30 = .ok (.invokevirtual 415, 3) := by decide +kernel
theorem dX12_readTest_33 : decode cX12_readTest 33 = .ok (.ifCond .eq 41, 3) := by decide +kernel
theorem dX12_readTest_36 : decode cX12_readTest 36 = .ok (.goto 10, 3) := by decide +kernel
theorem dX12_readTest_39 : decode cX12_readTest 39 = .ok (.aload_n 0, 1) := by decide +kernel
theorem dX12_readTest_40 : decode cX12_readTest 40 = .ok (.invokevirtual 418, 3) := by decide +kernel
theorem dX12_readTest_43 : decode cX12_readTest 43 = .ok (.ifCond .eq 31, 3) := by decide +kernel
theorem dX12_readTest_46 : decode cX12_readTest 46 = .ok (.aload_n 0, 1) := by decide +kernel
theorem dX12_readTest_47 : decode cX12_readTest 47 = .ok (.invokevirtual 455, 3) := by decide +kernel
theorem dX12_readTest_50 : decode cX12_readTest 50 = .ok (.aload_n 0, 1) := by decide +kernel
theorem dX12_readTest_51 : decode cX12_readTest 51 = .ok (.iload_n 1, 1) := by decide +kernel
theorem dX12_readTest_52 : decode cX12_readTest 52 = .ok (.invokevirtual 467, 3) := by decide +kernel
theorem dX12_readTest_55 : decode cX12_readTest 55 = .ok (.aload_n 0, 1) := by decide +kernel
theorem dX12_readTest_56 : decode cX12_readTest 56 = .ok (.iload_n 2, 1) := by decide +kernel
theorem dX12_readTest_57 : decode cX12_readTest 57 = .ok (.ifCond .eq 8, 3) := by decide +kernel
theorem dX12_readTest_60 : decode cX12_readTest 60 = .ok (.bipush 13, 2) := by decide +kernel
theorem dX12_readTest_62 : decode cX12_readTest 62 = .ok (.goto 5, 3) := by decide +kernel
theorem dX12_readTest_65 : decode cX12_readTest 65 = .ok (.bipush 14, 2) := by decide +kernel
theorem dX12_readTest_67 : decode cX12_readTest 67 = .ok (.iconst 0, 1) := by decide +kernel
theorem dX12_readTest_68 : decode cX12_readTest 68 = .ok (.invokevirtual 461, 3) := by decide +kernel
theorem dX12_readTest_71 : decode cX12_readTest 71 = .ok (.goto (-53), 3) := by decide +kernel
theorem dX12_readTest_74 : decode cX12_readTest 74 = .ok (.return_, 1) := by decide +kernel
theorem dX12_readOne_0 : decode cX12_readOne 0 = .ok (.aload_n 0, 1) := by decide +kernel
theorem dX12_readOne_1 : decode cX12_readOne 1 = .ok (.invokevirtual 421, 3) := by decide +kernel
theorem dX12_readOne_4 : decode cX12_readOne 4 = .ok (.istore_n 2, 1) := by decide +kernel
theorem dX12_readOne_5 : decode cX12_readOne 5 = .ok (.iload_n 2, 1) := by decide +kernel
theorem dX12_readOne_6 : decode cX12_readOne 6 = .ok (.ifCond .eq 7, 3) := by decide +kernel
theorem dX12_readOne_9 : decode cX12_readOne 9 = .ok (.aload_n 0, 1) := by decide +kernel
theorem dX12_readOne_10 : decode cX12_readOne 10 = .ok (.invokevirtual 455, 3) := by decide +kernel
theorem dX12_readOne_13 : decode cX12_readOne 13 = .ok (.aload_n 0, 1) := by decide +kernel
theorem dX12_readOne_14 : decode cX12_readOne 14 = .ok (.iload_n 1, 1) := by decide +kernel
theorem dX12_readOne_15 : decode cX12_readOne 15 = .ok (.invokevirtual 452, 3) := by decide +kernel
theorem dX12_readOne_18 : decode cX12_readOne 18 = .ok (.aload_n 0, 1) := by decide +kernel
theorem dX12_readOne_19 : decode cX12_readOne 19 = .ok (.bipush 60, 2) := by decide +kernel
theorem dX12_readOne_21 : decode cX12_readOne 21 = .ok (.invokevirtual 440, 3) := by decide +kernel
theorem dX12_readOne_24 : decode cX12_readOne 24 = .ok (.ifCond .eq 8, 3) := by decide +kernel
theorem dX12_readOne_27 : decode cX12_readOne 27 = .ok (.bipush 10, 2) := by decide +kernel
theorem dX12_readOne_29 : decode cX12_readOne 29 = .ok (.goto 32, 3) := by decide +kernel
theorem dX12_readOne_32 : decode cX12_readOne 32 = .ok (.aload_n 0, 1) := by decide +kernel
theorem dX12_readOne_33 : decode cX12_readOne 33 = .ok (.bipush 62, 2) := by decide +kernel
theorem dX12_readOne_35 : decode cX12_readOne 35 = .ok (.invokevirtual 440, 3) := by decide +kernel
theorem dX12_readOne_38 : decode cX12_readOne 38 = .ok (.ifCond .eq 8, 3) := by decide +kernel
theorem dX12_readOne_41 : decode cX12_readOne 41 = .ok (.bipush 11, 2) := by decide +kernel
theorem dX12_readOne_43 : decode cX12_readOne 43 = .ok (.goto 18, 3) := by decide +kernel
theorem dX12_readOne_46 : decode cX12_readOne 46 = .ok (.aload_n 0, 1) := by decide +kernel
theorem dX12_readOne_47 : decode cX12_readOne 47 = .ok (.bipush 61, 2) := by decide +kernel
theorem dX12_readOne_49 : decode cX12_readOne 49 = .ok (.invokevirtual 440, 3) := by decide +kernel
theorem dX12_readOne_52 : decode cX12_readOne 52 = .ok (.ifCond .eq 8, 3) := by decide +kernel
theorem dX12_readOne_55 : decode cX12_readOne 55 = .ok (.bipush 12, 2) := by decide +kernel
theorem dX12_readOne_57 : decode cX12_readOne 57 = .ok (.goto 4, 3) := by decide +kernel
theorem dX12_readOne_60 : decode cX12_readOne 60 = .ok (.iconst (-1), 1) := by decide +kernel
theorem dX12_readOne_61 : decode cX12_readOne 61 = .ok (.istore_n 3, 1) := by decide +kernel
theorem dX12_readOne_62 : decode cX12_readOne 62 = .ok (.aload_n 0, 1) := by decide +kernel
theorem dX12_readOne_63 : decode cX12_readOne 63 = .ok (.getfield 383, 3) := by decide +kernel
theorem dX12_readOne_66 : decode cX12_readOne 66 = .ok (.ifCond .ne 11, 3) := by decide +kernel
theorem dX12_readOne_69 : decode cX12_readOne 69 = .ok (.iload_n 3, 1) := by decide +kernel
theorem dX12_readOne_70 : decode cX12_readOne 70 = .ok (.ifCond .ge 7, 3) := by decide +kernel
theorem dX12_readOne_73 : decode cX12_readOne 73 = .ok (.aload_n 0, 1) := by decide +kernel
theorem dX12_readOne_74 : decode cX12_readOne 74 = .ok (.invokevirtual 449, 3) := by decide +kernel
theorem dX12_readOne_77 : decode cX12_readOne 77 = .ok (.aload_n 0, 1) := by decide +kernel
theorem dX12_readOne_78 : decode cX12_readOne 78 = .ok (.getfield 383, 3) := by decide +kernel
theorem dX12_readOne_81 : decode cX12_readOne 81 = .ok (.ifCond .le 4, 3) := by decide +kernel
theorem dX12_readOne_84 : decode cX12_readOne 84 = .ok (.return_, 1) := by decide +kernel
theorem dX12_readOne_85 : decode cX12_readOne 85 = .ok (.aload_n 0, 1) := by decide +kernel
theorem dX12_readOne_86 : decode cX12_readOne 86 = .ok (.invokevirtual 455, 3) := by decide +kernel
theorem dX12_readOne_89 : decode cX12_readOne 89 = .ok (.aload_n 0, 1) := by decide +kernel
theorem dX12_readOne_90 : decode cX12_readOne 90 = .ok (.iload_n 1, 1) := by decide +kernel
theorem dX12_readOne_91 : decode cX12_readOne 91 = .ok (.invokevirtual 452, 3) := by decide +kernel
theorem dX12_readOne_94 : decode cX12_readOne 94 = .ok (.aload_n 0, 1) := by decide +kernel
theorem dX12_readOne_95 : decode cX12_readOne 95 = .ok (.iload_n 3, 1) := by decide +kernel
theorem dX12_readOne_96 : decode cX12_readOne 96 = .ok (.iload_n 2, 1) := by decide +kernel
theorem dX12_readOne_97 : decode cX12_readOne 97 = .ok (.ifCond .eq 7, 3) := by decide +kernel
theorem dX12_readOne_100 : decode cX12_readOne 100 = .ok (.iconst 1, 1) := by decide +kernel
theorem dX12_readOne_101 : decode cX12_readOne 101 = .ok (.goto 4, 3) := by decide +kernel
theorem dX12_readOne_104 : decode cX12_readOne 104 = .ok (.iconst 0, 1) := by decide +kernel
theorem dX12_readOne_105 : decode cX12_readOne 105 = .ok (.invokevirtual 461, 3) := by decide +kernel
theorem dX12_readOne_108 : decode cX12_readOne 108 = .ok (.return_, 1) := by decide +kernel
theorem dX12_readSum_0 : decode cX12_readSum 0 = .ok (.aload_n 0, 1) := by decide +kernel
theorem dX12_readSum_1 : decode cX12_readSum 1 = .ok (.iload_n 1, 1) := by decide +kernel
theorem dX12_readSum_2 : decode cX12_readSum 2 = .ok (.invokevirtual 470, 3) := by decide +kernel
theorem dX12_readSum_5 : decode cX12_readSum 5 = .ok (.aload_n 0, 1) := by decide +kernel
theorem dX12_readSum_6 : decode cX12_readSum 6 = .ok (.getfield 383, 3) := by decide +kernel
theorem dX12_readSum_9 : decode cX12_readSum 9 = .ok (.ifCond .ne 54, 3) := by decide +kernel
theorem dX12_readSum_12 : decode cX12_readSum 12 = .ok (.aload_n 0, 1) := by decide +kernel
theorem dX12_readSum_13 : decode cX12_readSum 13 = .ok (.bipush 43, 2) := by decide +kernel
theorem dX12_readSum_15 : decode cX12_readSum 15 = .ok (.invokevirtual 440, 3) := by decide +kernel
theorem dX12_readSum_18 : decode cX12_readSum 18 = .ok (.ifCond .ne 12, 3) := by decide +kernel
theorem dX12_readSum_21 : decode cX12_readSum 21 = .ok (.aload_n 0, 1) := by decide +kernel
theorem dX12_readSum_22 : decode cX12_readSum 22 = .ok (.bipush 45, 2) := by decide +kernel
theorem dX12_readSum_24 : decode cX12_readSum 24 = .ok (.invokevirtual 440, 3) := by decide +kernel
theorem dX12_readSum_27 : decode cX12_readSum 27 = .ok (.ifCond .eq 36, 3) := by decide +kernel
theorem dX12_readSum_30 : decode cX12_readSum 30 = .ok (.aload_n 0, 1) := by decide +kernel
theorem dX12_readSum_31 : decode cX12_readSum 31 = .ok (.bipush 43, 2) := by decide +kernel
theorem dX12_readSum_33 : decode cX12_readSum 33 = .ok (.invokevirtual 440, 3) := by decide +kernel
theorem dX12_readSum_36 : decode cX12_readSum 36 = .ok (.ifCond .eq 7, 3) := by decide +kernel
theorem dX12_readSum_39 : decode cX12_readSum 39 = .ok (.iconst 3, 1) := by decide +kernel
theorem dX12_readSum_40 : decode cX12_readSum 40 = .ok (.goto 4, 3) := by decide +kernel
theorem dX12_readSum_43 : decode cX12_readSum 43 = .ok (.iconst 4, 1) := by decide +kernel
theorem dX12_readSum_44 : decode cX12_readSum 44 = .ok (.istore_n 2, 1) := by decide +kernel
theorem dX12_readSum_45 : decode cX12_readSum 45 = .ok (.aload_n 0, 1) := by decide +kernel
theorem dX12_readSum_46 : decode cX12_readSum 46 = .ok (.invokevirtual 455, 3) := by decide +kernel
theorem dX12_readSum_49 : decode cX12_readSum 49 = .ok (.aload_n 0, 1) := by decide +kernel
theorem dX12_readSum_50 : decode cX12_readSum 50 = .ok (.iload_n 1, 1) := by decide +kernel
theorem dX12_readSum_51 : decode cX12_readSum 51 = .ok (.invokevirtual 470, 3) := by decide +kernel
theorem dX12_readSum_54 : decode cX12_readSum 54 = .ok (.aload_n 0, 1) := by decide +kernel
theorem dX12_readSum_55 : decode cX12_readSum 55 = .ok (.iload_n 2, 1) := by decide +kernel
theorem dX12_readSum_56 : decode cX12_readSum 56 = .ok (.iconst 0, 1) := by decide +kernel
theorem dX12_readSum_57 : decode cX12_readSum 57 = .ok (.invokevirtual 461, 3) := by decide +kernel
theorem dX12_readSum_60 : decode cX12_readSum 60 = .ok (.goto (-55), 3) := by decide +kernel
theorem dX12_readSum_63 : decode cX12_readSum 63 = .ok (.return_, 1) := by decide +kernel
theorem dX12_readItem_0 : decode cX12_readItem 0 = .ok (.aload_n 0, 1) := by decide +kernel
theorem dX12_readItem_1 : decode cX12_readItem 1 = .ok (.iload_n 1, 1) := by decide +kernel
theorem dX12_readItem_2 : decode cX12_readItem 2 = .ok (.invokevirtual 473, 3) := by decide +kernel
theorem dX12_readItem_5 : decode cX12_readItem 5 = .ok (.aload_n 0, 1) := by decide +kernel
theorem dX12_readItem_6 : decode cX12_readItem 6 = .ok (.getfield 383, 3) := by decide +kernel
theorem dX12_readItem_9 : decode cX12_readItem 9 = .ok (.ifCond .ne 78, 3) := by decide +kernel
theorem dX12_readItem_12 : decode cX12_readItem 12 = .ok (.aload_n 0, 1) := by decide +kernel
theorem dX12_readItem_13 : decode cX12_readItem 13 = .ok (.bipush 42, 2) := by decide +kernel
theorem dX12_readItem_15 : decode cX12_readItem 15 = .ok (.invokevirtual 440, 3) := by decide +kernel
theorem dX12_readItem_18 : decode cX12_readItem 18 = .ok (.ifCond .ne 21, 3) := by decide +kernel
theorem dX12_readItem_21 : decode cX12_readItem 21 = .ok (.aload_n 0, 1) := by decide +kernel
theorem dX12_readItem_22 : decode cX12_readItem 22 = .ok (.bipush 47, 2) := by decide +kernel
theorem dX12_readItem_24 : decode cX12_readItem 24 = .ok (.invokevirtual 440, 3) := by decide +kernel
theorem dX12_readItem_27 : decode cX12_readItem 27 = .ok (.ifCond .ne 12, 3) := by decide +kernel
theorem dX12_readItem_30 : decode cX12_readItem 30 = .ok (.aload_n 0, 1) := by decide +kernel
theorem dX12_readItem_31 : decode cX12_readItem 31 = .ok (.bipush 37, 2) := by decide +kernel
theorem dX12_readItem_33 : decode cX12_readItem 33 = .ok (.invokevirtual 440, 3) := by decide +kernel
theorem dX12_readItem_36 : decode cX12_readItem 36 = .ok (.ifCond .eq 51, 3) := by decide +kernel
theorem dX12_readItem_39 : decode cX12_readItem 39 = .ok (.aload_n 0, 1) := by decide +kernel
theorem dX12_readItem_40 : decode cX12_readItem 40 = .ok (.bipush 42, 2) := by decide +kernel
theorem dX12_readItem_42 : decode cX12_readItem 42 = .ok (.invokevirtual 440, 3) := by decide +kernel
theorem dX12_readItem_45 : decode cX12_readItem 45 = .ok (.ifCond .eq 7, 3) := by decide +kernel
theorem dX12_readItem_48 : decode cX12_readItem 48 = .ok (.iconst 5, 1) := by decide +kernel
theorem dX12_readItem_49 : decode cX12_readItem 49 = .ok (.goto 19, 3) := by decide +kernel
theorem dX12_readItem_52 : decode cX12_readItem 52 = .ok (.aload_n 0, 1) := by decide +kernel
theorem dX12_readItem_53 : decode cX12_readItem 53 = .ok (.bipush 47, 2) := by decide +kernel
theorem dX12_readItem_55 : decode cX12_readItem 55 = .ok (.invokevirtual 440, 3) := by decide +kernel
theorem dX12_readItem_58 : decode cX12_readItem 58 = .ok (.ifCond .eq 8, 3) := by decide +kernel
theorem dX12_readItem_61 : decode cX12_readItem 61 = .ok (.bipush 6, 2) := by decide +kernel
theorem dX12_readItem_63 : decode cX12_readItem 63 = .ok (.goto 5, 3) := by decide +kernel
theorem dX12_readItem_66 : decode cX12_readItem 66 = .ok (.bipush 7, 2) := by decide +kernel
theorem dX12_readItem_68 : decode cX12_readItem 68 = .ok (.istore_n 2, 1) := by decide +kernel
theorem dX12_readItem_69 : decode cX12_readItem 69 = .ok (.aload_n 0, 1) := by decide +kernel
theorem dX12_readItem_70 : decode cX12_readItem 70 = .ok (.invokevirtual 455, 3) := by decide +kernel
theorem dX12_readItem_73 : decode cX12_readItem 73 = .ok (.aload_n 0, 1) := by decide +kernel
theorem dX12_readItem_74 : decode cX12_readItem 74 = .ok (.iload_n 1, 1) := by decide +kernel
theorem dX12_readItem_75 : decode cX12_readItem 75 = .ok (.invokevirtual 473, 3) := by decide +kernel
theorem dX12_readItem_78 : decode cX12_readItem 78 = .ok (.aload_n 0, 1) := by decide +kernel
theorem dX12_readItem_79 : decode cX12_readItem 79 = .ok (.iload_n 2, 1) := by decide +kernel
theorem dX12_readItem_80 : decode cX12_readItem 80 = .ok (.iconst 0, 1) := by decide +kernel
theorem dX12_readItem_81 : decode cX12_readItem 81 = .ok (.invokevirtual 461, 3) := by decide +kernel
theorem dX12_readItem_84 : decode cX12_readItem 84 = .ok (.goto (-79), 3) := by decide +kernel
theorem dX12_readItem_87 : decode cX12_readItem 87 = .ok (.return_, 1) := by decide +kernel
theorem dX12_readAtom_0 : decode cX12_readAtom 0 = .ok (.aload_n 0, 1) := by decide +kernel
theorem dX12_readAtom_1 : decode cX12_readAtom 1 = .ok (.getfield 383, 3) := by decide +kernel
theorem dX12_readAtom_4 : decode cX12_readAtom 4 = .ok (.ifCond .le 4, 3) := by decide +kernel
theorem dX12_readAtom_7 : decode cX12_readAtom 7 = .ok (.return_, 1) := by decide +kernel
theorem dX12_readAtom_8 : decode cX12_readAtom 8 = .ok (.aload_n 0, 1) := by decide +kernel
theorem dX12_readAtom_9 : decode cX12_readAtom 9 = .ok (.getfield 348, 3) := by decide +kernel
theorem dX12_readAtom_12 : decode cX12_readAtom 12 = .ok (.iconst 2, 1) := by decide +kernel
theorem dX12_readAtom_13 : decode cX12_readAtom 13 = .ok (.if_icmp .ne 17, 3) := by decide +kernel
theorem dX12_readAtom_16 : decode cX12_readAtom 16 = .ok (.aload_n 0, 1) := by decide +kernel
theorem dX12_readAtom_17 : decode cX12_readAtom 17 = .ok (.iconst 0, 1) := by decide +kernel
theorem dX12_readAtom_18 : decode cX12_readAtom 18 = .ok (.aload_n 0, 1) := by decide +kernel
theorem dX12_readAtom_19 : decode cX12_readAtom 19 = .ok (.getfield 368, 3) := by decide +kernel
theorem dX12_readAtom_22 : decode cX12_readAtom 22 = .ok (.invokevirtual 461, 3) := by decide +kernel
theorem dX12_readAtom_25 : decode cX12_readAtom 25 = .ok (.aload_n 0, 1) := by decide +kernel
theorem dX12_readAtom_26 : decode cX12_readAtom 26 = .ok (.invokevirtual 455, 3) := by decide +kernel
theorem dX12_readAtom_29 : decode cX12_readAtom 29 = .ok (.return_, 1) := by decide +kernel
theorem dX12_readAtom_30 : decode cX12_readAtom 30 = .ok (.aload_n 0, 1) := by decide +kernel
theorem dX12_readAtom_31 : decode cX12_readAtom 31 = .ok (.bipush 40, 2) := by decide +kernel
theorem dX12_readAtom_33 : decode cX12_readAtom 33 = .ok (.invokevirtual 440, 3) := by decide +kernel
theorem dX12_readAtom_36 : decode cX12_readAtom 36 = .ok (.ifCond .eq 46, 3) := by decide +kernel
theorem dX12_readAtom_39 : decode cX12_readAtom 39 = .ok (.aload_n 0, 1) := by decide +kernel
theorem dX12_readAtom_40 : decode cX12_readAtom 40 = .ok (.invokevirtual 455, 3) := by decide +kernel
theorem dX12_readAtom_43 : decode cX12_readAtom 43 = .ok (.aload_n 0, 1) := by decide +kernel
theorem dX12_readAtom_44 : decode cX12_readAtom 44 = .ok (.iload_n 1, 1) := by decide +kernel
theorem dX12_readAtom_45 : decode cX12_readAtom 45 = .ok (.iconst 1, 1) := by decide +kernel
theorem dX12_readAtom_46 : decode cX12_readAtom 46 = .ok (.iadd, 1) := by decide +kernel
theorem dX12_readAtom_47 : decode cX12_readAtom 47 = .ok (.invokevirtual 464, 3) := by decide +kernel
theorem dX12_readAtom_50 : decode cX12_readAtom 50 = .ok (.aload_n 0, 1) := by decide +kernel
theorem dX12_readAtom_51 : decode cX12_readAtom 51 = .ok (.getfield 383, 3) := by decide +kernel
theorem dX12_readAtom_54 : decode cX12_readAtom 54 = .ok (.ifCond .ne 16, 3) := by decide +kernel
theorem dX12_readAtom_57 : decode cX12_readAtom 57 = .ok (.aload_n 0, 1) := by decide +kernel
theorem dX12_readAtom_58 : decode cX12_readAtom 58 = .ok (.bipush 41, 2) := by decide +kernel
theorem dX12_readAtom_60 : decode cX12_readAtom 60 = .ok (.invokevirtual 440, 3) := by decide +kernel
theorem dX12_readAtom_63 : decode cX12_readAtom 63 = .ok (.ifCond .ne 7, 3) := by decide +kernel
theorem dX12_readAtom_66 : decode cX12_readAtom 66 = .ok (.aload_n 0, 1) := by decide +kernel
theorem dX12_readAtom_67 : decode cX12_readAtom 67 = .ok (.invokevirtual 449, 3) := by decide +kernel
theorem dX12_readAtom_70 : decode cX12_readAtom 70 = .ok (.aload_n 0, 1) := by decide +kernel
theorem dX12_readAtom_71 : decode cX12_readAtom 71 = .ok (.getfield 383, 3) := by decide +kernel
theorem dX12_readAtom_74 : decode cX12_readAtom 74 = .ok (.ifCond .ne 7, 3) := by decide +kernel
theorem dX12_readAtom_77 : decode cX12_readAtom 77 = .ok (.aload_n 0, 1) := by decide +kernel
theorem dX12_readAtom_78 : decode cX12_readAtom 78 = .ok (.invokevirtual 455, 3) := by decide +kernel
theorem dX12_readAtom_81 : decode cX12_readAtom 81 = .ok (.return_, 1) := by decide +kernel
theorem dX12_readAtom_82 : decode cX12_readAtom 82 = .ok (.aload_n 0, 1) := by decide +kernel
theorem dX12_readAtom_83 : decode cX12_readAtom 83 = .ok (.invokevirtual 424, 3) := by decide +kernel
theorem dX12_readAtom_86 : decode cX12_readAtom 86 = .ok (.ifCond .ne 10, 3) := by decide +kernel
theorem dX12_readAtom_89 : decode cX12_readAtom 89 = .ok (.aload_n 0, 1) := by decide +kernel
theorem dX12_readAtom_90 : decode cX12_readAtom 90 = .ok (.invokevirtual 427, 3) := by decide +kernel
theorem dX12_readAtom_93 : decode cX12_readAtom 93 = .ok (.ifCond .eq 23, 3) := by decide +kernel
theorem dX12_readAtom_96 : decode cX12_readAtom 96 = .ok (.aload_n 0, 1) := by decide +kernel
theorem dX12_readAtom_97 : decode cX12_readAtom 97 = .ok (.iload_n 1, 1) := by decide +kernel
theorem dX12_readAtom_98 : decode cX12_readAtom 98 = .ok (.aload_n 0, 1) := by decide +kernel
theorem dX12_readAtom_99 : decode cX12_readAtom 99 = .ok (.invokevirtual 424, 3) := by decide +kernel
theorem dX12_readAtom_102 : decode cX12_readAtom 102 = .ok (.ifCond .eq 8, 3) := by decide +kernel
theorem dX12_readAtom_105 : decode cX12_readAtom 105 = .ok (.bipush 8, 2) := by decide +kernel
theorem dX12_readAtom_107 : decode cX12_readAtom 107 = .ok (.goto 5, 3) := by decide +kernel
theorem dX12_readAtom_110 : decode cX12_readAtom 110 = .ok (.bipush 9, 2) := by decide +kernel
theorem dX12_readAtom_112 : decode cX12_readAtom 112 = .ok (.invokevirtual 476, 3) := by decide +kernel
theorem dX12_readAtom_115 : decode cX12_readAtom 115 = .ok (.return_, 1) := by decide +kernel
theorem dX12_readAtom_116 : decode cX12_readAtom 116 = .ok (.aload_n 0, 1) := by decide +kernel
theorem dX12_readAtom_117 : decode cX12_readAtom 117 = .ok (.invokevirtual 479, 3) := by decide +kernel
theorem dX12_readAtom_120 : decode cX12_readAtom 120 = .ok (.istore_n 2, 1) := by decide +kernel
theorem dX12_readAtom_121 : decode cX12_readAtom 121 = .ok (.aload_n 0, 1) := by decide +kernel
theorem dX12_readAtom_122 : decode cX12_readAtom 122 = .ok (.invokevirtual 483, 3) := by decide +kernel
theorem dX12_readAtom_125 : decode cX12_readAtom 125 = .ok (.istore_n 3, 1) := by decide +kernel
theorem dX12_readAtom_126 : decode cX12_readAtom 126 = .ok (.iload_n 2, 1) := by decide +kernel
theorem dX12_readAtom_127 : decode cX12_readAtom 127 = .ok (.ifCond .ge 37, 3) := by decide +kernel
theorem dX12_readAtom_130 : decode cX12_readAtom 130 = .ok (.iload_n 3, 1) := by decide +kernel
theorem dX12_readAtom_131 : decode cX12_readAtom 131 = .ok (.ifCond .ge 33, 3) := by decide +kernel
theorem dX12_readAtom_134 : decode cX12_readAtom 134 = .ok (.aload_n 0, 1) := by decide +kernel
theorem dX12_readAtom_135 : decode cX12_readAtom 135 = .ok (.getfield 348, 3) := by decide +kernel
theorem dX12_readAtom_138 : decode cX12_readAtom 138 = .ok (.iconst 1, 1) := by decide +kernel
theorem dX12_readAtom_139 : decode cX12_readAtom 139 = .ok (.if_icmp .ne 20, 3) := by decide +kernel
theorem dX12_readAtom_142 : decode cX12_readAtom 142 = .ok (.aload_n 0, 1) := by decide +kernel
theorem dX12_readAtom_143 : decode cX12_readAtom 143 = .ok (.invokevirtual 443, 3) := by decide +kernel
theorem dX12_readAtom_146 : decode cX12_readAtom 146 = .ok (.ifCond .ne 13, 3) := by decide +kernel
theorem dX12_readAtom_149 : decode cX12_readAtom 149 = .ok (.aload_n 0, 1) := by decide +kernel
theorem dX12_readAtom_150 : decode cX12_readAtom 150 = .ok (.bipush 6, 2) := by decide +kernel
theorem dX12_readAtom_152 : decode cX12_readAtom 152 = .ok (.aload_n 0, 1) := by decide +kernel
theorem dX12_readAtom_153 : decode cX12_readAtom 153 = .ok (.getfield 342, 3) := by decide +kernel
theorem dX12_readAtom_156 : decode cX12_readAtom 156 = .ok (.invokevirtual 389, 3) := by decide +kernel
theorem dX12_readAtom_159 : decode cX12_readAtom 159 = .ok (.aload_n 0, 1) := by decide +kernel
theorem dX12_readAtom_160 : decode cX12_readAtom 160 = .ok (.invokevirtual 449, 3) := by decide +kernel
theorem dX12_readAtom_163 : decode cX12_readAtom 163 = .ok (.return_, 1) := by decide +kernel
theorem dX12_readAtom_164 : decode cX12_readAtom 164 = .ok (.aload_n 0, 1) := by decide +kernel
theorem dX12_readAtom_165 : decode cX12_readAtom 165 = .ok (.iload_n 2, 1) := by decide +kernel
theorem dX12_readAtom_166 : decode cX12_readAtom 166 = .ok (.ifCond .lt 7, 3) := by decide +kernel
theorem dX12_readAtom_169 : decode cX12_readAtom 169 = .ok (.iconst 1, 1) := by decide +kernel
theorem dX12_readAtom_170 : decode cX12_readAtom 170 = .ok (.goto 4, 3) := by decide +kernel
theorem dX12_readAtom_173 : decode cX12_readAtom 173 = .ok (.iconst 2, 1) := by decide +kernel
theorem dX12_readAtom_174 : decode cX12_readAtom 174 = .ok (.iload_n 2, 1) := by decide +kernel
theorem dX12_readAtom_175 : decode cX12_readAtom 175 = .ok (.ifCond .lt 7, 3) := by decide +kernel
theorem dX12_readAtom_178 : decode cX12_readAtom 178 = .ok (.iload_n 2, 1) := by decide +kernel
theorem dX12_readAtom_179 : decode cX12_readAtom 179 = .ok (.goto 4, 3) := by decide +kernel
theorem dX12_readAtom_182 : decode cX12_readAtom 182 = .ok (.iload_n 3, 1) := by decide +kernel
theorem dX12_readAtom_183 : decode cX12_readAtom 183 = .ok (.invokevirtual 461, 3) := by decide +kernel
theorem dX12_readAtom_186 : decode cX12_readAtom 186 = .ok (.aload_n 0, 1) := by decide +kernel
theorem dX12_readAtom_187 : decode cX12_readAtom 187 = .ok (.invokevirtual 455, 3) := by decide +kernel
theorem dX12_readAtom_190 : decode cX12_readAtom 190 = .ok (.return_, 1) := by decide +kernel
theorem dX12_readFew_0 : decode cX12_readFew 0 = .ok (.aload_n 0, 1) := by decide +kernel
theorem dX12_readFew_1 : decode cX12_readFew 1 = .ok (.invokevirtual 455, 3) := by decide +kernel
theorem dX12_readFew_4 : decode cX12_readFew 4 = .ok (.aload_n 0, 1) := by decide +kernel
theorem dX12_readFew_5 : decode cX12_readFew 5 = .ok (.bipush 40, 2) := by decide +kernel
theorem dX12_readFew_7 : decode cX12_readFew 7 = .ok (.invokevirtual 440, 3) := by decide +kernel
theorem dX12_readFew_10 : decode cX12_readFew 10 = .ok (.ifCond .ne 8, 3) := by decide +kernel
theorem dX12_readFew_13 : decode cX12_readFew 13 = .ok (.aload_n 0, 1) := by decide +kernel
theorem dX12_readFew_14 : decode cX12_readFew 14 = .ok (.invokevirtual 449, 3) := by decide +kernel
theorem dX12_readFew_17 : decode cX12_readFew 17 = .ok (.return_, 1) := by decide +kernel
theorem dX12_readFew_18 : decode cX12_readFew 18 = .ok (.aload_n 0, 1) := by decide +kernel
theorem dX12_readFew_19 : decode cX12_readFew 19 = .ok (.invokevirtual 455, 3) := by decide +kernel
theorem dX12_readFew_22 : decode cX12_readFew 22 = .ok (.aload_n 0, 1) := by decide +kernel
theorem dX12_readFew_23 : decode cX12_readFew 23 = .ok (.iload_n 1, 1) := by decide +kernel
theorem dX12_readFew_24 : decode cX12_readFew 24 = .ok (.iconst 1, 1) := by decide +kernel
theorem dX12_readFew_25 : decode cX12_readFew 25 = .ok (.iadd, 1) := by decide +kernel
theorem dX12_readFew_26 : decode cX12_readFew 26 = .ok (.invokevirtual 486, 3) := by decide +kernel
theorem dX12_readFew_29 : decode cX12_readFew 29 = .ok (.aload_n 0, 1) := by decide +kernel
theorem dX12_readFew_30 : decode cX12_readFew 30 = .ok (.getfield 383, 3) := by decide +kernel
theorem dX12_readFew_33 : decode cX12_readFew 33 = .ok (.ifCond .ne 16, 3) := by decide +kernel
theorem dX12_readFew_36 : decode cX12_readFew 36 = .ok (.aload_n 0, 1) := by decide +kernel
theorem dX12_readFew_37 : decode cX12_readFew 37 = .ok (.bipush 44, 2) := by decide +kernel
theorem dX12_readFew_39 : decode cX12_readFew 39 = .ok (.invokevirtual 440, 3) := by decide +kernel
theorem dX12_readFew_42 : decode cX12_readFew 42 = .ok (.ifCond .ne 7, 3) := by decide +kernel
theorem dX12_readFew_45 : decode cX12_readFew 45 = .ok (.aload_n 0, 1) := by decide +kernel
theorem dX12_readFew_46 : decode cX12_readFew 46 = .ok (.invokevirtual 449, 3) := by decide +kernel
theorem dX12_readFew_49 : decode cX12_readFew 49 = .ok (.aload_n 0, 1) := by decide +kernel
theorem dX12_readFew_50 : decode cX12_readFew 50 = .ok (.getfield 383, 3) := by decide +kernel
theorem dX12_readFew_53 : decode cX12_readFew 53 = .ok (.ifCond .le 4, 3) := by decide +kernel
theorem dX12_readFew_56 : decode cX12_readFew 56 = .ok (.return_, 1) := by decide +kernel
theorem dX12_readFew_57 : decode cX12_readFew 57 = .ok (.aload_n 0, 1) := by decide +kernel
theorem dX12_readFew_58 : decode cX12_readFew 58 = .ok (.invokevirtual 455, 3) := by decide +kernel
theorem dX12_readFew_61 : decode cX12_readFew 61 = .ok (.aload_n 0, 1) := by decide +kernel
theorem dX12_readFew_62 : decode cX12_readFew 62 = .ok (.iload_n 1, 1) := by decide +kernel
theorem dX12_readFew_63 : decode cX12_readFew 63 = .ok (.iconst 1, 1) := by decide +kernel
theorem dX12_readFew_64 : decode cX12_readFew 64 = .ok (.iadd, 1) := by decide +kernel
theorem dX12_readFew_65 : decode cX12_readFew 65 = .ok (.invokevirtual 486, 3) := by decide +kernel
theorem dX12_readFew_68 : decode cX12_readFew 68 = .ok (.aload_n 0, 1) := by decide +kernel
theorem dX12_readFew_69 : decode cX12_readFew 69 = .ok (.getfield 383, 3) := by decide +kernel
theorem dX12_readFew_72 : decode cX12_readFew 72 = .ok (.ifCond .ne 16, 3) := by decide +kernel
theorem dX12_readFew_75 : decode cX12_readFew 75 = .ok (.aload_n 0, 1) := by decide +kernel
theorem dX12_readFew_76 : decode cX12_readFew 76 = .ok (.bipush 41, 2) := by decide +kernel
theorem dX12_readFew_78 : decode cX12_readFew 78 = .ok (.invokevirtual 440, 3) := by decide +kernel
theorem dX12_readFew_81 : decode cX12_readFew 81 = .ok (.ifCond .ne 7, 3) := by decide +kernel
theorem dX12_readFew_84 : decode cX12_readFew 84 = .ok (.aload_n 0, 1) := by decide +kernel
theorem dX12_readFew_85 : decode cX12_readFew 85 = .ok (.invokevirtual 449, 3) := by decide +kernel
theorem dX12_readFew_88 : decode cX12_readFew 88 = .ok (.aload_n 0, 1) := by decide +kernel
theorem dX12_readFew_89 : decode cX12_readFew 89 = .ok (.getfield 383, 3) := by decide +kernel
theorem dX12_readFew_92 : decode cX12_readFew 92 = .ok (.ifCond .le 4, 3) := by decide +kernel
theorem dX12_readFew_95 : decode cX12_readFew 95 = .ok (.return_, 1) := by decide +kernel
theorem dX12_readFew_96 : decode cX12_readFew 96 = .ok (.aload_n 0, 1) := by decide +kernel
theorem dX12_readFew_97 : decode cX12_readFew 97 = .ok (.invokevirtual 455, 3) := by decide +kernel
theorem dX12_readFew_100 : decode cX12_readFew 100 = .ok (.aload_n 0, 1) := by decide +kernel
theorem dX12_readFew_101 : decode cX12_readFew 101 = .ok (.iload_n 2, 1) := by decide +kernel
theorem dX12_readFew_102 : decode cX12_readFew 102 = .ok (.iconst 0, 1) := by decide +kernel
theorem dX12_readFew_103 : decode cX12_readFew 103 = .ok (.invokevirtual 461, 3) := by decide +kernel
theorem dX12_readFew_106 : decode cX12_readFew 106 = .ok (.return_, 1) := by decide +kernel
theorem dX12_readDeeper_0 : decode cX12_readDeeper 0 = .ok (.aload_n 0, 1) := by decide +kernel
theorem dX12_readDeeper_1 : decode cX12_readDeeper 1 = .ok (.invokevirtual 437, 3) := by decide +kernel
theorem dX12_readDeeper_4 : decode cX12_readDeeper 4 = .ok (.ifCond .ne 7, 3) := by decide +kernel
theorem dX12_readDeeper_7 : decode cX12_readDeeper 7 = .ok (.aload_n 0, 1) := by decide +kernel
theorem dX12_readDeeper_8 : decode cX12_readDeeper 8 = .ok (.invokevirtual 449, 3) := by decide +kernel
theorem dX12_readDeeper_11 : decode cX12_readDeeper 11 = .ok (.iload_n 1, 1) := by decide +kernel
theorem dX12_readDeeper_12 : decode cX12_readDeeper 12 = .ok (.bipush 8, 2) := by decide +kernel
theorem dX12_readDeeper_14 : decode cX12_readDeeper 14 = .ok (.if_icmp .le 12, 3) := by decide +kernel
theorem dX12_readDeeper_17 : decode cX12_readDeeper 17 = .ok (.aload_n 0, 1) := by decide +kernel
theorem dX12_readDeeper_18 : decode cX12_readDeeper 18 = .ok (.iconst 5, 1) := by decide +kernel
theorem dX12_readDeeper_19 : decode cX12_readDeeper 19 = .ok (.aload_n 0, 1) := by decide +kernel
theorem dX12_readDeeper_20 : decode cX12_readDeeper 20 = .ok (.getfield 342, 3) := by decide +kernel
theorem dX12_readDeeper_23 : decode cX12_readDeeper 23 = .ok (.invokevirtual 389, 3) := by decide +kernel
theorem dX12_readDeeper_26 : decode cX12_readDeeper 26 = .ok (.aload_n 0, 1) := by decide +kernel
theorem dX12_readDeeper_27 : decode cX12_readDeeper 27 = .ok (.getfield 383, 3) := by decide +kernel
theorem dX12_readDeeper_30 : decode cX12_readDeeper 30 = .ok (.ifCond .ne 8, 3) := by decide +kernel
theorem dX12_readDeeper_33 : decode cX12_readDeeper 33 = .ok (.aload_n 0, 1) := by decide +kernel
theorem dX12_readDeeper_34 : decode cX12_readDeeper 34 = .ok (.iload_n 1, 1) := by decide +kernel
theorem dX12_readDeeper_35 : decode cX12_readDeeper 35 = .ok (.invokevirtual 452, 3) := by decide +kernel
theorem dX12_readDeeper_38 : decode cX12_readDeeper 38 = .ok (.return_, 1) := by decide +kernel
theorem dX12_readDef_0 : decode cX12_readDef 0 = .ok (.aload_n 0, 1) := by decide +kernel
theorem dX12_readDef_1 : decode cX12_readDef 1 = .ok (.getfield 348, 3) := by decide +kernel
theorem dX12_readDef_4 : decode cX12_readDef 4 = .ok (.iconst 1, 1) := by decide +kernel
theorem dX12_readDef_5 : decode cX12_readDef 5 = .ok (.if_icmp .ne 26, 3) := by decide +kernel
theorem dX12_readDef_8 : decode cX12_readDef 8 = .ok (.aload_n 0, 1) := by decide +kernel
theorem dX12_readDef_9 : decode cX12_readDef 9 = .ok (.getfield 362, 3) := by decide +kernel
theorem dX12_readDef_12 : decode cX12_readDef 12 = .ok (.bipush 8, 2) := by decide +kernel
theorem dX12_readDef_14 : decode cX12_readDef 14 = .ok (.if_icmp .gt 17, 3) := by decide +kernel
theorem dX12_readDef_17 : decode cX12_readDef 17 = .ok (.aload_n 0, 1) := by decide +kernel
theorem dX12_readDef_18 : decode cX12_readDef 18 = .ok (.invokevirtual 479, 3) := by decide +kernel
theorem dX12_readDef_21 : decode cX12_readDef 21 = .ok (.ifCond .ge 10, 3) := by decide +kernel
theorem dX12_readDef_24 : decode cX12_readDef 24 = .ok (.aload_n 0, 1) := by decide +kernel
theorem dX12_readDef_25 : decode cX12_readDef 25 = .ok (.invokevirtual 443, 3) := by decide +kernel
theorem dX12_readDef_28 : decode cX12_readDef 28 = .ok (.ifCond .eq 8, 3) := by decide +kernel
theorem dX12_readDef_31 : decode cX12_readDef 31 = .ok (.aload_n 0, 1) := by decide +kernel
theorem dX12_readDef_32 : decode cX12_readDef 32 = .ok (.invokevirtual 449, 3) := by decide +kernel
theorem dX12_readDef_35 : decode cX12_readDef 35 = .ok (.return_, 1) := by decide +kernel
theorem dX12_readDef_36 : decode cX12_readDef 36 = .ok (.aload_n 0, 1) := by decide +kernel
theorem dX12_readDef_37 : decode cX12_readDef 37 = .ok (.getfield 430, 3) := by decide +kernel
theorem dX12_readDef_40 : decode cX12_readDef 40 = .ok (.bipush 10, 2) := by decide +kernel
theorem dX12_readDef_42 : decode cX12_readDef 42 = .ok (.if_icmp .ne 12, 3) := by decide +kernel
theorem dX12_readDef_45 : decode cX12_readDef 45 = .ok (.aload_n 0, 1) := by decide +kernel
theorem dX12_readDef_46 : decode cX12_readDef 46 = .ok (.iconst 3, 1) := by decide +kernel
theorem dX12_readDef_47 : decode cX12_readDef 47 = .ok (.aload_n 0, 1) := by decide +kernel
theorem dX12_readDef_48 : decode cX12_readDef 48 = .ok (.getfield 342, 3) := by decide +kernel
theorem dX12_readDef_51 : decode cX12_readDef 51 = .ok (.invokevirtual 389, 3) := by decide +kernel
theorem dX12_readDef_54 : decode cX12_readDef 54 = .ok (.aload_n 0, 1) := by decide +kernel
theorem dX12_readDef_55 : decode cX12_readDef 55 = .ok (.invokevirtual 483, 3) := by decide +kernel
theorem dX12_readDef_58 : decode cX12_readDef 58 = .ok (.ifCond .lt 12, 3) := by decide +kernel
theorem dX12_readDef_61 : decode cX12_readDef 61 = .ok (.aload_n 0, 1) := by decide +kernel
theorem dX12_readDef_62 : decode cX12_readDef 62 = .ok (.iconst 4, 1) := by decide +kernel
theorem dX12_readDef_63 : decode cX12_readDef 63 = .ok (.aload_n 0, 1) := by decide +kernel
theorem dX12_readDef_64 : decode cX12_readDef 64 = .ok (.getfield 342, 3) := by decide +kernel
theorem dX12_readDef_67 : decode cX12_readDef 67 = .ok (.invokevirtual 389, 3) := by decide +kernel
theorem dX12_readDef_70 : decode cX12_readDef 70 = .ok (.aload_n 0, 1) := by decide +kernel
theorem dX12_readDef_71 : decode cX12_readDef 71 = .ok (.getfield 383, 3) := by decide +kernel
theorem dX12_readDef_74 : decode cX12_readDef 74 = .ok (.ifCond .le 4, 3) := by decide +kernel
theorem dX12_readDef_77 : decode cX12_readDef 77 = .ok (.return_, 1) := by decide +kernel
theorem dX12_readDef_78 : decode cX12_readDef 78 = .ok (.aload_n 0, 1) := by decide +kernel
theorem dX12_readDef_79 : decode cX12_readDef 79 = .ok (.getfield 354, 3) := by decide +kernel
theorem dX12_readDef_82 : decode cX12_readDef 82 = .ok (.lstore_n 1, 1) := by decide +kernel
theorem dX12_readDef_83 : decode cX12_readDef 83 = .ok (.aload_n 0, 1) := by decide +kernel
theorem dX12_readDef_84 : decode cX12_readDef 84 = .ok (.invokevirtual 455, 3) := by decide +kernel
theorem dX12_readDef_87 : decode cX12_readDef 87 = .ok (.aload_n 0, 1) := by decide +kernel
theorem dX12_readDef_88 : decode cX12_readDef 88 = .ok (.bipush 58, 2) := by decide +kernel
theorem dX12_readDef_90 : decode cX12_readDef 90 = .ok (.invokevirtual 440, 3) := by decide +kernel
theorem dX12_readDef_93 : decode cX12_readDef 93 = .ok (.ifCond .ne 8, 3) := by decide +kernel
theorem dX12_readDef_96 : decode cX12_readDef 96 = .ok (.aload_n 0, 1) := by decide +kernel
theorem dX12_readDef_97 : decode cX12_readDef 97 = .ok (.invokevirtual 449, 3) := by decide +kernel
theorem dX12_readDef_100 : decode cX12_readDef 100 = .ok (.return_, 1) := by decide +kernel
theorem dX12_readDef_101 : decode cX12_readDef 101 = .ok (.aload_n 0, 1) := by decide +kernel
theorem dX12_readDef_102 : decode cX12_readDef 102 = .ok (.invokevirtual 455, 3) := by decide +kernel
theorem dX12_readDef_105 : decode cX12_readDef 105 = .ok (.aload_n 0, 1) := by decide +kernel
theorem dX12_readDef_106 : decode cX12_readDef 106 = .ok (.iconst 1, 1) := by decide +kernel
theorem dX12_readDef_107 : decode cX12_readDef 107 = .ok (.invokevirtual 464, 3) := by decide +kernel
theorem dX12_readDef_110 : decode cX12_readDef 110 = .ok (.aload_n 0, 1) := by decide +kernel
theorem dX12_readDef_111 : decode cX12_readDef 111 = .ok (.getfield 383, 3) := by decide +kernel
theorem dX12_readDef_114 : decode cX12_readDef 114 = .ok (.ifCond .ne 16, 3) := by decide +kernel
theorem dX12_readDef_117 : decode cX12_readDef 117 = .ok (.aload_n 0, 1) := by decide +kernel
theorem dX12_readDef_118 : decode cX12_readDef 118 = .ok (.bipush 59, 2) := by decide +kernel
theorem dX12_readDef_120 : decode cX12_readDef 120 = .ok (.invokevirtual 440, 3) := by decide +kernel
theorem dX12_readDef_123 : decode cX12_readDef 123 = .ok (.ifCond .ne 7, 3) := by decide +kernel
theorem dX12_readDef_126 : decode cX12_readDef 126 = .ok (.aload_n 0, 1) := by decide +kernel
theorem dX12_readDef_127 : decode cX12_readDef 127 = .ok (.invokevirtual 449, 3) := by decide +kernel
theorem dX12_readDef_130 : decode cX12_readDef 130 = .ok (.aload_n 0, 1) := by decide +kernel
theorem dX12_readDef_131 : decode cX12_readDef 131 = .ok (.getfield 383, 3) := by decide +kernel
theorem dX12_readDef_134 : decode cX12_readDef 134 = .ok (.ifCond .le 4, 3) := by decide +kernel
theorem dX12_readDef_137 : decode cX12_readDef 137 = .ok (.return_, 1) := by decide +kernel
theorem dX12_readDef_138 : decode cX12_readDef 138 = .ok (.aload_n 0, 1) := by decide +kernel
theorem dX12_readDef_139 : decode cX12_readDef 139 = .ok (.invokevirtual 455, 3) := by decide +kernel
theorem dX12_readDef_142 : decode cX12_readDef 142 = .ok (.aload_n 0, 1) := by decide +kernel
theorem dX12_readDef_143 : decode cX12_readDef 143 = .ok (.getfield 73, 3) := by decide +kernel
theorem dX12_readDef_146 : decode cX12_readDef 146 = .ok (.aload_n 0, 1) := by decide +kernel
theorem dX12_readDef_147 : decode cX12_readDef 147 = .ok (.getfield 430, 3) := by decide +kernel
theorem dX12_readDef_150 : decode cX12_readDef 150 = .ok (.lload_n 1, 1) := by decide +kernel
theorem dX12_readDef_151 : decode cX12_readDef 151 = .ok (.lastore, 1) := by decide +kernel
theorem dX12_readDef_152 : decode cX12_readDef 152 = .ok (.aload_n 0, 1) := by decide +kernel
theorem dX12_readDef_153 : decode cX12_readDef 153 = .ok (.dup, 1) := by decide +kernel
theorem dX12_readDef_154 : decode cX12_readDef 154 = .ok (.getfield 430, 3) := by decide +kernel
theorem dX12_readDef_157 : decode cX12_readDef 157 = .ok (.iconst 1, 1) := by decide +kernel
theorem dX12_readDef_158 : decode cX12_readDef 158 = .ok (.iadd, 1) := by decide +kernel
theorem dX12_readDef_159 : decode cX12_readDef 159 = .ok (.putfield 430, 3) := by decide +kernel
theorem dX12_readDef_162 : decode cX12_readDef 162 = .ok (.aload_n 0, 1) := by decide +kernel
theorem dX12_readDef_163 : decode cX12_readDef 163 = .ok (.getfield 64, 3) := by decide +kernel
theorem dX12_readDef_166 : decode cX12_readDef 166 = .ok (.aload_n 0, 1) := by decide +kernel
theorem dX12_readDef_167 : decode cX12_readDef 167 = .ok (.getfield 430, 3) := by decide +kernel
theorem dX12_readDef_170 : decode cX12_readDef 170 = .ok (.aload_n 0, 1) := by decide +kernel
theorem dX12_readDef_171 : decode cX12_readDef 171 = .ok (.getfield 433, 3) := by decide +kernel
theorem dX12_readDef_174 : decode cX12_readDef 174 = .ok (.iastore, 1) := by decide +kernel
theorem dX12_readDef_175 : decode cX12_readDef 175 = .ok (.return_, 1) := by decide +kernel
theorem dX12_feed_0 : decode cX12_feed 0 = .ok (.aload_n 0, 1) := by decide +kernel
theorem dX12_feed_1 : decode cX12_feed 1 = .ok (.iconst 0, 1) := by decide +kernel
theorem dX12_feed_2 : decode cX12_feed 2 = .ok (.putfield 200, 3) := by decide +kernel
theorem dX12_feed_5 : decode cX12_feed 5 = .ok (.aload_n 0, 1) := by decide +kernel
theorem dX12_feed_6 : decode cX12_feed 6 = .ok (.getfield 489, 3) := by decide +kernel
theorem dX12_feed_9 : decode cX12_feed 9 = .ok (.bipush 20, 2) := by decide +kernel
theorem dX12_feed_11 : decode cX12_feed 11 = .ok (.iadd, 1) := by decide +kernel
theorem dX12_feed_12 : decode cX12_feed 12 = .ok (.sipush 500, 3) := by decide +kernel
theorem dX12_feed_15 : decode cX12_feed 15 = .ok (.if_icmp .le 5, 3) := by decide +kernel
theorem dX12_feed_18 : decode cX12_feed 18 = .ok (.iconst (-1), 1) := by decide +kernel
theorem dX12_feed_19 : decode cX12_feed 19 = .ok (.ireturn, 1) := by decide +kernel
theorem dX12_feed_20 : decode cX12_feed 20 = .ok (.aload_n 0, 1) := by decide +kernel
theorem dX12_feed_21 : decode cX12_feed 21 = .ok (.iload_n 1, 1) := by decide +kernel
theorem dX12_feed_22 : decode cX12_feed 22 = .ok (.invokevirtual 492, 3) := by decide +kernel
theorem dX12_feed_25 : decode cX12_feed 25 = .ok (.aload_n 0, 1) := by decide +kernel
theorem dX12_feed_26 : decode cX12_feed 26 = .ok (.iload_n 2, 1) := by decide +kernel
theorem dX12_feed_27 : decode cX12_feed 27 = .ok (.invokevirtual 492, 3) := by decide +kernel
theorem dX12_feed_30 : decode cX12_feed 30 = .ok (.aload_n 0, 1) := by decide +kernel
theorem dX12_feed_31 : decode cX12_feed 31 = .ok (.iload_n 3, 1) := by decide +kernel
theorem dX12_feed_32 : decode cX12_feed 32 = .ok (.invokevirtual 492, 3) := by decide +kernel
theorem dX12_feed_35 : decode cX12_feed 35 = .ok (.aload_n 0, 1) := by decide +kernel
theorem dX12_feed_36 : decode cX12_feed 36 = .ok (.iload 4, 2) := by decide +kernel
theorem dX12_feed_38 : decode cX12_feed 38 = .ok (.invokevirtual 492, 3) := by decide +kernel
theorem dX12_feed_41 : decode cX12_feed 41 = .ok (.aload_n 0, 1) := by decide +kernel
theorem dX12_feed_42 : decode cX12_feed 42 = .ok (.iload 5, 2) := by decide +kernel
theorem dX12_feed_44 : decode cX12_feed 44 = .ok (.invokevirtual 492, 3) := by decide +kernel
theorem dX12_feed_47 : decode cX12_feed 47 = .ok (.aload_n 0, 1) := by decide +kernel
theorem dX12_feed_48 : decode cX12_feed 48 = .ok (.getfield 489, 3) := by decide +kernel
theorem dX12_feed_51 : decode cX12_feed 51 = .ok (.ireturn, 1) := by decide +kernel
theorem dX12_lay_0 : decode cX12_lay 0 = .ok (.iconst 3, 1) := by decide +kernel
theorem dX12_lay_1 : decode cX12_lay 1 = .ok (.istore_n 2, 1) := by decide +kernel
theorem dX12_lay_2 : decode cX12_lay 2 = .ok (.iload_n 2, 1) := by decide +kernel
theorem dX12_lay_3 : decode cX12_lay 3 = .ok (.ifCond .lt 35, 3) := by decide +kernel
theorem dX12_lay_6 : decode cX12_lay 6 = .ok (.aload_n 0, 1) := by decide +kernel
theorem dX12_lay_7 : decode cX12_lay 7 = .ok (.getfield 41, 3) := by decide +kernel
theorem dX12_lay_10 : decode cX12_lay 10 = .ok (.aload_n 0, 1) := by decide +kernel
theorem dX12_lay_11 : decode cX12_lay 11 = .ok (.getfield 489, 3) := by decide +kernel
theorem dX12_lay_14 : decode cX12_lay 14 = .ok (.iload_n 1, 1) := by decide +kernel
theorem dX12_lay_15 : decode cX12_lay 15 = .ok (.bipush 8, 2) := by decide +kernel
theorem dX12_lay_17 : decode cX12_lay 17 = .ok (.iload_n 2, 1) := by decide +kernel
theorem dX12_lay_18 : decode cX12_lay 18 = .ok (.imul, 1) := by decide +kernel
theorem dX12_lay_19 : decode cX12_lay 19 = .ok (.ishr, 1) := by decide +kernel
theorem dX12_lay_20 : decode cX12_lay 20 = .ok (.i2b, 1) := by decide +kernel
theorem dX12_lay_21 : decode cX12_lay 21 = .ok (.bastore, 1) := by decide +kernel
theorem dX12_lay_22 : decode cX12_lay 22 = .ok (.aload_n 0, 1) := by decide +kernel
theorem dX12_lay_23 : decode cX12_lay 23 = .ok (.dup, 1) := by decide +kernel
theorem dX12_lay_24 : decode cX12_lay 24 = .ok (.getfield 489, 3) := by decide +kernel
theorem dX12_lay_27 : decode cX12_lay 27 = .ok (.iconst 1, 1) := by decide +kernel
theorem dX12_lay_28 : decode cX12_lay 28 = .ok (.iadd, 1) := by decide +kernel
theorem dX12_lay_29 : decode cX12_lay 29 = .ok (.putfield 489, 3) := by decide +kernel
theorem dX12_lay_32 : decode cX12_lay 32 = .ok (.iinc 2 (-1), 3) := by decide +kernel
theorem dX12_lay_35 : decode cX12_lay 35 = .ok (.goto (-33), 3) := by decide +kernel
theorem dX12_lay_38 : decode cX12_lay 38 = .ok (.return_, 1) := by decide +kernel
theorem dX12_rules_0 : decode cX12_rules 0 = .ok (.aload_n 0, 1) := by decide +kernel
theorem dX12_rules_1 : decode cX12_rules 1 = .ok (.iconst 0, 1) := by decide +kernel
theorem dX12_rules_2 : decode cX12_rules 2 = .ok (.putfield 200, 3) := by decide +kernel
theorem dX12_rules_5 : decode cX12_rules 5 = .ok (.aload_n 0, 1) := by decide +kernel
theorem dX12_rules_6 : decode cX12_rules 6 = .ok (.iconst 0, 1) := by decide +kernel
theorem dX12_rules_7 : decode cX12_rules 7 = .ok (.putfield 203, 3) := by decide +kernel
theorem dX12_rules_10 : decode cX12_rules 10 = .ok (.iload_n 1, 1) := by decide +kernel
theorem dX12_rules_11 : decode cX12_rules 11 = .ok (.ifCond .lt 18, 3) := by decide +kernel
theorem dX12_rules_14 : decode cX12_rules 14 = .ok (.iload_n 1, 1) := by decide +kernel
theorem dX12_rules_15 : decode cX12_rules 15 = .ok (.aload_n 0, 1) := by decide +kernel
theorem dX12_rules_16 : decode cX12_rules 16 = .ok (.getfield 489, 3) := by decide +kernel
theorem dX12_rules_19 : decode cX12_rules 19 = .ok (.if_icmp .gt 10, 3) := by decide +kernel
theorem dX12_rules_22 : decode cX12_rules 22 = .ok (.iload_n 2, 1) := by decide +kernel
theorem dX12_rules_23 : decode cX12_rules 23 = .ok (.invokestatic 250, 3) := by decide +kernel
theorem dX12_rules_26 : decode cX12_rules 26 = .ok (.ifCond .ne 9, 3) := by decide +kernel
theorem dX12_rules_29 : decode cX12_rules 29 = .ok (.aload_n 0, 1) := by decide +kernel
theorem dX12_rules_30 : decode cX12_rules 30 = .ok (.iconst 5, 1) := by decide +kernel
theorem dX12_rules_31 : decode cX12_rules 31 = .ok (.invokevirtual 261, 3) := by decide +kernel
theorem dX12_rules_34 : decode cX12_rules 34 = .ok (.ireturn, 1) := by decide +kernel
theorem dX12_rules_35 : decode cX12_rules 35 = .ok (.aload_n 0, 1) := by decide +kernel
theorem dX12_rules_36 : decode cX12_rules 36 = .ok (.getfield 495, 3) := by decide +kernel
theorem dX12_rules_39 : decode cX12_rules 39 = .ok (.iconst 4, 1) := by decide +kernel
theorem dX12_rules_40 : decode cX12_rules 40 = .ok (.if_icmp .ne 10, 3) := by decide +kernel
theorem dX12_rules_43 : decode cX12_rules 43 = .ok (.aload_n 0, 1) := by decide +kernel
theorem dX12_rules_44 : decode cX12_rules 44 = .ok (.bipush 7, 2) := by decide +kernel
theorem dX12_rules_46 : decode cX12_rules 46 = .ok (.invokevirtual 261, 3) := by decide +kernel
theorem dX12_rules_49 : decode cX12_rules 49 = .ok (.ireturn, 1) := by decide +kernel
theorem dX12_rules_50 : decode cX12_rules 50 = .ok (.aload_n 0, 1) := by decide +kernel
theorem dX12_rules_51 : decode cX12_rules 51 = .ok (.iload_n 1, 1) := by decide +kernel
theorem dX12_rules_52 : decode cX12_rules 52 = .ok (.putfield 336, 3) := by decide +kernel
theorem dX12_rules_55 : decode cX12_rules 55 = .ok (.aload_n 0, 1) := by decide +kernel
theorem dX12_rules_56 : decode cX12_rules 56 = .ok (.iconst 0, 1) := by decide +kernel
theorem dX12_rules_57 : decode cX12_rules 57 = .ok (.putfield 379, 3) := by decide +kernel
theorem dX12_rules_60 : decode cX12_rules 60 = .ok (.aload_n 0, 1) := by decide +kernel
theorem dX12_rules_61 : decode cX12_rules 61 = .ok (.iconst 0, 1) := by decide +kernel
theorem dX12_rules_62 : decode cX12_rules 62 = .ok (.putfield 489, 3) := by decide +kernel
theorem dX12_rules_65 : decode cX12_rules 65 = .ok (.aload_n 0, 1) := by decide +kernel
theorem dX12_rules_66 : decode cX12_rules 66 = .ok (.iconst 0, 1) := by decide +kernel
theorem dX12_rules_67 : decode cX12_rules 67 = .ok (.putfield 339, 3) := by decide +kernel
theorem dX12_rules_70 : decode cX12_rules 70 = .ok (.aload_n 0, 1) := by decide +kernel
theorem dX12_rules_71 : decode cX12_rules 71 = .ok (.iconst 0, 1) := by decide +kernel
theorem dX12_rules_72 : decode cX12_rules 72 = .ok (.putfield 383, 3) := by decide +kernel
theorem dX12_rules_75 : decode cX12_rules 75 = .ok (.aload_n 0, 1) := by decide +kernel
theorem dX12_rules_76 : decode cX12_rules 76 = .ok (.iconst 0, 1) := by decide +kernel
theorem dX12_rules_77 : decode cX12_rules 77 = .ok (.putfield 430, 3) := by decide +kernel
theorem dX12_rules_80 : decode cX12_rules 80 = .ok (.aload_n 0, 1) := by decide +kernel
theorem dX12_rules_81 : decode cX12_rules 81 = .ok (.iconst 0, 1) := by decide +kernel
theorem dX12_rules_82 : decode cX12_rules 82 = .ok (.putfield 433, 3) := by decide +kernel
theorem dX12_rules_85 : decode cX12_rules 85 = .ok (.aload_n 0, 1) := by decide +kernel
theorem dX12_rules_86 : decode cX12_rules 86 = .ok (.getfield 64, 3) := by decide +kernel
theorem dX12_rules_89 : decode cX12_rules 89 = .ok (.iconst 0, 1) := by decide +kernel
theorem dX12_rules_90 : decode cX12_rules 90 = .ok (.iconst 0, 1) := by decide +kernel
theorem dX12_rules_91 : decode cX12_rules 91 = .ok (.iastore, 1) := by decide +kernel
theorem dX12_rules_92 : decode cX12_rules 92 = .ok (.aload_n 0, 1) := by decide +kernel
theorem dX12_rules_93 : decode cX12_rules 93 = .ok (.invokevirtual 455, 3) := by decide +kernel
theorem dX12_rules_96 : decode cX12_rules 96 = .ok (.aload_n 0, 1) := by decide +kernel
theorem dX12_rules_97 : decode cX12_rules 97 = .ok (.getfield 383, 3) := by decide +kernel
theorem dX12_rules_100 : decode cX12_rules 100 = .ok (.ifCond .ne 17, 3) := by decide +kernel
theorem dX12_rules_103 : decode cX12_rules 103 = .ok (.aload_n 0, 1) := by decide +kernel
theorem dX12_rules_104 : decode cX12_rules 104 = .ok (.getfield 348, 3) := by decide +kernel
theorem dX12_rules_107 : decode cX12_rules 107 = .ok (.ifCond .eq 10, 3) := by decide +kernel
theorem dX12_rules_110 : decode cX12_rules 110 = .ok (.aload_n 0, 1) := by decide +kernel
theorem dX12_rules_111 : decode cX12_rules 111 = .ok (.invokevirtual 498, 3) := by decide +kernel
theorem dX12_rules_114 : decode cX12_rules 114 = .ok (.goto (-18), 3) := by decide +kernel
theorem dX12_rules_117 : decode cX12_rules 117 = .ok (.aload_n 0, 1) := by decide +kernel
theorem dX12_rules_118 : decode cX12_rules 118 = .ok (.aload_n 0, 1) := by decide +kernel
theorem dX12_rules_119 : decode cX12_rules 119 = .ok (.getfield 383, 3) := by decide +kernel
theorem dX12_rules_122 : decode cX12_rules 122 = .ok (.putfield 45, 3) := by decide +kernel
theorem dX12_rules_125 : decode cX12_rules 125 = .ok (.aload_n 0, 1) := by decide +kernel
theorem dX12_rules_126 : decode cX12_rules 126 = .ok (.aload_n 0, 1) := by decide +kernel
theorem dX12_rules_127 : decode cX12_rules 127 = .ok (.getfield 383, 3) := by decide +kernel
theorem dX12_rules_130 : decode cX12_rules 130 = .ok (.ifCond .ne 7, 3) := by decide +kernel
theorem dX12_rules_133 : decode cX12_rules 133 = .ok (.iconst (-1), 1) := by decide +kernel
theorem dX12_rules_134 : decode cX12_rules 134 = .ok (.goto 7, 3) := by decide +kernel
theorem dX12_rules_137 : decode cX12_rules 137 = .ok (.aload_n 0, 1) := by decide +kernel
theorem dX12_rules_138 : decode cX12_rules 138 = .ok (.getfield 386, 3) := by decide +kernel
theorem dX12_rules_141 : decode cX12_rules 141 = .ok (.putfield 49, 3) := by decide +kernel
theorem dX12_rules_144 : decode cX12_rules 144 = .ok (.aload_n 0, 1) := by decide +kernel
theorem dX12_rules_145 : decode cX12_rules 145 = .ok (.getfield 383, 3) := by decide +kernel
theorem dX12_rules_148 : decode cX12_rules 148 = .ok (.ifCond .le 10, 3) := by decide +kernel
theorem dX12_rules_151 : decode cX12_rules 151 = .ok (.aload_n 0, 1) := by decide +kernel
theorem dX12_rules_152 : decode cX12_rules 152 = .ok (.bipush 10, 2) := by decide +kernel
theorem dX12_rules_154 : decode cX12_rules 154 = .ok (.invokevirtual 261, 3) := by decide +kernel
theorem dX12_rules_157 : decode cX12_rules 157 = .ok (.ireturn, 1) := by decide +kernel
theorem dX12_rules_158 : decode cX12_rules 158 = .ok (.iconst 0, 1) := by decide +kernel
theorem dX12_rules_159 : decode cX12_rules 159 = .ok (.istore_n 3, 1) := by decide +kernel
theorem dX12_rules_160 : decode cX12_rules 160 = .ok (.iload_n 3, 1) := by decide +kernel
theorem dX12_rules_161 : decode cX12_rules 161 = .ok (.aload_n 0, 1) := by decide +kernel
theorem dX12_rules_162 : decode cX12_rules 162 = .ok (.getfield 433, 3) := by decide +kernel
theorem dX12_rules_165 : decode cX12_rules 165 = .ok (.if_icmp .ge 30, 3) := by decide +kernel
theorem dX12_rules_168 : decode cX12_rules 168 = .ok (.aload_n 0, 1) := by decide +kernel
theorem dX12_rules_169 : decode cX12_rules 169 = .ok (.getfield 61, 3) := by decide +kernel
theorem dX12_rules_172 : decode cX12_rules 172 = .ok (.sipush 1100, 3) := by decide +kernel
theorem dX12_rules_175 : decode cX12_rules 175 = .ok (.aload_n 0, 1) := by decide +kernel
theorem dX12_rules_176 : decode cX12_rules 176 = .ok (.getfield 495, 3) := by decide +kernel
theorem dX12_rules_179 : decode cX12_rules 179 = .ok (.imul, 1) := by decide +kernel
theorem dX12_rules_180 : decode cX12_rules 180 = .ok (.iload_n 3, 1) := by decide +kernel
theorem dX12_rules_181 : decode cX12_rules 181 = .ok (.iadd, 1) := by decide +kernel
theorem dX12_rules_182 : decode cX12_rules 182 = .ok (.aload_n 0, 1) := by decide +kernel
theorem dX12_rules_183 : decode cX12_rules 183 = .ok (.getfield 67, 3) := by decide +kernel
theorem dX12_rules_186 : decode cX12_rules 186 = .ok (.iload_n 3, 1) := by decide +kernel
theorem dX12_rules_187 : decode cX12_rules 187 = .ok (.iaload, 1) := by decide +kernel
theorem dX12_rules_188 : decode cX12_rules 188 = .ok (.iastore, 1) := by decide +kernel
theorem dX12_rules_189 : decode cX12_rules 189 = .ok (.iinc 3 1, 3) := by decide +kernel
theorem dX12_rules_192 : decode cX12_rules 192 = .ok (.goto (-32), 3) := by decide +kernel
theorem dX12_rules_195 : decode cX12_rules 195 = .ok (.iconst 0, 1) := by decide +kernel
theorem dX12_rules_196 : decode cX12_rules 196 = .ok (.istore_n 3, 1) := by decide +kernel
theorem dX12_rules_197 : decode cX12_rules 197 = .ok (.iload_n 3, 1) := by decide +kernel
theorem dX12_rules_198 : decode cX12_rules 198 = .ok (.aload_n 0, 1) := by decide +kernel
theorem dX12_rules_199 : decode cX12_rules 199 = .ok (.getfield 430, 3) := by decide +kernel
theorem dX12_rules_202 : decode cX12_rules 202 = .ok (.if_icmp .gt 29, 3) := by decide +kernel
theorem dX12_rules_205 : decode cX12_rules 205 = .ok (.aload_n 0, 1) := by decide +kernel
theorem dX12_rules_206 : decode cX12_rules 206 = .ok (.getfield 58, 3) := by decide +kernel
theorem dX12_rules_209 : decode cX12_rules 209 = .ok (.bipush 11, 2) := by decide +kernel
theorem dX12_rules_211 : decode cX12_rules 211 = .ok (.aload_n 0, 1) := by decide +kernel
theorem dX12_rules_212 : decode cX12_rules 212 = .ok (.getfield 495, 3) := by decide +kernel
theorem dX12_rules_215 : decode cX12_rules 215 = .ok (.imul, 1) := by decide +kernel
theorem dX12_rules_216 : decode cX12_rules 216 = .ok (.iload_n 3, 1) := by decide +kernel
theorem dX12_rules_217 : decode cX12_rules 217 = .ok (.iadd, 1) := by decide +kernel
theorem dX12_rules_218 : decode cX12_rules 218 = .ok (.aload_n 0, 1) := by decide +kernel
theorem dX12_rules_219 : decode cX12_rules 219 = .ok (.getfield 64, 3) := by decide +kernel
theorem dX12_rules_222 : decode cX12_rules 222 = .ok (.iload_n 3, 1) := by decide +kernel
theorem dX12_rules_223 : decode cX12_rules 223 = .ok (.iaload, 1) := by decide +kernel
theorem dX12_rules_224 : decode cX12_rules 224 = .ok (.iastore, 1) := by decide +kernel
theorem dX12_rules_225 : decode cX12_rules 225 = .ok (.iinc 3 1, 3) := by decide +kernel
theorem dX12_rules_228 : decode cX12_rules 228 = .ok (.goto (-31), 3) := by decide +kernel
theorem dX12_rules_231 : decode cX12_rules 231 = .ok (.iconst 0, 1) := by decide +kernel
theorem dX12_rules_232 : decode cX12_rules 232 = .ok (.istore_n 3, 1) := by decide +kernel
theorem dX12_rules_233 : decode cX12_rules 233 = .ok (.iload_n 3, 1) := by decide +kernel
theorem dX12_rules_234 : decode cX12_rules 234 = .ok (.aload_n 0, 1) := by decide +kernel
theorem dX12_rules_235 : decode cX12_rules 235 = .ok (.getfield 430, 3) := by decide +kernel
theorem dX12_rules_238 : decode cX12_rules 238 = .ok (.if_icmp .ge 29, 3) := by decide +kernel
theorem dX12_rules_241 : decode cX12_rules 241 = .ok (.aload_n 0, 1) := by decide +kernel
theorem dX12_rules_242 : decode cX12_rules 242 = .ok (.getfield 70, 3) := by decide +kernel
theorem dX12_rules_245 : decode cX12_rules 245 = .ok (.bipush 10, 2) := by decide +kernel
theorem dX12_rules_247 : decode cX12_rules 247 = .ok (.aload_n 0, 1) := by decide +kernel
theorem dX12_rules_248 : decode cX12_rules 248 = .ok (.getfield 495, 3) := by decide +kernel
theorem dX12_rules_251 : decode cX12_rules 251 = .ok (.imul, 1) := by decide +kernel
theorem dX12_rules_252 : decode cX12_rules 252 = .ok (.iload_n 3, 1) := by decide +kernel
theorem dX12_rules_253 : decode cX12_rules 253 = .ok (.iadd, 1) := by decide +kernel
theorem dX12_rules_254 : decode cX12_rules 254 = .ok (.aload_n 0, 1) := by decide +kernel
theorem dX12_rules_255 : decode cX12_rules 255 = .ok (.getfield 73, 3) := by decide +kernel
theorem dX12_rules_258 : decode cX12_rules 258 = .ok (.iload_n 3, 1) := by decide +kernel
theorem dX12_rules_259 : decode cX12_rules 259 = .ok (.laload, 1) := by decide +kernel
theorem dX12_rules_260 : decode cX12_rules 260 = .ok (.lastore, 1) := by decide +kernel
theorem dX12_rules_261 : decode cX12_rules 261 = .ok (.iinc 3 1, 3) := by decide +kernel
theorem dX12_rules_264 : decode cX12_rules 264 = .ok (.goto (-31), 3) := by decide +kernel
theorem dX12_rules_267 : decode cX12_rules 267 = .ok (.aload_n 0, 1) := by decide +kernel
theorem dX12_rules_268 : decode cX12_rules 268 = .ok (.getfield 55, 3) := by decide +kernel
theorem dX12_rules_271 : decode cX12_rules 271 = .ok (.aload_n 0, 1) := by decide +kernel
theorem dX12_rules_272 : decode cX12_rules 272 = .ok (.getfield 495, 3) := by decide +kernel
theorem dX12_rules_275 : decode cX12_rules 275 = .ok (.aload_n 0, 1) := by decide +kernel
theorem dX12_rules_276 : decode cX12_rules 276 = .ok (.getfield 430, 3) := by decide +kernel
theorem dX12_rules_279 : decode cX12_rules 279 = .ok (.iastore, 1) := by decide +kernel
theorem dX12_rules_280 : decode cX12_rules 280 = .ok (.aload_n 0, 1) := by decide +kernel
theorem dX12_rules_281 : decode cX12_rules 281 = .ok (.getfield 52, 3) := by decide +kernel
theorem dX12_rules_284 : decode cX12_rules 284 = .ok (.aload_n 0, 1) := by decide +kernel
theorem dX12_rules_285 : decode cX12_rules 285 = .ok (.getfield 495, 3) := by decide +kernel
theorem dX12_rules_288 : decode cX12_rules 288 = .ok (.iload_n 2, 1) := by decide +kernel
theorem dX12_rules_289 : decode cX12_rules 289 = .ok (.iastore, 1) := by decide +kernel
theorem dX12_rules_290 : decode cX12_rules 290 = .ok (.aload_n 0, 1) := by decide +kernel
theorem dX12_rules_291 : decode cX12_rules 291 = .ok (.dup, 1) := by decide +kernel
theorem dX12_rules_292 : decode cX12_rules 292 = .ok (.getfield 495, 3) := by decide +kernel
theorem dX12_rules_295 : decode cX12_rules 295 = .ok (.iconst 1, 1) := by decide +kernel
theorem dX12_rules_296 : decode cX12_rules 296 = .ok (.iadd, 1) := by decide +kernel
theorem dX12_rules_297 : decode cX12_rules 297 = .ok (.putfield 495, 3) := by decide +kernel
theorem dX12_rules_300 : decode cX12_rules 300 = .ok (.aload_n 0, 1) := by decide +kernel
theorem dX12_rules_301 : decode cX12_rules 301 = .ok (.getfield 430, 3) := by decide +kernel
theorem dX12_rules_304 : decode cX12_rules 304 = .ok (.ireturn, 1) := by decide +kernel
theorem dX12_fault_0 : decode cX12_fault 0 = .ok (.aload_n 0, 1) := by decide +kernel
theorem dX12_fault_1 : decode cX12_fault 1 = .ok (.iconst 0, 1) := by decide +kernel
theorem dX12_fault_2 : decode cX12_fault 2 = .ok (.putfield 200, 3) := by decide +kernel
theorem dX12_fault_5 : decode cX12_fault 5 = .ok (.iload_n 1, 1) := by decide +kernel
theorem dX12_fault_6 : decode cX12_fault 6 = .ok (.ifCond .ne 10, 3) := by decide +kernel
theorem dX12_fault_9 : decode cX12_fault 9 = .ok (.aload_n 0, 1) := by decide +kernel
theorem dX12_fault_10 : decode cX12_fault 10 = .ok (.getfield 45, 3) := by decide +kernel
theorem dX12_fault_13 : decode cX12_fault 13 = .ok (.goto 16, 3) := by decide +kernel
theorem dX12_fault_16 : decode cX12_fault 16 = .ok (.iload_n 1, 1) := by decide +kernel
theorem dX12_fault_17 : decode cX12_fault 17 = .ok (.iconst 1, 1) := by decide +kernel
theorem dX12_fault_18 : decode cX12_fault 18 = .ok (.if_icmp .ne 10, 3) := by decide +kernel
theorem dX12_fault_21 : decode cX12_fault 21 = .ok (.aload_n 0, 1) := by decide +kernel
theorem dX12_fault_22 : decode cX12_fault 22 = .ok (.getfield 49, 3) := by decide +kernel
theorem dX12_fault_25 : decode cX12_fault 25 = .ok (.goto 4, 3) := by decide +kernel
theorem dX12_fault_28 : decode cX12_fault 28 = .ok (.iconst (-1), 1) := by decide +kernel
theorem dX12_fault_29 : decode cX12_fault 29 = .ok (.ireturn, 1) := by decide +kernel
theorem dX12_force_0 : decode cX12_force 0 = .ok (.iconst (-1), 1) := by decide +kernel
theorem dX12_force_1 : decode cX12_force 1 = .ok (.istore_n 2, 1) := by decide +kernel
theorem dX12_force_2 : decode cX12_force 2 = .ok (.iconst 0, 1) := by decide +kernel
theorem dX12_force_3 : decode cX12_force 3 = .ok (.istore_n 3, 1) := by decide +kernel
theorem dX12_force_4 : decode cX12_force 4 = .ok (.iload_n 3, 1) := by decide +kernel
theorem dX12_force_5 : decode cX12_force 5 = .ok (.aload_n 0, 1) := by decide +kernel
theorem dX12_force_6 : decode cX12_force 6 = .ok (.getfield 495, 3) := by decide +kernel
theorem dX12_force_9 : decode cX12_force 9 = .ok (.if_icmp .ge 40, 3) := by decide +kernel
theorem dX12_force_12 : decode cX12_force 12 = .ok (.aload_n 0, 1) := by decide +kernel
theorem dX12_force_13 : decode cX12_force 13 = .ok (.getfield 52, 3) := by decide +kernel
theorem dX12_force_16 : decode cX12_force 16 = .ok (.iload_n 3, 1) := by decide +kernel
theorem dX12_force_17 : decode cX12_force 17 = .ok (.iaload, 1) := by decide +kernel
theorem dX12_force_18 : decode cX12_force 18 = .ok (.iload_n 1, 1) := by decide +kernel
theorem dX12_force_19 : decode cX12_force 19 = .ok (.if_icmp .gt 24, 3) := by decide +kernel
theorem dX12_force_22 : decode cX12_force 22 = .ok (.iload_n 2, 1) := by decide +kernel
theorem dX12_force_23 : decode cX12_force 23 = .ok (.ifCond .lt 18, 3) := by decide +kernel
theorem dX12_force_26 : decode cX12_force 26 = .ok (.aload_n 0, 1) := by decide +kernel
theorem dX12_force_27 : decode cX12_force 27 = .ok (.getfield 52, 3) := by decide +kernel
theorem dX12_force_30 : decode cX12_force 30 = .ok (.iload_n 3, 1) := by decide +kernel
theorem dX12_force_31 : decode cX12_force 31 = .ok (.iaload, 1) := by decide +kernel
theorem dX12_force_32 : decode cX12_force 32 = .ok (.aload_n 0, 1) := by decide +kernel
theorem dX12_force_33 : decode cX12_force 33 = .ok (.getfield 52, 3) := by decide +kernel
theorem dX12_force_36 : decode cX12_force 36 = .ok (.iload_n 2, 1) := by decide +kernel
theorem dX12_force_37 : decode cX12_force 37 = .ok (.iaload, 1) := by decide +kernel
theorem dX12_force_38 : decode cX12_force 38 = .ok (.if_icmp .lt 5, 3) := by decide +kernel
theorem dX12_force_41 : decode cX12_force 41 = .ok (.iload_n 3, 1) := by decide +kernel
theorem dX12_force_42 : decode cX12_force 42 = .ok (.istore_n 2, 1) := by decide +kernel
theorem dX12_force_43 : decode cX12_force 43 = .ok (.iinc 3 1, 3) := by decide +kernel
theorem dX12_force_46 : decode cX12_force 46 = .ok (.goto (-42), 3) := by decide +kernel
theorem dX12_force_49 : decode cX12_force 49 = .ok (.iload_n 2, 1) := by decide +kernel
theorem dX12_force_50 : decode cX12_force 50 = .ok (.ireturn, 1) := by decide +kernel
theorem dX12_letNothing_0 : decode cX12_letNothing 0 = .ok (.iconst 0, 1) := by decide +kernel
theorem dX12_letNothing_1 : decode cX12_letNothing 1 = .ok (.istore_n 1, 1) := by decide +kernel
theorem dX12_letNothing_2 : decode cX12_letNothing 2 = .ok (.iload_n 1, 1) := by decide +kernel
theorem dX12_letNothing_3 : decode cX12_letNothing 3 = .ok (.bipush 11, 2) := by decide +kernel
theorem dX12_letNothing_5 : decode cX12_letNothing 5 = .ok (.if_icmp .ge 16, 3) := by decide +kernel
theorem dX12_letNothing_8 : decode cX12_letNothing 8 = .ok (.aload_n 0, 1) := by decide +kernel
theorem dX12_letNothing_9 : decode cX12_letNothing 9 = .ok (.getfield 79, 3) := by decide +kernel
theorem dX12_letNothing_12 : decode cX12_letNothing 12 = .ok (.iload_n 1, 1) := by decide +kernel
theorem dX12_letNothing_13 : decode cX12_letNothing 13 = .ok (.lconst 0, 1) := by decide +kernel
theorem dX12_letNothing_14 : decode cX12_letNothing 14 = .ok (.lastore, 1) := by decide +kernel
theorem dX12_letNothing_15 : decode cX12_letNothing 15 = .ok (.iinc 1 1, 3) := by decide +kernel
theorem dX12_letNothing_18 : decode cX12_letNothing 18 = .ok (.goto (-16), 3) := by decide +kernel
theorem dX12_letNothing_21 : decode cX12_letNothing 21 = .ok (.return_, 1) := by decide +kernel
theorem dX12_told_0 : decode cX12_told 0 = .ok (.aload_n 0, 1) := by decide +kernel
theorem dX12_told_1 : decode cX12_told 1 = .ok (.iconst 0, 1) := by decide +kernel
theorem dX12_told_2 : decode cX12_told 2 = .ok (.putfield 501, 3) := by decide +kernel
theorem dX12_told_5 : decode cX12_told 5 = .ok (.aload_n 0, 1) := by decide +kernel
theorem dX12_told_6 : decode cX12_told 6 = .ok (.iload_n 3, 1) := by decide +kernel
theorem dX12_told_7 : decode cX12_told 7 = .ok (.invokevirtual 504, 3) := by decide +kernel
theorem dX12_told_10 : decode cX12_told 10 = .ok (.istore 6, 2) := by decide +kernel
theorem dX12_told_12 : decode cX12_told 12 = .ok (.iconst (-1), 1) := by decide +kernel
theorem dX12_told_13 : decode cX12_told 13 = .ok (.istore 7, 2) := by decide +kernel
theorem dX12_told_15 : decode cX12_told 15 = .ok (.iconst 0, 1) := by decide +kernel
theorem dX12_told_16 : decode cX12_told 16 = .ok (.istore 8, 2) := by decide +kernel
theorem dX12_told_18 : decode cX12_told 18 = .ok (.iload 6, 2) := by decide +kernel
theorem dX12_told_20 : decode cX12_told 20 = .ok (.ifCond .lt 43, 3) := by decide +kernel
theorem dX12_told_23 : decode cX12_told 23 = .ok (.iload 8, 2) := by decide +kernel
theorem dX12_told_25 : decode cX12_told 25 = .ok (.aload_n 0, 1) := by decide +kernel
theorem dX12_told_26 : decode cX12_told 26 = .ok (.getfield 55, 3) := by decide +kernel
theorem dX12_told_29 : decode cX12_told 29 = .ok (.iload 6, 2) := by decide +kernel
theorem dX12_told_31 : decode cX12_told 31 = .ok (.iaload, 1) := by decide +kernel
theorem dX12_told_32 : decode cX12_told 32 = .ok (.if_icmp .ge 31, 3) := by decide +kernel
theorem dX12_told_35 : decode cX12_told 35 = .ok (.aload_n 0, 1) := by decide +kernel
theorem dX12_told_36 : decode cX12_told 36 = .ok (.getfield 70, 3) := by decide +kernel
theorem dX12_told_39 : decode cX12_told 39 = .ok (.bipush 10, 2) := by decide +kernel
theorem dX12_told_41 : decode cX12_told 41 = .ok (.iload 6, 2) := by decide +kernel
theorem dX12_told_43 : decode cX12_told 43 = .ok (.imul, 1) := by decide +kernel
theorem dX12_told_44 : decode cX12_told 44 = .ok (.iload 8, 2) := by decide +kernel
theorem dX12_told_46 : decode cX12_told 46 = .ok (.iadd, 1) := by decide +kernel
theorem dX12_told_47 : decode cX12_told 47 = .ok (.laload, 1) := by decide +kernel
theorem dX12_told_48 : decode cX12_told 48 = .ok (.lload_n 1, 1) := by decide +kernel
theorem dX12_told_49 : decode cX12_told 49 = .ok (.lcmp, 1) := by decide +kernel
theorem dX12_told_50 : decode cX12_told 50 = .ok (.ifCond .ne 7, 3) := by decide +kernel
theorem dX12_told_53 : decode cX12_told 53 = .ok (.iload 8, 2) := by decide +kernel
theorem dX12_told_55 : decode cX12_told 55 = .ok (.istore 7, 2) := by decide +kernel
theorem dX12_told_57 : decode cX12_told 57 = .ok (.iinc 8 1, 3) := by decide +kernel
theorem dX12_told_60 : decode cX12_told 60 = .ok (.goto (-42), 3) := by decide +kernel
theorem dX12_told_63 : decode cX12_told 63 = .ok (.iload 7, 2) := by decide +kernel
theorem dX12_told_65 : decode cX12_told 65 = .ok (.ifCond .ge 6, 3) := by decide +kernel
theorem dX12_told_68 : decode cX12_told 68 = .ok (.lload 4, 2) := by decide +kernel
theorem dX12_told_70 : decode cX12_told 70 = .ok (.lreturn, 1) := by decide +kernel
theorem dX12_told_71 : decode cX12_told 71 = .ok (.aload_n 0, 1) := by decide +kernel
theorem dX12_told_72 : decode cX12_told 72 = .ok (.iload 6, 2) := by decide +kernel
theorem dX12_told_74 : decode cX12_told 74 = .ok (.iload 7, 2) := by decide +kernel
theorem dX12_told_76 : decode cX12_told 76 = .ok (.invokevirtual 507, 3) := by decide +kernel
theorem dX12_told_79 : decode cX12_told 79 = .ok (.aload_n 0, 1) := by decide +kernel
theorem dX12_told_80 : decode cX12_told 80 = .ok (.aload_n 0, 1) := by decide +kernel
theorem dX12_told_81 : decode cX12_told 81 = .ok (.getfield 89, 3) := by decide +kernel
theorem dX12_told_84 : decode cX12_told 84 = .ok (.iload 7, 2) := by decide +kernel
theorem dX12_told_86 : decode cX12_told 86 = .ok (.baload, 1) := by decide +kernel
theorem dX12_told_87 : decode cX12_told 87 = .ok (.putfield 501, 3) := by decide +kernel
theorem dX12_told_90 : decode cX12_told 90 = .ok (.aload_n 0, 1) := by decide +kernel
theorem dX12_told_91 : decode cX12_told 91 = .ok (.getfield 501, 3) := by decide +kernel
theorem dX12_told_94 : decode cX12_told 94 = .ok (.ifCond .eq 8, 3) := by decide +kernel
theorem dX12_told_97 : decode cX12_told 97 = .ok (.lload 4, 2) := by decide +kernel
theorem dX12_told_99 : decode cX12_told 99 = .ok (.goto 10, 3) := by decide +kernel
theorem dX12_told_102 : decode cX12_told 102 = .ok (.aload_n 0, 1) := by decide +kernel
theorem dX12_told_103 : decode cX12_told 103 = .ok (.getfield 82, 3) := by decide +kernel
theorem dX12_told_106 : decode cX12_told 106 = .ok (.iload 7, 2) := by decide +kernel
theorem dX12_told_108 : decode cX12_told 108 = .ok (.laload, 1) := by decide +kernel
theorem dX12_told_109 : decode cX12_told 109 = .ok (.lreturn, 1) := by decide +kernel
theorem dX12_work_0 : decode cX12_work 0 = .ok (.iconst 0, 1) := by decide +kernel
theorem dX12_work_1 : decode cX12_work 1 = .ok (.istore_n 3, 1) := by decide +kernel
theorem dX12_work_2 : decode cX12_work 2 = .ok (.iload_n 3, 1) := by decide +kernel
theorem dX12_work_3 : decode cX12_work 3 = .ok (.iload_n 2, 1) := by decide +kernel
theorem dX12_work_4 : decode cX12_work 4 = .ok (.if_icmp .gt 97, 3) := by decide +kernel
theorem dX12_work_7 : decode cX12_work 7 = .ok (.aload_n 0, 1) := by decide +kernel
theorem dX12_work_8 : decode cX12_work 8 = .ok (.iconst 0, 1) := by decide +kernel
theorem dX12_work_9 : decode cX12_work 9 = .ok (.putfield 510, 3) := by decide +kernel
theorem dX12_work_12 : decode cX12_work 12 = .ok (.aload_n 0, 1) := by decide +kernel
theorem dX12_work_13 : decode cX12_work 13 = .ok (.getfield 58, 3) := by decide +kernel
theorem dX12_work_16 : decode cX12_work 16 = .ok (.bipush 11, 2) := by decide +kernel
theorem dX12_work_18 : decode cX12_work 18 = .ok (.iload_n 1, 1) := by decide +kernel
theorem dX12_work_19 : decode cX12_work 19 = .ok (.imul, 1) := by decide +kernel
theorem dX12_work_20 : decode cX12_work 20 = .ok (.iload_n 3, 1) := by decide +kernel
theorem dX12_work_21 : decode cX12_work 21 = .ok (.iadd, 1) := by decide +kernel
theorem dX12_work_22 : decode cX12_work 22 = .ok (.iaload, 1) := by decide +kernel
theorem dX12_work_23 : decode cX12_work 23 = .ok (.istore 4, 2) := by decide +kernel
theorem dX12_work_25 : decode cX12_work 25 = .ok (.aload_n 0, 1) := by decide +kernel
theorem dX12_work_26 : decode cX12_work 26 = .ok (.getfield 58, 3) := by decide +kernel
theorem dX12_work_29 : decode cX12_work 29 = .ok (.bipush 11, 2) := by decide +kernel
theorem dX12_work_31 : decode cX12_work 31 = .ok (.iload_n 1, 1) := by decide +kernel
theorem dX12_work_32 : decode cX12_work 32 = .ok (.imul, 1) := by decide +kernel
theorem dX12_work_33 : decode cX12_work 33 = .ok (.iload_n 3, 1) := by decide +kernel
theorem dX12_work_34 : decode cX12_work 34 = .ok (.iadd, 1) := by decide +kernel
theorem dX12_work_35 : decode cX12_work 35 = .ok (.iconst 1, 1) := by decide +kernel
theorem dX12_work_36 : decode cX12_work 36 = .ok (.iadd, 1) := by decide +kernel
theorem dX12_work_37 : decode cX12_work 37 = .ok (.iaload, 1) := by decide +kernel
theorem dX12_work_38 : decode cX12_work 38 = .ok (.istore 5, 2) := by decide +kernel
theorem dX12_work_40 : decode cX12_work 40 = .ok (.iload 4, 2) := by decide +kernel
theorem dX12_work_42 : decode cX12_work 42 = .ok (.iload 5, 2) := by decide +kernel
theorem dX12_work_44 : decode cX12_work 44 = .ok (.if_icmp .ge 27, 3) := by decide +kernel
theorem dX12_work_47 : decode cX12_work 47 = .ok (.aload_n 0, 1) := by decide +kernel
theorem dX12_work_48 : decode cX12_work 48 = .ok (.aload_n 0, 1) := by decide +kernel
theorem dX12_work_49 : decode cX12_work 49 = .ok (.getfield 61, 3) := by decide +kernel
theorem dX12_work_52 : decode cX12_work 52 = .ok (.sipush 1100, 3) := by decide +kernel
theorem dX12_work_55 : decode cX12_work 55 = .ok (.iload_n 1, 1) := by decide +kernel
theorem dX12_work_56 : decode cX12_work 56 = .ok (.imul, 1) := by decide +kernel
theorem dX12_work_57 : decode cX12_work 57 = .ok (.iload 4, 2) := by decide +kernel
theorem dX12_work_59 : decode cX12_work 59 = .ok (.iadd, 1) := by decide +kernel
theorem dX12_work_60 : decode cX12_work 60 = .ok (.iaload, 1) := by decide +kernel
theorem dX12_work_61 : decode cX12_work 61 = .ok (.iload 4, 2) := by decide +kernel
theorem dX12_work_63 : decode cX12_work 63 = .ok (.invokevirtual 513, 3) := by decide +kernel
theorem dX12_work_66 : decode cX12_work 66 = .ok (.istore 4, 2) := by decide +kernel
theorem dX12_work_68 : decode cX12_work 68 = .ok (.goto (-28), 3) := by decide +kernel
theorem dX12_work_71 : decode cX12_work 71 = .ok (.aload_n 0, 1) := by decide +kernel
theorem dX12_work_72 : decode cX12_work 72 = .ok (.getfield 82, 3) := by decide +kernel
theorem dX12_work_75 : decode cX12_work 75 = .ok (.iload_n 3, 1) := by decide +kernel
theorem dX12_work_76 : decode cX12_work 76 = .ok (.aload_n 0, 1) := by decide +kernel
theorem dX12_work_77 : decode cX12_work 77 = .ok (.getfield 76, 3) := by decide +kernel
theorem dX12_work_80 : decode cX12_work 80 = .ok (.iconst 0, 1) := by decide +kernel
theorem dX12_work_81 : decode cX12_work 81 = .ok (.laload, 1) := by decide +kernel
theorem dX12_work_82 : decode cX12_work 82 = .ok (.lastore, 1) := by decide +kernel
theorem dX12_work_83 : decode cX12_work 83 = .ok (.aload_n 0, 1) := by decide +kernel
theorem dX12_work_84 : decode cX12_work 84 = .ok (.getfield 89, 3) := by decide +kernel
theorem dX12_work_87 : decode cX12_work 87 = .ok (.iload_n 3, 1) := by decide +kernel
theorem dX12_work_88 : decode cX12_work 88 = .ok (.aload_n 0, 1) := by decide +kernel
theorem dX12_work_89 : decode cX12_work 89 = .ok (.getfield 85, 3) := by decide +kernel
theorem dX12_work_92 : decode cX12_work 92 = .ok (.iconst 0, 1) := by decide +kernel
theorem dX12_work_93 : decode cX12_work 93 = .ok (.baload, 1) := by decide +kernel
theorem dX12_work_94 : decode cX12_work 94 = .ok (.bastore, 1) := by decide +kernel
theorem dX12_work_95 : decode cX12_work 95 = .ok (.iinc 3 1, 3) := by decide +kernel
theorem dX12_work_98 : decode cX12_work 98 = .ok (.goto (-96), 3) := by decide +kernel
theorem dX12_work_101 : decode cX12_work 101 = .ok (.return_, 1) := by decide +kernel
theorem dX12_push_0 : decode cX12_push 0 = .ok (.aload_n 0, 1) := by decide +kernel
theorem dX12_push_1 : decode cX12_push 1 = .ok (.getfield 76, 3) := by decide +kernel
theorem dX12_push_4 : decode cX12_push 4 = .ok (.aload_n 0, 1) := by decide +kernel
theorem dX12_push_5 : decode cX12_push 5 = .ok (.getfield 510, 3) := by decide +kernel
theorem dX12_push_8 : decode cX12_push 8 = .ok (.lload_n 1, 1) := by decide +kernel
theorem dX12_push_9 : decode cX12_push 9 = .ok (.lastore, 1) := by decide +kernel
theorem dX12_push_10 : decode cX12_push 10 = .ok (.aload_n 0, 1) := by decide +kernel
theorem dX12_push_11 : decode cX12_push 11 = .ok (.getfield 85, 3) := by decide +kernel
theorem dX12_push_14 : decode cX12_push 14 = .ok (.aload_n 0, 1) := by decide +kernel
theorem dX12_push_15 : decode cX12_push 15 = .ok (.getfield 510, 3) := by decide +kernel
theorem dX12_push_18 : decode cX12_push 18 = .ok (.iload_n 3, 1) := by decide +kernel
theorem dX12_push_19 : decode cX12_push 19 = .ok (.bastore, 1) := by decide +kernel
theorem dX12_push_20 : decode cX12_push 20 = .ok (.aload_n 0, 1) := by decide +kernel
theorem dX12_push_21 : decode cX12_push 21 = .ok (.dup, 1) := by decide +kernel
theorem dX12_push_22 : decode cX12_push 22 = .ok (.getfield 510, 3) := by decide +kernel
theorem dX12_push_25 : decode cX12_push 25 = .ok (.iconst 1, 1) := by decide +kernel
theorem dX12_push_26 : decode cX12_push 26 = .ok (.iadd, 1) := by decide +kernel
theorem dX12_push_27 : decode cX12_push 27 = .ok (.putfield 510, 3) := by decide +kernel
theorem dX12_push_30 : decode cX12_push 30 = .ok (.return_, 1) := by decide +kernel
theorem dX12_does_0 : decode cX12_does 0 = .ok (.iload_n 1, 1) := by decide +kernel
theorem dX12_does_1 : decode cX12_does 1 = .ok (.ldc_w 436, 3) := by decide +kernel
theorem dX12_does_4 : decode cX12_does 4 = .ok (.idiv, 1) := by decide +kernel
theorem dX12_does_5 : decode cX12_does 5 = .ok (.istore_n 3, 1) := by decide +kernel
theorem dX12_does_6 : decode cX12_does 6 = .ok (.iload_n 1, 1) := by decide +kernel
theorem dX12_does_7 : decode cX12_does 7 = .ok (.ldc_w 436, 3) := by decide +kernel
theorem dX12_does_10 : decode cX12_does 10 = .ok (.irem, 1) := by decide +kernel
theorem dX12_does_11 : decode cX12_does 11 = .ok (.istore 4, 2) := by decide +kernel
theorem dX12_does_13 : decode cX12_does 13 = .ok (.iload_n 3, 1) := by decide +kernel
theorem dX12_does_14 : decode cX12_does 14 = .ok (.lookupswitch 136 #[(0, 50), (1, 62), (2, 78), (15, 103), (16, 100)], 50) := by decide +kernel
theorem dX12_does_64 : decode cX12_does 64 = .ok (.aload_n 0, 1) := by decide +kernel
theorem dX12_does_65 : decode cX12_does 65 = .ok (.iload 4, 2) := by decide +kernel
theorem dX12_does_67 : decode cX12_does 67 = .ok (.i2l, 1) := by decide +kernel
theorem dX12_does_68 : decode cX12_does 68 = .ok (.iconst 0, 1) := by decide +kernel
theorem dX12_does_69 : decode cX12_does 69 = .ok (.invokevirtual 516, 3) := by decide +kernel
theorem dX12_does_72 : decode cX12_does 72 = .ok (.iload_n 2, 1) := by decide +kernel
theorem dX12_does_73 : decode cX12_does 73 = .ok (.iconst 1, 1) := by decide +kernel
theorem dX12_does_74 : decode cX12_does 74 = .ok (.iadd, 1) := by decide +kernel
theorem dX12_does_75 : decode cX12_does 75 = .ok (.ireturn, 1) := by decide +kernel
theorem dX12_does_76 : decode cX12_does 76 = .ok (.aload_n 0, 1) := by decide +kernel
theorem dX12_does_77 : decode cX12_does 77 = .ok (.aload_n 0, 1) := by decide +kernel
theorem dX12_does_78 : decode cX12_does 78 = .ok (.getfield 79, 3) := by decide +kernel
theorem dX12_does_81 : decode cX12_does 81 = .ok (.iload 4, 2) := by decide +kernel
theorem dX12_does_83 : decode cX12_does 83 = .ok (.laload, 1) := by decide +kernel
theorem dX12_does_84 : decode cX12_does 84 = .ok (.iconst 0, 1) := by decide +kernel
theorem dX12_does_85 : decode cX12_does 85 = .ok (.invokevirtual 516, 3) := by decide +kernel
theorem dX12_does_88 : decode cX12_does 88 = .ok (.iload_n 2, 1) := by decide +kernel
theorem dX12_does_89 : decode cX12_does 89 = .ok (.iconst 1, 1) := by decide +kernel
theorem dX12_does_90 : decode cX12_does 90 = .ok (.iadd, 1) := by decide +kernel
theorem dX12_does_91 : decode cX12_does 91 = .ok (.ireturn, 1) := by decide +kernel
theorem dX12_does_92 : decode cX12_does 92 = .ok (.aload_n 0, 1) := by decide +kernel
theorem dX12_does_93 : decode cX12_does 93 = .ok (.aload_n 0, 1) := by decide +kernel
theorem dX12_does_94 : decode cX12_does 94 = .ok (.getfield 82, 3) := by decide +kernel
theorem dX12_does_97 : decode cX12_does 97 = .ok (.iload 4, 2) := by decide +kernel
theorem dX12_does_99 : decode cX12_does 99 = .ok (.laload, 1) := by decide +kernel
theorem dX12_does_100 : decode cX12_does 100 = .ok (.aload_n 0, 1) := by decide +kernel
theorem dX12_does_101 : decode cX12_does 101 = .ok (.getfield 89, 3) := by decide +kernel
theorem dX12_does_104 : decode cX12_does 104 = .ok (.iload 4, 2) := by decide +kernel
theorem dX12_does_106 : decode cX12_does 106 = .ok (.baload, 1) := by decide +kernel
theorem dX12_does_107 : decode cX12_does 107 = .ok (.invokevirtual 516, 3) := by decide +kernel
theorem dX12_does_110 : decode cX12_does 110 = .ok (.iload_n 2, 1) := by decide +kernel
theorem dX12_does_111 : decode cX12_does 111 = .ok (.iconst 1, 1) := by decide +kernel
theorem dX12_does_112 : decode cX12_does 112 = .ok (.iadd, 1) := by decide +kernel
theorem dX12_does_113 : decode cX12_does 113 = .ok (.ireturn, 1) := by decide +kernel
theorem dX12_does_114 : decode cX12_does 114 = .ok (.iload 4, 2) := by decide +kernel
theorem dX12_does_116 : decode cX12_does 116 = .ok (.ireturn, 1) := by decide +kernel
theorem dX12_does_117 : decode cX12_does 117 = .ok (.aload_n 0, 1) := by decide +kernel
theorem dX12_does_118 : decode cX12_does 118 = .ok (.dup, 1) := by decide +kernel
theorem dX12_does_119 : decode cX12_does 119 = .ok (.getfield 510, 3) := by decide +kernel
theorem dX12_does_122 : decode cX12_does 122 = .ok (.iconst 1, 1) := by decide +kernel
theorem dX12_does_123 : decode cX12_does 123 = .ok (.isub, 1) := by decide +kernel
theorem dX12_does_124 : decode cX12_does 124 = .ok (.putfield 510, 3) := by decide +kernel
theorem dX12_does_127 : decode cX12_does 127 = .ok (.aload_n 0, 1) := by decide +kernel
theorem dX12_does_128 : decode cX12_does 128 = .ok (.getfield 76, 3) := by decide +kernel
theorem dX12_does_131 : decode cX12_does 131 = .ok (.aload_n 0, 1) := by decide +kernel
theorem dX12_does_132 : decode cX12_does 132 = .ok (.getfield 510, 3) := by decide +kernel
theorem dX12_does_135 : decode cX12_does 135 = .ok (.laload, 1) := by decide +kernel
theorem dX12_does_136 : decode cX12_does 136 = .ok (.lconst 1, 1) := by decide +kernel
theorem dX12_does_137 : decode cX12_does 137 = .ok (.lcmp, 1) := by decide +kernel
theorem dX12_does_138 : decode cX12_does 138 = .ok (.ifCond .ne 9, 3) := by decide +kernel
theorem dX12_does_141 : decode cX12_does 141 = .ok (.iload_n 2, 1) := by decide +kernel
theorem dX12_does_142 : decode cX12_does 142 = .ok (.iconst 1, 1) := by decide +kernel
theorem dX12_does_143 : decode cX12_does 143 = .ok (.iadd, 1) := by decide +kernel
theorem dX12_does_144 : decode cX12_does 144 = .ok (.goto 5, 3) := by decide +kernel
theorem dX12_does_147 : decode cX12_does 147 = .ok (.iload 4, 2) := by decide +kernel
theorem dX12_does_149 : decode cX12_does 149 = .ok (.ireturn, 1) := by decide +kernel
theorem dX12_does_150 : decode cX12_does 150 = .ok (.aload_n 0, 1) := by decide +kernel
theorem dX12_does_151 : decode cX12_does 151 = .ok (.iload_n 3, 1) := by decide +kernel
theorem dX12_does_152 : decode cX12_does 152 = .ok (.iload 4, 2) := by decide +kernel
theorem dX12_does_154 : decode cX12_does 154 = .ok (.invokevirtual 520, 3) := by decide +kernel
theorem dX12_does_157 : decode cX12_does 157 = .ok (.iload_n 2, 1) := by decide +kernel
theorem dX12_does_158 : decode cX12_does 158 = .ok (.iconst 1, 1) := by decide +kernel
theorem dX12_does_159 : decode cX12_does 159 = .ok (.iadd, 1) := by decide +kernel
theorem dX12_does_160 : decode cX12_does 160 = .ok (.ireturn, 1) := by decide +kernel
theorem dX12_both_0 : decode cX12_both 0 = .ok (.aload_n 0, 1) := by decide +kernel
theorem dX12_both_1 : decode cX12_both 1 = .ok (.dup, 1) := by decide +kernel
theorem dX12_both_2 : decode cX12_both 2 = .ok (.getfield 510, 3) := by decide +kernel
theorem dX12_both_5 : decode cX12_both 5 = .ok (.iconst 2, 1) := by decide +kernel
theorem dX12_both_6 : decode cX12_both 6 = .ok (.isub, 1) := by decide +kernel
theorem dX12_both_7 : decode cX12_both 7 = .ok (.putfield 510, 3) := by decide +kernel
theorem dX12_both_10 : decode cX12_both 10 = .ok (.aload_n 0, 1) := by decide +kernel
theorem dX12_both_11 : decode cX12_both 11 = .ok (.getfield 76, 3) := by decide +kernel
theorem dX12_both_14 : decode cX12_both 14 = .ok (.aload_n 0, 1) := by decide +kernel
theorem dX12_both_15 : decode cX12_both 15 = .ok (.getfield 510, 3) := by decide +kernel
theorem dX12_both_18 : decode cX12_both 18 = .ok (.laload, 1) := by decide +kernel
theorem dX12_both_19 : decode cX12_both 19 = .ok (.lstore_n 3, 1) := by decide +kernel
theorem dX12_both_20 : decode cX12_both 20 = .ok (.aload_n 0, 1) := by decide +kernel
theorem dX12_both_21 : decode cX12_both 21 = .ok (.getfield 76, 3) := by decide +kernel
theorem dX12_both_24 : decode cX12_both 24 = .ok (.aload_n 0, 1) := by decide +kernel
theorem dX12_both_25 : decode cX12_both 25 = .ok (.getfield 510, 3) := by decide +kernel
theorem dX12_both_28 : decode cX12_both 28 = .ok (.iconst 1, 1) := by decide +kernel
theorem dX12_both_29 : decode cX12_both 29 = .ok (.iadd, 1) := by decide +kernel
theorem dX12_both_30 : decode cX12_both 30 = .ok (.laload, 1) := by decide +kernel
theorem dX12_both_31 : decode cX12_both 31 = .ok (.lstore 5, 2) := by decide +kernel
theorem dX12_both_33 : decode cX12_both 33 = .ok (.aload_n 0, 1) := by decide +kernel
theorem dX12_both_34 : decode cX12_both 34 = .ok (.getfield 85, 3) := by decide +kernel
theorem dX12_both_37 : decode cX12_both 37 = .ok (.aload_n 0, 1) := by decide +kernel
theorem dX12_both_38 : decode cX12_both 38 = .ok (.getfield 510, 3) := by decide +kernel
theorem dX12_both_41 : decode cX12_both 41 = .ok (.baload, 1) := by decide +kernel
theorem dX12_both_42 : decode cX12_both 42 = .ok (.ifCond .ne 17, 3) := by decide +kernel
theorem dX12_both_45 : decode cX12_both 45 = .ok (.aload_n 0, 1) := by decide +kernel
theorem dX12_both_46 : decode cX12_both 46 = .ok (.getfield 85, 3) := by decide +kernel
theorem dX12_both_49 : decode cX12_both 49 = .ok (.aload_n 0, 1) := by decide +kernel
theorem dX12_both_50 : decode cX12_both 50 = .ok (.getfield 510, 3) := by decide +kernel
theorem dX12_both_53 : decode cX12_both 53 = .ok (.iconst 1, 1) := by decide +kernel
theorem dX12_both_54 : decode cX12_both 54 = .ok (.iadd, 1) := by decide +kernel
theorem dX12_both_55 : decode cX12_both 55 = .ok (.baload, 1) := by decide +kernel
theorem dX12_both_56 : decode cX12_both 56 = .ok (.ifCond .eq 7, 3) := by decide +kernel
theorem dX12_both_59 : decode cX12_both 59 = .ok (.iconst 1, 1) := by decide +kernel
theorem dX12_both_60 : decode cX12_both 60 = .ok (.goto 4, 3) := by decide +kernel
theorem dX12_both_63 : decode cX12_both 63 = .ok (.iconst 0, 1) := by decide +kernel
theorem dX12_both_64 : decode cX12_both 64 = .ok (.istore 7, 2) := by decide +kernel
theorem dX12_both_66 : decode cX12_both 66 = .ok (.iload_n 1, 1) := by decide +kernel
theorem dX12_both_67 : decode cX12_both 67 = .ok (.bipush 13, 2) := by decide +kernel
theorem dX12_both_69 : decode cX12_both 69 = .ok (.if_icmp .eq 9, 3) := by decide +kernel
theorem dX12_both_72 : decode cX12_both 72 = .ok (.iload_n 1, 1) := by decide +kernel
theorem dX12_both_73 : decode cX12_both 73 = .ok (.bipush 14, 2) := by decide +kernel
theorem dX12_both_75 : decode cX12_both 75 = .ok (.if_icmp .ne 26, 3) := by decide +kernel
theorem dX12_both_78 : decode cX12_both 78 = .ok (.aload_n 0, 1) := by decide +kernel
theorem dX12_both_79 : decode cX12_both 79 = .ok (.iload_n 1, 1) := by decide +kernel
theorem dX12_both_80 : decode cX12_both 80 = .ok (.bipush 13, 2) := by decide +kernel
theorem dX12_both_82 : decode cX12_both 82 = .ok (.if_icmp .ne 10, 3) := by decide +kernel
theorem dX12_both_85 : decode cX12_both 85 = .ok (.lload_n 3, 1) := by decide +kernel
theorem dX12_both_86 : decode cX12_both 86 = .ok (.lload 5, 2) := by decide +kernel
theorem dX12_both_88 : decode cX12_both 88 = .ok (.land, 1) := by decide +kernel
theorem dX12_both_89 : decode cX12_both 89 = .ok (.goto 7, 3) := by decide +kernel
theorem dX12_both_92 : decode cX12_both 92 = .ok (.lload_n 3, 1) := by decide +kernel
theorem dX12_both_93 : decode cX12_both 93 = .ok (.lload 5, 2) := by decide +kernel
theorem dX12_both_95 : decode cX12_both 95 = .ok (.lor, 1) := by decide +kernel
theorem dX12_both_96 : decode cX12_both 96 = .ok (.iconst 0, 1) := by decide +kernel
theorem dX12_both_97 : decode cX12_both 97 = .ok (.invokevirtual 516, 3) := by decide +kernel
theorem dX12_both_100 : decode cX12_both 100 = .ok (.return_, 1) := by decide +kernel
theorem dX12_both_101 : decode cX12_both 101 = .ok (.iload_n 1, 1) := by decide +kernel
theorem dX12_both_102 : decode cX12_both 102 = .ok (.bipush 10, 2) := by decide +kernel
theorem dX12_both_104 : decode cX12_both 104 = .ok (.if_icmp .lt 90, 3) := by decide +kernel
theorem dX12_both_107 : decode cX12_both 107 = .ok (.iload_n 1, 1) := by decide +kernel
theorem dX12_both_108 : decode cX12_both 108 = .ok (.bipush 10, 2) := by decide +kernel
theorem dX12_both_110 : decode cX12_both 110 = .ok (.if_icmp .ne 18, 3) := by decide +kernel
theorem dX12_both_113 : decode cX12_both 113 = .ok (.lload_n 3, 1) := by decide +kernel
theorem dX12_both_114 : decode cX12_both 114 = .ok (.lload 5, 2) := by decide +kernel
theorem dX12_both_116 : decode cX12_both 116 = .ok (.lcmp, 1) := by decide +kernel
theorem dX12_both_117 : decode cX12_both 117 = .ok (.ifCond .ge 7, 3) := by decide +kernel
theorem dX12_both_120 : decode cX12_both 120 = .ok (.iconst 1, 1) := by decide +kernel
theorem dX12_both_121 : decode cX12_both 121 = .ok (.goto 40, 3) := by decide +kernel
theorem dX12_both_124 : decode cX12_both 124 = .ok (.iconst 0, 1) := by decide +kernel
theorem dX12_both_125 : decode cX12_both 125 = .ok (.goto 36, 3) := by decide +kernel
theorem dX12_both_128 : decode cX12_both 128 = .ok (.iload_n 1, 1) := by decide +kernel
theorem dX12_both_129 : decode cX12_both 129 = .ok (.bipush 11, 2) := by decide +kernel
theorem dX12_both_131 : decode cX12_both 131 = .ok (.if_icmp .ne 18, 3) := by decide +kernel
theorem dX12_both_134 : decode cX12_both 134 = .ok (.lload_n 3, 1) := by decide +kernel
theorem dX12_both_135 : decode cX12_both 135 = .ok (.lload 5, 2) := by decide +kernel
theorem dX12_both_137 : decode cX12_both 137 = .ok (.lcmp, 1) := by decide +kernel
theorem dX12_both_138 : decode cX12_both 138 = .ok (.ifCond .le 7, 3) := by decide +kernel
theorem dX12_both_141 : decode cX12_both 141 = .ok (.iconst 1, 1) := by decide +kernel
theorem dX12_both_142 : decode cX12_both 142 = .ok (.goto 19, 3) := by decide +kernel
theorem dX12_both_145 : decode cX12_both 145 = .ok (.iconst 0, 1) := by decide +kernel
theorem dX12_both_146 : decode cX12_both 146 = .ok (.goto 15, 3) := by decide +kernel
theorem dX12_both_149 : decode cX12_both 149 = .ok (.lload_n 3, 1) := by decide +kernel
theorem dX12_both_150 : decode cX12_both 150 = .ok (.lload 5, 2) := by decide +kernel
theorem dX12_both_152 : decode cX12_both 152 = .ok (.lcmp, 1) := by decide +kernel
theorem dX12_both_153 : decode cX12_both 153 = .ok (.ifCond .ne 7, 3) := by decide +kernel
theorem dX12_both_156 : decode cX12_both 156 = .ok (.iconst 1, 1) := by decide +kernel
theorem dX12_both_157 : decode cX12_both 157 = .ok (.goto 4, 3) := by decide +kernel
theorem dX12_both_160 : decode cX12_both 160 = .ok (.iconst 0, 1) := by decide +kernel
theorem dX12_both_161 : decode cX12_both 161 = .ok (.istore 8, 2) := by decide +kernel
theorem dX12_both_163 : decode cX12_both 163 = .ok (.aload_n 0, 1) := by decide +kernel
theorem dX12_both_164 : decode cX12_both 164 = .ok (.iload 7, 2) := by decide +kernel
theorem dX12_both_166 : decode cX12_both 166 = .ok (.ifCond .ne 22, 3) := by decide +kernel
theorem dX12_both_169 : decode cX12_both 169 = .ok (.iload 8, 2) := by decide +kernel
theorem dX12_both_171 : decode cX12_both 171 = .ok (.iload_n 2, 1) := by decide +kernel
theorem dX12_both_172 : decode cX12_both 172 = .ok (.iconst 1, 1) := by decide +kernel
theorem dX12_both_173 : decode cX12_both 173 = .ok (.if_icmp .ne 7, 3) := by decide +kernel
theorem dX12_both_176 : decode cX12_both 176 = .ok (.iconst 1, 1) := by decide +kernel
theorem dX12_both_177 : decode cX12_both 177 = .ok (.goto 4, 3) := by decide +kernel
theorem dX12_both_180 : decode cX12_both 180 = .ok (.iconst 0, 1) := by decide +kernel
theorem dX12_both_181 : decode cX12_both 181 = .ok (.if_icmp .eq 7, 3) := by decide +kernel
theorem dX12_both_184 : decode cX12_both 184 = .ok (.lconst 1, 1) := by decide +kernel
theorem dX12_both_185 : decode cX12_both 185 = .ok (.goto 4, 3) := by decide +kernel
theorem dX12_both_188 : decode cX12_both 188 = .ok (.lconst 0, 1) := by decide +kernel
theorem dX12_both_189 : decode cX12_both 189 = .ok (.iconst 0, 1) := by decide +kernel
theorem dX12_both_190 : decode cX12_both 190 = .ok (.invokevirtual 516, 3) := by decide +kernel
theorem dX12_both_193 : decode cX12_both 193 = .ok (.return_, 1) := by decide +kernel
theorem dX12_both_194 : decode cX12_both 194 = .ok (.iload 7, 2) := by decide +kernel
theorem dX12_both_196 : decode cX12_both 196 = .ok (.ifCond .ne 22, 3) := by decide +kernel
theorem dX12_both_199 : decode cX12_both 199 = .ok (.iload_n 1, 1) := by decide +kernel
theorem dX12_both_200 : decode cX12_both 200 = .ok (.bipush 6, 2) := by decide +kernel
theorem dX12_both_202 : decode cX12_both 202 = .ok (.if_icmp .eq 9, 3) := by decide +kernel
theorem dX12_both_205 : decode cX12_both 205 = .ok (.iload_n 1, 1) := by decide +kernel
theorem dX12_both_206 : decode cX12_both 206 = .ok (.bipush 7, 2) := by decide +kernel
theorem dX12_both_208 : decode cX12_both 208 = .ok (.if_icmp .ne 14, 3) := by decide +kernel
theorem dX12_both_211 : decode cX12_both 211 = .ok (.lload 5, 2) := by decide +kernel
theorem dX12_both_213 : decode cX12_both 213 = .ok (.lconst 0, 1) := by decide +kernel
theorem dX12_both_214 : decode cX12_both 214 = .ok (.lcmp, 1) := by decide +kernel
theorem dX12_both_215 : decode cX12_both 215 = .ok (.ifCond .ne 7, 3) := by decide +kernel
theorem dX12_both_218 : decode cX12_both 218 = .ok (.iconst 1, 1) := by decide +kernel
theorem dX12_both_219 : decode cX12_both 219 = .ok (.goto 4, 3) := by decide +kernel
theorem dX12_both_222 : decode cX12_both 222 = .ok (.iconst 0, 1) := by decide +kernel
theorem dX12_both_223 : decode cX12_both 223 = .ok (.istore 8, 2) := by decide +kernel
theorem dX12_both_225 : decode cX12_both 225 = .ok (.aload_n 0, 1) := by decide +kernel
theorem dX12_both_226 : decode cX12_both 226 = .ok (.iload 8, 2) := by decide +kernel
theorem dX12_both_228 : decode cX12_both 228 = .ok (.ifCond .eq 7, 3) := by decide +kernel
theorem dX12_both_231 : decode cX12_both 231 = .ok (.lconst 0, 1) := by decide +kernel
theorem dX12_both_232 : decode cX12_both 232 = .ok (.goto 86, 3) := by decide +kernel
theorem dX12_both_235 : decode cX12_both 235 = .ok (.iload_n 1, 1) := by decide +kernel
theorem dX12_both_236 : decode cX12_both 236 = .ok (.iconst 3, 1) := by decide +kernel
theorem dX12_both_237 : decode cX12_both 237 = .ok (.if_icmp .ne 10, 3) := by decide +kernel
theorem dX12_both_240 : decode cX12_both 240 = .ok (.lload_n 3, 1) := by decide +kernel
theorem dX12_both_241 : decode cX12_both 241 = .ok (.lload 5, 2) := by decide +kernel
theorem dX12_both_243 : decode cX12_both 243 = .ok (.ladd, 1) := by decide +kernel
theorem dX12_both_244 : decode cX12_both 244 = .ok (.goto 74, 3) := by decide +kernel
theorem dX12_both_247 : decode cX12_both 247 = .ok (.iload_n 1, 1) := by decide +kernel
theorem dX12_both_248 : decode cX12_both 248 = .ok (.iconst 4, 1) := by decide +kernel
theorem dX12_both_249 : decode cX12_both 249 = .ok (.if_icmp .ne 10, 3) := by decide +kernel
theorem dX12_both_252 : decode cX12_both 252 = .ok (.lload_n 3, 1) := by decide +kernel
theorem dX12_both_253 : decode cX12_both 253 = .ok (.lload 5, 2) := by decide +kernel
theorem dX12_both_255 : decode cX12_both 255 = .ok (.lsub, 1) := by decide +kernel
theorem dX12_both_256 : decode cX12_both 256 = .ok (.goto 62, 3) := by decide +kernel
theorem dX12_both_259 : decode cX12_both 259 = .ok (.iload_n 1, 1) := by decide +kernel
theorem dX12_both_260 : decode cX12_both 260 = .ok (.iconst 5, 1) := by decide +kernel
theorem dX12_both_261 : decode cX12_both 261 = .ok (.if_icmp .ne 10, 3) := by decide +kernel
theorem dX12_both_264 : decode cX12_both 264 = .ok (.lload_n 3, 1) := by decide +kernel
theorem dX12_both_265 : decode cX12_both 265 = .ok (.lload 5, 2) := by decide +kernel
theorem dX12_both_267 : decode cX12_both 267 = .ok (.lmul, 1) := by decide +kernel
theorem dX12_both_268 : decode cX12_both 268 = .ok (.goto 50, 3) := by decide +kernel
theorem dX12_both_271 : decode cX12_both 271 = .ok (.iload_n 1, 1) := by decide +kernel
theorem dX12_both_272 : decode cX12_both 272 = .ok (.bipush 6, 2) := by decide +kernel
theorem dX12_both_274 : decode cX12_both 274 = .ok (.if_icmp .ne 10, 3) := by decide +kernel
theorem dX12_both_277 : decode cX12_both 277 = .ok (.lload_n 3, 1) := by decide +kernel
theorem dX12_both_278 : decode cX12_both 278 = .ok (.lload 5, 2) := by decide +kernel
theorem dX12_both_280 : decode cX12_both 280 = .ok (.ldiv, 1) := by decide +kernel
theorem dX12_both_281 : decode cX12_both 281 = .ok (.goto 37, 3) := by decide +kernel
theorem dX12_both_284 : decode cX12_both 284 = .ok (.iload_n 1, 1) := by decide +kernel
theorem dX12_both_285 : decode cX12_both 285 = .ok (.bipush 7, 2) := by decide +kernel
theorem dX12_both_287 : decode cX12_both 287 = .ok (.if_icmp .ne 10, 3) := by decide +kernel
theorem dX12_both_290 : decode cX12_both 290 = .ok (.lload_n 3, 1) := by decide +kernel
theorem dX12_both_291 : decode cX12_both 291 = .ok (.lload 5, 2) := by decide +kernel
theorem dX12_both_293 : decode cX12_both 293 = .ok (.lrem, 1) := by decide +kernel
theorem dX12_both_294 : decode cX12_both 294 = .ok (.goto 24, 3) := by decide +kernel
theorem dX12_both_297 : decode cX12_both 297 = .ok (.iload_n 1, 1) := by decide +kernel
theorem dX12_both_298 : decode cX12_both 298 = .ok (.bipush 8, 2) := by decide +kernel
theorem dX12_both_300 : decode cX12_both 300 = .ok (.if_icmp .ne 12, 3) := by decide +kernel
theorem dX12_both_303 : decode cX12_both 303 = .ok (.lload_n 3, 1) := by decide +kernel
theorem dX12_both_304 : decode cX12_both 304 = .ok (.lload 5, 2) := by decide +kernel
theorem dX12_both_306 : decode cX12_both 306 = .ok (.invokestatic 333, 3) := by decide +kernel
theorem dX12_both_309 : decode cX12_both 309 = .ok (.goto 9, 3) := by decide +kernel
theorem dX12_both_312 : decode cX12_both 312 = .ok (.lload_n 3, 1) := by decide +kernel
theorem dX12_both_313 : decode cX12_both 313 = .ok (.lload 5, 2) := by decide +kernel
theorem dX12_both_315 : decode cX12_both 315 = .ok (.invokestatic 305, 3) := by decide +kernel
theorem dX12_both_318 : decode cX12_both 318 = .ok (.iload 8, 2) := by decide +kernel
theorem dX12_both_320 : decode cX12_both 320 = .ok (.invokevirtual 516, 3) := by decide +kernel
theorem dX12_both_323 : decode cX12_both 323 = .ok (.return_, 1) := by decide +kernel
theorem dX12_server_0 : decode cX12_server 0 = .ok (.aload_n 0, 1) := by decide +kernel
theorem dX12_server_1 : decode cX12_server 1 = .ok (.iconst 0, 1) := by decide +kernel
theorem dX12_server_2 : decode cX12_server 2 = .ok (.putfield 200, 3) := by decide +kernel
theorem dX12_server_5 : decode cX12_server 5 = .ok (.aload_n 0, 1) := by decide +kernel
theorem dX12_server_6 : decode cX12_server 6 = .ok (.iconst 0, 1) := by decide +kernel
theorem dX12_server_7 : decode cX12_server 7 = .ok (.putfield 203, 3) := by decide +kernel
theorem dX12_server_10 : decode cX12_server 10 = .ok (.iload_n 1, 1) := by decide +kernel
theorem dX12_server_11 : decode cX12_server 11 = .ok (.i2l, 1) := by decide +kernel
theorem dX12_server_12 : decode cX12_server 12 = .ok (.lconst 0, 1) := by decide +kernel
theorem dX12_server_13 : decode cX12_server 13 = .ok (.ldc2_w 523, 3) := by decide +kernel
theorem dX12_server_16 : decode cX12_server 16 = .ok (.invokestatic 208, 3) := by decide +kernel
theorem dX12_server_19 : decode cX12_server 19 = .ok (.ifCond .ne 9, 3) := by decide +kernel
theorem dX12_server_22 : decode cX12_server 22 = .ok (.aload_n 0, 1) := by decide +kernel
theorem dX12_server_23 : decode cX12_server 23 = .ok (.iconst 5, 1) := by decide +kernel
theorem dX12_server_24 : decode cX12_server 24 = .ok (.invokevirtual 261, 3) := by decide +kernel
theorem dX12_server_27 : decode cX12_server 27 = .ok (.ireturn, 1) := by decide +kernel
theorem dX12_server_28 : decode cX12_server 28 = .ok (.aload_n 0, 1) := by decide +kernel
theorem dX12_server_29 : decode cX12_server 29 = .ok (.getfield 525, 3) := by decide +kernel
theorem dX12_server_32 : decode cX12_server 32 = .ok (.bipush 8, 2) := by decide +kernel
theorem dX12_server_34 : decode cX12_server 34 = .ok (.if_icmp .ne 10, 3) := by decide +kernel
theorem dX12_server_37 : decode cX12_server 37 = .ok (.aload_n 0, 1) := by decide +kernel
theorem dX12_server_38 : decode cX12_server 38 = .ok (.bipush 7, 2) := by decide +kernel
theorem dX12_server_40 : decode cX12_server 40 = .ok (.invokevirtual 261, 3) := by decide +kernel
theorem dX12_server_43 : decode cX12_server 43 = .ok (.ireturn, 1) := by decide +kernel
theorem dX12_server_44 : decode cX12_server 44 = .ok (.aload_n 0, 1) := by decide +kernel
theorem dX12_server_45 : decode cX12_server 45 = .ok (.getfield 92, 3) := by decide +kernel
theorem dX12_server_48 : decode cX12_server 48 = .ok (.aload_n 0, 1) := by decide +kernel
theorem dX12_server_49 : decode cX12_server 49 = .ok (.getfield 525, 3) := by decide +kernel
theorem dX12_server_52 : decode cX12_server 52 = .ok (.iload_n 1, 1) := by decide +kernel
theorem dX12_server_53 : decode cX12_server 53 = .ok (.iastore, 1) := by decide +kernel
theorem dX12_server_54 : decode cX12_server 54 = .ok (.aload_n 0, 1) := by decide +kernel
theorem dX12_server_55 : decode cX12_server 55 = .ok (.dup, 1) := by decide +kernel
theorem dX12_server_56 : decode cX12_server 56 = .ok (.getfield 525, 3) := by decide +kernel
theorem dX12_server_59 : decode cX12_server 59 = .ok (.iconst 1, 1) := by decide +kernel
theorem dX12_server_60 : decode cX12_server 60 = .ok (.iadd, 1) := by decide +kernel
theorem dX12_server_61 : decode cX12_server 61 = .ok (.putfield 525, 3) := by decide +kernel
theorem dX12_server_64 : decode cX12_server 64 = .ok (.aload_n 0, 1) := by decide +kernel
theorem dX12_server_65 : decode cX12_server 65 = .ok (.getfield 525, 3) := by decide +kernel
theorem dX12_server_68 : decode cX12_server 68 = .ok (.iconst 1, 1) := by decide +kernel
theorem dX12_server_69 : decode cX12_server 69 = .ok (.isub, 1) := by decide +kernel
theorem dX12_server_70 : decode cX12_server 70 = .ok (.ireturn, 1) := by decide +kernel
theorem dX12_notice_0 : decode cX12_notice 0 = .ok (.aload_n 0, 1) := by decide +kernel
theorem dX12_notice_1 : decode cX12_notice 1 = .ok (.iconst 0, 1) := by decide +kernel
theorem dX12_notice_2 : decode cX12_notice 2 = .ok (.putfield 200, 3) := by decide +kernel
theorem dX12_notice_5 : decode cX12_notice 5 = .ok (.aload_n 0, 1) := by decide +kernel
theorem dX12_notice_6 : decode cX12_notice 6 = .ok (.iconst 0, 1) := by decide +kernel
theorem dX12_notice_7 : decode cX12_notice 7 = .ok (.putfield 203, 3) := by decide +kernel
theorem dX12_notice_10 : decode cX12_notice 10 = .ok (.iload_n 1, 1) := by decide +kernel
theorem dX12_notice_11 : decode cX12_notice 11 = .ok (.i2l, 1) := by decide +kernel
theorem dX12_notice_12 : decode cX12_notice 12 = .ok (.lconst 0, 1) := by decide +kernel
theorem dX12_notice_13 : decode cX12_notice 13 = .ok (.aload_n 0, 1) := by decide +kernel
theorem dX12_notice_14 : decode cX12_notice 14 = .ok (.getfield 525, 3) := by decide +kernel
theorem dX12_notice_17 : decode cX12_notice 17 = .ok (.iconst 1, 1) := by decide +kernel
theorem dX12_notice_18 : decode cX12_notice 18 = .ok (.isub, 1) := by decide +kernel
theorem dX12_notice_19 : decode cX12_notice 19 = .ok (.i2l, 1) := by decide +kernel
theorem dX12_notice_20 : decode cX12_notice 20 = .ok (.invokestatic 208, 3) := by decide +kernel
theorem dX12_notice_23 : decode cX12_notice 23 = .ok (.ifCond .eq 11, 3) := by decide +kernel
theorem dX12_notice_26 : decode cX12_notice 26 = .ok (.aload_n 0, 1) := by decide +kernel
theorem dX12_notice_27 : decode cX12_notice 27 = .ok (.iload_n 2, 1) := by decide +kernel
theorem dX12_notice_28 : decode cX12_notice 28 = .ok (.invokevirtual 280, 3) := by decide +kernel
theorem dX12_notice_31 : decode cX12_notice 31 = .ok (.ifCond .ne 9, 3) := by decide +kernel
theorem dX12_notice_34 : decode cX12_notice 34 = .ok (.aload_n 0, 1) := by decide +kernel
theorem dX12_notice_35 : decode cX12_notice 35 = .ok (.iconst 2, 1) := by decide +kernel
theorem dX12_notice_36 : decode cX12_notice 36 = .ok (.invokevirtual 261, 3) := by decide +kernel
theorem dX12_notice_39 : decode cX12_notice 39 = .ok (.ireturn, 1) := by decide +kernel
theorem dX12_notice_40 : decode cX12_notice 40 = .ok (.iload_n 3, 1) := by decide +kernel
theorem dX12_notice_41 : decode cX12_notice 41 = .ok (.invokestatic 250, 3) := by decide +kernel
theorem dX12_notice_44 : decode cX12_notice 44 = .ok (.ifCond .eq 23, 3) := by decide +kernel
theorem dX12_notice_47 : decode cX12_notice 47 = .ok (.iload 4, 2) := by decide +kernel
theorem dX12_notice_49 : decode cX12_notice 49 = .ok (.iconst 1, 1) := by decide +kernel
theorem dX12_notice_50 : decode cX12_notice 50 = .ok (.if_icmp .eq 9, 3) := by decide +kernel
theorem dX12_notice_53 : decode cX12_notice 53 = .ok (.iload 4, 2) := by decide +kernel
theorem dX12_notice_55 : decode cX12_notice 55 = .ok (.iconst (-1), 1) := by decide +kernel
theorem dX12_notice_56 : decode cX12_notice 56 = .ok (.if_icmp .ne 11, 3) := by decide +kernel
theorem dX12_notice_59 : decode cX12_notice 59 = .ok (.iload 5, 2) := by decide +kernel
theorem dX12_notice_61 : decode cX12_notice 61 = .ok (.invokestatic 258, 3) := by decide +kernel
theorem dX12_notice_64 : decode cX12_notice 64 = .ok (.ifCond .ne 9, 3) := by decide +kernel
theorem dX12_notice_67 : decode cX12_notice 67 = .ok (.aload_n 0, 1) := by decide +kernel
theorem dX12_notice_68 : decode cX12_notice 68 = .ok (.iconst 5, 1) := by decide +kernel
theorem dX12_notice_69 : decode cX12_notice 69 = .ok (.invokevirtual 261, 3) := by decide +kernel
theorem dX12_notice_72 : decode cX12_notice 72 = .ok (.ireturn, 1) := by decide +kernel
theorem dX12_notice_73 : decode cX12_notice 73 = .ok (.aload_n 0, 1) := by decide +kernel
theorem dX12_notice_74 : decode cX12_notice 74 = .ok (.getfield 286, 3) := by decide +kernel
theorem dX12_notice_77 : decode cX12_notice 77 = .ok (.bipush 60, 2) := by decide +kernel
theorem dX12_notice_79 : decode cX12_notice 79 = .ok (.if_icmp .ne 10, 3) := by decide +kernel
theorem dX12_notice_82 : decode cX12_notice 82 = .ok (.aload_n 0, 1) := by decide +kernel
theorem dX12_notice_83 : decode cX12_notice 83 = .ok (.bipush 7, 2) := by decide +kernel
theorem dX12_notice_85 : decode cX12_notice 85 = .ok (.invokevirtual 261, 3) := by decide +kernel
theorem dX12_notice_88 : decode cX12_notice 88 = .ok (.ireturn, 1) := by decide +kernel
theorem dX12_notice_89 : decode cX12_notice 89 = .ok (.iload 5, 2) := by decide +kernel
theorem dX12_notice_91 : decode cX12_notice 91 = .ok (.aload_n 0, 1) := by decide +kernel
theorem dX12_notice_92 : decode cX12_notice 92 = .ok (.getfield 528, 3) := by decide +kernel
theorem dX12_notice_95 : decode cX12_notice 95 = .ok (.if_icmp .ge 10, 3) := by decide +kernel
theorem dX12_notice_98 : decode cX12_notice 98 = .ok (.aload_n 0, 1) := by decide +kernel
theorem dX12_notice_99 : decode cX12_notice 99 = .ok (.bipush 12, 2) := by decide +kernel
theorem dX12_notice_101 : decode cX12_notice 101 = .ok (.invokevirtual 261, 3) := by decide +kernel
theorem dX12_notice_104 : decode cX12_notice 104 = .ok (.ireturn, 1) := by decide +kernel
theorem dX12_notice_105 : decode cX12_notice 105 = .ok (.aload_n 0, 1) := by decide +kernel
theorem dX12_notice_106 : decode cX12_notice 106 = .ok (.getfield 95, 3) := by decide +kernel
theorem dX12_notice_109 : decode cX12_notice 109 = .ok (.aload_n 0, 1) := by decide +kernel
theorem dX12_notice_110 : decode cX12_notice 110 = .ok (.getfield 286, 3) := by decide +kernel
theorem dX12_notice_113 : decode cX12_notice 113 = .ok (.iload_n 1, 1) := by decide +kernel
theorem dX12_notice_114 : decode cX12_notice 114 = .ok (.iastore, 1) := by decide +kernel
theorem dX12_notice_115 : decode cX12_notice 115 = .ok (.aload_n 0, 1) := by decide +kernel
theorem dX12_notice_116 : decode cX12_notice 116 = .ok (.getfield 98, 3) := by decide +kernel
theorem dX12_notice_119 : decode cX12_notice 119 = .ok (.aload_n 0, 1) := by decide +kernel
theorem dX12_notice_120 : decode cX12_notice 120 = .ok (.getfield 286, 3) := by decide +kernel
theorem dX12_notice_123 : decode cX12_notice 123 = .ok (.iload_n 2, 1) := by decide +kernel
theorem dX12_notice_124 : decode cX12_notice 124 = .ok (.iastore, 1) := by decide +kernel
theorem dX12_notice_125 : decode cX12_notice 125 = .ok (.aload_n 0, 1) := by decide +kernel
theorem dX12_notice_126 : decode cX12_notice 126 = .ok (.getfield 101, 3) := by decide +kernel
theorem dX12_notice_129 : decode cX12_notice 129 = .ok (.aload_n 0, 1) := by decide +kernel
theorem dX12_notice_130 : decode cX12_notice 130 = .ok (.getfield 286, 3) := by decide +kernel
theorem dX12_notice_133 : decode cX12_notice 133 = .ok (.iload_n 3, 1) := by decide +kernel
theorem dX12_notice_134 : decode cX12_notice 134 = .ok (.iastore, 1) := by decide +kernel
theorem dX12_notice_135 : decode cX12_notice 135 = .ok (.aload_n 0, 1) := by decide +kernel
theorem dX12_notice_136 : decode cX12_notice 136 = .ok (.getfield 104, 3) := by decide +kernel
theorem dX12_notice_139 : decode cX12_notice 139 = .ok (.aload_n 0, 1) := by decide +kernel
theorem dX12_notice_140 : decode cX12_notice 140 = .ok (.getfield 286, 3) := by decide +kernel
theorem dX12_notice_143 : decode cX12_notice 143 = .ok (.iload 4, 2) := by decide +kernel
theorem dX12_notice_145 : decode cX12_notice 145 = .ok (.iastore, 1) := by decide +kernel
theorem dX12_notice_146 : decode cX12_notice 146 = .ok (.aload_n 0, 1) := by decide +kernel
theorem dX12_notice_147 : decode cX12_notice 147 = .ok (.getfield 107, 3) := by decide +kernel
theorem dX12_notice_150 : decode cX12_notice 150 = .ok (.aload_n 0, 1) := by decide +kernel
theorem dX12_notice_151 : decode cX12_notice 151 = .ok (.getfield 286, 3) := by decide +kernel
theorem dX12_notice_154 : decode cX12_notice 154 = .ok (.iload 5, 2) := by decide +kernel
theorem dX12_notice_156 : decode cX12_notice 156 = .ok (.iastore, 1) := by decide +kernel
theorem dX12_notice_157 : decode cX12_notice 157 = .ok (.aload_n 0, 1) := by decide +kernel
theorem dX12_notice_158 : decode cX12_notice 158 = .ok (.dup, 1) := by decide +kernel
theorem dX12_notice_159 : decode cX12_notice 159 = .ok (.getfield 286, 3) := by decide +kernel
theorem dX12_notice_162 : decode cX12_notice 162 = .ok (.iconst 1, 1) := by decide +kernel
theorem dX12_notice_163 : decode cX12_notice 163 = .ok (.iadd, 1) := by decide +kernel
theorem dX12_notice_164 : decode cX12_notice 164 = .ok (.putfield 286, 3) := by decide +kernel
theorem dX12_notice_167 : decode cX12_notice 167 = .ok (.aload_n 0, 1) := by decide +kernel
theorem dX12_notice_168 : decode cX12_notice 168 = .ok (.iload 5, 2) := by decide +kernel
theorem dX12_notice_170 : decode cX12_notice 170 = .ok (.putfield 528, 3) := by decide +kernel
theorem dX12_notice_173 : decode cX12_notice 173 = .ok (.aload_n 0, 1) := by decide +kernel
theorem dX12_notice_174 : decode cX12_notice 174 = .ok (.getfield 286, 3) := by decide +kernel
theorem dX12_notice_177 : decode cX12_notice 177 = .ok (.iconst 1, 1) := by decide +kernel
theorem dX12_notice_178 : decode cX12_notice 178 = .ok (.isub, 1) := by decide +kernel
theorem dX12_notice_179 : decode cX12_notice 179 = .ok (.ireturn, 1) := by decide +kernel
theorem dX12_isInTime_0 : decode cX12_isInTime 0 = .ok (.aload_n 0, 1) := by decide +kernel
theorem dX12_isInTime_1 : decode cX12_isInTime 1 = .ok (.invokevirtual 264, 3) := by decide +kernel
theorem dX12_isInTime_4 : decode cX12_isInTime 4 = .ok (.aload_n 0, 1) := by decide +kernel
theorem dX12_isInTime_5 : decode cX12_isInTime 5 = .ok (.getfield 107, 3) := by decide +kernel
theorem dX12_isInTime_8 : decode cX12_isInTime 8 = .ok (.iload_n 1, 1) := by decide +kernel
theorem dX12_isInTime_9 : decode cX12_isInTime 9 = .ok (.iaload, 1) := by decide +kernel
theorem dX12_isInTime_10 : decode cX12_isInTime 10 = .ok (.i2l, 1) := by decide +kernel
theorem dX12_isInTime_11 : decode cX12_isInTime 11 = .ok (.aload_n 0, 1) := by decide +kernel
theorem dX12_isInTime_12 : decode cX12_isInTime 12 = .ok (.aload_n 0, 1) := by decide +kernel
theorem dX12_isInTime_13 : decode cX12_isInTime 13 = .ok (.getfield 101, 3) := by decide +kernel
theorem dX12_isInTime_16 : decode cX12_isInTime 16 = .ok (.iload_n 1, 1) := by decide +kernel
theorem dX12_isInTime_17 : decode cX12_isInTime 17 = .ok (.iaload, 1) := by decide +kernel
theorem dX12_isInTime_18 : decode cX12_isInTime 18 = .ok (.iconst 1, 1) := by decide +kernel
theorem dX12_isInTime_19 : decode cX12_isInTime 19 = .ok (.iadd, 1) := by decide +kernel
theorem dX12_isInTime_20 : decode cX12_isInTime 20 = .ok (.invokevirtual 240, 3) := by decide +kernel
theorem dX12_isInTime_23 : decode cX12_isInTime 23 = .ok (.lcmp, 1) := by decide +kernel
theorem dX12_isInTime_24 : decode cX12_isInTime 24 = .ok (.ifCond .ge 7, 3) := by decide +kernel
theorem dX12_isInTime_27 : decode cX12_isInTime 27 = .ok (.iconst 1, 1) := by decide +kernel
theorem dX12_isInTime_28 : decode cX12_isInTime 28 = .ok (.goto 4, 3) := by decide +kernel
theorem dX12_isInTime_31 : decode cX12_isInTime 31 = .ok (.iconst 0, 1) := by decide +kernel
theorem dX12_isInTime_32 : decode cX12_isInTime 32 = .ok (.ireturn, 1) := by decide +kernel
theorem dX12_isBelieved_0 : decode cX12_isBelieved 0 = .ok (.aload_n 0, 1) := by decide +kernel
theorem dX12_isBelieved_1 : decode cX12_isBelieved 1 = .ok (.invokevirtual 264, 3) := by decide +kernel
theorem dX12_isBelieved_4 : decode cX12_isBelieved 4 = .ok (.aload_n 0, 1) := by decide +kernel
theorem dX12_isBelieved_5 : decode cX12_isBelieved 5 = .ok (.aload_n 0, 1) := by decide +kernel
theorem dX12_isBelieved_6 : decode cX12_isBelieved 6 = .ok (.getfield 107, 3) := by decide +kernel
theorem dX12_isBelieved_9 : decode cX12_isBelieved 9 = .ok (.iload_n 1, 1) := by decide +kernel
theorem dX12_isBelieved_10 : decode cX12_isBelieved 10 = .ok (.iaload, 1) := by decide +kernel
theorem dX12_isBelieved_11 : decode cX12_isBelieved 11 = .ok (.i2l, 1) := by decide +kernel
theorem dX12_isBelieved_12 : decode cX12_isBelieved 12 = .ok (.invokevirtual 267, 3) := by decide +kernel
theorem dX12_isBelieved_15 : decode cX12_isBelieved 15 = .ok (.aload_n 0, 1) := by decide +kernel
theorem dX12_isBelieved_16 : decode cX12_isBelieved 16 = .ok (.getfield 244, 3) := by decide +kernel
theorem dX12_isBelieved_19 : decode cX12_isBelieved 19 = .ok (.istore_n 2, 1) := by decide +kernel
theorem dX12_isBelieved_20 : decode cX12_isBelieved 20 = .ok (.aload_n 0, 1) := by decide +kernel
theorem dX12_isBelieved_21 : decode cX12_isBelieved 21 = .ok (.invokevirtual 531, 3) := by decide +kernel
theorem dX12_isBelieved_24 : decode cX12_isBelieved 24 = .ok (.aload_n 0, 1) := by decide +kernel
theorem dX12_isBelieved_25 : decode cX12_isBelieved 25 = .ok (.getfield 79, 3) := by decide +kernel
theorem dX12_isBelieved_28 : decode cX12_isBelieved 28 = .ok (.iconst 0, 1) := by decide +kernel
theorem dX12_isBelieved_29 : decode cX12_isBelieved 29 = .ok (.aload_n 0, 1) := by decide +kernel
theorem dX12_isBelieved_30 : decode cX12_isBelieved 30 = .ok (.getfield 95, 3) := by decide +kernel
theorem dX12_isBelieved_33 : decode cX12_isBelieved 33 = .ok (.iload_n 1, 1) := by decide +kernel
theorem dX12_isBelieved_34 : decode cX12_isBelieved 34 = .ok (.iaload, 1) := by decide +kernel
theorem dX12_isBelieved_35 : decode cX12_isBelieved 35 = .ok (.i2l, 1) := by decide +kernel
theorem dX12_isBelieved_36 : decode cX12_isBelieved 36 = .ok (.lastore, 1) := by decide +kernel
theorem dX12_isBelieved_37 : decode cX12_isBelieved 37 = .ok (.aload_n 0, 1) := by decide +kernel
theorem dX12_isBelieved_38 : decode cX12_isBelieved 38 = .ok (.getfield 79, 3) := by decide +kernel
theorem dX12_isBelieved_41 : decode cX12_isBelieved 41 = .ok (.iconst 1, 1) := by decide +kernel
theorem dX12_isBelieved_42 : decode cX12_isBelieved 42 = .ok (.aload_n 0, 1) := by decide +kernel
theorem dX12_isBelieved_43 : decode cX12_isBelieved 43 = .ok (.getfield 92, 3) := by decide +kernel
theorem dX12_isBelieved_46 : decode cX12_isBelieved 46 = .ok (.aload_n 0, 1) := by decide +kernel
theorem dX12_isBelieved_47 : decode cX12_isBelieved 47 = .ok (.getfield 95, 3) := by decide +kernel
theorem dX12_isBelieved_50 : decode cX12_isBelieved 50 = .ok (.iload_n 1, 1) := by decide +kernel
theorem dX12_isBelieved_51 : decode cX12_isBelieved 51 = .ok (.iaload, 1) := by decide +kernel
theorem dX12_isBelieved_52 : decode cX12_isBelieved 52 = .ok (.iaload, 1) := by decide +kernel
theorem dX12_isBelieved_53 : decode cX12_isBelieved 53 = .ok (.i2l, 1) := by decide +kernel
theorem dX12_isBelieved_54 : decode cX12_isBelieved 54 = .ok (.lastore, 1) := by decide +kernel
theorem dX12_isBelieved_55 : decode cX12_isBelieved 55 = .ok (.aload_n 0, 1) := by decide +kernel
theorem dX12_isBelieved_56 : decode cX12_isBelieved 56 = .ok (.getfield 79, 3) := by decide +kernel
theorem dX12_isBelieved_59 : decode cX12_isBelieved 59 = .ok (.iconst 2, 1) := by decide +kernel
theorem dX12_isBelieved_60 : decode cX12_isBelieved 60 = .ok (.aload_n 0, 1) := by decide +kernel
theorem dX12_isBelieved_61 : decode cX12_isBelieved 61 = .ok (.getfield 101, 3) := by decide +kernel
theorem dX12_isBelieved_64 : decode cX12_isBelieved 64 = .ok (.iload_n 1, 1) := by decide +kernel
theorem dX12_isBelieved_65 : decode cX12_isBelieved 65 = .ok (.iaload, 1) := by decide +kernel
theorem dX12_isBelieved_66 : decode cX12_isBelieved 66 = .ok (.iload_n 2, 1) := by decide +kernel
theorem dX12_isBelieved_67 : decode cX12_isBelieved 67 = .ok (.isub, 1) := by decide +kernel
theorem dX12_isBelieved_68 : decode cX12_isBelieved 68 = .ok (.i2l, 1) := by decide +kernel
theorem dX12_isBelieved_69 : decode cX12_isBelieved 69 = .ok (.lastore, 1) := by decide +kernel
theorem dX12_isBelieved_70 : decode cX12_isBelieved 70 = .ok (.aload_n 0, 1) := by decide +kernel
theorem dX12_isBelieved_71 : decode cX12_isBelieved 71 = .ok (.getfield 79, 3) := by decide +kernel
theorem dX12_isBelieved_74 : decode cX12_isBelieved 74 = .ok (.iconst 3, 1) := by decide +kernel
theorem dX12_isBelieved_75 : decode cX12_isBelieved 75 = .ok (.aload_n 0, 1) := by decide +kernel
theorem dX12_isBelieved_76 : decode cX12_isBelieved 76 = .ok (.getfield 104, 3) := by decide +kernel
theorem dX12_isBelieved_79 : decode cX12_isBelieved 79 = .ok (.iload_n 1, 1) := by decide +kernel
theorem dX12_isBelieved_80 : decode cX12_isBelieved 80 = .ok (.iaload, 1) := by decide +kernel
theorem dX12_isBelieved_81 : decode cX12_isBelieved 81 = .ok (.i2l, 1) := by decide +kernel
theorem dX12_isBelieved_82 : decode cX12_isBelieved 82 = .ok (.lastore, 1) := by decide +kernel
theorem dX12_isBelieved_83 : decode cX12_isBelieved 83 = .ok (.iconst 0, 1) := by decide +kernel
theorem dX12_isBelieved_84 : decode cX12_isBelieved 84 = .ok (.istore_n 3, 1) := by decide +kernel
theorem dX12_isBelieved_85 : decode cX12_isBelieved 85 = .ok (.iload_n 3, 1) := by decide +kernel
theorem dX12_isBelieved_86 : decode cX12_isBelieved 86 = .ok (.iload_n 1, 1) := by decide +kernel
theorem dX12_isBelieved_87 : decode cX12_isBelieved 87 = .ok (.if_icmp .ge 80, 3) := by decide +kernel
theorem dX12_isBelieved_90 : decode cX12_isBelieved 90 = .ok (.aload_n 0, 1) := by decide +kernel
theorem dX12_isBelieved_91 : decode cX12_isBelieved 91 = .ok (.getfield 98, 3) := by decide +kernel
theorem dX12_isBelieved_94 : decode cX12_isBelieved 94 = .ok (.iload_n 3, 1) := by decide +kernel
theorem dX12_isBelieved_95 : decode cX12_isBelieved 95 = .ok (.iaload, 1) := by decide +kernel
theorem dX12_isBelieved_96 : decode cX12_isBelieved 96 = .ok (.aload_n 0, 1) := by decide +kernel
theorem dX12_isBelieved_97 : decode cX12_isBelieved 97 = .ok (.getfield 98, 3) := by decide +kernel
theorem dX12_isBelieved_100 : decode cX12_isBelieved 100 = .ok (.iload_n 1, 1) := by decide +kernel
theorem dX12_isBelieved_101 : decode cX12_isBelieved 101 = .ok (.iaload, 1) := by decide +kernel
theorem dX12_isBelieved_102 : decode cX12_isBelieved 102 = .ok (.if_icmp .ne 59, 3) := by decide +kernel
theorem dX12_isBelieved_105 : decode cX12_isBelieved 105 = .ok (.aload_n 0, 1) := by decide +kernel
theorem dX12_isBelieved_106 : decode cX12_isBelieved 106 = .ok (.getfield 101, 3) := by decide +kernel
theorem dX12_isBelieved_109 : decode cX12_isBelieved 109 = .ok (.iload_n 3, 1) := by decide +kernel
theorem dX12_isBelieved_110 : decode cX12_isBelieved 110 = .ok (.iaload, 1) := by decide +kernel
theorem dX12_isBelieved_111 : decode cX12_isBelieved 111 = .ok (.aload_n 0, 1) := by decide +kernel
theorem dX12_isBelieved_112 : decode cX12_isBelieved 112 = .ok (.getfield 101, 3) := by decide +kernel
theorem dX12_isBelieved_115 : decode cX12_isBelieved 115 = .ok (.iload_n 1, 1) := by decide +kernel
theorem dX12_isBelieved_116 : decode cX12_isBelieved 116 = .ok (.iaload, 1) := by decide +kernel
theorem dX12_isBelieved_117 : decode cX12_isBelieved 117 = .ok (.if_icmp .eq 6, 3) := by decide +kernel
theorem dX12_isBelieved_120 : decode cX12_isBelieved 120 = .ok (.goto 41, 3) := by decide +kernel
theorem dX12_isBelieved_123 : decode cX12_isBelieved 123 = .ok (.aload_n 0, 1) := by decide +kernel
theorem dX12_isBelieved_124 : decode cX12_isBelieved 124 = .ok (.getfield 104, 3) := by decide +kernel
theorem dX12_isBelieved_127 : decode cX12_isBelieved 127 = .ok (.iload_n 3, 1) := by decide +kernel
theorem dX12_isBelieved_128 : decode cX12_isBelieved 128 = .ok (.iaload, 1) := by decide +kernel
theorem dX12_isBelieved_129 : decode cX12_isBelieved 129 = .ok (.aload_n 0, 1) := by decide +kernel
theorem dX12_isBelieved_130 : decode cX12_isBelieved 130 = .ok (.getfield 104, 3) := by decide +kernel
theorem dX12_isBelieved_133 : decode cX12_isBelieved 133 = .ok (.iload_n 1, 1) := by decide +kernel
theorem dX12_isBelieved_134 : decode cX12_isBelieved 134 = .ok (.iaload, 1) := by decide +kernel
theorem dX12_isBelieved_135 : decode cX12_isBelieved 135 = .ok (.if_icmp .ne 16, 3) := by decide +kernel
theorem dX12_isBelieved_138 : decode cX12_isBelieved 138 = .ok (.aload_n 0, 1) := by decide +kernel
theorem dX12_isBelieved_139 : decode cX12_isBelieved 139 = .ok (.getfield 79, 3) := by decide +kernel
theorem dX12_isBelieved_142 : decode cX12_isBelieved 142 = .ok (.iconst 4, 1) := by decide +kernel
theorem dX12_isBelieved_143 : decode cX12_isBelieved 143 = .ok (.dup2, 1) := by decide +kernel
theorem dX12_isBelieved_144 : decode cX12_isBelieved 144 = .ok (.laload, 1) := by decide +kernel
theorem dX12_isBelieved_145 : decode cX12_isBelieved 145 = .ok (.lconst 1, 1) := by decide +kernel
theorem dX12_isBelieved_146 : decode cX12_isBelieved 146 = .ok (.ladd, 1) := by decide +kernel
theorem dX12_isBelieved_147 : decode cX12_isBelieved 147 = .ok (.lastore, 1) := by decide +kernel
theorem dX12_isBelieved_148 : decode cX12_isBelieved 148 = .ok (.goto 13, 3) := by decide +kernel
theorem dX12_isBelieved_151 : decode cX12_isBelieved 151 = .ok (.aload_n 0, 1) := by decide +kernel
theorem dX12_isBelieved_152 : decode cX12_isBelieved 152 = .ok (.getfield 79, 3) := by decide +kernel
theorem dX12_isBelieved_155 : decode cX12_isBelieved 155 = .ok (.iconst 5, 1) := by decide +kernel
theorem dX12_isBelieved_156 : decode cX12_isBelieved 156 = .ok (.dup2, 1) := by decide +kernel
theorem dX12_isBelieved_157 : decode cX12_isBelieved 157 = .ok (.laload, 1) := by decide +kernel
theorem dX12_isBelieved_158 : decode cX12_isBelieved 158 = .ok (.lconst 1, 1) := by decide +kernel
theorem dX12_isBelieved_159 : decode cX12_isBelieved 159 = .ok (.ladd, 1) := by decide +kernel
theorem dX12_isBelieved_160 : decode cX12_isBelieved 160 = .ok (.lastore, 1) := by decide +kernel
theorem dX12_isBelieved_161 : decode cX12_isBelieved 161 = .ok (.iinc 3 1, 3) := by decide +kernel
theorem dX12_isBelieved_164 : decode cX12_isBelieved 164 = .ok (.goto (-79), 3) := by decide +kernel
theorem dX12_isBelieved_167 : decode cX12_isBelieved 167 = .ok (.aload_n 0, 1) := by decide +kernel
theorem dX12_isBelieved_168 : decode cX12_isBelieved 168 = .ok (.getfield 79, 3) := by decide +kernel
theorem dX12_isBelieved_171 : decode cX12_isBelieved 171 = .ok (.bipush 6, 2) := by decide +kernel
theorem dX12_isBelieved_173 : decode cX12_isBelieved 173 = .ok (.aload_n 0, 1) := by decide +kernel
theorem dX12_isBelieved_174 : decode cX12_isBelieved 174 = .ok (.getfield 32, 3) := by decide +kernel
theorem dX12_isBelieved_177 : decode cX12_isBelieved 177 = .ok (.aload_n 0, 1) := by decide +kernel
theorem dX12_isBelieved_178 : decode cX12_isBelieved 178 = .ok (.getfield 98, 3) := by decide +kernel
theorem dX12_isBelieved_181 : decode cX12_isBelieved 181 = .ok (.iload_n 1, 1) := by decide +kernel
theorem dX12_isBelieved_182 : decode cX12_isBelieved 182 = .ok (.iaload, 1) := by decide +kernel
theorem dX12_isBelieved_183 : decode cX12_isBelieved 183 = .ok (.iaload, 1) := by decide +kernel
theorem dX12_isBelieved_184 : decode cX12_isBelieved 184 = .ok (.i2l, 1) := by decide +kernel
theorem dX12_isBelieved_185 : decode cX12_isBelieved 185 = .ok (.lastore, 1) := by decide +kernel
theorem dX12_isBelieved_186 : decode cX12_isBelieved 186 = .ok (.aload_n 0, 1) := by decide +kernel
theorem dX12_isBelieved_187 : decode cX12_isBelieved 187 = .ok (.getfield 79, 3) := by decide +kernel
theorem dX12_isBelieved_190 : decode cX12_isBelieved 190 = .ok (.bipush 7, 2) := by decide +kernel
theorem dX12_isBelieved_192 : decode cX12_isBelieved 192 = .ok (.aload_n 0, 1) := by decide +kernel
theorem dX12_isBelieved_193 : decode cX12_isBelieved 193 = .ok (.getfield 98, 3) := by decide +kernel
theorem dX12_isBelieved_196 : decode cX12_isBelieved 196 = .ok (.iload_n 1, 1) := by decide +kernel
theorem dX12_isBelieved_197 : decode cX12_isBelieved 197 = .ok (.iaload, 1) := by decide +kernel
theorem dX12_isBelieved_198 : decode cX12_isBelieved 198 = .ok (.i2l, 1) := by decide +kernel
theorem dX12_isBelieved_199 : decode cX12_isBelieved 199 = .ok (.lastore, 1) := by decide +kernel
theorem dX12_isBelieved_200 : decode cX12_isBelieved 200 = .ok (.aload_n 0, 1) := by decide +kernel
theorem dX12_isBelieved_201 : decode cX12_isBelieved 201 = .ok (.getfield 79, 3) := by decide +kernel
theorem dX12_isBelieved_204 : decode cX12_isBelieved 204 = .ok (.bipush 8, 2) := by decide +kernel
theorem dX12_isBelieved_206 : decode cX12_isBelieved 206 = .ok (.iload_n 2, 1) := by decide +kernel
theorem dX12_isBelieved_207 : decode cX12_isBelieved 207 = .ok (.i2l, 1) := by decide +kernel
theorem dX12_isBelieved_208 : decode cX12_isBelieved 208 = .ok (.lastore, 1) := by decide +kernel
theorem dX12_isBelieved_209 : decode cX12_isBelieved 209 = .ok (.aload_n 0, 1) := by decide +kernel
theorem dX12_isBelieved_210 : decode cX12_isBelieved 210 = .ok (.getfield 79, 3) := by decide +kernel
theorem dX12_isBelieved_213 : decode cX12_isBelieved 213 = .ok (.bipush 10, 2) := by decide +kernel
theorem dX12_isBelieved_215 : decode cX12_isBelieved 215 = .ok (.iload_n 2, 1) := by decide +kernel
theorem dX12_isBelieved_216 : decode cX12_isBelieved 216 = .ok (.sipush 365, 3) := by decide +kernel
theorem dX12_isBelieved_219 : decode cX12_isBelieved 219 = .ok (.idiv, 1) := by decide +kernel
theorem dX12_isBelieved_220 : decode cX12_isBelieved 220 = .ok (.i2l, 1) := by decide +kernel
theorem dX12_isBelieved_221 : decode cX12_isBelieved 221 = .ok (.lastore, 1) := by decide +kernel
theorem dX12_isBelieved_222 : decode cX12_isBelieved 222 = .ok (.aload_n 0, 1) := by decide +kernel
theorem dX12_isBelieved_223 : decode cX12_isBelieved 223 = .ok (.getfield 79, 3) := by decide +kernel
theorem dX12_isBelieved_226 : decode cX12_isBelieved 226 = .ok (.bipush 9, 2) := by decide +kernel
theorem dX12_isBelieved_228 : decode cX12_isBelieved 228 = .ok (.bipush 11, 2) := by decide +kernel
theorem dX12_isBelieved_230 : decode cX12_isBelieved 230 = .ok (.iload_n 2, 1) := by decide +kernel
theorem dX12_isBelieved_231 : decode cX12_isBelieved 231 = .ok (.sipush 365, 3) := by decide +kernel
theorem dX12_isBelieved_234 : decode cX12_isBelieved 234 = .ok (.irem, 1) := by decide +kernel
theorem dX12_isBelieved_235 : decode cX12_isBelieved 235 = .ok (.bipush 30, 2) := by decide +kernel
theorem dX12_isBelieved_237 : decode cX12_isBelieved 237 = .ok (.idiv, 1) := by decide +kernel
theorem dX12_isBelieved_238 : decode cX12_isBelieved 238 = .ok (.invokestatic 534, 3) := by decide +kernel
theorem dX12_isBelieved_241 : decode cX12_isBelieved 241 = .ok (.i2l, 1) := by decide +kernel
theorem dX12_isBelieved_242 : decode cX12_isBelieved 242 = .ok (.lastore, 1) := by decide +kernel
theorem dX12_isBelieved_243 : decode cX12_isBelieved 243 = .ok (.aload_n 0, 1) := by decide +kernel
theorem dX12_isBelieved_244 : decode cX12_isBelieved 244 = .ok (.ldc2_w 536, 3) := by decide +kernel
theorem dX12_isBelieved_247 : decode cX12_isBelieved 247 = .ok (.iload_n 2, 1) := by decide +kernel
theorem dX12_isBelieved_248 : decode cX12_isBelieved 248 = .ok (.lconst 1, 1) := by decide +kernel
theorem dX12_isBelieved_249 : decode cX12_isBelieved 249 = .ok (.invokevirtual 538, 3) := by decide +kernel
theorem dX12_isBelieved_252 : decode cX12_isBelieved 252 = .ok (.lstore_n 3, 1) := by decide +kernel
theorem dX12_isBelieved_253 : decode cX12_isBelieved 253 = .ok (.lload_n 3, 1) := by decide +kernel
theorem dX12_isBelieved_254 : decode cX12_isBelieved 254 = .ok (.lconst 0, 1) := by decide +kernel
theorem dX12_isBelieved_255 : decode cX12_isBelieved 255 = .ok (.lcmp, 1) := by decide +kernel
theorem dX12_isBelieved_256 : decode cX12_isBelieved 256 = .ok (.ifCond .eq 14, 3) := by decide +kernel
theorem dX12_isBelieved_259 : decode cX12_isBelieved 259 = .ok (.aload_n 0, 1) := by decide +kernel
theorem dX12_isBelieved_260 : decode cX12_isBelieved 260 = .ok (.getfield 501, 3) := by decide +kernel
theorem dX12_isBelieved_263 : decode cX12_isBelieved 263 = .ok (.ifCond .ne 7, 3) := by decide +kernel
theorem dX12_isBelieved_266 : decode cX12_isBelieved 266 = .ok (.iconst 1, 1) := by decide +kernel
theorem dX12_isBelieved_267 : decode cX12_isBelieved 267 = .ok (.goto 4, 3) := by decide +kernel
theorem dX12_isBelieved_270 : decode cX12_isBelieved 270 = .ok (.iconst 0, 1) := by decide +kernel
theorem dX12_isBelieved_271 : decode cX12_isBelieved 271 = .ok (.ireturn, 1) := by decide +kernel
theorem dX12_counts_0 : decode cX12_counts 0 = .ok (.aload_n 0, 1) := by decide +kernel
theorem dX12_counts_1 : decode cX12_counts 1 = .ok (.getfield 235, 3) := by decide +kernel
theorem dX12_counts_4 : decode cX12_counts 4 = .ok (.istore_n 2, 1) := by decide +kernel
theorem dX12_counts_5 : decode cX12_counts 5 = .ok (.iconst 0, 1) := by decide +kernel
theorem dX12_counts_6 : decode cX12_counts 6 = .ok (.istore_n 3, 1) := by decide +kernel
theorem dX12_counts_7 : decode cX12_counts 7 = .ok (.iload_n 3, 1) := by decide +kernel
theorem dX12_counts_8 : decode cX12_counts 8 = .ok (.iload_n 2, 1) := by decide +kernel
theorem dX12_counts_9 : decode cX12_counts 9 = .ok (.if_icmp .ge 33, 3) := by decide +kernel
theorem dX12_counts_12 : decode cX12_counts 12 = .ok (.aload_n 0, 1) := by decide +kernel
theorem dX12_counts_13 : decode cX12_counts 13 = .ok (.getfield 191, 3) := by decide +kernel
theorem dX12_counts_16 : decode cX12_counts 16 = .ok (.iload_n 3, 1) := by decide +kernel
theorem dX12_counts_17 : decode cX12_counts 17 = .ok (.aload_n 0, 1) := by decide +kernel
theorem dX12_counts_18 : decode cX12_counts 18 = .ok (.getfield 26, 3) := by decide +kernel
theorem dX12_counts_21 : decode cX12_counts 21 = .ok (.iload_n 3, 1) := by decide +kernel
theorem dX12_counts_22 : decode cX12_counts 22 = .ok (.iaload, 1) := by decide +kernel
theorem dX12_counts_23 : decode cX12_counts 23 = .ok (.iastore, 1) := by decide +kernel
theorem dX12_counts_24 : decode cX12_counts 24 = .ok (.aload_n 0, 1) := by decide +kernel
theorem dX12_counts_25 : decode cX12_counts 25 = .ok (.getfield 194, 3) := by decide +kernel
theorem dX12_counts_28 : decode cX12_counts 28 = .ok (.iload_n 3, 1) := by decide +kernel
theorem dX12_counts_29 : decode cX12_counts 29 = .ok (.aload_n 0, 1) := by decide +kernel
theorem dX12_counts_30 : decode cX12_counts 30 = .ok (.getfield 29, 3) := by decide +kernel
theorem dX12_counts_33 : decode cX12_counts 33 = .ok (.iload_n 3, 1) := by decide +kernel
theorem dX12_counts_34 : decode cX12_counts 34 = .ok (.iaload, 1) := by decide +kernel
theorem dX12_counts_35 : decode cX12_counts 35 = .ok (.iastore, 1) := by decide +kernel
theorem dX12_counts_36 : decode cX12_counts 36 = .ok (.iinc 3 1, 3) := by decide +kernel
theorem dX12_counts_39 : decode cX12_counts 39 = .ok (.goto (-32), 3) := by decide +kernel
theorem dX12_counts_42 : decode cX12_counts 42 = .ok (.aload_n 0, 1) := by decide +kernel
theorem dX12_counts_43 : decode cX12_counts 43 = .ok (.iload_n 1, 1) := by decide +kernel
theorem dX12_counts_44 : decode cX12_counts 44 = .ok (.invokevirtual 542, 3) := by decide +kernel
theorem dX12_counts_47 : decode cX12_counts 47 = .ok (.ifCond .eq 15, 3) := by decide +kernel
theorem dX12_counts_50 : decode cX12_counts 50 = .ok (.aload_n 0, 1) := by decide +kernel
theorem dX12_counts_51 : decode cX12_counts 51 = .ok (.iload_n 1, 1) := by decide +kernel
theorem dX12_counts_52 : decode cX12_counts 52 = .ok (.invokevirtual 545, 3) := by decide +kernel
theorem dX12_counts_55 : decode cX12_counts 55 = .ok (.ifCond .eq 7, 3) := by decide +kernel
theorem dX12_counts_58 : decode cX12_counts 58 = .ok (.iconst 1, 1) := by decide +kernel
theorem dX12_counts_59 : decode cX12_counts 59 = .ok (.goto 4, 3) := by decide +kernel
theorem dX12_counts_62 : decode cX12_counts 62 = .ok (.iconst 0, 1) := by decide +kernel
theorem dX12_counts_63 : decode cX12_counts 63 = .ok (.istore_n 3, 1) := by decide +kernel
theorem dX12_counts_64 : decode cX12_counts 64 = .ok (.aload_n 0, 1) := by decide +kernel
theorem dX12_counts_65 : decode cX12_counts 65 = .ok (.iload_n 2, 1) := by decide +kernel
theorem dX12_counts_66 : decode cX12_counts 66 = .ok (.putfield 235, 3) := by decide +kernel
theorem dX12_counts_69 : decode cX12_counts 69 = .ok (.iconst 0, 1) := by decide +kernel
theorem dX12_counts_70 : decode cX12_counts 70 = .ok (.istore 4, 2) := by decide +kernel
theorem dX12_counts_72 : decode cX12_counts 72 = .ok (.iload 4, 2) := by decide +kernel
theorem dX12_counts_74 : decode cX12_counts 74 = .ok (.iload_n 2, 1) := by decide +kernel
theorem dX12_counts_75 : decode cX12_counts 75 = .ok (.if_icmp .ge 37, 3) := by decide +kernel
theorem dX12_counts_78 : decode cX12_counts 78 = .ok (.aload_n 0, 1) := by decide +kernel
theorem dX12_counts_79 : decode cX12_counts 79 = .ok (.getfield 26, 3) := by decide +kernel
theorem dX12_counts_82 : decode cX12_counts 82 = .ok (.iload 4, 2) := by decide +kernel
theorem dX12_counts_84 : decode cX12_counts 84 = .ok (.aload_n 0, 1) := by decide +kernel
theorem dX12_counts_85 : decode cX12_counts 85 = .ok (.getfield 191, 3) := by decide +kernel
theorem dX12_counts_88 : decode cX12_counts 88 = .ok (.iload 4, 2) := by decide +kernel
theorem dX12_counts_90 : decode cX12_counts 90 = .ok (.iaload, 1) := by decide +kernel
theorem dX12_counts_91 : decode cX12_counts 91 = .ok (.iastore, 1) := by decide +kernel
theorem dX12_counts_92 : decode cX12_counts 92 = .ok (.aload_n 0, 1) := by decide +kernel
theorem dX12_counts_93 : decode cX12_counts 93 = .ok (.getfield 29, 3) := by decide +kernel
theorem dX12_counts_96 : decode cX12_counts 96 = .ok (.iload 4, 2) := by decide +kernel
theorem dX12_counts_98 : decode cX12_counts 98 = .ok (.aload_n 0, 1) := by decide +kernel
theorem dX12_counts_99 : decode cX12_counts 99 = .ok (.getfield 194, 3) := by decide +kernel
theorem dX12_counts_102 : decode cX12_counts 102 = .ok (.iload 4, 2) := by decide +kernel
theorem dX12_counts_104 : decode cX12_counts 104 = .ok (.iaload, 1) := by decide +kernel
theorem dX12_counts_105 : decode cX12_counts 105 = .ok (.iastore, 1) := by decide +kernel
theorem dX12_counts_106 : decode cX12_counts 106 = .ok (.iinc 4 1, 3) := by decide +kernel
theorem dX12_counts_109 : decode cX12_counts 109 = .ok (.goto (-37), 3) := by decide +kernel
theorem dX12_counts_112 : decode cX12_counts 112 = .ok (.iload_n 3, 1) := by decide +kernel
theorem dX12_counts_113 : decode cX12_counts 113 = .ok (.ireturn, 1) := by decide +kernel
theorem dX12_noticeOf_0 : decode cX12_noticeOf 0 = .ok (.aload_n 0, 1) := by decide +kernel
theorem dX12_noticeOf_1 : decode cX12_noticeOf 1 = .ok (.getfield 286, 3) := by decide +kernel
theorem dX12_noticeOf_4 : decode cX12_noticeOf 4 = .ok (.iconst 1, 1) := by decide +kernel
theorem dX12_noticeOf_5 : decode cX12_noticeOf 5 = .ok (.isub, 1) := by decide +kernel
theorem dX12_noticeOf_6 : decode cX12_noticeOf 6 = .ok (.istore_n 3, 1) := by decide +kernel
theorem dX12_noticeOf_7 : decode cX12_noticeOf 7 = .ok (.iload_n 3, 1) := by decide +kernel
theorem dX12_noticeOf_8 : decode cX12_noticeOf 8 = .ok (.ifCond .lt 39, 3) := by decide +kernel
theorem dX12_noticeOf_11 : decode cX12_noticeOf 11 = .ok (.aload_n 0, 1) := by decide +kernel
theorem dX12_noticeOf_12 : decode cX12_noticeOf 12 = .ok (.getfield 98, 3) := by decide +kernel
theorem dX12_noticeOf_15 : decode cX12_noticeOf 15 = .ok (.iload_n 3, 1) := by decide +kernel
theorem dX12_noticeOf_16 : decode cX12_noticeOf 16 = .ok (.iaload, 1) := by decide +kernel
theorem dX12_noticeOf_17 : decode cX12_noticeOf 17 = .ok (.iload_n 1, 1) := by decide +kernel
theorem dX12_noticeOf_18 : decode cX12_noticeOf 18 = .ok (.if_icmp .ne 23, 3) := by decide +kernel
theorem dX12_noticeOf_21 : decode cX12_noticeOf 21 = .ok (.aload_n 0, 1) := by decide +kernel
theorem dX12_noticeOf_22 : decode cX12_noticeOf 22 = .ok (.getfield 101, 3) := by decide +kernel
theorem dX12_noticeOf_25 : decode cX12_noticeOf 25 = .ok (.iload_n 3, 1) := by decide +kernel
theorem dX12_noticeOf_26 : decode cX12_noticeOf 26 = .ok (.iaload, 1) := by decide +kernel
theorem dX12_noticeOf_27 : decode cX12_noticeOf 27 = .ok (.iload_n 2, 1) := by decide +kernel
theorem dX12_noticeOf_28 : decode cX12_noticeOf 28 = .ok (.if_icmp .ne 13, 3) := by decide +kernel
theorem dX12_noticeOf_31 : decode cX12_noticeOf 31 = .ok (.aload_n 0, 1) := by decide +kernel
theorem dX12_noticeOf_32 : decode cX12_noticeOf 32 = .ok (.iload_n 3, 1) := by decide +kernel
theorem dX12_noticeOf_33 : decode cX12_noticeOf 33 = .ok (.invokevirtual 289, 3) := by decide +kernel
theorem dX12_noticeOf_36 : decode cX12_noticeOf 36 = .ok (.ifCond .eq 5, 3) := by decide +kernel
theorem dX12_noticeOf_39 : decode cX12_noticeOf 39 = .ok (.iload_n 3, 1) := by decide +kernel
theorem dX12_noticeOf_40 : decode cX12_noticeOf 40 = .ok (.ireturn, 1) := by decide +kernel
theorem dX12_noticeOf_41 : decode cX12_noticeOf 41 = .ok (.iinc 3 (-1), 3) := by decide +kernel
theorem dX12_noticeOf_44 : decode cX12_noticeOf 44 = .ok (.goto (-37), 3) := by decide +kernel
theorem dX12_noticeOf_47 : decode cX12_noticeOf 47 = .ok (.iconst (-1), 1) := by decide +kernel
theorem dX12_noticeOf_48 : decode cX12_noticeOf 48 = .ok (.ireturn, 1) := by decide +kernel
theorem dX12_told__0 : decode cX12_told_ 0 = .ok (.aload_n 0, 1) := by decide +kernel
theorem dX12_told__1 : decode cX12_told_ 1 = .ok (.iconst 0, 1) := by decide +kernel
theorem dX12_told__2 : decode cX12_told_ 2 = .ok (.putfield 200, 3) := by decide +kernel
theorem dX12_told__5 : decode cX12_told_ 5 = .ok (.aload_n 0, 1) := by decide +kernel
theorem dX12_told__6 : decode cX12_told_ 6 = .ok (.iconst 0, 1) := by decide +kernel
theorem dX12_told__7 : decode cX12_told_ 7 = .ok (.putfield 203, 3) := by decide +kernel
theorem dX12_told__10 : decode cX12_told_ 10 = .ok (.iload_n 1, 1) := by decide +kernel
theorem dX12_told__11 : decode cX12_told_ 11 = .ok (.i2l, 1) := by decide +kernel
theorem dX12_told__12 : decode cX12_told_ 12 = .ok (.lconst 0, 1) := by decide +kernel
theorem dX12_told__13 : decode cX12_told_ 13 = .ok (.aload_n 0, 1) := by decide +kernel
theorem dX12_told__14 : decode cX12_told_ 14 = .ok (.getfield 286, 3) := by decide +kernel
theorem dX12_told__17 : decode cX12_told_ 17 = .ok (.iconst 1, 1) := by decide +kernel
theorem dX12_told__18 : decode cX12_told_ 18 = .ok (.isub, 1) := by decide +kernel
theorem dX12_told__19 : decode cX12_told_ 19 = .ok (.i2l, 1) := by decide +kernel
theorem dX12_told__20 : decode cX12_told_ 20 = .ok (.invokestatic 208, 3) := by decide +kernel
theorem dX12_told__23 : decode cX12_told_ 23 = .ok (.ifCond .ne 9, 3) := by decide +kernel
theorem dX12_told__26 : decode cX12_told_ 26 = .ok (.aload_n 0, 1) := by decide +kernel
theorem dX12_told__27 : decode cX12_told_ 27 = .ok (.iconst 2, 1) := by decide +kernel
theorem dX12_told__28 : decode cX12_told_ 28 = .ok (.invokevirtual 261, 3) := by decide +kernel
theorem dX12_told__31 : decode cX12_told_ 31 = .ok (.ireturn, 1) := by decide +kernel
theorem dX12_told__32 : decode cX12_told_ 32 = .ok (.iload_n 2, 1) := by decide +kernel
theorem dX12_told__33 : decode cX12_told_ 33 = .ok (.i2l, 1) := by decide +kernel
theorem dX12_told__34 : decode cX12_told_ 34 = .ok (.lconst 0, 1) := by decide +kernel
theorem dX12_told__35 : decode cX12_told_ 35 = .ok (.ldc2_w 278, 3) := by decide +kernel
theorem dX12_told__38 : decode cX12_told_ 38 = .ok (.invokestatic 208, 3) := by decide +kernel
theorem dX12_told__41 : decode cX12_told_ 41 = .ok (.ifCond .ne 9, 3) := by decide +kernel
theorem dX12_told__44 : decode cX12_told_ 44 = .ok (.aload_n 0, 1) := by decide +kernel
theorem dX12_told__45 : decode cX12_told_ 45 = .ok (.iconst 5, 1) := by decide +kernel
theorem dX12_told__46 : decode cX12_told_ 46 = .ok (.invokevirtual 261, 3) := by decide +kernel
theorem dX12_told__49 : decode cX12_told_ 49 = .ok (.ireturn, 1) := by decide +kernel
theorem dX12_told__50 : decode cX12_told_ 50 = .ok (.aload_n 0, 1) := by decide +kernel
theorem dX12_told__51 : decode cX12_told_ 51 = .ok (.aload_n 0, 1) := by decide +kernel
theorem dX12_told__52 : decode cX12_told_ 52 = .ok (.getfield 101, 3) := by decide +kernel
theorem dX12_told__55 : decode cX12_told_ 55 = .ok (.iload_n 1, 1) := by decide +kernel
theorem dX12_told__56 : decode cX12_told_ 56 = .ok (.iaload, 1) := by decide +kernel
theorem dX12_told__57 : decode cX12_told_ 57 = .ok (.invokevirtual 272, 3) := by decide +kernel
theorem dX12_told__60 : decode cX12_told_ 60 = .ok (.aload_n 0, 1) := by decide +kernel
theorem dX12_told__61 : decode cX12_told_ 61 = .ok (.getfield 104, 3) := by decide +kernel
theorem dX12_told__64 : decode cX12_told_ 64 = .ok (.iload_n 1, 1) := by decide +kernel
theorem dX12_told__65 : decode cX12_told_ 65 = .ok (.iaload, 1) := by decide +kernel
theorem dX12_told__66 : decode cX12_told_ 66 = .ok (.if_icmp .eq 7, 3) := by decide +kernel
theorem dX12_told__69 : decode cX12_told_ 69 = .ok (.iconst 1, 1) := by decide +kernel
theorem dX12_told__70 : decode cX12_told_ 70 = .ok (.goto 4, 3) := by decide +kernel
theorem dX12_told__73 : decode cX12_told_ 73 = .ok (.iconst 0, 1) := by decide +kernel
theorem dX12_told__74 : decode cX12_told_ 74 = .ok (.istore_n 3, 1) := by decide +kernel
theorem dX12_told__75 : decode cX12_told_ 75 = .ok (.iload_n 2, 1) := by decide +kernel
theorem dX12_told__76 : decode cX12_told_ 76 = .ok (.ifCond .ne 11, 3) := by decide +kernel
theorem dX12_told__79 : decode cX12_told_ 79 = .ok (.aload_n 0, 1) := by decide +kernel
theorem dX12_told__80 : decode cX12_told_ 80 = .ok (.iload_n 1, 1) := by decide +kernel
theorem dX12_told__81 : decode cX12_told_ 81 = .ok (.invokevirtual 542, 3) := by decide +kernel
theorem dX12_told__84 : decode cX12_told_ 84 = .ok (.goto 54, 3) := by decide +kernel
theorem dX12_told__87 : decode cX12_told_ 87 = .ok (.iload_n 2, 1) := by decide +kernel
theorem dX12_told__88 : decode cX12_told_ 88 = .ok (.iconst 1, 1) := by decide +kernel
theorem dX12_told__89 : decode cX12_told_ 89 = .ok (.if_icmp .ne 11, 3) := by decide +kernel
theorem dX12_told__92 : decode cX12_told_ 92 = .ok (.aload_n 0, 1) := by decide +kernel
theorem dX12_told__93 : decode cX12_told_ 93 = .ok (.iload_n 1, 1) := by decide +kernel
theorem dX12_told__94 : decode cX12_told_ 94 = .ok (.invokevirtual 545, 3) := by decide +kernel
theorem dX12_told__97 : decode cX12_told_ 97 = .ok (.goto 41, 3) := by decide +kernel
theorem dX12_told__100 : decode cX12_told_ 100 = .ok (.iload_n 2, 1) := by decide +kernel
theorem dX12_told__101 : decode cX12_told_ 101 = .ok (.iconst 2, 1) := by decide +kernel
theorem dX12_told__102 : decode cX12_told_ 102 = .ok (.if_icmp .ne 7, 3) := by decide +kernel
theorem dX12_told__105 : decode cX12_told_ 105 = .ok (.iload_n 3, 1) := by decide +kernel
theorem dX12_told__106 : decode cX12_told_ 106 = .ok (.goto 32, 3) := by decide +kernel
theorem dX12_told__109 : decode cX12_told_ 109 = .ok (.iload_n 3, 1) := by decide +kernel
theorem dX12_told__110 : decode cX12_told_ 110 = .ok (.ifCond .eq 27, 3) := by decide +kernel
theorem dX12_told__113 : decode cX12_told_ 113 = .ok (.aload_n 0, 1) := by decide +kernel
theorem dX12_told__114 : decode cX12_told_ 114 = .ok (.aload_n 0, 1) := by decide +kernel
theorem dX12_told__115 : decode cX12_told_ 115 = .ok (.getfield 98, 3) := by decide +kernel
theorem dX12_told__118 : decode cX12_told_ 118 = .ok (.iload_n 1, 1) := by decide +kernel
theorem dX12_told__119 : decode cX12_told_ 119 = .ok (.iaload, 1) := by decide +kernel
theorem dX12_told__120 : decode cX12_told_ 120 = .ok (.aload_n 0, 1) := by decide +kernel
theorem dX12_told__121 : decode cX12_told_ 121 = .ok (.getfield 101, 3) := by decide +kernel
theorem dX12_told__124 : decode cX12_told_ 124 = .ok (.iload_n 1, 1) := by decide +kernel
theorem dX12_told__125 : decode cX12_told_ 125 = .ok (.iaload, 1) := by decide +kernel
theorem dX12_told__126 : decode cX12_told_ 126 = .ok (.invokevirtual 548, 3) := by decide +kernel
theorem dX12_told__129 : decode cX12_told_ 129 = .ok (.iload_n 1, 1) := by decide +kernel
theorem dX12_told__130 : decode cX12_told_ 130 = .ok (.if_icmp .ne 7, 3) := by decide +kernel
theorem dX12_told__133 : decode cX12_told_ 133 = .ok (.iconst 1, 1) := by decide +kernel
theorem dX12_told__134 : decode cX12_told_ 134 = .ok (.goto 4, 3) := by decide +kernel
theorem dX12_told__137 : decode cX12_told_ 137 = .ok (.iconst 0, 1) := by decide +kernel
theorem dX12_told__138 : decode cX12_told_ 138 = .ok (.istore 4, 2) := by decide +kernel
theorem dX12_told__140 : decode cX12_told_ 140 = .ok (.iload 4, 2) := by decide +kernel
theorem dX12_told__142 : decode cX12_told_ 142 = .ok (.ifCond .eq 7, 3) := by decide +kernel
theorem dX12_told__145 : decode cX12_told_ 145 = .ok (.iconst 1, 1) := by decide +kernel
theorem dX12_told__146 : decode cX12_told_ 146 = .ok (.goto 4, 3) := by decide +kernel
theorem dX12_told__149 : decode cX12_told_ 149 = .ok (.iconst 0, 1) := by decide +kernel
theorem dX12_told__150 : decode cX12_told_ 150 = .ok (.ireturn, 1) := by decide +kernel
theorem dX12_table_0 : decode cX12_table 0 = .ok (.aload_n 0, 1) := by decide +kernel
theorem dX12_table_1 : decode cX12_table 1 = .ok (.iconst 0, 1) := by decide +kernel
theorem dX12_table_2 : decode cX12_table 2 = .ok (.putfield 200, 3) := by decide +kernel
theorem dX12_table_5 : decode cX12_table 5 = .ok (.aload_n 0, 1) := by decide +kernel
theorem dX12_table_6 : decode cX12_table 6 = .ok (.iconst 0, 1) := by decide +kernel
theorem dX12_table_7 : decode cX12_table 7 = .ok (.putfield 203, 3) := by decide +kernel
theorem dX12_table_10 : decode cX12_table 10 = .ok (.aload_n 0, 1) := by decide +kernel
theorem dX12_table_11 : decode cX12_table 11 = .ok (.iload_n 1, 1) := by decide +kernel
theorem dX12_table_12 : decode cX12_table 12 = .ok (.invokevirtual 280, 3) := by decide +kernel
theorem dX12_table_15 : decode cX12_table 15 = .ok (.ifCond .ne 9, 3) := by decide +kernel
theorem dX12_table_18 : decode cX12_table 18 = .ok (.aload_n 0, 1) := by decide +kernel
theorem dX12_table_19 : decode cX12_table 19 = .ok (.iconst 2, 1) := by decide +kernel
theorem dX12_table_20 : decode cX12_table 20 = .ok (.invokevirtual 261, 3) := by decide +kernel
theorem dX12_table_23 : decode cX12_table 23 = .ok (.ireturn, 1) := by decide +kernel
theorem dX12_table_24 : decode cX12_table 24 = .ok (.iload_n 2, 1) := by decide +kernel
theorem dX12_table_25 : decode cX12_table 25 = .ok (.invokestatic 250, 3) := by decide +kernel
theorem dX12_table_28 : decode cX12_table 28 = .ok (.ifCond .ne 9, 3) := by decide +kernel
theorem dX12_table_31 : decode cX12_table 31 = .ok (.aload_n 0, 1) := by decide +kernel
theorem dX12_table_32 : decode cX12_table 32 = .ok (.iconst 5, 1) := by decide +kernel
theorem dX12_table_33 : decode cX12_table 33 = .ok (.invokevirtual 261, 3) := by decide +kernel
theorem dX12_table_36 : decode cX12_table 36 = .ok (.ireturn, 1) := by decide +kernel
theorem dX12_table_37 : decode cX12_table 37 = .ok (.aload_n 0, 1) := by decide +kernel
theorem dX12_table_38 : decode cX12_table 38 = .ok (.iload_n 1, 1) := by decide +kernel
theorem dX12_table_39 : decode cX12_table 39 = .ok (.iload_n 2, 1) := by decide +kernel
theorem dX12_table_40 : decode cX12_table 40 = .ok (.invokevirtual 548, 3) := by decide +kernel
theorem dX12_table_43 : decode cX12_table 43 = .ok (.istore_n 3, 1) := by decide +kernel
theorem dX12_table_44 : decode cX12_table 44 = .ok (.iload_n 3, 1) := by decide +kernel
theorem dX12_table_45 : decode cX12_table 45 = .ok (.ifCond .ge 7, 3) := by decide +kernel
theorem dX12_table_48 : decode cX12_table 48 = .ok (.iconst 0, 1) := by decide +kernel
theorem dX12_table_49 : decode cX12_table 49 = .ok (.goto 9, 3) := by decide +kernel
theorem dX12_table_52 : decode cX12_table 52 = .ok (.aload_n 0, 1) := by decide +kernel
theorem dX12_table_53 : decode cX12_table 53 = .ok (.getfield 104, 3) := by decide +kernel
theorem dX12_table_56 : decode cX12_table 56 = .ok (.iload_n 3, 1) := by decide +kernel
theorem dX12_table_57 : decode cX12_table 57 = .ok (.iaload, 1) := by decide +kernel
theorem dX12_table_58 : decode cX12_table 58 = .ok (.ireturn, 1) := by decide +kernel
theorem dX12_misses_0 : decode cX12_misses 0 = .ok (.aload_n 0, 1) := by decide +kernel
theorem dX12_misses_1 : decode cX12_misses 1 = .ok (.iconst 0, 1) := by decide +kernel
theorem dX12_misses_2 : decode cX12_misses 2 = .ok (.putfield 200, 3) := by decide +kernel
theorem dX12_misses_5 : decode cX12_misses 5 = .ok (.aload_n 0, 1) := by decide +kernel
theorem dX12_misses_6 : decode cX12_misses 6 = .ok (.iconst 0, 1) := by decide +kernel
theorem dX12_misses_7 : decode cX12_misses 7 = .ok (.putfield 203, 3) := by decide +kernel
theorem dX12_misses_10 : decode cX12_misses 10 = .ok (.aload_n 0, 1) := by decide +kernel
theorem dX12_misses_11 : decode cX12_misses 11 = .ok (.iload_n 1, 1) := by decide +kernel
theorem dX12_misses_12 : decode cX12_misses 12 = .ok (.invokevirtual 280, 3) := by decide +kernel
theorem dX12_misses_15 : decode cX12_misses 15 = .ok (.ifCond .ne 9, 3) := by decide +kernel
theorem dX12_misses_18 : decode cX12_misses 18 = .ok (.aload_n 0, 1) := by decide +kernel
theorem dX12_misses_19 : decode cX12_misses 19 = .ok (.iconst 2, 1) := by decide +kernel
theorem dX12_misses_20 : decode cX12_misses 20 = .ok (.invokevirtual 261, 3) := by decide +kernel
theorem dX12_misses_23 : decode cX12_misses 23 = .ok (.ireturn, 1) := by decide +kernel
theorem dX12_misses_24 : decode cX12_misses 24 = .ok (.aload_n 0, 1) := by decide +kernel
theorem dX12_misses_25 : decode cX12_misses 25 = .ok (.iload_n 1, 1) := by decide +kernel
theorem dX12_misses_26 : decode cX12_misses 26 = .ok (.invokevirtual 295, 3) := by decide +kernel
theorem dX12_misses_29 : decode cX12_misses 29 = .ok (.iconst 0, 1) := by decide +kernel
theorem dX12_misses_30 : decode cX12_misses 30 = .ok (.istore_n 2, 1) := by decide +kernel
theorem dX12_misses_31 : decode cX12_misses 31 = .ok (.iconst 0, 1) := by decide +kernel
theorem dX12_misses_32 : decode cX12_misses 32 = .ok (.istore_n 3, 1) := by decide +kernel
theorem dX12_misses_33 : decode cX12_misses 33 = .ok (.iload_n 3, 1) := by decide +kernel
theorem dX12_misses_34 : decode cX12_misses 34 = .ok (.aload_n 0, 1) := by decide +kernel
theorem dX12_misses_35 : decode cX12_misses 35 = .ok (.getfield 235, 3) := by decide +kernel
theorem dX12_misses_38 : decode cX12_misses 38 = .ok (.if_icmp .ge 36, 3) := by decide +kernel
theorem dX12_misses_41 : decode cX12_misses 41 = .ok (.iload_n 2, 1) := by decide +kernel
theorem dX12_misses_42 : decode cX12_misses 42 = .ok (.aload_n 0, 1) := by decide +kernel
theorem dX12_misses_43 : decode cX12_misses 43 = .ok (.aload_n 0, 1) := by decide +kernel
theorem dX12_misses_44 : decode cX12_misses 44 = .ok (.getfield 26, 3) := by decide +kernel
theorem dX12_misses_47 : decode cX12_misses 47 = .ok (.iload_n 3, 1) := by decide +kernel
theorem dX12_misses_48 : decode cX12_misses 48 = .ok (.iaload, 1) := by decide +kernel
theorem dX12_misses_49 : decode cX12_misses 49 = .ok (.invokevirtual 272, 3) := by decide +kernel
theorem dX12_misses_52 : decode cX12_misses 52 = .ok (.aload_n 0, 1) := by decide +kernel
theorem dX12_misses_53 : decode cX12_misses 53 = .ok (.getfield 29, 3) := by decide +kernel
theorem dX12_misses_56 : decode cX12_misses 56 = .ok (.iload_n 3, 1) := by decide +kernel
theorem dX12_misses_57 : decode cX12_misses 57 = .ok (.iaload, 1) := by decide +kernel
theorem dX12_misses_58 : decode cX12_misses 58 = .ok (.if_icmp .eq 7, 3) := by decide +kernel
theorem dX12_misses_61 : decode cX12_misses 61 = .ok (.iconst 1, 1) := by decide +kernel
theorem dX12_misses_62 : decode cX12_misses 62 = .ok (.goto 4, 3) := by decide +kernel
theorem dX12_misses_65 : decode cX12_misses 65 = .ok (.iconst 0, 1) := by decide +kernel
theorem dX12_misses_66 : decode cX12_misses 66 = .ok (.iadd, 1) := by decide +kernel
theorem dX12_misses_67 : decode cX12_misses 67 = .ok (.istore_n 2, 1) := by decide +kernel
theorem dX12_misses_68 : decode cX12_misses 68 = .ok (.iinc 3 1, 3) := by decide +kernel
theorem dX12_misses_71 : decode cX12_misses 71 = .ok (.goto (-38), 3) := by decide +kernel
theorem dX12_misses_74 : decode cX12_misses 74 = .ok (.iconst 0, 1) := by decide +kernel
theorem dX12_misses_75 : decode cX12_misses 75 = .ok (.istore_n 3, 1) := by decide +kernel
theorem dX12_misses_76 : decode cX12_misses 76 = .ok (.iload_n 3, 1) := by decide +kernel
theorem dX12_misses_77 : decode cX12_misses 77 = .ok (.aload_n 0, 1) := by decide +kernel
theorem dX12_misses_78 : decode cX12_misses 78 = .ok (.getfield 232, 3) := by decide +kernel
theorem dX12_misses_81 : decode cX12_misses 81 = .ok (.if_icmp .ge 30, 3) := by decide +kernel
theorem dX12_misses_84 : decode cX12_misses 84 = .ok (.iload_n 2, 1) := by decide +kernel
theorem dX12_misses_85 : decode cX12_misses 85 = .ok (.aload_n 0, 1) := by decide +kernel
theorem dX12_misses_86 : decode cX12_misses 86 = .ok (.aload_n 0, 1) := by decide +kernel
theorem dX12_misses_87 : decode cX12_misses 87 = .ok (.getfield 20, 3) := by decide +kernel
theorem dX12_misses_90 : decode cX12_misses 90 = .ok (.iload_n 3, 1) := by decide +kernel
theorem dX12_misses_91 : decode cX12_misses 91 = .ok (.iaload, 1) := by decide +kernel
theorem dX12_misses_92 : decode cX12_misses 92 = .ok (.invokevirtual 299, 3) := by decide +kernel
theorem dX12_misses_95 : decode cX12_misses 95 = .ok (.ifCond .ne 7, 3) := by decide +kernel
theorem dX12_misses_98 : decode cX12_misses 98 = .ok (.iconst 1, 1) := by decide +kernel
theorem dX12_misses_99 : decode cX12_misses 99 = .ok (.goto 4, 3) := by decide +kernel
theorem dX12_misses_102 : decode cX12_misses 102 = .ok (.iconst 0, 1) := by decide +kernel
theorem dX12_misses_103 : decode cX12_misses 103 = .ok (.iadd, 1) := by decide +kernel
theorem dX12_misses_104 : decode cX12_misses 104 = .ok (.istore_n 2, 1) := by decide +kernel
theorem dX12_misses_105 : decode cX12_misses 105 = .ok (.iinc 3 1, 3) := by decide +kernel
theorem dX12_misses_108 : decode cX12_misses 108 = .ok (.goto (-32), 3) := by decide +kernel
theorem dX12_misses_111 : decode cX12_misses 111 = .ok (.iload_n 2, 1) := by decide +kernel
theorem dX12_misses_112 : decode cX12_misses 112 = .ok (.ireturn, 1) := by decide +kernel
theorem dX12_stamp_0 : decode cX12_stamp 0 = .ok (.aload_n 0, 1) := by decide +kernel
theorem dX12_stamp_1 : decode cX12_stamp 1 = .ok (.iconst 0, 1) := by decide +kernel
theorem dX12_stamp_2 : decode cX12_stamp 2 = .ok (.putfield 200, 3) := by decide +kernel
theorem dX12_stamp_5 : decode cX12_stamp 5 = .ok (.aload_n 0, 1) := by decide +kernel
theorem dX12_stamp_6 : decode cX12_stamp 6 = .ok (.iconst 0, 1) := by decide +kernel
theorem dX12_stamp_7 : decode cX12_stamp 7 = .ok (.putfield 203, 3) := by decide +kernel
theorem dX12_stamp_10 : decode cX12_stamp 10 = .ok (.aload_n 0, 1) := by decide +kernel
theorem dX12_stamp_11 : decode cX12_stamp 11 = .ok (.iload_n 1, 1) := by decide +kernel
theorem dX12_stamp_12 : decode cX12_stamp 12 = .ok (.invokevirtual 280, 3) := by decide +kernel
theorem dX12_stamp_15 : decode cX12_stamp 15 = .ok (.ifCond .ne 9, 3) := by decide +kernel
theorem dX12_stamp_18 : decode cX12_stamp 18 = .ok (.aload_n 0, 1) := by decide +kernel
theorem dX12_stamp_19 : decode cX12_stamp 19 = .ok (.iconst 2, 1) := by decide +kernel
theorem dX12_stamp_20 : decode cX12_stamp 20 = .ok (.invokevirtual 261, 3) := by decide +kernel
theorem dX12_stamp_23 : decode cX12_stamp 23 = .ok (.ireturn, 1) := by decide +kernel
theorem dX12_stamp_24 : decode cX12_stamp 24 = .ok (.iload_n 2, 1) := by decide +kernel
theorem dX12_stamp_25 : decode cX12_stamp 25 = .ok (.invokestatic 258, 3) := by decide +kernel
theorem dX12_stamp_28 : decode cX12_stamp 28 = .ok (.ifCond .ne 9, 3) := by decide +kernel
theorem dX12_stamp_31 : decode cX12_stamp 31 = .ok (.aload_n 0, 1) := by decide +kernel
theorem dX12_stamp_32 : decode cX12_stamp 32 = .ok (.iconst 5, 1) := by decide +kernel
theorem dX12_stamp_33 : decode cX12_stamp 33 = .ok (.invokevirtual 261, 3) := by decide +kernel
theorem dX12_stamp_36 : decode cX12_stamp 36 = .ok (.ireturn, 1) := by decide +kernel
theorem dX12_stamp_37 : decode cX12_stamp 37 = .ok (.aload_n 0, 1) := by decide +kernel
theorem dX12_stamp_38 : decode cX12_stamp 38 = .ok (.getfield 551, 3) := by decide +kernel
theorem dX12_stamp_41 : decode cX12_stamp 41 = .ok (.bipush 60, 2) := by decide +kernel
theorem dX12_stamp_43 : decode cX12_stamp 43 = .ok (.if_icmp .ne 10, 3) := by decide +kernel
theorem dX12_stamp_46 : decode cX12_stamp 46 = .ok (.aload_n 0, 1) := by decide +kernel
theorem dX12_stamp_47 : decode cX12_stamp 47 = .ok (.bipush 7, 2) := by decide +kernel
theorem dX12_stamp_49 : decode cX12_stamp 49 = .ok (.invokevirtual 261, 3) := by decide +kernel
theorem dX12_stamp_52 : decode cX12_stamp 52 = .ok (.ireturn, 1) := by decide +kernel
theorem dX12_stamp_53 : decode cX12_stamp 53 = .ok (.iload_n 2, 1) := by decide +kernel
theorem dX12_stamp_54 : decode cX12_stamp 54 = .ok (.aload_n 0, 1) := by decide +kernel
theorem dX12_stamp_55 : decode cX12_stamp 55 = .ok (.getfield 554, 3) := by decide +kernel
theorem dX12_stamp_58 : decode cX12_stamp 58 = .ok (.if_icmp .ge 10, 3) := by decide +kernel
theorem dX12_stamp_61 : decode cX12_stamp 61 = .ok (.aload_n 0, 1) := by decide +kernel
theorem dX12_stamp_62 : decode cX12_stamp 62 = .ok (.bipush 12, 2) := by decide +kernel
theorem dX12_stamp_64 : decode cX12_stamp 64 = .ok (.invokevirtual 261, 3) := by decide +kernel
theorem dX12_stamp_67 : decode cX12_stamp 67 = .ok (.ireturn, 1) := by decide +kernel
theorem dX12_stamp_68 : decode cX12_stamp 68 = .ok (.aload_n 0, 1) := by decide +kernel
theorem dX12_stamp_69 : decode cX12_stamp 69 = .ok (.getfield 110, 3) := by decide +kernel
theorem dX12_stamp_72 : decode cX12_stamp 72 = .ok (.aload_n 0, 1) := by decide +kernel
theorem dX12_stamp_73 : decode cX12_stamp 73 = .ok (.getfield 551, 3) := by decide +kernel
theorem dX12_stamp_76 : decode cX12_stamp 76 = .ok (.iload_n 1, 1) := by decide +kernel
theorem dX12_stamp_77 : decode cX12_stamp 77 = .ok (.iastore, 1) := by decide +kernel
theorem dX12_stamp_78 : decode cX12_stamp 78 = .ok (.aload_n 0, 1) := by decide +kernel
theorem dX12_stamp_79 : decode cX12_stamp 79 = .ok (.getfield 113, 3) := by decide +kernel
theorem dX12_stamp_82 : decode cX12_stamp 82 = .ok (.aload_n 0, 1) := by decide +kernel
theorem dX12_stamp_83 : decode cX12_stamp 83 = .ok (.getfield 551, 3) := by decide +kernel
theorem dX12_stamp_86 : decode cX12_stamp 86 = .ok (.iload_n 2, 1) := by decide +kernel
theorem dX12_stamp_87 : decode cX12_stamp 87 = .ok (.iastore, 1) := by decide +kernel
theorem dX12_stamp_88 : decode cX12_stamp 88 = .ok (.aload_n 0, 1) := by decide +kernel
theorem dX12_stamp_89 : decode cX12_stamp 89 = .ok (.dup, 1) := by decide +kernel
theorem dX12_stamp_90 : decode cX12_stamp 90 = .ok (.getfield 551, 3) := by decide +kernel
theorem dX12_stamp_93 : decode cX12_stamp 93 = .ok (.iconst 1, 1) := by decide +kernel
theorem dX12_stamp_94 : decode cX12_stamp 94 = .ok (.iadd, 1) := by decide +kernel
theorem dX12_stamp_95 : decode cX12_stamp 95 = .ok (.putfield 551, 3) := by decide +kernel
theorem dX12_stamp_98 : decode cX12_stamp 98 = .ok (.aload_n 0, 1) := by decide +kernel
theorem dX12_stamp_99 : decode cX12_stamp 99 = .ok (.iload_n 2, 1) := by decide +kernel
theorem dX12_stamp_100 : decode cX12_stamp 100 = .ok (.putfield 554, 3) := by decide +kernel
theorem dX12_stamp_103 : decode cX12_stamp 103 = .ok (.aload_n 0, 1) := by decide +kernel
theorem dX12_stamp_104 : decode cX12_stamp 104 = .ok (.getfield 551, 3) := by decide +kernel
theorem dX12_stamp_107 : decode cX12_stamp 107 = .ok (.iconst 1, 1) := by decide +kernel
theorem dX12_stamp_108 : decode cX12_stamp 108 = .ok (.isub, 1) := by decide +kernel
theorem dX12_stamp_109 : decode cX12_stamp 109 = .ok (.ireturn, 1) := by decide +kernel
theorem dX12_findStamps_0 : decode cX12_findStamps 0 = .ok (.iconst 0, 1) := by decide +kernel
theorem dX12_findStamps_1 : decode cX12_findStamps 1 = .ok (.istore_n 1, 1) := by decide +kernel
theorem dX12_findStamps_2 : decode cX12_findStamps 2 = .ok (.iload_n 1, 1) := by decide +kernel
theorem dX12_findStamps_3 : decode cX12_findStamps 3 = .ok (.aload_n 0, 1) := by decide +kernel
theorem dX12_findStamps_4 : decode cX12_findStamps 4 = .ok (.getfield 275, 3) := by decide +kernel
theorem dX12_findStamps_7 : decode cX12_findStamps 7 = .ok (.if_icmp .ge 62, 3) := by decide +kernel
theorem dX12_findStamps_10 : decode cX12_findStamps 10 = .ok (.aload_n 0, 1) := by decide +kernel
theorem dX12_findStamps_11 : decode cX12_findStamps 11 = .ok (.iload_n 1, 1) := by decide +kernel
theorem dX12_findStamps_12 : decode cX12_findStamps 12 = .ok (.invokevirtual 322, 3) := by decide +kernel
theorem dX12_findStamps_15 : decode cX12_findStamps 15 = .ok (.iconst 0, 1) := by decide +kernel
theorem dX12_findStamps_16 : decode cX12_findStamps 16 = .ok (.istore_n 2, 1) := by decide +kernel
theorem dX12_findStamps_17 : decode cX12_findStamps 17 = .ok (.iload_n 2, 1) := by decide +kernel
theorem dX12_findStamps_18 : decode cX12_findStamps 18 = .ok (.aload_n 0, 1) := by decide +kernel
theorem dX12_findStamps_19 : decode cX12_findStamps 19 = .ok (.getfield 551, 3) := by decide +kernel
theorem dX12_findStamps_22 : decode cX12_findStamps 22 = .ok (.if_icmp .ge 41, 3) := by decide +kernel
theorem dX12_findStamps_25 : decode cX12_findStamps 25 = .ok (.aload_n 0, 1) := by decide +kernel
theorem dX12_findStamps_26 : decode cX12_findStamps 26 = .ok (.getfield 110, 3) := by decide +kernel
theorem dX12_findStamps_29 : decode cX12_findStamps 29 = .ok (.iload_n 2, 1) := by decide +kernel
theorem dX12_findStamps_30 : decode cX12_findStamps 30 = .ok (.iaload, 1) := by decide +kernel
theorem dX12_findStamps_31 : decode cX12_findStamps 31 = .ok (.iload_n 1, 1) := by decide +kernel
theorem dX12_findStamps_32 : decode cX12_findStamps 32 = .ok (.if_icmp .ne 25, 3) := by decide +kernel
theorem dX12_findStamps_35 : decode cX12_findStamps 35 = .ok (.aload_n 0, 1) := by decide +kernel
theorem dX12_findStamps_36 : decode cX12_findStamps 36 = .ok (.getfield 116, 3) := by decide +kernel
theorem dX12_findStamps_39 : decode cX12_findStamps 39 = .ok (.iload_n 2, 1) := by decide +kernel
theorem dX12_findStamps_40 : decode cX12_findStamps 40 = .ok (.aload_n 0, 1) := by decide +kernel
theorem dX12_findStamps_41 : decode cX12_findStamps 41 = .ok (.aload_n 0, 1) := by decide +kernel
theorem dX12_findStamps_42 : decode cX12_findStamps 42 = .ok (.getfield 32, 3) := by decide +kernel
theorem dX12_findStamps_45 : decode cX12_findStamps 45 = .ok (.iload_n 1, 1) := by decide +kernel
theorem dX12_findStamps_46 : decode cX12_findStamps 46 = .ok (.iaload, 1) := by decide +kernel
theorem dX12_findStamps_47 : decode cX12_findStamps 47 = .ok (.aload_n 0, 1) := by decide +kernel
theorem dX12_findStamps_48 : decode cX12_findStamps 48 = .ok (.getfield 113, 3) := by decide +kernel
theorem dX12_findStamps_51 : decode cX12_findStamps 51 = .ok (.iload_n 2, 1) := by decide +kernel
theorem dX12_findStamps_52 : decode cX12_findStamps 52 = .ok (.iaload, 1) := by decide +kernel
theorem dX12_findStamps_53 : decode cX12_findStamps 53 = .ok (.invokevirtual 325, 3) := by decide +kernel
theorem dX12_findStamps_56 : decode cX12_findStamps 56 = .ok (.lastore, 1) := by decide +kernel
theorem dX12_findStamps_57 : decode cX12_findStamps 57 = .ok (.iinc 2 1, 3) := by decide +kernel
theorem dX12_findStamps_60 : decode cX12_findStamps 60 = .ok (.goto (-43), 3) := by decide +kernel
theorem dX12_findStamps_63 : decode cX12_findStamps 63 = .ok (.iinc 1 1, 3) := by decide +kernel
theorem dX12_findStamps_66 : decode cX12_findStamps 66 = .ok (.goto (-64), 3) := by decide +kernel
theorem dX12_findStamps_69 : decode cX12_findStamps 69 = .ok (.return_, 1) := by decide +kernel
theorem dX12_areWrong_0 : decode cX12_areWrong 0 = .ok (.aload_n 0, 1) := by decide +kernel
theorem dX12_areWrong_1 : decode cX12_areWrong 1 = .ok (.getfield 113, 3) := by decide +kernel
theorem dX12_areWrong_4 : decode cX12_areWrong 4 = .ok (.iload_n 1, 1) := by decide +kernel
theorem dX12_areWrong_5 : decode cX12_areWrong 5 = .ok (.iaload, 1) := by decide +kernel
theorem dX12_areWrong_6 : decode cX12_areWrong 6 = .ok (.aload_n 0, 1) := by decide +kernel
theorem dX12_areWrong_7 : decode cX12_areWrong 7 = .ok (.getfield 113, 3) := by decide +kernel
theorem dX12_areWrong_10 : decode cX12_areWrong 10 = .ok (.iload_n 2, 1) := by decide +kernel
theorem dX12_areWrong_11 : decode cX12_areWrong 11 = .ok (.iaload, 1) := by decide +kernel
theorem dX12_areWrong_12 : decode cX12_areWrong 12 = .ok (.if_icmp .ge 23, 3) := by decide +kernel
theorem dX12_areWrong_15 : decode cX12_areWrong 15 = .ok (.aload_n 0, 1) := by decide +kernel
theorem dX12_areWrong_16 : decode cX12_areWrong 16 = .ok (.getfield 116, 3) := by decide +kernel
theorem dX12_areWrong_19 : decode cX12_areWrong 19 = .ok (.iload_n 1, 1) := by decide +kernel
theorem dX12_areWrong_20 : decode cX12_areWrong 20 = .ok (.laload, 1) := by decide +kernel
theorem dX12_areWrong_21 : decode cX12_areWrong 21 = .ok (.aload_n 0, 1) := by decide +kernel
theorem dX12_areWrong_22 : decode cX12_areWrong 22 = .ok (.getfield 116, 3) := by decide +kernel
theorem dX12_areWrong_25 : decode cX12_areWrong 25 = .ok (.iload_n 2, 1) := by decide +kernel
theorem dX12_areWrong_26 : decode cX12_areWrong 26 = .ok (.laload, 1) := by decide +kernel
theorem dX12_areWrong_27 : decode cX12_areWrong 27 = .ok (.lcmp, 1) := by decide +kernel
theorem dX12_areWrong_28 : decode cX12_areWrong 28 = .ok (.ifCond .lt 7, 3) := by decide +kernel
theorem dX12_areWrong_31 : decode cX12_areWrong 31 = .ok (.iconst 1, 1) := by decide +kernel
theorem dX12_areWrong_32 : decode cX12_areWrong 32 = .ok (.goto 4, 3) := by decide +kernel
theorem dX12_areWrong_35 : decode cX12_areWrong 35 = .ok (.iconst 0, 1) := by decide +kernel
theorem dX12_areWrong_36 : decode cX12_areWrong 36 = .ok (.ireturn, 1) := by decide +kernel
theorem dX12_wrong_0 : decode cX12_wrong 0 = .ok (.aload_n 0, 1) := by decide +kernel
theorem dX12_wrong_1 : decode cX12_wrong 1 = .ok (.iconst 0, 1) := by decide +kernel
theorem dX12_wrong_2 : decode cX12_wrong 2 = .ok (.putfield 200, 3) := by decide +kernel
theorem dX12_wrong_5 : decode cX12_wrong 5 = .ok (.aload_n 0, 1) := by decide +kernel
theorem dX12_wrong_6 : decode cX12_wrong 6 = .ok (.iconst 0, 1) := by decide +kernel
theorem dX12_wrong_7 : decode cX12_wrong 7 = .ok (.putfield 203, 3) := by decide +kernel
theorem dX12_wrong_10 : decode cX12_wrong 10 = .ok (.aload_n 0, 1) := by decide +kernel
theorem dX12_wrong_11 : decode cX12_wrong 11 = .ok (.invokevirtual 557, 3) := by decide +kernel
theorem dX12_wrong_14 : decode cX12_wrong 14 = .ok (.iconst 0, 1) := by decide +kernel
theorem dX12_wrong_15 : decode cX12_wrong 15 = .ok (.istore_n 1, 1) := by decide +kernel
theorem dX12_wrong_16 : decode cX12_wrong 16 = .ok (.iconst 0, 1) := by decide +kernel
theorem dX12_wrong_17 : decode cX12_wrong 17 = .ok (.istore_n 2, 1) := by decide +kernel
theorem dX12_wrong_18 : decode cX12_wrong 18 = .ok (.iload_n 2, 1) := by decide +kernel
theorem dX12_wrong_19 : decode cX12_wrong 19 = .ok (.aload_n 0, 1) := by decide +kernel
theorem dX12_wrong_20 : decode cX12_wrong 20 = .ok (.getfield 551, 3) := by decide +kernel
theorem dX12_wrong_23 : decode cX12_wrong 23 = .ok (.if_icmp .ge 42, 3) := by decide +kernel
theorem dX12_wrong_26 : decode cX12_wrong 26 = .ok (.iconst 0, 1) := by decide +kernel
theorem dX12_wrong_27 : decode cX12_wrong 27 = .ok (.istore_n 3, 1) := by decide +kernel
theorem dX12_wrong_28 : decode cX12_wrong 28 = .ok (.iload_n 3, 1) := by decide +kernel
theorem dX12_wrong_29 : decode cX12_wrong 29 = .ok (.aload_n 0, 1) := by decide +kernel
theorem dX12_wrong_30 : decode cX12_wrong 30 = .ok (.getfield 551, 3) := by decide +kernel
theorem dX12_wrong_33 : decode cX12_wrong 33 = .ok (.if_icmp .ge 26, 3) := by decide +kernel
theorem dX12_wrong_36 : decode cX12_wrong 36 = .ok (.iload_n 1, 1) := by decide +kernel
theorem dX12_wrong_37 : decode cX12_wrong 37 = .ok (.aload_n 0, 1) := by decide +kernel
theorem dX12_wrong_38 : decode cX12_wrong 38 = .ok (.iload_n 2, 1) := by decide +kernel
theorem dX12_wrong_39 : decode cX12_wrong 39 = .ok (.iload_n 3, 1) := by decide +kernel
theorem dX12_wrong_40 : decode cX12_wrong 40 = .ok (.invokevirtual 560, 3) := by decide +kernel
theorem dX12_wrong_43 : decode cX12_wrong 43 = .ok (.ifCond .eq 7, 3) := by decide +kernel
theorem dX12_wrong_46 : decode cX12_wrong 46 = .ok (.iconst 1, 1) := by decide +kernel
theorem dX12_wrong_47 : decode cX12_wrong 47 = .ok (.goto 4, 3) := by decide +kernel
theorem dX12_wrong_50 : decode cX12_wrong 50 = .ok (.iconst 0, 1) := by decide +kernel
theorem dX12_wrong_51 : decode cX12_wrong 51 = .ok (.iadd, 1) := by decide +kernel
theorem dX12_wrong_52 : decode cX12_wrong 52 = .ok (.istore_n 1, 1) := by decide +kernel
theorem dX12_wrong_53 : decode cX12_wrong 53 = .ok (.iinc 3 1, 3) := by decide +kernel
theorem dX12_wrong_56 : decode cX12_wrong 56 = .ok (.goto (-28), 3) := by decide +kernel
theorem dX12_wrong_59 : decode cX12_wrong 59 = .ok (.iinc 2 1, 3) := by decide +kernel
theorem dX12_wrong_62 : decode cX12_wrong 62 = .ok (.goto (-44), 3) := by decide +kernel
theorem dX12_wrong_65 : decode cX12_wrong 65 = .ok (.iload_n 1, 1) := by decide +kernel
theorem dX12_wrong_66 : decode cX12_wrong 66 = .ok (.ireturn, 1) := by decide +kernel
theorem dX12_blamed_0 : decode cX12_blamed 0 = .ok (.aload_n 0, 1) := by decide +kernel
theorem dX12_blamed_1 : decode cX12_blamed 1 = .ok (.iconst 0, 1) := by decide +kernel
theorem dX12_blamed_2 : decode cX12_blamed 2 = .ok (.putfield 200, 3) := by decide +kernel
theorem dX12_blamed_5 : decode cX12_blamed 5 = .ok (.aload_n 0, 1) := by decide +kernel
theorem dX12_blamed_6 : decode cX12_blamed 6 = .ok (.iconst 0, 1) := by decide +kernel
theorem dX12_blamed_7 : decode cX12_blamed 7 = .ok (.putfield 203, 3) := by decide +kernel
theorem dX12_blamed_10 : decode cX12_blamed 10 = .ok (.iload_n 1, 1) := by decide +kernel
theorem dX12_blamed_11 : decode cX12_blamed 11 = .ok (.i2l, 1) := by decide +kernel
theorem dX12_blamed_12 : decode cX12_blamed 12 = .ok (.lconst 0, 1) := by decide +kernel
theorem dX12_blamed_13 : decode cX12_blamed 13 = .ok (.ldc2_w 564, 3) := by decide +kernel
theorem dX12_blamed_16 : decode cX12_blamed 16 = .ok (.invokestatic 208, 3) := by decide +kernel
theorem dX12_blamed_19 : decode cX12_blamed 19 = .ok (.ifCond .ne 9, 3) := by decide +kernel
theorem dX12_blamed_22 : decode cX12_blamed 22 = .ok (.aload_n 0, 1) := by decide +kernel
theorem dX12_blamed_23 : decode cX12_blamed 23 = .ok (.iconst 5, 1) := by decide +kernel
theorem dX12_blamed_24 : decode cX12_blamed 24 = .ok (.invokevirtual 261, 3) := by decide +kernel
theorem dX12_blamed_27 : decode cX12_blamed 27 = .ok (.ireturn, 1) := by decide +kernel
theorem dX12_blamed_28 : decode cX12_blamed 28 = .ok (.aload_n 0, 1) := by decide +kernel
theorem dX12_blamed_29 : decode cX12_blamed 29 = .ok (.invokevirtual 557, 3) := by decide +kernel
theorem dX12_blamed_32 : decode cX12_blamed 32 = .ok (.iconst 0, 1) := by decide +kernel
theorem dX12_blamed_33 : decode cX12_blamed 33 = .ok (.istore_n 2, 1) := by decide +kernel
theorem dX12_blamed_34 : decode cX12_blamed 34 = .ok (.iload_n 2, 1) := by decide +kernel
theorem dX12_blamed_35 : decode cX12_blamed 35 = .ok (.bipush 12, 2) := by decide +kernel
theorem dX12_blamed_37 : decode cX12_blamed 37 = .ok (.if_icmp .ge 16, 3) := by decide +kernel
theorem dX12_blamed_40 : decode cX12_blamed 40 = .ok (.aload_n 0, 1) := by decide +kernel
theorem dX12_blamed_41 : decode cX12_blamed 41 = .ok (.getfield 197, 3) := by decide +kernel
theorem dX12_blamed_44 : decode cX12_blamed 44 = .ok (.iload_n 2, 1) := by decide +kernel
theorem dX12_blamed_45 : decode cX12_blamed 45 = .ok (.iconst 0, 1) := by decide +kernel
theorem dX12_blamed_46 : decode cX12_blamed 46 = .ok (.iastore, 1) := by decide +kernel
theorem dX12_blamed_47 : decode cX12_blamed 47 = .ok (.iinc 2 1, 3) := by decide +kernel
theorem dX12_blamed_50 : decode cX12_blamed 50 = .ok (.goto (-16), 3) := by decide +kernel
theorem dX12_blamed_53 : decode cX12_blamed 53 = .ok (.iconst 0, 1) := by decide +kernel
theorem dX12_blamed_54 : decode cX12_blamed 54 = .ok (.istore_n 2, 1) := by decide +kernel
theorem dX12_blamed_55 : decode cX12_blamed 55 = .ok (.iload_n 2, 1) := by decide +kernel
theorem dX12_blamed_56 : decode cX12_blamed 56 = .ok (.aload_n 0, 1) := by decide +kernel
theorem dX12_blamed_57 : decode cX12_blamed 57 = .ok (.getfield 551, 3) := by decide +kernel
theorem dX12_blamed_60 : decode cX12_blamed 60 = .ok (.if_icmp .ge 81, 3) := by decide +kernel
theorem dX12_blamed_63 : decode cX12_blamed 63 = .ok (.iconst 0, 1) := by decide +kernel
theorem dX12_blamed_64 : decode cX12_blamed 64 = .ok (.istore_n 3, 1) := by decide +kernel
theorem dX12_blamed_65 : decode cX12_blamed 65 = .ok (.iload_n 3, 1) := by decide +kernel
theorem dX12_blamed_66 : decode cX12_blamed 66 = .ok (.aload_n 0, 1) := by decide +kernel
theorem dX12_blamed_67 : decode cX12_blamed 67 = .ok (.getfield 551, 3) := by decide +kernel
theorem dX12_blamed_70 : decode cX12_blamed 70 = .ok (.if_icmp .ge 65, 3) := by decide +kernel
theorem dX12_blamed_73 : decode cX12_blamed 73 = .ok (.aload_n 0, 1) := by decide +kernel
theorem dX12_blamed_74 : decode cX12_blamed 74 = .ok (.iload_n 2, 1) := by decide +kernel
theorem dX12_blamed_75 : decode cX12_blamed 75 = .ok (.iload_n 3, 1) := by decide +kernel
theorem dX12_blamed_76 : decode cX12_blamed 76 = .ok (.invokevirtual 560, 3) := by decide +kernel
theorem dX12_blamed_79 : decode cX12_blamed 79 = .ok (.ifCond .ne 6, 3) := by decide +kernel
theorem dX12_blamed_82 : decode cX12_blamed 82 = .ok (.goto 47, 3) := by decide +kernel
theorem dX12_blamed_85 : decode cX12_blamed 85 = .ok (.aload_n 0, 1) := by decide +kernel
theorem dX12_blamed_86 : decode cX12_blamed 86 = .ok (.getfield 197, 3) := by decide +kernel
theorem dX12_blamed_89 : decode cX12_blamed 89 = .ok (.aload_n 0, 1) := by decide +kernel
theorem dX12_blamed_90 : decode cX12_blamed 90 = .ok (.getfield 110, 3) := by decide +kernel
theorem dX12_blamed_93 : decode cX12_blamed 93 = .ok (.iload_n 2, 1) := by decide +kernel
theorem dX12_blamed_94 : decode cX12_blamed 94 = .ok (.iaload, 1) := by decide +kernel
theorem dX12_blamed_95 : decode cX12_blamed 95 = .ok (.dup2, 1) := by decide +kernel
theorem dX12_blamed_96 : decode cX12_blamed 96 = .ok (.iaload, 1) := by decide +kernel
theorem dX12_blamed_97 : decode cX12_blamed 97 = .ok (.iconst 1, 1) := by decide +kernel
theorem dX12_blamed_98 : decode cX12_blamed 98 = .ok (.aload_n 0, 1) := by decide +kernel
theorem dX12_blamed_99 : decode cX12_blamed 99 = .ok (.getfield 110, 3) := by decide +kernel
theorem dX12_blamed_102 : decode cX12_blamed 102 = .ok (.iload_n 3, 1) := by decide +kernel
theorem dX12_blamed_103 : decode cX12_blamed 103 = .ok (.iaload, 1) := by decide +kernel
theorem dX12_blamed_104 : decode cX12_blamed 104 = .ok (.ishl, 1) := by decide +kernel
theorem dX12_blamed_105 : decode cX12_blamed 105 = .ok (.ior, 1) := by decide +kernel
theorem dX12_blamed_106 : decode cX12_blamed 106 = .ok (.iastore, 1) := by decide +kernel
theorem dX12_blamed_107 : decode cX12_blamed 107 = .ok (.aload_n 0, 1) := by decide +kernel
theorem dX12_blamed_108 : decode cX12_blamed 108 = .ok (.getfield 197, 3) := by decide +kernel
theorem dX12_blamed_111 : decode cX12_blamed 111 = .ok (.aload_n 0, 1) := by decide +kernel
theorem dX12_blamed_112 : decode cX12_blamed 112 = .ok (.getfield 110, 3) := by decide +kernel
theorem dX12_blamed_115 : decode cX12_blamed 115 = .ok (.iload_n 3, 1) := by decide +kernel
theorem dX12_blamed_116 : decode cX12_blamed 116 = .ok (.iaload, 1) := by decide +kernel
theorem dX12_blamed_117 : decode cX12_blamed 117 = .ok (.dup2, 1) := by decide +kernel
theorem dX12_blamed_118 : decode cX12_blamed 118 = .ok (.iaload, 1) := by decide +kernel
theorem dX12_blamed_119 : decode cX12_blamed 119 = .ok (.iconst 1, 1) := by decide +kernel
theorem dX12_blamed_120 : decode cX12_blamed 120 = .ok (.aload_n 0, 1) := by decide +kernel
theorem dX12_blamed_121 : decode cX12_blamed 121 = .ok (.getfield 110, 3) := by decide +kernel
theorem dX12_blamed_124 : decode cX12_blamed 124 = .ok (.iload_n 2, 1) := by decide +kernel
theorem dX12_blamed_125 : decode cX12_blamed 125 = .ok (.iaload, 1) := by decide +kernel
theorem dX12_blamed_126 : decode cX12_blamed 126 = .ok (.ishl, 1) := by decide +kernel
theorem dX12_blamed_127 : decode cX12_blamed 127 = .ok (.ior, 1) := by decide +kernel
theorem dX12_blamed_128 : decode cX12_blamed 128 = .ok (.iastore, 1) := by decide +kernel
theorem dX12_blamed_129 : decode cX12_blamed 129 = .ok (.iinc 3 1, 3) := by decide +kernel
theorem dX12_blamed_132 : decode cX12_blamed 132 = .ok (.goto (-67), 3) := by decide +kernel
theorem dX12_blamed_135 : decode cX12_blamed 135 = .ok (.iinc 2 1, 3) := by decide +kernel
theorem dX12_blamed_138 : decode cX12_blamed 138 = .ok (.goto (-83), 3) := by decide +kernel
theorem dX12_blamed_141 : decode cX12_blamed 141 = .ok (.bipush 13, 2) := by decide +kernel
theorem dX12_blamed_143 : decode cX12_blamed 143 = .ok (.istore_n 2, 1) := by decide +kernel
theorem dX12_blamed_144 : decode cX12_blamed 144 = .ok (.iconst 0, 1) := by decide +kernel
theorem dX12_blamed_145 : decode cX12_blamed 145 = .ok (.istore_n 3, 1) := by decide +kernel
theorem dX12_blamed_146 : decode cX12_blamed 146 = .ok (.iconst 0, 1) := by decide +kernel
theorem dX12_blamed_147 : decode cX12_blamed 147 = .ok (.istore 4, 2) := by decide +kernel
theorem dX12_blamed_149 : decode cX12_blamed 149 = .ok (.iconst 0, 1) := by decide +kernel
theorem dX12_blamed_150 : decode cX12_blamed 150 = .ok (.istore 5, 2) := by decide +kernel
theorem dX12_blamed_152 : decode cX12_blamed 152 = .ok (.iload 5, 2) := by decide +kernel
theorem dX12_blamed_154 : decode cX12_blamed 154 = .ok (.iconst 1, 1) := by decide +kernel
theorem dX12_blamed_155 : decode cX12_blamed 155 = .ok (.aload_n 0, 1) := by decide +kernel
theorem dX12_blamed_156 : decode cX12_blamed 156 = .ok (.getfield 275, 3) := by decide +kernel
theorem dX12_blamed_159 : decode cX12_blamed 159 = .ok (.ishl, 1) := by decide +kernel
theorem dX12_blamed_160 : decode cX12_blamed 160 = .ok (.if_icmp .ge 112, 3) := by decide +kernel
theorem dX12_blamed_163 : decode cX12_blamed 163 = .ok (.iload 5, 2) := by decide +kernel
theorem dX12_blamed_165 : decode cX12_blamed 165 = .ok (.invokestatic 566, 3) := by decide +kernel
theorem dX12_blamed_168 : decode cX12_blamed 168 = .ok (.iload_n 2, 1) := by decide +kernel
theorem dX12_blamed_169 : decode cX12_blamed 169 = .ok (.if_icmp .le 6, 3) := by decide +kernel
theorem dX12_blamed_172 : decode cX12_blamed 172 = .ok (.goto 94, 3) := by decide +kernel
theorem dX12_blamed_175 : decode cX12_blamed 175 = .ok (.iconst 1, 1) := by decide +kernel
theorem dX12_blamed_176 : decode cX12_blamed 176 = .ok (.istore 6, 2) := by decide +kernel
theorem dX12_blamed_178 : decode cX12_blamed 178 = .ok (.iconst 0, 1) := by decide +kernel
theorem dX12_blamed_179 : decode cX12_blamed 179 = .ok (.istore 7, 2) := by decide +kernel
theorem dX12_blamed_181 : decode cX12_blamed 181 = .ok (.iload 7, 2) := by decide +kernel
theorem dX12_blamed_183 : decode cX12_blamed 183 = .ok (.aload_n 0, 1) := by decide +kernel
theorem dX12_blamed_184 : decode cX12_blamed 184 = .ok (.getfield 275, 3) := by decide +kernel
theorem dX12_blamed_187 : decode cX12_blamed 187 = .ok (.if_icmp .ge 47, 3) := by decide +kernel
theorem dX12_blamed_190 : decode cX12_blamed 190 = .ok (.iload 6, 2) := by decide +kernel
theorem dX12_blamed_192 : decode cX12_blamed 192 = .ok (.ifCond .eq 33, 3) := by decide +kernel
theorem dX12_blamed_195 : decode cX12_blamed 195 = .ok (.iload 5, 2) := by decide +kernel
theorem dX12_blamed_197 : decode cX12_blamed 197 = .ok (.iload 7, 2) := by decide +kernel
theorem dX12_blamed_199 : decode cX12_blamed 199 = .ok (.ishr, 1) := by decide +kernel
theorem dX12_blamed_200 : decode cX12_blamed 200 = .ok (.iconst 1, 1) := by decide +kernel
theorem dX12_blamed_201 : decode cX12_blamed 201 = .ok (.iand, 1) := by decide +kernel
theorem dX12_blamed_202 : decode cX12_blamed 202 = .ok (.iconst 1, 1) := by decide +kernel
theorem dX12_blamed_203 : decode cX12_blamed 203 = .ok (.if_icmp .eq 18, 3) := by decide +kernel
theorem dX12_blamed_206 : decode cX12_blamed 206 = .ok (.aload_n 0, 1) := by decide +kernel
theorem dX12_blamed_207 : decode cX12_blamed 207 = .ok (.getfield 197, 3) := by decide +kernel
theorem dX12_blamed_210 : decode cX12_blamed 210 = .ok (.iload 7, 2) := by decide +kernel
theorem dX12_blamed_212 : decode cX12_blamed 212 = .ok (.iaload, 1) := by decide +kernel
theorem dX12_blamed_213 : decode cX12_blamed 213 = .ok (.iload 5, 2) := by decide +kernel
theorem dX12_blamed_215 : decode cX12_blamed 215 = .ok (.iconst (-1), 1) := by decide +kernel
theorem dX12_blamed_216 : decode cX12_blamed 216 = .ok (.ixor, 1) := by decide +kernel
theorem dX12_blamed_217 : decode cX12_blamed 217 = .ok (.iand, 1) := by decide +kernel
theorem dX12_blamed_218 : decode cX12_blamed 218 = .ok (.ifCond .ne 7, 3) := by decide +kernel
theorem dX12_blamed_221 : decode cX12_blamed 221 = .ok (.iconst 1, 1) := by decide +kernel
theorem dX12_blamed_222 : decode cX12_blamed 222 = .ok (.goto 4, 3) := by decide +kernel
theorem dX12_blamed_225 : decode cX12_blamed 225 = .ok (.iconst 0, 1) := by decide +kernel
theorem dX12_blamed_226 : decode cX12_blamed 226 = .ok (.istore 6, 2) := by decide +kernel
theorem dX12_blamed_228 : decode cX12_blamed 228 = .ok (.iinc 7 1, 3) := by decide +kernel
theorem dX12_blamed_231 : decode cX12_blamed 231 = .ok (.goto (-50), 3) := by decide +kernel
theorem dX12_blamed_234 : decode cX12_blamed 234 = .ok (.iload 6, 2) := by decide +kernel
theorem dX12_blamed_236 : decode cX12_blamed 236 = .ok (.ifCond .ne 6, 3) := by decide +kernel
theorem dX12_blamed_239 : decode cX12_blamed 239 = .ok (.goto 27, 3) := by decide +kernel
theorem dX12_blamed_242 : decode cX12_blamed 242 = .ok (.iload 5, 2) := by decide +kernel
theorem dX12_blamed_244 : decode cX12_blamed 244 = .ok (.invokestatic 566, 3) := by decide +kernel
theorem dX12_blamed_247 : decode cX12_blamed 247 = .ok (.iload_n 2, 1) := by decide +kernel
theorem dX12_blamed_248 : decode cX12_blamed 248 = .ok (.if_icmp .ge 15, 3) := by decide +kernel
theorem dX12_blamed_251 : decode cX12_blamed 251 = .ok (.iload 5, 2) := by decide +kernel
theorem dX12_blamed_253 : decode cX12_blamed 253 = .ok (.invokestatic 566, 3) := by decide +kernel
theorem dX12_blamed_256 : decode cX12_blamed 256 = .ok (.istore_n 2, 1) := by decide +kernel
theorem dX12_blamed_257 : decode cX12_blamed 257 = .ok (.iload 5, 2) := by decide +kernel
theorem dX12_blamed_259 : decode cX12_blamed 259 = .ok (.istore_n 3, 1) := by decide +kernel
theorem dX12_blamed_260 : decode cX12_blamed 260 = .ok (.iconst 0, 1) := by decide +kernel
theorem dX12_blamed_261 : decode cX12_blamed 261 = .ok (.istore 4, 2) := by decide +kernel
theorem dX12_blamed_263 : decode cX12_blamed 263 = .ok (.iinc 4 1, 3) := by decide +kernel
theorem dX12_blamed_266 : decode cX12_blamed 266 = .ok (.iinc 5 1, 3) := by decide +kernel
theorem dX12_blamed_269 : decode cX12_blamed 269 = .ok (.goto (-117), 3) := by decide +kernel
theorem dX12_blamed_272 : decode cX12_blamed 272 = .ok (.iload_n 1, 1) := by decide +kernel
theorem dX12_blamed_273 : decode cX12_blamed 273 = .ok (.ifCond .ne 7, 3) := by decide +kernel
theorem dX12_blamed_276 : decode cX12_blamed 276 = .ok (.iload_n 2, 1) := by decide +kernel
theorem dX12_blamed_277 : decode cX12_blamed 277 = .ok (.goto 14, 3) := by decide +kernel
theorem dX12_blamed_280 : decode cX12_blamed 280 = .ok (.iload_n 1, 1) := by decide +kernel
theorem dX12_blamed_281 : decode cX12_blamed 281 = .ok (.iconst 1, 1) := by decide +kernel
theorem dX12_blamed_282 : decode cX12_blamed 282 = .ok (.if_icmp .ne 7, 3) := by decide +kernel
theorem dX12_blamed_285 : decode cX12_blamed 285 = .ok (.iload_n 3, 1) := by decide +kernel
theorem dX12_blamed_286 : decode cX12_blamed 286 = .ok (.goto 5, 3) := by decide +kernel
theorem dX12_blamed_289 : decode cX12_blamed 289 = .ok (.iload 4, 2) := by decide +kernel
theorem dX12_blamed_291 : decode cX12_blamed 291 = .ok (.ireturn, 1) := by decide +kernel
theorem dX12_readNumber_0 : decode cX12_readNumber 0 = .ok (.aload_n 0, 1) := by decide +kernel
theorem dX12_readNumber_1 : decode cX12_readNumber 1 = .ok (.getfield 383, 3) := by decide +kernel
theorem dX12_readNumber_4 : decode cX12_readNumber 4 = .ok (.ifCond .ne 15, 3) := by decide +kernel
theorem dX12_readNumber_7 : decode cX12_readNumber 7 = .ok (.aload_n 0, 1) := by decide +kernel
theorem dX12_readNumber_8 : decode cX12_readNumber 8 = .ok (.getfield 348, 3) := by decide +kernel
theorem dX12_readNumber_11 : decode cX12_readNumber 11 = .ok (.iconst 2, 1) := by decide +kernel
theorem dX12_readNumber_12 : decode cX12_readNumber 12 = .ok (.if_icmp .eq 7, 3) := by decide +kernel
theorem dX12_readNumber_15 : decode cX12_readNumber 15 = .ok (.aload_n 0, 1) := by decide +kernel
theorem dX12_readNumber_16 : decode cX12_readNumber 16 = .ok (.invokevirtual 449, 3) := by decide +kernel
theorem dX12_readNumber_19 : decode cX12_readNumber 19 = .ok (.aload_n 0, 1) := by decide +kernel
theorem dX12_readNumber_20 : decode cX12_readNumber 20 = .ok (.getfield 383, 3) := by decide +kernel
theorem dX12_readNumber_23 : decode cX12_readNumber 23 = .ok (.ifCond .ne 27, 3) := by decide +kernel
theorem dX12_readNumber_26 : decode cX12_readNumber 26 = .ok (.aload_n 0, 1) := by decide +kernel
theorem dX12_readNumber_27 : decode cX12_readNumber 27 = .ok (.getfield 368, 3) := by decide +kernel
theorem dX12_readNumber_30 : decode cX12_readNumber 30 = .ok (.i2l, 1) := by decide +kernel
theorem dX12_readNumber_31 : decode cX12_readNumber 31 = .ok (.iload_n 1, 1) := by decide +kernel
theorem dX12_readNumber_32 : decode cX12_readNumber 32 = .ok (.i2l, 1) := by decide +kernel
theorem dX12_readNumber_33 : decode cX12_readNumber 33 = .ok (.iload_n 2, 1) := by decide +kernel
theorem dX12_readNumber_34 : decode cX12_readNumber 34 = .ok (.i2l, 1) := by decide +kernel
theorem dX12_readNumber_35 : decode cX12_readNumber 35 = .ok (.invokestatic 208, 3) := by decide +kernel
theorem dX12_readNumber_38 : decode cX12_readNumber 38 = .ok (.ifCond .ne 12, 3) := by decide +kernel
theorem dX12_readNumber_41 : decode cX12_readNumber 41 = .ok (.aload_n 0, 1) := by decide +kernel
theorem dX12_readNumber_42 : decode cX12_readNumber 42 = .ok (.iconst 4, 1) := by decide +kernel
theorem dX12_readNumber_43 : decode cX12_readNumber 43 = .ok (.aload_n 0, 1) := by decide +kernel
theorem dX12_readNumber_44 : decode cX12_readNumber 44 = .ok (.getfield 342, 3) := by decide +kernel
theorem dX12_readNumber_47 : decode cX12_readNumber 47 = .ok (.invokevirtual 389, 3) := by decide +kernel
theorem dX12_readNumber_50 : decode cX12_readNumber 50 = .ok (.aload_n 0, 1) := by decide +kernel
theorem dX12_readNumber_51 : decode cX12_readNumber 51 = .ok (.getfield 383, 3) := by decide +kernel
theorem dX12_readNumber_54 : decode cX12_readNumber 54 = .ok (.ifCond .le 5, 3) := by decide +kernel
theorem dX12_readNumber_57 : decode cX12_readNumber 57 = .ok (.iconst 0, 1) := by decide +kernel
theorem dX12_readNumber_58 : decode cX12_readNumber 58 = .ok (.ireturn, 1) := by decide +kernel
theorem dX12_readNumber_59 : decode cX12_readNumber 59 = .ok (.aload_n 0, 1) := by decide +kernel
theorem dX12_readNumber_60 : decode cX12_readNumber 60 = .ok (.getfield 368, 3) := by decide +kernel
theorem dX12_readNumber_63 : decode cX12_readNumber 63 = .ok (.istore_n 3, 1) := by decide +kernel
theorem dX12_readNumber_64 : decode cX12_readNumber 64 = .ok (.aload_n 0, 1) := by decide +kernel
theorem dX12_readNumber_65 : decode cX12_readNumber 65 = .ok (.invokevirtual 455, 3) := by decide +kernel
theorem dX12_readNumber_68 : decode cX12_readNumber 68 = .ok (.iload_n 3, 1) := by decide +kernel
theorem dX12_readNumber_69 : decode cX12_readNumber 69 = .ok (.ireturn, 1) := by decide +kernel
theorem dX12_readSign_0 : decode cX12_readSign 0 = .ok (.aload_n 0, 1) := by decide +kernel
theorem dX12_readSign_1 : decode cX12_readSign 1 = .ok (.getfield 383, 3) := by decide +kernel
theorem dX12_readSign_4 : decode cX12_readSign 4 = .ok (.ifCond .le 4, 3) := by decide +kernel
theorem dX12_readSign_7 : decode cX12_readSign 7 = .ok (.return_, 1) := by decide +kernel
theorem dX12_readSign_8 : decode cX12_readSign 8 = .ok (.aload_n 0, 1) := by decide +kernel
theorem dX12_readSign_9 : decode cX12_readSign 9 = .ok (.iload_n 1, 1) := by decide +kernel
theorem dX12_readSign_10 : decode cX12_readSign 10 = .ok (.invokevirtual 440, 3) := by decide +kernel
theorem dX12_readSign_13 : decode cX12_readSign 13 = .ok (.ifCond .eq 10, 3) := by decide +kernel
theorem dX12_readSign_16 : decode cX12_readSign 16 = .ok (.aload_n 0, 1) := by decide +kernel
theorem dX12_readSign_17 : decode cX12_readSign 17 = .ok (.invokevirtual 455, 3) := by decide +kernel
theorem dX12_readSign_20 : decode cX12_readSign 20 = .ok (.goto 7, 3) := by decide +kernel
theorem dX12_readSign_23 : decode cX12_readSign 23 = .ok (.aload_n 0, 1) := by decide +kernel
theorem dX12_readSign_24 : decode cX12_readSign 24 = .ok (.invokevirtual 449, 3) := by decide +kernel
theorem dX12_readSign_27 : decode cX12_readSign 27 = .ok (.return_, 1) := by decide +kernel
theorem dX12_readLine_0 : decode cX12_readLine 0 = .ok (.aload_n 0, 1) := by decide +kernel
theorem dX12_readLine_1 : decode cX12_readLine 1 = .ok (.bipush 119, 2) := by decide +kernel
theorem dX12_readLine_3 : decode cX12_readLine 3 = .ok (.bipush 97, 2) := by decide +kernel
theorem dX12_readLine_5 : decode cX12_readLine 5 = .ok (.bipush 105, 2) := by decide +kernel
theorem dX12_readLine_7 : decode cX12_readLine 7 = .ok (.bipush 116, 2) := by decide +kernel
theorem dX12_readLine_9 : decode cX12_readLine 9 = .ok (.iconst 0, 1) := by decide +kernel
theorem dX12_readLine_10 : decode cX12_readLine 10 = .ok (.iconst 0, 1) := by decide +kernel
theorem dX12_readLine_11 : decode cX12_readLine 11 = .ok (.invokestatic 393, 3) := by decide +kernel
theorem dX12_readLine_14 : decode cX12_readLine 14 = .ok (.invokevirtual 397, 3) := by decide +kernel
theorem dX12_readLine_17 : decode cX12_readLine 17 = .ok (.ifCond .eq 7, 3) := by decide +kernel
theorem dX12_readLine_20 : decode cX12_readLine 20 = .ok (.iconst 0, 1) := by decide +kernel
theorem dX12_readLine_21 : decode cX12_readLine 21 = .ok (.goto 104, 3) := by decide +kernel
theorem dX12_readLine_24 : decode cX12_readLine 24 = .ok (.aload_n 0, 1) := by decide +kernel
theorem dX12_readLine_25 : decode cX12_readLine 25 = .ok (.bipush 117, 2) := by decide +kernel
theorem dX12_readLine_27 : decode cX12_readLine 27 = .ok (.bipush 110, 2) := by decide +kernel
theorem dX12_readLine_29 : decode cX12_readLine 29 = .ok (.bipush 116, 2) := by decide +kernel
theorem dX12_readLine_31 : decode cX12_readLine 31 = .ok (.bipush 105, 2) := by decide +kernel
theorem dX12_readLine_33 : decode cX12_readLine 33 = .ok (.bipush 108, 2) := by decide +kernel
theorem dX12_readLine_35 : decode cX12_readLine 35 = .ok (.iconst 0, 1) := by decide +kernel
theorem dX12_readLine_36 : decode cX12_readLine 36 = .ok (.invokestatic 393, 3) := by decide +kernel
theorem dX12_readLine_39 : decode cX12_readLine 39 = .ok (.invokevirtual 397, 3) := by decide +kernel
theorem dX12_readLine_42 : decode cX12_readLine 42 = .ok (.ifCond .eq 7, 3) := by decide +kernel
theorem dX12_readLine_45 : decode cX12_readLine 45 = .ok (.iconst 1, 1) := by decide +kernel
theorem dX12_readLine_46 : decode cX12_readLine 46 = .ok (.goto 79, 3) := by decide +kernel
theorem dX12_readLine_49 : decode cX12_readLine 49 = .ok (.aload_n 0, 1) := by decide +kernel
theorem dX12_readLine_50 : decode cX12_readLine 50 = .ok (.bipush 115, 2) := by decide +kernel
theorem dX12_readLine_52 : decode cX12_readLine 52 = .ok (.bipush 116, 2) := by decide +kernel
theorem dX12_readLine_54 : decode cX12_readLine 54 = .ok (.bipush 97, 2) := by decide +kernel
theorem dX12_readLine_56 : decode cX12_readLine 56 = .ok (.bipush 109, 2) := by decide +kernel
theorem dX12_readLine_58 : decode cX12_readLine 58 = .ok (.bipush 112, 2) := by decide +kernel
theorem dX12_readLine_60 : decode cX12_readLine 60 = .ok (.iconst 0, 1) := by decide +kernel
theorem dX12_readLine_61 : decode cX12_readLine 61 = .ok (.invokestatic 393, 3) := by decide +kernel
theorem dX12_readLine_64 : decode cX12_readLine 64 = .ok (.invokevirtual 397, 3) := by decide +kernel
theorem dX12_readLine_67 : decode cX12_readLine 67 = .ok (.ifCond .eq 7, 3) := by decide +kernel
theorem dX12_readLine_70 : decode cX12_readLine 70 = .ok (.iconst 2, 1) := by decide +kernel
theorem dX12_readLine_71 : decode cX12_readLine 71 = .ok (.goto 54, 3) := by decide +kernel
theorem dX12_readLine_74 : decode cX12_readLine 74 = .ok (.aload_n 0, 1) := by decide +kernel
theorem dX12_readLine_75 : decode cX12_readLine 75 = .ok (.bipush 112, 2) := by decide +kernel
theorem dX12_readLine_77 : decode cX12_readLine 77 = .ok (.bipush 97, 2) := by decide +kernel
theorem dX12_readLine_79 : decode cX12_readLine 79 = .ok (.bipush 114, 2) := by decide +kernel
theorem dX12_readLine_81 : decode cX12_readLine 81 = .ok (.bipush 115, 2) := by decide +kernel
theorem dX12_readLine_83 : decode cX12_readLine 83 = .ok (.bipush 101, 2) := by decide +kernel
theorem dX12_readLine_85 : decode cX12_readLine 85 = .ok (.iconst 0, 1) := by decide +kernel
theorem dX12_readLine_86 : decode cX12_readLine 86 = .ok (.invokestatic 393, 3) := by decide +kernel
theorem dX12_readLine_89 : decode cX12_readLine 89 = .ok (.invokevirtual 397, 3) := by decide +kernel
theorem dX12_readLine_92 : decode cX12_readLine 92 = .ok (.ifCond .eq 7, 3) := by decide +kernel
theorem dX12_readLine_95 : decode cX12_readLine 95 = .ok (.iconst 3, 1) := by decide +kernel
theorem dX12_readLine_96 : decode cX12_readLine 96 = .ok (.goto 29, 3) := by decide +kernel
theorem dX12_readLine_99 : decode cX12_readLine 99 = .ok (.aload_n 0, 1) := by decide +kernel
theorem dX12_readLine_100 : decode cX12_readLine 100 = .ok (.bipush 97, 2) := by decide +kernel
theorem dX12_readLine_102 : decode cX12_readLine 102 = .ok (.bipush 103, 2) := by decide +kernel
theorem dX12_readLine_104 : decode cX12_readLine 104 = .ok (.bipush 97, 2) := by decide +kernel
theorem dX12_readLine_106 : decode cX12_readLine 106 = .ok (.bipush 105, 2) := by decide +kernel
theorem dX12_readLine_108 : decode cX12_readLine 108 = .ok (.bipush 110, 2) := by decide +kernel
theorem dX12_readLine_110 : decode cX12_readLine 110 = .ok (.iconst 0, 1) := by decide +kernel
theorem dX12_readLine_111 : decode cX12_readLine 111 = .ok (.invokestatic 393, 3) := by decide +kernel
theorem dX12_readLine_114 : decode cX12_readLine 114 = .ok (.invokevirtual 397, 3) := by decide +kernel
theorem dX12_readLine_117 : decode cX12_readLine 117 = .ok (.ifCond .eq 7, 3) := by decide +kernel
theorem dX12_readLine_120 : decode cX12_readLine 120 = .ok (.iconst 4, 1) := by decide +kernel
theorem dX12_readLine_121 : decode cX12_readLine 121 = .ok (.goto 4, 3) := by decide +kernel
theorem dX12_readLine_124 : decode cX12_readLine 124 = .ok (.iconst (-1), 1) := by decide +kernel
theorem dX12_readLine_125 : decode cX12_readLine 125 = .ok (.istore_n 2, 1) := by decide +kernel
theorem dX12_readLine_126 : decode cX12_readLine 126 = .ok (.iload_n 2, 1) := by decide +kernel
theorem dX12_readLine_127 : decode cX12_readLine 127 = .ok (.ifCond .ge 7, 3) := by decide +kernel
theorem dX12_readLine_130 : decode cX12_readLine 130 = .ok (.aload_n 0, 1) := by decide +kernel
theorem dX12_readLine_131 : decode cX12_readLine 131 = .ok (.invokevirtual 449, 3) := by decide +kernel
theorem dX12_readLine_134 : decode cX12_readLine 134 = .ok (.aload_n 0, 1) := by decide +kernel
theorem dX12_readLine_135 : decode cX12_readLine 135 = .ok (.getfield 383, 3) := by decide +kernel
theorem dX12_readLine_138 : decode cX12_readLine 138 = .ok (.ifCond .ne 21, 3) := by decide +kernel
theorem dX12_readLine_141 : decode cX12_readLine 141 = .ok (.aload_n 0, 1) := by decide +kernel
theorem dX12_readLine_142 : decode cX12_readLine 142 = .ok (.getfield 571, 3) := by decide +kernel
theorem dX12_readLine_145 : decode cX12_readLine 145 = .ok (.bipush 40, 2) := by decide +kernel
theorem dX12_readLine_147 : decode cX12_readLine 147 = .ok (.if_icmp .ne 12, 3) := by decide +kernel
theorem dX12_readLine_150 : decode cX12_readLine 150 = .ok (.aload_n 0, 1) := by decide +kernel
theorem dX12_readLine_151 : decode cX12_readLine 151 = .ok (.iconst 3, 1) := by decide +kernel
theorem dX12_readLine_152 : decode cX12_readLine 152 = .ok (.aload_n 0, 1) := by decide +kernel
theorem dX12_readLine_153 : decode cX12_readLine 153 = .ok (.getfield 342, 3) := by decide +kernel
theorem dX12_readLine_156 : decode cX12_readLine 156 = .ok (.invokevirtual 389, 3) := by decide +kernel
theorem dX12_readLine_159 : decode cX12_readLine 159 = .ok (.aload_n 0, 1) := by decide +kernel
theorem dX12_readLine_160 : decode cX12_readLine 160 = .ok (.getfield 383, 3) := by decide +kernel
theorem dX12_readLine_163 : decode cX12_readLine 163 = .ok (.ifCond .ne 22, 3) := by decide +kernel
theorem dX12_readLine_166 : decode cX12_readLine 166 = .ok (.iload_n 2, 1) := by decide +kernel
theorem dX12_readLine_167 : decode cX12_readLine 167 = .ok (.iconst 4, 1) := by decide +kernel
theorem dX12_readLine_168 : decode cX12_readLine 168 = .ok (.if_icmp .ne 17, 3) := by decide +kernel
theorem dX12_readLine_171 : decode cX12_readLine 171 = .ok (.iload_n 1, 1) := by decide +kernel
theorem dX12_readLine_172 : decode cX12_readLine 172 = .ok (.iconst 3, 1) := by decide +kernel
theorem dX12_readLine_173 : decode cX12_readLine 173 = .ok (.if_icmp .ne 12, 3) := by decide +kernel
theorem dX12_readLine_176 : decode cX12_readLine 176 = .ok (.aload_n 0, 1) := by decide +kernel
theorem dX12_readLine_177 : decode cX12_readLine 177 = .ok (.iconst 5, 1) := by decide +kernel
theorem dX12_readLine_178 : decode cX12_readLine 178 = .ok (.aload_n 0, 1) := by decide +kernel
theorem dX12_readLine_179 : decode cX12_readLine 179 = .ok (.getfield 342, 3) := by decide +kernel
theorem dX12_readLine_182 : decode cX12_readLine 182 = .ok (.invokevirtual 389, 3) := by decide +kernel
theorem dX12_readLine_185 : decode cX12_readLine 185 = .ok (.aload_n 0, 1) := by decide +kernel
theorem dX12_readLine_186 : decode cX12_readLine 186 = .ok (.getfield 383, 3) := by decide +kernel
theorem dX12_readLine_189 : decode cX12_readLine 189 = .ok (.ifCond .le 4, 3) := by decide +kernel
theorem dX12_readLine_192 : decode cX12_readLine 192 = .ok (.return_, 1) := by decide +kernel
theorem dX12_readLine_193 : decode cX12_readLine 193 = .ok (.aload_n 0, 1) := by decide +kernel
theorem dX12_readLine_194 : decode cX12_readLine 194 = .ok (.getfield 571, 3) := by decide +kernel
theorem dX12_readLine_197 : decode cX12_readLine 197 = .ok (.istore_n 3, 1) := by decide +kernel
theorem dX12_readLine_198 : decode cX12_readLine 198 = .ok (.aload_n 0, 1) := by decide +kernel
theorem dX12_readLine_199 : decode cX12_readLine 199 = .ok (.dup, 1) := by decide +kernel
theorem dX12_readLine_200 : decode cX12_readLine 200 = .ok (.getfield 571, 3) := by decide +kernel
theorem dX12_readLine_203 : decode cX12_readLine 203 = .ok (.iconst 1, 1) := by decide +kernel
theorem dX12_readLine_204 : decode cX12_readLine 204 = .ok (.iadd, 1) := by decide +kernel
theorem dX12_readLine_205 : decode cX12_readLine 205 = .ok (.putfield 571, 3) := by decide +kernel
theorem dX12_readLine_208 : decode cX12_readLine 208 = .ok (.aload_n 0, 1) := by decide +kernel
theorem dX12_readLine_209 : decode cX12_readLine 209 = .ok (.getfield 134, 3) := by decide +kernel
theorem dX12_readLine_212 : decode cX12_readLine 212 = .ok (.iload_n 3, 1) := by decide +kernel
theorem dX12_readLine_213 : decode cX12_readLine 213 = .ok (.iload_n 2, 1) := by decide +kernel
theorem dX12_readLine_214 : decode cX12_readLine 214 = .ok (.iastore, 1) := by decide +kernel
theorem dX12_readLine_215 : decode cX12_readLine 215 = .ok (.aload_n 0, 1) := by decide +kernel
theorem dX12_readLine_216 : decode cX12_readLine 216 = .ok (.getfield 137, 3) := by decide +kernel
theorem dX12_readLine_219 : decode cX12_readLine 219 = .ok (.iload_n 3, 1) := by decide +kernel
theorem dX12_readLine_220 : decode cX12_readLine 220 = .ok (.iconst 0, 1) := by decide +kernel
theorem dX12_readLine_221 : decode cX12_readLine 221 = .ok (.iastore, 1) := by decide +kernel
theorem dX12_readLine_222 : decode cX12_readLine 222 = .ok (.aload_n 0, 1) := by decide +kernel
theorem dX12_readLine_223 : decode cX12_readLine 223 = .ok (.invokevirtual 455, 3) := by decide +kernel
theorem dX12_readLine_226 : decode cX12_readLine 226 = .ok (.iload_n 2, 1) := by decide +kernel
theorem dX12_readLine_227 : decode cX12_readLine 227 = .ok (.iconst 4, 1) := by decide +kernel
theorem dX12_readLine_228 : decode cX12_readLine 228 = .ok (.if_icmp .ne 62, 3) := by decide +kernel
theorem dX12_readLine_231 : decode cX12_readLine 231 = .ok (.aload_n 0, 1) := by decide +kernel
theorem dX12_readLine_232 : decode cX12_readLine 232 = .ok (.getfield 137, 3) := by decide +kernel
theorem dX12_readLine_235 : decode cX12_readLine 235 = .ok (.iload_n 3, 1) := by decide +kernel
theorem dX12_readLine_236 : decode cX12_readLine 236 = .ok (.aload_n 0, 1) := by decide +kernel
theorem dX12_readLine_237 : decode cX12_readLine 237 = .ok (.iconst 2, 1) := by decide +kernel
theorem dX12_readLine_238 : decode cX12_readLine 238 = .ok (.bipush 20, 2) := by decide +kernel
theorem dX12_readLine_240 : decode cX12_readLine 240 = .ok (.invokevirtual 574, 3) := by decide +kernel
theorem dX12_readLine_243 : decode cX12_readLine 243 = .ok (.iastore, 1) := by decide +kernel
theorem dX12_readLine_244 : decode cX12_readLine 244 = .ok (.aload_n 0, 1) := by decide +kernel
theorem dX12_readLine_245 : decode cX12_readLine 245 = .ok (.bipush 123, 2) := by decide +kernel
theorem dX12_readLine_247 : decode cX12_readLine 247 = .ok (.invokevirtual 577, 3) := by decide +kernel
theorem dX12_readLine_250 : decode cX12_readLine 250 = .ok (.aload_n 0, 1) := by decide +kernel
theorem dX12_readLine_251 : decode cX12_readLine 251 = .ok (.getfield 383, 3) := by decide +kernel
theorem dX12_readLine_254 : decode cX12_readLine 254 = .ok (.ifCond .ne 22, 3) := by decide +kernel
theorem dX12_readLine_257 : decode cX12_readLine 257 = .ok (.aload_n 0, 1) := by decide +kernel
theorem dX12_readLine_258 : decode cX12_readLine 258 = .ok (.bipush 125, 2) := by decide +kernel
theorem dX12_readLine_260 : decode cX12_readLine 260 = .ok (.invokevirtual 440, 3) := by decide +kernel
theorem dX12_readLine_263 : decode cX12_readLine 263 = .ok (.ifCond .ne 13, 3) := by decide +kernel
theorem dX12_readLine_266 : decode cX12_readLine 266 = .ok (.aload_n 0, 1) := by decide +kernel
theorem dX12_readLine_267 : decode cX12_readLine 267 = .ok (.iload_n 1, 1) := by decide +kernel
theorem dX12_readLine_268 : decode cX12_readLine 268 = .ok (.iconst 1, 1) := by decide +kernel
theorem dX12_readLine_269 : decode cX12_readLine 269 = .ok (.iadd, 1) := by decide +kernel
theorem dX12_readLine_270 : decode cX12_readLine 270 = .ok (.invokevirtual 580, 3) := by decide +kernel
theorem dX12_readLine_273 : decode cX12_readLine 273 = .ok (.goto (-23), 3) := by decide +kernel
theorem dX12_readLine_276 : decode cX12_readLine 276 = .ok (.aload_n 0, 1) := by decide +kernel
theorem dX12_readLine_277 : decode cX12_readLine 277 = .ok (.getfield 383, 3) := by decide +kernel
theorem dX12_readLine_280 : decode cX12_readLine 280 = .ok (.ifCond .ne 54, 3) := by decide +kernel
theorem dX12_readLine_283 : decode cX12_readLine 283 = .ok (.aload_n 0, 1) := by decide +kernel
theorem dX12_readLine_284 : decode cX12_readLine 284 = .ok (.invokevirtual 455, 3) := by decide +kernel
theorem dX12_readLine_287 : decode cX12_readLine 287 = .ok (.goto 47, 3) := by decide +kernel
theorem dX12_readLine_290 : decode cX12_readLine 290 = .ok (.iload_n 2, 1) := by decide +kernel
theorem dX12_readLine_291 : decode cX12_readLine 291 = .ok (.ifCond .ne 17, 3) := by decide +kernel
theorem dX12_readLine_294 : decode cX12_readLine 294 = .ok (.aload_n 0, 1) := by decide +kernel
theorem dX12_readLine_295 : decode cX12_readLine 295 = .ok (.getfield 137, 3) := by decide +kernel
theorem dX12_readLine_298 : decode cX12_readLine 298 = .ok (.iload_n 3, 1) := by decide +kernel
theorem dX12_readLine_299 : decode cX12_readLine 299 = .ok (.aload_n 0, 1) := by decide +kernel
theorem dX12_readLine_300 : decode cX12_readLine 300 = .ok (.iconst 1, 1) := by decide +kernel
theorem dX12_readLine_301 : decode cX12_readLine 301 = .ok (.sipush 3600, 3) := by decide +kernel
theorem dX12_readLine_304 : decode cX12_readLine 304 = .ok (.invokevirtual 574, 3) := by decide +kernel
theorem dX12_readLine_307 : decode cX12_readLine 307 = .ok (.iastore, 1) := by decide +kernel
theorem dX12_readLine_308 : decode cX12_readLine 308 = .ok (.iload_n 2, 1) := by decide +kernel
theorem dX12_readLine_309 : decode cX12_readLine 309 = .ok (.iconst 1, 1) := by decide +kernel
theorem dX12_readLine_310 : decode cX12_readLine 310 = .ok (.if_icmp .ne 8, 3) := by decide +kernel
theorem dX12_readLine_313 : decode cX12_readLine 313 = .ok (.aload_n 0, 1) := by decide +kernel
theorem dX12_readLine_314 : decode cX12_readLine 314 = .ok (.iload_n 3, 1) := by decide +kernel
theorem dX12_readLine_315 : decode cX12_readLine 315 = .ok (.invokevirtual 583, 3) := by decide +kernel
theorem dX12_readLine_318 : decode cX12_readLine 318 = .ok (.iload_n 2, 1) := by decide +kernel
theorem dX12_readLine_319 : decode cX12_readLine 319 = .ok (.iconst 3, 1) := by decide +kernel
theorem dX12_readLine_320 : decode cX12_readLine 320 = .ok (.if_icmp .ne 8, 3) := by decide +kernel
theorem dX12_readLine_323 : decode cX12_readLine 323 = .ok (.aload_n 0, 1) := by decide +kernel
theorem dX12_readLine_324 : decode cX12_readLine 324 = .ok (.iload_n 3, 1) := by decide +kernel
theorem dX12_readLine_325 : decode cX12_readLine 325 = .ok (.invokevirtual 586, 3) := by decide +kernel
theorem dX12_readLine_328 : decode cX12_readLine 328 = .ok (.aload_n 0, 1) := by decide +kernel
theorem dX12_readLine_329 : decode cX12_readLine 329 = .ok (.bipush 59, 2) := by decide +kernel
theorem dX12_readLine_331 : decode cX12_readLine 331 = .ok (.invokevirtual 577, 3) := by decide +kernel
theorem dX12_readLine_334 : decode cX12_readLine 334 = .ok (.aload_n 0, 1) := by decide +kernel
theorem dX12_readLine_335 : decode cX12_readLine 335 = .ok (.getfield 140, 3) := by decide +kernel
theorem dX12_readLine_338 : decode cX12_readLine 338 = .ok (.iload_n 3, 1) := by decide +kernel
theorem dX12_readLine_339 : decode cX12_readLine 339 = .ok (.aload_n 0, 1) := by decide +kernel
theorem dX12_readLine_340 : decode cX12_readLine 340 = .ok (.getfield 571, 3) := by decide +kernel
theorem dX12_readLine_343 : decode cX12_readLine 343 = .ok (.iastore, 1) := by decide +kernel
theorem dX12_readLine_344 : decode cX12_readLine 344 = .ok (.return_, 1) := by decide +kernel
theorem dX12_readTime_0 : decode cX12_readTime 0 = .ok (.aload_n 0, 1) := by decide +kernel
theorem dX12_readTime_1 : decode cX12_readTime 1 = .ok (.iconst 0, 1) := by decide +kernel
theorem dX12_readTime_2 : decode cX12_readTime 2 = .ok (.bipush 23, 2) := by decide +kernel
theorem dX12_readTime_4 : decode cX12_readTime 4 = .ok (.invokevirtual 574, 3) := by decide +kernel
theorem dX12_readTime_7 : decode cX12_readTime 7 = .ok (.istore_n 2, 1) := by decide +kernel
theorem dX12_readTime_8 : decode cX12_readTime 8 = .ok (.aload_n 0, 1) := by decide +kernel
theorem dX12_readTime_9 : decode cX12_readTime 9 = .ok (.bipush 58, 2) := by decide +kernel
theorem dX12_readTime_11 : decode cX12_readTime 11 = .ok (.invokevirtual 577, 3) := by decide +kernel
theorem dX12_readTime_14 : decode cX12_readTime 14 = .ok (.aload_n 0, 1) := by decide +kernel
theorem dX12_readTime_15 : decode cX12_readTime 15 = .ok (.iconst 0, 1) := by decide +kernel
theorem dX12_readTime_16 : decode cX12_readTime 16 = .ok (.bipush 59, 2) := by decide +kernel
theorem dX12_readTime_18 : decode cX12_readTime 18 = .ok (.invokevirtual 574, 3) := by decide +kernel
theorem dX12_readTime_21 : decode cX12_readTime 21 = .ok (.istore_n 3, 1) := by decide +kernel
theorem dX12_readTime_22 : decode cX12_readTime 22 = .ok (.aload_n 0, 1) := by decide +kernel
theorem dX12_readTime_23 : decode cX12_readTime 23 = .ok (.bipush 58, 2) := by decide +kernel
theorem dX12_readTime_25 : decode cX12_readTime 25 = .ok (.invokevirtual 577, 3) := by decide +kernel
theorem dX12_readTime_28 : decode cX12_readTime 28 = .ok (.aload_n 0, 1) := by decide +kernel
theorem dX12_readTime_29 : decode cX12_readTime 29 = .ok (.getfield 137, 3) := by decide +kernel
theorem dX12_readTime_32 : decode cX12_readTime 32 = .ok (.iload_n 1, 1) := by decide +kernel
theorem dX12_readTime_33 : decode cX12_readTime 33 = .ok (.sipush 3600, 3) := by decide +kernel
theorem dX12_readTime_36 : decode cX12_readTime 36 = .ok (.iload_n 2, 1) := by decide +kernel
theorem dX12_readTime_37 : decode cX12_readTime 37 = .ok (.imul, 1) := by decide +kernel
theorem dX12_readTime_38 : decode cX12_readTime 38 = .ok (.bipush 60, 2) := by decide +kernel
theorem dX12_readTime_40 : decode cX12_readTime 40 = .ok (.iload_n 3, 1) := by decide +kernel
theorem dX12_readTime_41 : decode cX12_readTime 41 = .ok (.imul, 1) := by decide +kernel
theorem dX12_readTime_42 : decode cX12_readTime 42 = .ok (.iadd, 1) := by decide +kernel
theorem dX12_readTime_43 : decode cX12_readTime 43 = .ok (.aload_n 0, 1) := by decide +kernel
theorem dX12_readTime_44 : decode cX12_readTime 44 = .ok (.iconst 0, 1) := by decide +kernel
theorem dX12_readTime_45 : decode cX12_readTime 45 = .ok (.bipush 59, 2) := by decide +kernel
theorem dX12_readTime_47 : decode cX12_readTime 47 = .ok (.invokevirtual 574, 3) := by decide +kernel
theorem dX12_readTime_50 : decode cX12_readTime 50 = .ok (.iadd, 1) := by decide +kernel
theorem dX12_readTime_51 : decode cX12_readTime 51 = .ok (.iastore, 1) := by decide +kernel
theorem dX12_readTime_52 : decode cX12_readTime 52 = .ok (.return_, 1) := by decide +kernel
theorem dX12_readHow_0 : decode cX12_readHow 0 = .ok (.aload_n 0, 1) := by decide +kernel
theorem dX12_readHow_1 : decode cX12_readHow 1 = .ok (.bipush 114, 2) := by decide +kernel
theorem dX12_readHow_3 : decode cX12_readHow 3 = .ok (.bipush 101, 2) := by decide +kernel
theorem dX12_readHow_5 : decode cX12_readHow 5 = .ok (.bipush 102, 2) := by decide +kernel
theorem dX12_readHow_7 : decode cX12_readHow 7 = .ok (.bipush 117, 2) := by decide +kernel
theorem dX12_readHow_9 : decode cX12_readHow 9 = .ok (.bipush 115, 2) := by decide +kernel
theorem dX12_readHow_11 : decode cX12_readHow 11 = .ok (.bipush 101, 2) := by decide +kernel
theorem dX12_readHow_13 : decode cX12_readHow 13 = .ok (.invokestatic 393, 3) := by decide +kernel
theorem dX12_readHow_16 : decode cX12_readHow 16 = .ok (.invokevirtual 397, 3) := by decide +kernel
theorem dX12_readHow_19 : decode cX12_readHow 19 = .ok (.ifCond .eq 7, 3) := by decide +kernel
theorem dX12_readHow_22 : decode cX12_readHow 22 = .ok (.iconst 0, 1) := by decide +kernel
theorem dX12_readHow_23 : decode cX12_readHow 23 = .ok (.goto 52, 3) := by decide +kernel
theorem dX12_readHow_26 : decode cX12_readHow 26 = .ok (.aload_n 0, 1) := by decide +kernel
theorem dX12_readHow_27 : decode cX12_readHow 27 = .ok (.bipush 102, 2) := by decide +kernel
theorem dX12_readHow_29 : decode cX12_readHow 29 = .ok (.bipush 111, 2) := by decide +kernel
theorem dX12_readHow_31 : decode cX12_readHow 31 = .ok (.bipush 108, 2) := by decide +kernel
theorem dX12_readHow_33 : decode cX12_readHow 33 = .ok (.bipush 100, 2) := by decide +kernel
theorem dX12_readHow_35 : decode cX12_readHow 35 = .ok (.iconst 0, 1) := by decide +kernel
theorem dX12_readHow_36 : decode cX12_readHow 36 = .ok (.iconst 0, 1) := by decide +kernel
theorem dX12_readHow_37 : decode cX12_readHow 37 = .ok (.invokestatic 393, 3) := by decide +kernel
theorem dX12_readHow_40 : decode cX12_readHow 40 = .ok (.invokevirtual 397, 3) := by decide +kernel
theorem dX12_readHow_43 : decode cX12_readHow 43 = .ok (.ifCond .eq 7, 3) := by decide +kernel
theorem dX12_readHow_46 : decode cX12_readHow 46 = .ok (.iconst 1, 1) := by decide +kernel
theorem dX12_readHow_47 : decode cX12_readHow 47 = .ok (.goto 28, 3) := by decide +kernel
theorem dX12_readHow_50 : decode cX12_readHow 50 = .ok (.aload_n 0, 1) := by decide +kernel
theorem dX12_readHow_51 : decode cX12_readHow 51 = .ok (.bipush 116, 2) := by decide +kernel
theorem dX12_readHow_53 : decode cX12_readHow 53 = .ok (.bipush 97, 2) := by decide +kernel
theorem dX12_readHow_55 : decode cX12_readHow 55 = .ok (.bipush 107, 2) := by decide +kernel
theorem dX12_readHow_57 : decode cX12_readHow 57 = .ok (.bipush 101, 2) := by decide +kernel
theorem dX12_readHow_59 : decode cX12_readHow 59 = .ok (.iconst 0, 1) := by decide +kernel
theorem dX12_readHow_60 : decode cX12_readHow 60 = .ok (.iconst 0, 1) := by decide +kernel
theorem dX12_readHow_61 : decode cX12_readHow 61 = .ok (.invokestatic 393, 3) := by decide +kernel
