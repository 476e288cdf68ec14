theorem dX0_init_0 : decode cX0_init 0 = .ok (.aload_n 0, 1) := by decide +kernel
theorem dX0_init_1 : decode cX0_init 1 = .ok (.invokespecial 3, 3) := by decide +kernel
theorem dX0_init_4 : decode cX0_init 4 = .ok (.aload_n 0, 1) := by decide +kernel
theorem dX0_init_5 : decode cX0_init 5 = .ok (.iload_n 3, 1) := by decide +kernel
theorem dX0_init_6 : decode cX0_init 6 = .ok (.aload_n 1, 1) := by decide +kernel
theorem dX0_init_7 : decode cX0_init 7 = .ok (.arraylength, 1) := by decide +kernel
theorem dX0_init_8 : decode cX0_init 8 = .ok (.aload_n 2, 1) := by decide +kernel
theorem dX0_init_9 : decode cX0_init 9 = .ok (.arraylength, 1) := by decide +kernel
theorem dX0_init_10 : decode cX0_init 10 = .ok (.invokestatic 9, 3) := by decide +kernel
theorem dX0_init_13 : decode cX0_init 13 = .ok (.invokestatic 9, 3) := by decide +kernel
theorem dX0_init_16 : decode cX0_init 16 = .ok (.putfield 15, 3) := by decide +kernel
theorem dX0_init_19 : decode cX0_init 19 = .ok (.aload_n 0, 1) := by decide +kernel
theorem dX0_init_20 : decode cX0_init 20 = .ok (.aload_n 0, 1) := by decide +kernel
theorem dX0_init_21 : decode cX0_init 21 = .ok (.getfield 15, 3) := by decide +kernel
theorem dX0_init_24 : decode cX0_init 24 = .ok (.newarray .long, 2) := by decide +kernel
theorem dX0_init_26 : decode cX0_init 26 = .ok (.putfield 21, 3) := by decide +kernel
theorem dX0_init_29 : decode cX0_init 29 = .ok (.aload_n 0, 1) := by decide +kernel
theorem dX0_init_30 : decode cX0_init 30 = .ok (.aload_n 0, 1) := by decide +kernel
theorem dX0_init_31 : decode cX0_init 31 = .ok (.getfield 15, 3) := by decide +kernel
theorem dX0_init_34 : decode cX0_init 34 = .ok (.newarray .long, 2) := by decide +kernel
theorem dX0_init_36 : decode cX0_init 36 = .ok (.putfield 25, 3) := by decide +kernel
theorem dX0_init_39 : decode cX0_init 39 = .ok (.aload_n 1, 1) := by decide +kernel
theorem dX0_init_40 : decode cX0_init 40 = .ok (.iconst 0, 1) := by decide +kernel
theorem dX0_init_41 : decode cX0_init 41 = .ok (.aload_n 0, 1) := by decide +kernel
theorem dX0_init_42 : decode cX0_init 42 = .ok (.getfield 21, 3) := by decide +kernel
theorem dX0_init_45 : decode cX0_init 45 = .ok (.iconst 0, 1) := by decide +kernel
theorem dX0_init_46 : decode cX0_init 46 = .ok (.aload_n 0, 1) := by decide +kernel
theorem dX0_init_47 : decode cX0_init 47 = .ok (.getfield 15, 3) := by decide +kernel
theorem dX0_init_50 : decode cX0_init 50 = .ok (.invokestatic 28, 3) := by decide +kernel
theorem dX0_init_53 : decode cX0_init 53 = .ok (.aload_n 2, 1) := by decide +kernel
theorem dX0_init_54 : decode cX0_init 54 = .ok (.iconst 0, 1) := by decide +kernel
theorem dX0_init_55 : decode cX0_init 55 = .ok (.aload_n 0, 1) := by decide +kernel
theorem dX0_init_56 : decode cX0_init 56 = .ok (.getfield 25, 3) := by decide +kernel
theorem dX0_init_59 : decode cX0_init 59 = .ok (.iconst 0, 1) := by decide +kernel
theorem dX0_init_60 : decode cX0_init 60 = .ok (.aload_n 0, 1) := by decide +kernel
theorem dX0_init_61 : decode cX0_init 61 = .ok (.getfield 15, 3) := by decide +kernel
theorem dX0_init_64 : decode cX0_init 64 = .ok (.invokestatic 28, 3) := by decide +kernel
theorem dX0_init_67 : decode cX0_init 67 = .ok (.return_, 1) := by decide +kernel
theorem dX0_agree_0 : decode cX0_agree 0 = .ok (.iconst 0, 1) := by decide +kernel
theorem dX0_agree_1 : decode cX0_agree 1 = .ok (.istore_n 1, 1) := by decide +kernel
theorem dX0_agree_2 : decode cX0_agree 2 = .ok (.iload_n 1, 1) := by decide +kernel
theorem dX0_agree_3 : decode cX0_agree 3 = .ok (.aload_n 0, 1) := by decide +kernel
theorem dX0_agree_4 : decode cX0_agree 4 = .ok (.getfield 15, 3) := by decide +kernel
theorem dX0_agree_7 : decode cX0_agree 7 = .ok (.if_icmp .ge 30, 3) := by decide +kernel
theorem dX0_agree_10 : decode cX0_agree 10 = .ok (.aload_n 0, 1) := by decide +kernel
theorem dX0_agree_11 : decode cX0_agree 11 = .ok (.aload_n 0, 1) := by decide +kernel
theorem dX0_agree_12 : decode cX0_agree 12 = .ok (.getfield 34, 3) := by decide +kernel
theorem dX0_agree_15 : decode cX0_agree 15 = .ok (.aload_n 0, 1) := by decide +kernel
theorem dX0_agree_16 : decode cX0_agree 16 = .ok (.aload_n 0, 1) := by decide +kernel
theorem dX0_agree_17 : decode cX0_agree 17 = .ok (.getfield 21, 3) := by decide +kernel
theorem dX0_agree_20 : decode cX0_agree 20 = .ok (.iload_n 1, 1) := by decide +kernel
theorem dX0_agree_21 : decode cX0_agree 21 = .ok (.laload, 1) := by decide +kernel
theorem dX0_agree_22 : decode cX0_agree 22 = .ok (.invokevirtual 37, 3) := by decide +kernel
theorem dX0_agree_25 : decode cX0_agree 25 = .ok (.invokestatic 41, 3) := by decide +kernel
theorem dX0_agree_28 : decode cX0_agree 28 = .ok (.putfield 34, 3) := by decide +kernel
theorem dX0_agree_31 : decode cX0_agree 31 = .ok (.iinc 1 1, 3) := by decide +kernel
theorem dX0_agree_34 : decode cX0_agree 34 = .ok (.goto (-32), 3) := by decide +kernel
theorem dX0_agree_37 : decode cX0_agree 37 = .ok (.aload_n 0, 1) := by decide +kernel
theorem dX0_agree_38 : decode cX0_agree 38 = .ok (.ldc2_w 44, 3) := by decide +kernel
theorem dX0_agree_41 : decode cX0_agree 41 = .ok (.putfield 46, 3) := by decide +kernel
theorem dX0_agree_44 : decode cX0_agree 44 = .ok (.aload_n 0, 1) := by decide +kernel
theorem dX0_agree_45 : decode cX0_agree 45 = .ok (.ldc2_w 50, 3) := by decide +kernel
theorem dX0_agree_48 : decode cX0_agree 48 = .ok (.putfield 52, 3) := by decide +kernel
theorem dX0_agree_51 : decode cX0_agree 51 = .ok (.iconst 0, 1) := by decide +kernel
theorem dX0_agree_52 : decode cX0_agree 52 = .ok (.istore_n 1, 1) := by decide +kernel
theorem dX0_agree_53 : decode cX0_agree 53 = .ok (.iload_n 1, 1) := by decide +kernel
theorem dX0_agree_54 : decode cX0_agree 54 = .ok (.aload_n 0, 1) := by decide +kernel
theorem dX0_agree_55 : decode cX0_agree 55 = .ok (.getfield 15, 3) := by decide +kernel
theorem dX0_agree_58 : decode cX0_agree 58 = .ok (.if_icmp .ge 77, 3) := by decide +kernel
theorem dX0_agree_61 : decode cX0_agree 61 = .ok (.aload_n 0, 1) := by decide +kernel
theorem dX0_agree_62 : decode cX0_agree 62 = .ok (.aload_n 0, 1) := by decide +kernel
theorem dX0_agree_63 : decode cX0_agree 63 = .ok (.getfield 21, 3) := by decide +kernel
theorem dX0_agree_66 : decode cX0_agree 66 = .ok (.iload_n 1, 1) := by decide +kernel
theorem dX0_agree_67 : decode cX0_agree 67 = .ok (.laload, 1) := by decide +kernel
theorem dX0_agree_68 : decode cX0_agree 68 = .ok (.invokevirtual 37, 3) := by decide +kernel
theorem dX0_agree_71 : decode cX0_agree 71 = .ok (.aload_n 0, 1) := by decide +kernel
theorem dX0_agree_72 : decode cX0_agree 72 = .ok (.getfield 34, 3) := by decide +kernel
theorem dX0_agree_75 : decode cX0_agree 75 = .ok (.if_icmp .ne 20, 3) := by decide +kernel
theorem dX0_agree_78 : decode cX0_agree 78 = .ok (.aload_n 0, 1) := by decide +kernel
theorem dX0_agree_79 : decode cX0_agree 79 = .ok (.aload_n 0, 1) := by decide +kernel
theorem dX0_agree_80 : decode cX0_agree 80 = .ok (.getfield 46, 3) := by decide +kernel
theorem dX0_agree_83 : decode cX0_agree 83 = .ok (.aload_n 0, 1) := by decide +kernel
theorem dX0_agree_84 : decode cX0_agree 84 = .ok (.getfield 21, 3) := by decide +kernel
theorem dX0_agree_87 : decode cX0_agree 87 = .ok (.iload_n 1, 1) := by decide +kernel
theorem dX0_agree_88 : decode cX0_agree 88 = .ok (.laload, 1) := by decide +kernel
theorem dX0_agree_89 : decode cX0_agree 89 = .ok (.invokestatic 55, 3) := by decide +kernel
theorem dX0_agree_92 : decode cX0_agree 92 = .ok (.putfield 46, 3) := by decide +kernel
theorem dX0_agree_95 : decode cX0_agree 95 = .ok (.aload_n 0, 1) := by decide +kernel
theorem dX0_agree_96 : decode cX0_agree 96 = .ok (.aload_n 0, 1) := by decide +kernel
theorem dX0_agree_97 : decode cX0_agree 97 = .ok (.getfield 25, 3) := by decide +kernel
theorem dX0_agree_100 : decode cX0_agree 100 = .ok (.iload_n 1, 1) := by decide +kernel
theorem dX0_agree_101 : decode cX0_agree 101 = .ok (.laload, 1) := by decide +kernel
theorem dX0_agree_102 : decode cX0_agree 102 = .ok (.invokevirtual 37, 3) := by decide +kernel
theorem dX0_agree_105 : decode cX0_agree 105 = .ok (.aload_n 0, 1) := by decide +kernel
theorem dX0_agree_106 : decode cX0_agree 106 = .ok (.getfield 34, 3) := by decide +kernel
theorem dX0_agree_109 : decode cX0_agree 109 = .ok (.if_icmp .ne 20, 3) := by decide +kernel
theorem dX0_agree_112 : decode cX0_agree 112 = .ok (.aload_n 0, 1) := by decide +kernel
theorem dX0_agree_113 : decode cX0_agree 113 = .ok (.aload_n 0, 1) := by decide +kernel
theorem dX0_agree_114 : decode cX0_agree 114 = .ok (.getfield 52, 3) := by decide +kernel
theorem dX0_agree_117 : decode cX0_agree 117 = .ok (.aload_n 0, 1) := by decide +kernel
theorem dX0_agree_118 : decode cX0_agree 118 = .ok (.getfield 25, 3) := by decide +kernel
theorem dX0_agree_121 : decode cX0_agree 121 = .ok (.iload_n 1, 1) := by decide +kernel
theorem dX0_agree_122 : decode cX0_agree 122 = .ok (.laload, 1) := by decide +kernel
theorem dX0_agree_123 : decode cX0_agree 123 = .ok (.invokestatic 58, 3) := by decide +kernel
theorem dX0_agree_126 : decode cX0_agree 126 = .ok (.putfield 52, 3) := by decide +kernel
theorem dX0_agree_129 : decode cX0_agree 129 = .ok (.iinc 1 1, 3) := by decide +kernel
theorem dX0_agree_132 : decode cX0_agree 132 = .ok (.goto (-79), 3) := by decide +kernel
theorem dX0_agree_135 : decode cX0_agree 135 = .ok (.return_, 1) := by decide +kernel
theorem dX0_isLie_0 : decode cX0_isLie 0 = .ok (.iconst 0, 1) := by decide +kernel
theorem dX0_isLie_1 : decode cX0_isLie 1 = .ok (.istore_n 2, 1) := by decide +kernel
theorem dX0_isLie_2 : decode cX0_isLie 2 = .ok (.iload_n 2, 1) := by decide +kernel
theorem dX0_isLie_3 : decode cX0_isLie 3 = .ok (.aload_n 0, 1) := by decide +kernel
theorem dX0_isLie_4 : decode cX0_isLie 4 = .ok (.getfield 15, 3) := by decide +kernel
theorem dX0_isLie_7 : decode cX0_isLie 7 = .ok (.if_icmp .ge 42, 3) := by decide +kernel
theorem dX0_isLie_10 : decode cX0_isLie 10 = .ok (.aload_n 0, 1) := by decide +kernel
theorem dX0_isLie_11 : decode cX0_isLie 11 = .ok (.iload_n 1, 1) := by decide +kernel
theorem dX0_isLie_12 : decode cX0_isLie 12 = .ok (.aload_n 0, 1) := by decide +kernel
theorem dX0_isLie_13 : decode cX0_isLie 13 = .ok (.getfield 21, 3) := by decide +kernel
theorem dX0_isLie_16 : decode cX0_isLie 16 = .ok (.iload_n 2, 1) := by decide +kernel
theorem dX0_isLie_17 : decode cX0_isLie 17 = .ok (.laload, 1) := by decide +kernel
theorem dX0_isLie_18 : decode cX0_isLie 18 = .ok (.invokevirtual 60, 3) := by decide +kernel
theorem dX0_isLie_21 : decode cX0_isLie 21 = .ok (.ifCond .eq 22, 3) := by decide +kernel
theorem dX0_isLie_24 : decode cX0_isLie 24 = .ok (.aload_n 0, 1) := by decide +kernel
theorem dX0_isLie_25 : decode cX0_isLie 25 = .ok (.aload_n 0, 1) := by decide +kernel
theorem dX0_isLie_26 : decode cX0_isLie 26 = .ok (.getfield 21, 3) := by decide +kernel
theorem dX0_isLie_29 : decode cX0_isLie 29 = .ok (.iload_n 2, 1) := by decide +kernel
theorem dX0_isLie_30 : decode cX0_isLie 30 = .ok (.laload, 1) := by decide +kernel
theorem dX0_isLie_31 : decode cX0_isLie 31 = .ok (.invokevirtual 37, 3) := by decide +kernel
theorem dX0_isLie_34 : decode cX0_isLie 34 = .ok (.aload_n 0, 1) := by decide +kernel
theorem dX0_isLie_35 : decode cX0_isLie 35 = .ok (.getfield 34, 3) := by decide +kernel
theorem dX0_isLie_38 : decode cX0_isLie 38 = .ok (.if_icmp .ne 5, 3) := by decide +kernel
theorem dX0_isLie_41 : decode cX0_isLie 41 = .ok (.iconst 0, 1) := by decide +kernel
theorem dX0_isLie_42 : decode cX0_isLie 42 = .ok (.ireturn, 1) := by decide +kernel
theorem dX0_isLie_43 : decode cX0_isLie 43 = .ok (.iinc 2 1, 3) := by decide +kernel
theorem dX0_isLie_46 : decode cX0_isLie 46 = .ok (.goto (-44), 3) := by decide +kernel
theorem dX0_isLie_49 : decode cX0_isLie 49 = .ok (.iconst 1, 1) := by decide +kernel
theorem dX0_isLie_50 : decode cX0_isLie 50 = .ok (.ireturn, 1) := by decide +kernel
theorem dX0_manyWith_0 : decode cX0_manyWith 0 = .ok (.iconst 0, 1) := by decide +kernel
theorem dX0_manyWith_1 : decode cX0_manyWith 1 = .ok (.istore_n 3, 1) := by decide +kernel
theorem dX0_manyWith_2 : decode cX0_manyWith 2 = .ok (.iconst 0, 1) := by decide +kernel
theorem dX0_manyWith_3 : decode cX0_manyWith 3 = .ok (.istore 4, 2) := by decide +kernel
theorem dX0_manyWith_5 : decode cX0_manyWith 5 = .ok (.iload 4, 2) := by decide +kernel
theorem dX0_manyWith_7 : decode cX0_manyWith 7 = .ok (.aload_n 0, 1) := by decide +kernel
theorem dX0_manyWith_8 : decode cX0_manyWith 8 = .ok (.getfield 15, 3) := by decide +kernel
theorem dX0_manyWith_11 : decode cX0_manyWith 11 = .ok (.if_icmp .ge 22, 3) := by decide +kernel
theorem dX0_manyWith_14 : decode cX0_manyWith 14 = .ok (.aload_n 0, 1) := by decide +kernel
theorem dX0_manyWith_15 : decode cX0_manyWith 15 = .ok (.iload 4, 2) := by decide +kernel
theorem dX0_manyWith_17 : decode cX0_manyWith 17 = .ok (.lload_n 1, 1) := by decide +kernel
theorem dX0_manyWith_18 : decode cX0_manyWith 18 = .ok (.invokevirtual 60, 3) := by decide +kernel
theorem dX0_manyWith_21 : decode cX0_manyWith 21 = .ok (.ifCond .eq 6, 3) := by decide +kernel
theorem dX0_manyWith_24 : decode cX0_manyWith 24 = .ok (.iinc 3 1, 3) := by decide +kernel
theorem dX0_manyWith_27 : decode cX0_manyWith 27 = .ok (.iinc 4 1, 3) := by decide +kernel
theorem dX0_manyWith_30 : decode cX0_manyWith 30 = .ok (.goto (-25), 3) := by decide +kernel
theorem dX0_manyWith_33 : decode cX0_manyWith 33 = .ok (.iload_n 3, 1) := by decide +kernel
theorem dX0_manyWith_34 : decode cX0_manyWith 34 = .ok (.ireturn, 1) := by decide +kernel
theorem dX0_isIn_0 : decode cX0_isIn 0 = .ok (.aload_n 0, 1) := by decide +kernel
theorem dX0_isIn_1 : decode cX0_isIn 1 = .ok (.getfield 21, 3) := by decide +kernel
theorem dX0_isIn_4 : decode cX0_isIn 4 = .ok (.iload_n 1, 1) := by decide +kernel
theorem dX0_isIn_5 : decode cX0_isIn 5 = .ok (.laload, 1) := by decide +kernel
theorem dX0_isIn_6 : decode cX0_isIn 6 = .ok (.lload_n 2, 1) := by decide +kernel
theorem dX0_isIn_7 : decode cX0_isIn 7 = .ok (.lcmp, 1) := by decide +kernel
theorem dX0_isIn_8 : decode cX0_isIn 8 = .ok (.ifCond .gt 18, 3) := by decide +kernel
theorem dX0_isIn_11 : decode cX0_isIn 11 = .ok (.lload_n 2, 1) := by decide +kernel
theorem dX0_isIn_12 : decode cX0_isIn 12 = .ok (.aload_n 0, 1) := by decide +kernel
theorem dX0_isIn_13 : decode cX0_isIn 13 = .ok (.getfield 25, 3) := by decide +kernel
theorem dX0_isIn_16 : decode cX0_isIn 16 = .ok (.iload_n 1, 1) := by decide +kernel
theorem dX0_isIn_17 : decode cX0_isIn 17 = .ok (.laload, 1) := by decide +kernel
theorem dX0_isIn_18 : decode cX0_isIn 18 = .ok (.lcmp, 1) := by decide +kernel
theorem dX0_isIn_19 : decode cX0_isIn 19 = .ok (.ifCond .gt 7, 3) := by decide +kernel
theorem dX0_isIn_22 : decode cX0_isIn 22 = .ok (.iconst 1, 1) := by decide +kernel
theorem dX0_isIn_23 : decode cX0_isIn 23 = .ok (.goto 4, 3) := by decide +kernel
theorem dX0_isIn_26 : decode cX0_isIn 26 = .ok (.iconst 0, 1) := by decide +kernel
theorem dX0_isIn_27 : decode cX0_isIn 27 = .ok (.ireturn, 1) := by decide +kernel
theorem dX1_init_0 : decode cX1_init 0 = .ok (.aload_n 0, 1) := by decide +kernel
theorem dX1_init_1 : decode cX1_init 1 = .ok (.invokespecial 3, 3) := by decide +kernel
theorem dX1_init_4 : decode cX1_init 4 = .ok (.aload_n 0, 1) := by decide +kernel
theorem dX1_init_5 : decode cX1_init 5 = .ok (.iload_n 1, 1) := by decide +kernel
theorem dX1_init_6 : decode cX1_init 6 = .ok (.putfield 9, 3) := by decide +kernel
theorem dX1_init_9 : decode cX1_init 9 = .ok (.aload_n 0, 1) := by decide +kernel
theorem dX1_init_10 : decode cX1_init 10 = .ok (.new 15, 3) := by decide +kernel
theorem dX1_init_13 : decode cX1_init 13 = .ok (.dup, 1) := by decide +kernel
theorem dX1_init_14 : decode cX1_init 14 = .ok (.bipush 60, 2) := by decide +kernel
theorem dX1_init_16 : decode cX1_init 16 = .ok (.invokespecial 17, 3) := by decide +kernel
theorem dX1_init_19 : decode cX1_init 19 = .ok (.putfield 20, 3) := by decide +kernel
theorem dX1_init_22 : decode cX1_init 22 = .ok (.aload_n 0, 1) := by decide +kernel
theorem dX1_init_23 : decode cX1_init 23 = .ok (.bipush 60, 2) := by decide +kernel
theorem dX1_init_25 : decode cX1_init 25 = .ok (.newarray .int, 2) := by decide +kernel
theorem dX1_init_27 : decode cX1_init 27 = .ok (.putfield 24, 3) := by decide +kernel
theorem dX1_init_30 : decode cX1_init 30 = .ok (.aload_n 0, 1) := by decide +kernel
theorem dX1_init_31 : decode cX1_init 31 = .ok (.bipush 60, 2) := by decide +kernel
theorem dX1_init_33 : decode cX1_init 33 = .ok (.newarray .int, 2) := by decide +kernel
theorem dX1_init_35 : decode cX1_init 35 = .ok (.putfield 28, 3) := by decide +kernel
theorem dX1_init_38 : decode cX1_init 38 = .ok (.return_, 1) := by decide +kernel
theorem dX1_addStep_0 : decode cX1_addStep 0 = .ok (.aload_n 0, 1) := by decide +kernel
theorem dX1_addStep_1 : decode cX1_addStep 1 = .ok (.getfield 31, 3) := by decide +kernel
theorem dX1_addStep_4 : decode cX1_addStep 4 = .ok (.bipush 60, 2) := by decide +kernel
theorem dX1_addStep_6 : decode cX1_addStep 6 = .ok (.if_icmp .lt 4, 3) := by decide +kernel
theorem dX1_addStep_9 : decode cX1_addStep 9 = .ok (.return_, 1) := by decide +kernel
theorem dX1_addStep_10 : decode cX1_addStep 10 = .ok (.aload_n 0, 1) := by decide +kernel
theorem dX1_addStep_11 : decode cX1_addStep 11 = .ok (.getfield 31, 3) := by decide +kernel
theorem dX1_addStep_14 : decode cX1_addStep 14 = .ok (.istore_n 2, 1) := by decide +kernel
theorem dX1_addStep_15 : decode cX1_addStep 15 = .ok (.iload_n 2, 1) := by decide +kernel
theorem dX1_addStep_16 : decode cX1_addStep 16 = .ok (.ifCond .le 35, 3) := by decide +kernel
theorem dX1_addStep_19 : decode cX1_addStep 19 = .ok (.aload_n 0, 1) := by decide +kernel
theorem dX1_addStep_20 : decode cX1_addStep 20 = .ok (.getfield 24, 3) := by decide +kernel
theorem dX1_addStep_23 : decode cX1_addStep 23 = .ok (.iload_n 2, 1) := by decide +kernel
theorem dX1_addStep_24 : decode cX1_addStep 24 = .ok (.iconst 1, 1) := by decide +kernel
theorem dX1_addStep_25 : decode cX1_addStep 25 = .ok (.isub, 1) := by decide +kernel
theorem dX1_addStep_26 : decode cX1_addStep 26 = .ok (.iaload, 1) := by decide +kernel
theorem dX1_addStep_27 : decode cX1_addStep 27 = .ok (.iload_n 1, 1) := by decide +kernel
theorem dX1_addStep_28 : decode cX1_addStep 28 = .ok (.if_icmp .le 23, 3) := by decide +kernel
theorem dX1_addStep_31 : decode cX1_addStep 31 = .ok (.aload_n 0, 1) := by decide +kernel
theorem dX1_addStep_32 : decode cX1_addStep 32 = .ok (.getfield 24, 3) := by decide +kernel
theorem dX1_addStep_35 : decode cX1_addStep 35 = .ok (.iload_n 2, 1) := by decide +kernel
theorem dX1_addStep_36 : decode cX1_addStep 36 = .ok (.aload_n 0, 1) := by decide +kernel
theorem dX1_addStep_37 : decode cX1_addStep 37 = .ok (.getfield 24, 3) := by decide +kernel
theorem dX1_addStep_40 : decode cX1_addStep 40 = .ok (.iload_n 2, 1) := by decide +kernel
theorem dX1_addStep_41 : decode cX1_addStep 41 = .ok (.iconst 1, 1) := by decide +kernel
theorem dX1_addStep_42 : decode cX1_addStep 42 = .ok (.isub, 1) := by decide +kernel
theorem dX1_addStep_43 : decode cX1_addStep 43 = .ok (.iaload, 1) := by decide +kernel
theorem dX1_addStep_44 : decode cX1_addStep 44 = .ok (.iastore, 1) := by decide +kernel
theorem dX1_addStep_45 : decode cX1_addStep 45 = .ok (.iinc 2 (-1), 3) := by decide +kernel
theorem dX1_addStep_48 : decode cX1_addStep 48 = .ok (.goto (-33), 3) := by decide +kernel
theorem dX1_addStep_51 : decode cX1_addStep 51 = .ok (.aload_n 0, 1) := by decide +kernel
theorem dX1_addStep_52 : decode cX1_addStep 52 = .ok (.getfield 24, 3) := by decide +kernel
theorem dX1_addStep_55 : decode cX1_addStep 55 = .ok (.iload_n 2, 1) := by decide +kernel
theorem dX1_addStep_56 : decode cX1_addStep 56 = .ok (.iload_n 1, 1) := by decide +kernel
theorem dX1_addStep_57 : decode cX1_addStep 57 = .ok (.iastore, 1) := by decide +kernel
theorem dX1_addStep_58 : decode cX1_addStep 58 = .ok (.aload_n 0, 1) := by decide +kernel
theorem dX1_addStep_59 : decode cX1_addStep 59 = .ok (.dup, 1) := by decide +kernel
theorem dX1_addStep_60 : decode cX1_addStep 60 = .ok (.getfield 31, 3) := by decide +kernel
theorem dX1_addStep_63 : decode cX1_addStep 63 = .ok (.iconst 1, 1) := by decide +kernel
theorem dX1_addStep_64 : decode cX1_addStep 64 = .ok (.iadd, 1) := by decide +kernel
theorem dX1_addStep_65 : decode cX1_addStep 65 = .ok (.putfield 31, 3) := by decide +kernel
theorem dX1_addStep_68 : decode cX1_addStep 68 = .ok (.return_, 1) := by decide +kernel
theorem dX1_reckonSteps_0 : decode cX1_reckonSteps 0 = .ok (.iconst 0, 1) := by decide +kernel
theorem dX1_reckonSteps_1 : decode cX1_reckonSteps 1 = .ok (.istore_n 2, 1) := by decide +kernel
theorem dX1_reckonSteps_2 : decode cX1_reckonSteps 2 = .ok (.iload_n 2, 1) := by decide +kernel
theorem dX1_reckonSteps_3 : decode cX1_reckonSteps 3 = .ok (.aload_n 0, 1) := by decide +kernel
theorem dX1_reckonSteps_4 : decode cX1_reckonSteps 4 = .ok (.getfield 31, 3) := by decide +kernel
theorem dX1_reckonSteps_7 : decode cX1_reckonSteps 7 = .ok (.if_icmp .ge 50, 3) := by decide +kernel
theorem dX1_reckonSteps_10 : decode cX1_reckonSteps 10 = .ok (.aload_n 1, 1) := by decide +kernel
theorem dX1_reckonSteps_11 : decode cX1_reckonSteps 11 = .ok (.aload_n 0, 1) := by decide +kernel
theorem dX1_reckonSteps_12 : decode cX1_reckonSteps 12 = .ok (.getfield 24, 3) := by decide +kernel
theorem dX1_reckonSteps_15 : decode cX1_reckonSteps 15 = .ok (.iload_n 2, 1) := by decide +kernel
theorem dX1_reckonSteps_16 : decode cX1_reckonSteps 16 = .ok (.iaload, 1) := by decide +kernel
theorem dX1_reckonSteps_17 : decode cX1_reckonSteps 17 = .ok (.i2l, 1) := by decide +kernel
theorem dX1_reckonSteps_18 : decode cX1_reckonSteps 18 = .ok (.invokevirtual 34, 3) := by decide +kernel
theorem dX1_reckonSteps_21 : decode cX1_reckonSteps 21 = .ok (.aload_n 0, 1) := by decide +kernel
theorem dX1_reckonSteps_22 : decode cX1_reckonSteps 22 = .ok (.getfield 28, 3) := by decide +kernel
theorem dX1_reckonSteps_25 : decode cX1_reckonSteps 25 = .ok (.iload_n 2, 1) := by decide +kernel
theorem dX1_reckonSteps_26 : decode cX1_reckonSteps 26 = .ok (.aload_n 0, 1) := by decide +kernel
theorem dX1_reckonSteps_27 : decode cX1_reckonSteps 27 = .ok (.getfield 20, 3) := by decide +kernel
theorem dX1_reckonSteps_30 : decode cX1_reckonSteps 30 = .ok (.aload_n 1, 1) := by decide +kernel
theorem dX1_reckonSteps_31 : decode cX1_reckonSteps 31 = .ok (.getfield 38, 3) := by decide +kernel
theorem dX1_reckonSteps_34 : decode cX1_reckonSteps 34 = .ok (.aload_n 1, 1) := by decide +kernel
theorem dX1_reckonSteps_35 : decode cX1_reckonSteps 35 = .ok (.getfield 41, 3) := by decide +kernel
theorem dX1_reckonSteps_38 : decode cX1_reckonSteps 38 = .ok (.invokevirtual 44, 3) := by decide +kernel
theorem dX1_reckonSteps_41 : decode cX1_reckonSteps 41 = .ok (.aload_n 0, 1) := by decide +kernel
theorem dX1_reckonSteps_42 : decode cX1_reckonSteps 42 = .ok (.getfield 24, 3) := by decide +kernel
theorem dX1_reckonSteps_45 : decode cX1_reckonSteps 45 = .ok (.iload_n 2, 1) := by decide +kernel
theorem dX1_reckonSteps_46 : decode cX1_reckonSteps 46 = .ok (.iaload, 1) := by decide +kernel
theorem dX1_reckonSteps_47 : decode cX1_reckonSteps 47 = .ok (.i2l, 1) := by decide +kernel
theorem dX1_reckonSteps_48 : decode cX1_reckonSteps 48 = .ok (.lsub, 1) := by decide +kernel
theorem dX1_reckonSteps_49 : decode cX1_reckonSteps 49 = .ok (.l2i, 1) := by decide +kernel
theorem dX1_reckonSteps_50 : decode cX1_reckonSteps 50 = .ok (.iastore, 1) := by decide +kernel
theorem dX1_reckonSteps_51 : decode cX1_reckonSteps 51 = .ok (.iinc 2 1, 3) := by decide +kernel
theorem dX1_reckonSteps_54 : decode cX1_reckonSteps 54 = .ok (.goto (-52), 3) := by decide +kernel
theorem dX1_reckonSteps_57 : decode cX1_reckonSteps 57 = .ok (.return_, 1) := by decide +kernel
theorem dX1_leadAt_0 : decode cX1_leadAt 0 = .ok (.iconst 0, 1) := by decide +kernel
theorem dX1_leadAt_1 : decode cX1_leadAt 1 = .ok (.istore_n 2, 1) := by decide +kernel
theorem dX1_leadAt_2 : decode cX1_leadAt 2 = .ok (.iconst 0, 1) := by decide +kernel
theorem dX1_leadAt_3 : decode cX1_leadAt 3 = .ok (.istore_n 3, 1) := by decide +kernel
theorem dX1_leadAt_4 : decode cX1_leadAt 4 = .ok (.iload_n 3, 1) := by decide +kernel
theorem dX1_leadAt_5 : decode cX1_leadAt 5 = .ok (.aload_n 0, 1) := by decide +kernel
theorem dX1_leadAt_6 : decode cX1_leadAt 6 = .ok (.getfield 31, 3) := by decide +kernel
theorem dX1_leadAt_9 : decode cX1_leadAt 9 = .ok (.if_icmp .ge 26, 3) := by decide +kernel
theorem dX1_leadAt_12 : decode cX1_leadAt 12 = .ok (.aload_n 0, 1) := by decide +kernel
theorem dX1_leadAt_13 : decode cX1_leadAt 13 = .ok (.getfield 24, 3) := by decide +kernel
theorem dX1_leadAt_16 : decode cX1_leadAt 16 = .ok (.iload_n 3, 1) := by decide +kernel
theorem dX1_leadAt_17 : decode cX1_leadAt 17 = .ok (.iaload, 1) := by decide +kernel
theorem dX1_leadAt_18 : decode cX1_leadAt 18 = .ok (.iload_n 1, 1) := by decide +kernel
theorem dX1_leadAt_19 : decode cX1_leadAt 19 = .ok (.if_icmp .gt 16, 3) := by decide +kernel
theorem dX1_leadAt_22 : decode cX1_leadAt 22 = .ok (.aload_n 0, 1) := by decide +kernel
theorem dX1_leadAt_23 : decode cX1_leadAt 23 = .ok (.getfield 28, 3) := by decide +kernel
theorem dX1_leadAt_26 : decode cX1_leadAt 26 = .ok (.iload_n 3, 1) := by decide +kernel
theorem dX1_leadAt_27 : decode cX1_leadAt 27 = .ok (.iaload, 1) := by decide +kernel
theorem dX1_leadAt_28 : decode cX1_leadAt 28 = .ok (.istore_n 2, 1) := by decide +kernel
theorem dX1_leadAt_29 : decode cX1_leadAt 29 = .ok (.iinc 3 1, 3) := by decide +kernel
theorem dX1_leadAt_32 : decode cX1_leadAt 32 = .ok (.goto (-28), 3) := by decide +kernel
theorem dX1_leadAt_35 : decode cX1_leadAt 35 = .ok (.iload_n 2, 1) := by decide +kernel
theorem dX1_leadAt_36 : decode cX1_leadAt 36 = .ok (.ireturn, 1) := by decide +kernel
theorem dX1_shownAt_0 : decode cX1_shownAt 0 = .ok (.aload_n 0, 1) := by decide +kernel
theorem dX1_shownAt_1 : decode cX1_shownAt 1 = .ok (.getfield 20, 3) := by decide +kernel
theorem dX1_shownAt_4 : decode cX1_shownAt 4 = .ok (.iconst 0, 1) := by decide +kernel
theorem dX1_shownAt_5 : decode cX1_shownAt 5 = .ok (.iload_n 1, 1) := by decide +kernel
theorem dX1_shownAt_6 : decode cX1_shownAt 6 = .ok (.aload_n 0, 1) := by decide +kernel
theorem dX1_shownAt_7 : decode cX1_shownAt 7 = .ok (.iload_n 1, 1) := by decide +kernel
theorem dX1_shownAt_8 : decode cX1_shownAt 8 = .ok (.invokevirtual 48, 3) := by decide +kernel
theorem dX1_shownAt_11 : decode cX1_shownAt 11 = .ok (.iadd, 1) := by decide +kernel
theorem dX1_shownAt_12 : decode cX1_shownAt 12 = .ok (.invokestatic 52, 3) := by decide +kernel
theorem dX1_shownAt_15 : decode cX1_shownAt 15 = .ok (.i2l, 1) := by decide +kernel
theorem dX1_shownAt_16 : decode cX1_shownAt 16 = .ok (.invokevirtual 34, 3) := by decide +kernel
theorem dX1_shownAt_19 : decode cX1_shownAt 19 = .ok (.ldc2_w 58, 3) := by decide +kernel
theorem dX1_shownAt_22 : decode cX1_shownAt 22 = .ok (.aload_n 0, 1) := by decide +kernel
theorem dX1_shownAt_23 : decode cX1_shownAt 23 = .ok (.getfield 20, 3) := by decide +kernel
theorem dX1_shownAt_26 : decode cX1_shownAt 26 = .ok (.getfield 38, 3) := by decide +kernel
theorem dX1_shownAt_29 : decode cX1_shownAt 29 = .ok (.i2l, 1) := by decide +kernel
theorem dX1_shownAt_30 : decode cX1_shownAt 30 = .ok (.lmul, 1) := by decide +kernel
theorem dX1_shownAt_31 : decode cX1_shownAt 31 = .ok (.aload_n 0, 1) := by decide +kernel
theorem dX1_shownAt_32 : decode cX1_shownAt 32 = .ok (.getfield 9, 3) := by decide +kernel
theorem dX1_shownAt_35 : decode cX1_shownAt 35 = .ok (.aload_n 0, 1) := by decide +kernel
theorem dX1_shownAt_36 : decode cX1_shownAt 36 = .ok (.getfield 20, 3) := by decide +kernel
theorem dX1_shownAt_39 : decode cX1_shownAt 39 = .ok (.getfield 41, 3) := by decide +kernel
theorem dX1_shownAt_42 : decode cX1_shownAt 42 = .ok (.aload_n 0, 1) := by decide +kernel
theorem dX1_shownAt_43 : decode cX1_shownAt 43 = .ok (.getfield 20, 3) := by decide +kernel
theorem dX1_shownAt_46 : decode cX1_shownAt 46 = .ok (.getfield 60, 3) := by decide +kernel
theorem dX1_shownAt_49 : decode cX1_shownAt 49 = .ok (.invokestatic 63, 3) := by decide +kernel
theorem dX1_shownAt_52 : decode cX1_shownAt 52 = .ok (.ladd, 1) := by decide +kernel
theorem dX1_shownAt_53 : decode cX1_shownAt 53 = .ok (.lreturn, 1) := by decide +kernel
theorem dX2_init_0 : decode cX2_init 0 = .ok (.aload_n 0, 1) := by decide +kernel
theorem dX2_init_1 : decode cX2_init 1 = .ok (.invokespecial 3, 3) := by decide +kernel
theorem dX2_init_4 : decode cX2_init 4 = .ok (.aload_n 0, 1) := by decide +kernel
theorem dX2_init_5 : decode cX2_init 5 = .ok (.iload_n 1, 1) := by decide +kernel
theorem dX2_init_6 : decode cX2_init 6 = .ok (.putfield 9, 3) := by decide +kernel
theorem dX2_init_9 : decode cX2_init 9 = .ok (.aload_n 0, 1) := by decide +kernel
theorem dX2_init_10 : decode cX2_init 10 = .ok (.iload_n 2, 1) := by decide +kernel
theorem dX2_init_11 : decode cX2_init 11 = .ok (.putfield 15, 3) := by decide +kernel
theorem dX2_init_14 : decode cX2_init 14 = .ok (.aload_n 0, 1) := by decide +kernel
theorem dX2_init_15 : decode cX2_init 15 = .ok (.iload_n 3, 1) := by decide +kernel
theorem dX2_init_16 : decode cX2_init 16 = .ok (.putfield 18, 3) := by decide +kernel
theorem dX2_init_19 : decode cX2_init 19 = .ok (.return_, 1) := by decide +kernel
theorem dX2_localOf_0 : decode cX2_localOf 0 = .ok (.aload_n 0, 1) := by decide +kernel
theorem dX2_localOf_1 : decode cX2_localOf 1 = .ok (.iload_n 1, 1) := by decide +kernel
theorem dX2_localOf_2 : decode cX2_localOf 2 = .ok (.invokevirtual 21, 3) := by decide +kernel
theorem dX2_localOf_5 : decode cX2_localOf 5 = .ok (.ifCond .eq 10, 3) := by decide +kernel
theorem dX2_localOf_8 : decode cX2_localOf 8 = .ok (.iload_n 1, 1) := by decide +kernel
theorem dX2_localOf_9 : decode cX2_localOf 9 = .ok (.bipush 60, 2) := by decide +kernel
theorem dX2_localOf_11 : decode cX2_localOf 11 = .ok (.iadd, 1) := by decide +kernel
theorem dX2_localOf_12 : decode cX2_localOf 12 = .ok (.goto 4, 3) := by decide +kernel
theorem dX2_localOf_15 : decode cX2_localOf 15 = .ok (.iload_n 1, 1) := by decide +kernel
theorem dX2_localOf_16 : decode cX2_localOf 16 = .ok (.ireturn, 1) := by decide +kernel
theorem dX2_timesOf_0 : decode cX2_timesOf 0 = .ok (.aload_n 0, 1) := by decide +kernel
theorem dX2_timesOf_1 : decode cX2_timesOf 1 = .ok (.iload_n 1, 1) := by decide +kernel
theorem dX2_timesOf_2 : decode cX2_timesOf 2 = .ok (.invokevirtual 25, 3) := by decide +kernel
theorem dX2_timesOf_5 : decode cX2_timesOf 5 = .ok (.iload_n 1, 1) := by decide +kernel
theorem dX2_timesOf_6 : decode cX2_timesOf 6 = .ok (.if_icmp .ne 7, 3) := by decide +kernel
theorem dX2_timesOf_9 : decode cX2_timesOf 9 = .ok (.iconst 1, 1) := by decide +kernel
theorem dX2_timesOf_10 : decode cX2_timesOf 10 = .ok (.goto 4, 3) := by decide +kernel
theorem dX2_timesOf_13 : decode cX2_timesOf 13 = .ok (.iconst 0, 1) := by decide +kernel
theorem dX2_timesOf_14 : decode cX2_timesOf 14 = .ok (.istore_n 2, 1) := by decide +kernel
theorem dX2_timesOf_15 : decode cX2_timesOf 15 = .ok (.aload_n 0, 1) := by decide +kernel
theorem dX2_timesOf_16 : decode cX2_timesOf 16 = .ok (.iload_n 1, 1) := by decide +kernel
theorem dX2_timesOf_17 : decode cX2_timesOf 17 = .ok (.bipush 60, 2) := by decide +kernel
theorem dX2_timesOf_19 : decode cX2_timesOf 19 = .ok (.isub, 1) := by decide +kernel
theorem dX2_timesOf_20 : decode cX2_timesOf 20 = .ok (.invokevirtual 25, 3) := by decide +kernel
theorem dX2_timesOf_23 : decode cX2_timesOf 23 = .ok (.iload_n 1, 1) := by decide +kernel
theorem dX2_timesOf_24 : decode cX2_timesOf 24 = .ok (.if_icmp .ne 7, 3) := by decide +kernel
theorem dX2_timesOf_27 : decode cX2_timesOf 27 = .ok (.iconst 1, 1) := by decide +kernel
theorem dX2_timesOf_28 : decode cX2_timesOf 28 = .ok (.goto 4, 3) := by decide +kernel
theorem dX2_timesOf_31 : decode cX2_timesOf 31 = .ok (.iconst 0, 1) := by decide +kernel
theorem dX2_timesOf_32 : decode cX2_timesOf 32 = .ok (.istore_n 3, 1) := by decide +kernel
theorem dX2_timesOf_33 : decode cX2_timesOf 33 = .ok (.iload_n 2, 1) := by decide +kernel
theorem dX2_timesOf_34 : decode cX2_timesOf 34 = .ok (.iload_n 3, 1) := by decide +kernel
theorem dX2_timesOf_35 : decode cX2_timesOf 35 = .ok (.iadd, 1) := by decide +kernel
theorem dX2_timesOf_36 : decode cX2_timesOf 36 = .ok (.ireturn, 1) := by decide +kernel
theorem dX2_isSummer_0 : decode cX2_isSummer 0 = .ok (.iload_n 1, 1) := by decide +kernel
theorem dX2_isSummer_1 : decode cX2_isSummer 1 = .ok (.ldc 29, 2) := by decide +kernel
theorem dX2_isSummer_3 : decode cX2_isSummer 3 = .ok (.invokestatic 30, 3) := by decide +kernel
theorem dX2_isSummer_6 : decode cX2_isSummer 6 = .ok (.istore_n 2, 1) := by decide +kernel
theorem dX2_isSummer_7 : decode cX2_isSummer 7 = .ok (.aload_n 0, 1) := by decide +kernel
theorem dX2_isSummer_8 : decode cX2_isSummer 8 = .ok (.getfield 15, 3) := by decide +kernel
theorem dX2_isSummer_11 : decode cX2_isSummer 11 = .ok (.aload_n 0, 1) := by decide +kernel
theorem dX2_isSummer_12 : decode cX2_isSummer 12 = .ok (.getfield 18, 3) := by decide +kernel
theorem dX2_isSummer_15 : decode cX2_isSummer 15 = .ok (.if_icmp .ge 37, 3) := by decide +kernel
theorem dX2_isSummer_18 : decode cX2_isSummer 18 = .ok (.iload_n 2, 1) := by decide +kernel
theorem dX2_isSummer_19 : decode cX2_isSummer 19 = .ok (.aload_n 0, 1) := by decide +kernel
theorem dX2_isSummer_20 : decode cX2_isSummer 20 = .ok (.getfield 15, 3) := by decide +kernel
theorem dX2_isSummer_23 : decode cX2_isSummer 23 = .ok (.sipush 1440, 3) := by decide +kernel
theorem dX2_isSummer_26 : decode cX2_isSummer 26 = .ok (.imul, 1) := by decide +kernel
theorem dX2_isSummer_27 : decode cX2_isSummer 27 = .ok (.bipush 60, 2) := by decide +kernel
theorem dX2_isSummer_29 : decode cX2_isSummer 29 = .ok (.iadd, 1) := by decide +kernel
theorem dX2_isSummer_30 : decode cX2_isSummer 30 = .ok (.if_icmp .lt 22, 3) := by decide +kernel
theorem dX2_isSummer_33 : decode cX2_isSummer 33 = .ok (.iload_n 2, 1) := by decide +kernel
theorem dX2_isSummer_34 : decode cX2_isSummer 34 = .ok (.aload_n 0, 1) := by decide +kernel
theorem dX2_isSummer_35 : decode cX2_isSummer 35 = .ok (.getfield 18, 3) := by decide +kernel
theorem dX2_isSummer_38 : decode cX2_isSummer 38 = .ok (.sipush 1440, 3) := by decide +kernel
theorem dX2_isSummer_41 : decode cX2_isSummer 41 = .ok (.imul, 1) := by decide +kernel
theorem dX2_isSummer_42 : decode cX2_isSummer 42 = .ok (.bipush 120, 2) := by decide +kernel
theorem dX2_isSummer_44 : decode cX2_isSummer 44 = .ok (.iadd, 1) := by decide +kernel
theorem dX2_isSummer_45 : decode cX2_isSummer 45 = .ok (.if_icmp .ge 7, 3) := by decide +kernel
theorem dX2_isSummer_48 : decode cX2_isSummer 48 = .ok (.iconst 1, 1) := by decide +kernel
theorem dX2_isSummer_49 : decode cX2_isSummer 49 = .ok (.goto 4, 3) := by decide +kernel
theorem dX2_isSummer_52 : decode cX2_isSummer 52 = .ok (.iconst 0, 1) := by decide +kernel
theorem dX2_isSummer_53 : decode cX2_isSummer 53 = .ok (.ireturn, 1) := by decide +kernel
theorem dX3_init_0 : decode cX3_init 0 = .ok (.aload_n 0, 1) := by decide +kernel
theorem dX3_init_1 : decode cX3_init 1 = .ok (.invokespecial 1, 3) := by decide +kernel
theorem dX3_init_4 : decode cX3_init 4 = .ok (.aload_n 0, 1) := by decide +kernel
theorem dX3_init_5 : decode cX3_init 5 = .ok (.iload_n 1, 1) := by decide +kernel
theorem dX3_init_6 : decode cX3_init 6 = .ok (.putfield 7, 3) := by decide +kernel
theorem dX3_init_9 : decode cX3_init 9 = .ok (.aload_n 0, 1) := by decide +kernel
theorem dX3_init_10 : decode cX3_init 10 = .ok (.iload_n 2, 1) := by decide +kernel
theorem dX3_init_11 : decode cX3_init 11 = .ok (.putfield 13, 3) := by decide +kernel
theorem dX3_init_14 : decode cX3_init 14 = .ok (.aload_n 0, 1) := by decide +kernel
theorem dX3_init_15 : decode cX3_init 15 = .ok (.iload_n 3, 1) := by decide +kernel
theorem dX3_init_16 : decode cX3_init 16 = .ok (.putfield 16, 3) := by decide +kernel
theorem dX3_init_19 : decode cX3_init 19 = .ok (.aload_n 0, 1) := by decide +kernel
theorem dX3_init_20 : decode cX3_init 20 = .ok (.iload 4, 2) := by decide +kernel
theorem dX3_init_22 : decode cX3_init 22 = .ok (.putfield 19, 3) := by decide +kernel
theorem dX3_init_25 : decode cX3_init 25 = .ok (.aload_n 0, 1) := by decide +kernel
theorem dX3_init_26 : decode cX3_init 26 = .ok (.iload 5, 2) := by decide +kernel
theorem dX3_init_28 : decode cX3_init 28 = .ok (.putfield 22, 3) := by decide +kernel
theorem dX3_init_31 : decode cX3_init 31 = .ok (.return_, 1) := by decide +kernel
theorem dX3_governs_0 : decode cX3_governs 0 = .ok (.aload_n 0, 1) := by decide +kernel
theorem dX3_governs_1 : decode cX3_governs 1 = .ok (.getfield 25, 3) := by decide +kernel
theorem dX3_governs_4 : decode cX3_governs 4 = .ok (.ifCond .eq 14, 3) := by decide +kernel
theorem dX3_governs_7 : decode cX3_governs 7 = .ok (.aload_n 0, 1) := by decide +kernel
theorem dX3_governs_8 : decode cX3_governs 8 = .ok (.getfield 29, 3) := by decide +kernel
theorem dX3_governs_11 : decode cX3_governs 11 = .ok (.ifCond .eq 7, 3) := by decide +kernel
theorem dX3_governs_14 : decode cX3_governs 14 = .ok (.iconst 1, 1) := by decide +kernel
theorem dX3_governs_15 : decode cX3_governs 15 = .ok (.goto 4, 3) := by decide +kernel
theorem dX3_governs_18 : decode cX3_governs 18 = .ok (.iconst 0, 1) := by decide +kernel
theorem dX3_governs_19 : decode cX3_governs 19 = .ok (.ireturn, 1) := by decide +kernel
theorem dX3_isOfSameDay_0 : decode cX3_isOfSameDay 0 = .ok (.aload_n 0, 1) := by decide +kernel
theorem dX3_isOfSameDay_1 : decode cX3_isOfSameDay 1 = .ok (.getfield 13, 3) := by decide +kernel
theorem dX3_isOfSameDay_4 : decode cX3_isOfSameDay 4 = .ok (.aload_n 1, 1) := by decide +kernel
theorem dX3_isOfSameDay_5 : decode cX3_isOfSameDay 5 = .ok (.getfield 13, 3) := by decide +kernel
theorem dX3_isOfSameDay_8 : decode cX3_isOfSameDay 8 = .ok (.if_icmp .ne 18, 3) := by decide +kernel
theorem dX3_isOfSameDay_11 : decode cX3_isOfSameDay 11 = .ok (.aload_n 0, 1) := by decide +kernel
theorem dX3_isOfSameDay_12 : decode cX3_isOfSameDay 12 = .ok (.getfield 16, 3) := by decide +kernel
theorem dX3_isOfSameDay_15 : decode cX3_isOfSameDay 15 = .ok (.aload_n 1, 1) := by decide +kernel
theorem dX3_isOfSameDay_16 : decode cX3_isOfSameDay 16 = .ok (.getfield 16, 3) := by decide +kernel
theorem dX3_isOfSameDay_19 : decode cX3_isOfSameDay 19 = .ok (.if_icmp .ne 7, 3) := by decide +kernel
theorem dX3_isOfSameDay_22 : decode cX3_isOfSameDay 22 = .ok (.iconst 1, 1) := by decide +kernel
theorem dX3_isOfSameDay_23 : decode cX3_isOfSameDay 23 = .ok (.goto 4, 3) := by decide +kernel
theorem dX3_isOfSameDay_26 : decode cX3_isOfSameDay 26 = .ok (.iconst 0, 1) := by decide +kernel
theorem dX3_isOfSameDay_27 : decode cX3_isOfSameDay 27 = .ok (.ireturn, 1) := by decide +kernel
theorem dX4_init_0 : decode cX4_init 0 = .ok (.aload_n 0, 1) := by decide +kernel
theorem dX4_init_1 : decode cX4_init 1 = .ok (.invokespecial 1, 3) := by decide +kernel
theorem dX4_init_4 : decode cX4_init 4 = .ok (.aload_n 0, 1) := by decide +kernel
theorem dX4_init_5 : decode cX4_init 5 = .ok (.aload_n 1, 1) := by decide +kernel
theorem dX4_init_6 : decode cX4_init 6 = .ok (.putfield 7, 3) := by decide +kernel
theorem dX4_init_9 : decode cX4_init 9 = .ok (.aload_n 0, 1) := by decide +kernel
theorem dX4_init_10 : decode cX4_init 10 = .ok (.bipush 80, 2) := by decide +kernel
theorem dX4_init_12 : decode cX4_init 12 = .ok (.newarray .int, 2) := by decide +kernel
theorem dX4_init_14 : decode cX4_init 14 = .ok (.putfield 13, 3) := by decide +kernel
theorem dX4_init_17 : decode cX4_init 17 = .ok (.aload_n 0, 1) := by decide +kernel
theorem dX4_init_18 : decode cX4_init 18 = .ok (.bipush 80, 2) := by decide +kernel
theorem dX4_init_20 : decode cX4_init 20 = .ok (.newarray .int, 2) := by decide +kernel
theorem dX4_init_22 : decode cX4_init 22 = .ok (.putfield 17, 3) := by decide +kernel
theorem dX4_init_25 : decode cX4_init 25 = .ok (.aload_n 0, 1) := by decide +kernel
theorem dX4_init_26 : decode cX4_init 26 = .ok (.bipush 80, 2) := by decide +kernel
theorem dX4_init_28 : decode cX4_init 28 = .ok (.newarray .int, 2) := by decide +kernel
theorem dX4_init_30 : decode cX4_init 30 = .ok (.putfield 20, 3) := by decide +kernel
theorem dX4_init_33 : decode cX4_init 33 = .ok (.return_, 1) := by decide +kernel
theorem dX4_readLines_0 : decode cX4_readLines 0 = .ok (.aload_n 0, 1) := by decide +kernel
theorem dX4_readLines_1 : decode cX4_readLines 1 = .ok (.iconst 0, 1) := by decide +kernel
theorem dX4_readLines_2 : decode cX4_readLines 2 = .ok (.invokevirtual 23, 3) := by decide +kernel
theorem dX4_readLines_5 : decode cX4_readLines 5 = .ok (.aload_n 0, 1) := by decide +kernel
theorem dX4_readLines_6 : decode cX4_readLines 6 = .ok (.getfield 7, 3) := by decide +kernel
theorem dX4_readLines_9 : decode cX4_readLines 9 = .ok (.invokevirtual 27, 3) := by decide +kernel
theorem dX4_readLines_12 : decode cX4_readLines 12 = .ok (.ifCond .ne 11, 3) := by decide +kernel
theorem dX4_readLines_15 : decode cX4_readLines 15 = .ok (.aload_n 0, 1) := by decide +kernel
theorem dX4_readLines_16 : decode cX4_readLines 16 = .ok (.getfield 7, 3) := by decide +kernel
theorem dX4_readLines_19 : decode cX4_readLines 19 = .ok (.iconst 2, 1) := by decide +kernel
theorem dX4_readLines_20 : decode cX4_readLines 20 = .ok (.invokevirtual 33, 3) := by decide +kernel
theorem dX4_readLines_23 : decode cX4_readLines 23 = .ok (.return_, 1) := by decide +kernel
theorem dX4_readLinesWithin_0 : decode cX4_readLinesWithin 0 = .ok (.iconst 0, 1) := by decide +kernel
theorem dX4_readLinesWithin_1 : decode cX4_readLinesWithin 1 = .ok (.istore_n 2, 1) := by decide +kernel
theorem dX4_readLinesWithin_2 : decode cX4_readLinesWithin 2 = .ok (.iload_n 2, 1) := by decide +kernel
theorem dX4_readLinesWithin_3 : decode cX4_readLinesWithin 3 = .ok (.bipush 40, 2) := by decide +kernel
theorem dX4_readLinesWithin_5 : decode cX4_readLinesWithin 5 = .ok (.if_icmp .gt 21, 3) := by decide +kernel
theorem dX4_readLinesWithin_8 : decode cX4_readLinesWithin 8 = .ok (.aload_n 0, 1) := by decide +kernel
theorem dX4_readLinesWithin_9 : decode cX4_readLinesWithin 9 = .ok (.invokevirtual 36, 3) := by decide +kernel
theorem dX4_readLinesWithin_12 : decode cX4_readLinesWithin 12 = .ok (.ifCond .eq 14, 3) := by decide +kernel
theorem dX4_readLinesWithin_15 : decode cX4_readLinesWithin 15 = .ok (.aload_n 0, 1) := by decide +kernel
theorem dX4_readLinesWithin_16 : decode cX4_readLinesWithin 16 = .ok (.iload_n 1, 1) := by decide +kernel
theorem dX4_readLinesWithin_17 : decode cX4_readLinesWithin 17 = .ok (.invokevirtual 39, 3) := by decide +kernel
theorem dX4_readLinesWithin_20 : decode cX4_readLinesWithin 20 = .ok (.iinc 2 1, 3) := by decide +kernel
theorem dX4_readLinesWithin_23 : decode cX4_readLinesWithin 23 = .ok (.goto (-21), 3) := by decide +kernel
theorem dX4_readLinesWithin_26 : decode cX4_readLinesWithin 26 = .ok (.return_, 1) := by decide +kernel
theorem dX4_canBeLine_0 : decode cX4_canBeLine 0 = .ok (.aload_n 0, 1) := by decide +kernel
theorem dX4_canBeLine_1 : decode cX4_canBeLine 1 = .ok (.getfield 7, 3) := by decide +kernel
theorem dX4_canBeLine_4 : decode cX4_canBeLine 4 = .ok (.invokevirtual 42, 3) := by decide +kernel
theorem dX4_canBeLine_7 : decode cX4_canBeLine 7 = .ok (.ifCond .eq 29, 3) := by decide +kernel
theorem dX4_canBeLine_10 : decode cX4_canBeLine 10 = .ok (.aload_n 0, 1) := by decide +kernel
theorem dX4_canBeLine_11 : decode cX4_canBeLine 11 = .ok (.getfield 7, 3) := by decide +kernel
theorem dX4_canBeLine_14 : decode cX4_canBeLine 14 = .ok (.invokevirtual 27, 3) := by decide +kernel
theorem dX4_canBeLine_17 : decode cX4_canBeLine 17 = .ok (.ifCond .ne 19, 3) := by decide +kernel
theorem dX4_canBeLine_20 : decode cX4_canBeLine 20 = .ok (.aload_n 0, 1) := by decide +kernel
theorem dX4_canBeLine_21 : decode cX4_canBeLine 21 = .ok (.getfield 7, 3) := by decide +kernel
theorem dX4_canBeLine_24 : decode cX4_canBeLine 24 = .ok (.bipush 125, 2) := by decide +kernel
theorem dX4_canBeLine_26 : decode cX4_canBeLine 26 = .ok (.invokevirtual 45, 3) := by decide +kernel
theorem dX4_canBeLine_29 : decode cX4_canBeLine 29 = .ok (.ifCond .ne 7, 3) := by decide +kernel
theorem dX4_canBeLine_32 : decode cX4_canBeLine 32 = .ok (.iconst 1, 1) := by decide +kernel
theorem dX4_canBeLine_33 : decode cX4_canBeLine 33 = .ok (.goto 4, 3) := by decide +kernel
theorem dX4_canBeLine_36 : decode cX4_canBeLine 36 = .ok (.iconst 0, 1) := by decide +kernel
theorem dX4_canBeLine_37 : decode cX4_canBeLine 37 = .ok (.ireturn, 1) := by decide +kernel
theorem dX4_readLine_0 : decode cX4_readLine 0 = .ok (.aload_n 0, 1) := by decide +kernel
theorem dX4_readLine_1 : decode cX4_readLine 1 = .ok (.getfield 7, 3) := by decide +kernel
theorem dX4_readLine_4 : decode cX4_readLine 4 = .ok (.invokevirtual 49, 3) := by decide +kernel
theorem dX4_readLine_7 : decode cX4_readLine 7 = .ok (.istore_n 2, 1) := by decide +kernel
theorem dX4_readLine_8 : decode cX4_readLine 8 = .ok (.aload_n 0, 1) := by decide +kernel
theorem dX4_readLine_9 : decode cX4_readLine 9 = .ok (.getfield 7, 3) := by decide +kernel
theorem dX4_readLine_12 : decode cX4_readLine 12 = .ok (.invokevirtual 53, 3) := by decide +kernel
theorem dX4_readLine_15 : decode cX4_readLine 15 = .ok (.ifCond .eq 12, 3) := by decide +kernel
theorem dX4_readLine_18 : decode cX4_readLine 18 = .ok (.iload_n 2, 1) := by decide +kernel
theorem dX4_readLine_19 : decode cX4_readLine 19 = .ok (.iconst 0, 1) := by decide +kernel
theorem dX4_readLine_20 : decode cX4_readLine 20 = .ok (.iconst 4, 1) := by decide +kernel
theorem dX4_readLine_21 : decode cX4_readLine 21 = .ok (.invokestatic 56, 3) := by decide +kernel
theorem dX4_readLine_24 : decode cX4_readLine 24 = .ok (.ifCond .ne 14, 3) := by decide +kernel
theorem dX4_readLine_27 : decode cX4_readLine 27 = .ok (.aload_n 0, 1) := by decide +kernel
theorem dX4_readLine_28 : decode cX4_readLine 28 = .ok (.getfield 7, 3) := by decide +kernel
theorem dX4_readLine_31 : decode cX4_readLine 31 = .ok (.iconst 2, 1) := by decide +kernel
theorem dX4_readLine_32 : decode cX4_readLine 32 = .ok (.invokevirtual 33, 3) := by decide +kernel
theorem dX4_readLine_35 : decode cX4_readLine 35 = .ok (.goto 94, 3) := by decide +kernel
theorem dX4_readLine_38 : decode cX4_readLine 38 = .ok (.aload_n 0, 1) := by decide +kernel
theorem dX4_readLine_39 : decode cX4_readLine 39 = .ok (.getfield 62, 3) := by decide +kernel
theorem dX4_readLine_42 : decode cX4_readLine 42 = .ok (.bipush 40, 2) := by decide +kernel
theorem dX4_readLine_44 : decode cX4_readLine 44 = .ok (.if_icmp .lt 14, 3) := by decide +kernel
theorem dX4_readLine_47 : decode cX4_readLine 47 = .ok (.aload_n 0, 1) := by decide +kernel
theorem dX4_readLine_48 : decode cX4_readLine 48 = .ok (.getfield 7, 3) := by decide +kernel
theorem dX4_readLine_51 : decode cX4_readLine 51 = .ok (.iconst 3, 1) := by decide +kernel
theorem dX4_readLine_52 : decode cX4_readLine 52 = .ok (.invokevirtual 33, 3) := by decide +kernel
theorem dX4_readLine_55 : decode cX4_readLine 55 = .ok (.goto 74, 3) := by decide +kernel
theorem dX4_readLine_58 : decode cX4_readLine 58 = .ok (.iload_n 2, 1) := by decide +kernel
theorem dX4_readLine_59 : decode cX4_readLine 59 = .ok (.iconst 4, 1) := by decide +kernel
theorem dX4_readLine_60 : decode cX4_readLine 60 = .ok (.if_icmp .ne 19, 3) := by decide +kernel
theorem dX4_readLine_63 : decode cX4_readLine 63 = .ok (.iload_n 1, 1) := by decide +kernel
theorem dX4_readLine_64 : decode cX4_readLine 64 = .ok (.iconst 3, 1) := by decide +kernel
theorem dX4_readLine_65 : decode cX4_readLine 65 = .ok (.if_icmp .lt 14, 3) := by decide +kernel
theorem dX4_readLine_68 : decode cX4_readLine 68 = .ok (.aload_n 0, 1) := by decide +kernel
theorem dX4_readLine_69 : decode cX4_readLine 69 = .ok (.getfield 7, 3) := by decide +kernel
theorem dX4_readLine_72 : decode cX4_readLine 72 = .ok (.iconst 5, 1) := by decide +kernel
theorem dX4_readLine_73 : decode cX4_readLine 73 = .ok (.invokevirtual 33, 3) := by decide +kernel
theorem dX4_readLine_76 : decode cX4_readLine 76 = .ok (.goto 53, 3) := by decide +kernel
theorem dX4_readLine_79 : decode cX4_readLine 79 = .ok (.aload_n 0, 1) := by decide +kernel
theorem dX4_readLine_80 : decode cX4_readLine 80 = .ok (.dup, 1) := by decide +kernel
theorem dX4_readLine_81 : decode cX4_readLine 81 = .ok (.getfield 62, 3) := by decide +kernel
theorem dX4_readLine_84 : decode cX4_readLine 84 = .ok (.iconst 1, 1) := by decide +kernel
theorem dX4_readLine_85 : decode cX4_readLine 85 = .ok (.iadd, 1) := by decide +kernel
theorem dX4_readLine_86 : decode cX4_readLine 86 = .ok (.putfield 62, 3) := by decide +kernel
theorem dX4_readLine_89 : decode cX4_readLine 89 = .ok (.aload_n 0, 1) := by decide +kernel
theorem dX4_readLine_90 : decode cX4_readLine 90 = .ok (.getfield 7, 3) := by decide +kernel
theorem dX4_readLine_93 : decode cX4_readLine 93 = .ok (.invokevirtual 66, 3) := by decide +kernel
theorem dX4_readLine_96 : decode cX4_readLine 96 = .ok (.iload_n 2, 1) := by decide +kernel
theorem dX4_readLine_97 : decode cX4_readLine 97 = .ok (.iconst 4, 1) := by decide +kernel
theorem dX4_readLine_98 : decode cX4_readLine 98 = .ok (.if_icmp .ne 11, 3) := by decide +kernel
theorem dX4_readLine_101 : decode cX4_readLine 101 = .ok (.aload_n 0, 1) := by decide +kernel
theorem dX4_readLine_102 : decode cX4_readLine 102 = .ok (.iload_n 1, 1) := by decide +kernel
theorem dX4_readLine_103 : decode cX4_readLine 103 = .ok (.invokevirtual 69, 3) := by decide +kernel
theorem dX4_readLine_106 : decode cX4_readLine 106 = .ok (.goto 23, 3) := by decide +kernel
theorem dX4_readLine_109 : decode cX4_readLine 109 = .ok (.aload_n 0, 1) := by decide +kernel
theorem dX4_readLine_110 : decode cX4_readLine 110 = .ok (.iload_n 2, 1) := by decide +kernel
theorem dX4_readLine_111 : decode cX4_readLine 111 = .ok (.aload_n 0, 1) := by decide +kernel
theorem dX4_readLine_112 : decode cX4_readLine 112 = .ok (.iload_n 2, 1) := by decide +kernel
theorem dX4_readLine_113 : decode cX4_readLine 113 = .ok (.invokevirtual 72, 3) := by decide +kernel
theorem dX4_readLine_116 : decode cX4_readLine 116 = .ok (.iload_n 1, 1) := by decide +kernel
theorem dX4_readLine_117 : decode cX4_readLine 117 = .ok (.invokevirtual 76, 3) := by decide +kernel
theorem dX4_readLine_120 : decode cX4_readLine 120 = .ok (.aload_n 0, 1) := by decide +kernel
theorem dX4_readLine_121 : decode cX4_readLine 121 = .ok (.getfield 7, 3) := by decide +kernel
theorem dX4_readLine_124 : decode cX4_readLine 124 = .ok (.bipush 59, 2) := by decide +kernel
theorem dX4_readLine_126 : decode cX4_readLine 126 = .ok (.invokevirtual 80, 3) := by decide +kernel
theorem dX4_readLine_129 : decode cX4_readLine 129 = .ok (.return_, 1) := by decide +kernel
theorem dX4_readOperand_0 : decode cX4_readOperand 0 = .ok (.iload_n 1, 1) := by decide +kernel
theorem dX4_readOperand_1 : decode cX4_readOperand 1 = .ok (.ifCond .ne 12, 3) := by decide +kernel
theorem dX4_readOperand_4 : decode cX4_readOperand 4 = .ok (.aload_n 0, 1) := by decide +kernel
theorem dX4_readOperand_5 : decode cX4_readOperand 5 = .ok (.iconst 1, 1) := by decide +kernel
theorem dX4_readOperand_6 : decode cX4_readOperand 6 = .ok (.sipush 3600, 3) := by decide +kernel
theorem dX4_readOperand_9 : decode cX4_readOperand 9 = .ok (.invokevirtual 84, 3) := by decide +kernel
theorem dX4_readOperand_12 : decode cX4_readOperand 12 = .ok (.ireturn, 1) := by decide +kernel
theorem dX4_readOperand_13 : decode cX4_readOperand 13 = .ok (.iload_n 1, 1) := by decide +kernel
theorem dX4_readOperand_14 : decode cX4_readOperand 14 = .ok (.iconst 1, 1) := by decide +kernel
theorem dX4_readOperand_15 : decode cX4_readOperand 15 = .ok (.if_icmp .ne 8, 3) := by decide +kernel
theorem dX4_readOperand_18 : decode cX4_readOperand 18 = .ok (.aload_n 0, 1) := by decide +kernel
theorem dX4_readOperand_19 : decode cX4_readOperand 19 = .ok (.invokevirtual 88, 3) := by decide +kernel
theorem dX4_readOperand_22 : decode cX4_readOperand 22 = .ok (.ireturn, 1) := by decide +kernel
theorem dX4_readOperand_23 : decode cX4_readOperand 23 = .ok (.iload_n 1, 1) := by decide +kernel
theorem dX4_readOperand_24 : decode cX4_readOperand 24 = .ok (.iconst 3, 1) := by decide +kernel
theorem dX4_readOperand_25 : decode cX4_readOperand 25 = .ok (.if_icmp .ne 10, 3) := by decide +kernel
theorem dX4_readOperand_28 : decode cX4_readOperand 28 = .ok (.aload_n 0, 1) := by decide +kernel
theorem dX4_readOperand_29 : decode cX4_readOperand 29 = .ok (.invokevirtual 91, 3) := by decide +kernel
theorem dX4_readOperand_32 : decode cX4_readOperand 32 = .ok (.goto 4, 3) := by decide +kernel
theorem dX4_readOperand_35 : decode cX4_readOperand 35 = .ok (.iconst 0, 1) := by decide +kernel
theorem dX4_readOperand_36 : decode cX4_readOperand 36 = .ok (.ireturn, 1) := by decide +kernel
theorem dX4_readTime_0 : decode cX4_readTime 0 = .ok (.aload_n 0, 1) := by decide +kernel
theorem dX4_readTime_1 : decode cX4_readTime 1 = .ok (.iconst 0, 1) := by decide +kernel
theorem dX4_readTime_2 : decode cX4_readTime 2 = .ok (.bipush 23, 2) := by decide +kernel
theorem dX4_readTime_4 : decode cX4_readTime 4 = .ok (.invokevirtual 84, 3) := by decide +kernel
theorem dX4_readTime_7 : decode cX4_readTime 7 = .ok (.istore_n 1, 1) := by decide +kernel
theorem dX4_readTime_8 : decode cX4_readTime 8 = .ok (.aload_n 0, 1) := by decide +kernel
theorem dX4_readTime_9 : decode cX4_readTime 9 = .ok (.getfield 7, 3) := by decide +kernel
theorem dX4_readTime_12 : decode cX4_readTime 12 = .ok (.bipush 58, 2) := by decide +kernel
theorem dX4_readTime_14 : decode cX4_readTime 14 = .ok (.invokevirtual 80, 3) := by decide +kernel
theorem dX4_readTime_17 : decode cX4_readTime 17 = .ok (.aload_n 0, 1) := by decide +kernel
theorem dX4_readTime_18 : decode cX4_readTime 18 = .ok (.iconst 0, 1) := by decide +kernel
theorem dX4_readTime_19 : decode cX4_readTime 19 = .ok (.bipush 59, 2) := by decide +kernel
theorem dX4_readTime_21 : decode cX4_readTime 21 = .ok (.invokevirtual 84, 3) := by decide +kernel
theorem dX4_readTime_24 : decode cX4_readTime 24 = .ok (.istore_n 2, 1) := by decide +kernel
theorem dX4_readTime_25 : decode cX4_readTime 25 = .ok (.aload_n 0, 1) := by decide +kernel
theorem dX4_readTime_26 : decode cX4_readTime 26 = .ok (.getfield 7, 3) := by decide +kernel
theorem dX4_readTime_29 : decode cX4_readTime 29 = .ok (.bipush 58, 2) := by decide +kernel
theorem dX4_readTime_31 : decode cX4_readTime 31 = .ok (.invokevirtual 80, 3) := by decide +kernel
theorem dX4_readTime_34 : decode cX4_readTime 34 = .ok (.aload_n 0, 1) := by decide +kernel
theorem dX4_readTime_35 : decode cX4_readTime 35 = .ok (.iconst 0, 1) := by decide +kernel
theorem dX4_readTime_36 : decode cX4_readTime 36 = .ok (.bipush 59, 2) := by decide +kernel
theorem dX4_readTime_38 : decode cX4_readTime 38 = .ok (.invokevirtual 84, 3) := by decide +kernel
theorem dX4_readTime_41 : decode cX4_readTime 41 = .ok (.istore_n 3, 1) := by decide +kernel
theorem dX4_readTime_42 : decode cX4_readTime 42 = .ok (.sipush 3600, 3) := by decide +kernel
theorem dX4_readTime_45 : decode cX4_readTime 45 = .ok (.iload_n 1, 1) := by decide +kernel
theorem dX4_readTime_46 : decode cX4_readTime 46 = .ok (.imul, 1) := by decide +kernel
theorem dX4_readTime_47 : decode cX4_readTime 47 = .ok (.bipush 60, 2) := by decide +kernel
theorem dX4_readTime_49 : decode cX4_readTime 49 = .ok (.iload_n 2, 1) := by decide +kernel
theorem dX4_readTime_50 : decode cX4_readTime 50 = .ok (.imul, 1) := by decide +kernel
theorem dX4_readTime_51 : decode cX4_readTime 51 = .ok (.iadd, 1) := by decide +kernel
theorem dX4_readTime_52 : decode cX4_readTime 52 = .ok (.iload_n 3, 1) := by decide +kernel
theorem dX4_readTime_53 : decode cX4_readTime 53 = .ok (.iadd, 1) := by decide +kernel
theorem dX4_readTime_54 : decode cX4_readTime 54 = .ok (.ireturn, 1) := by decide +kernel
theorem dX4_readHow_0 : decode cX4_readHow 0 = .ok (.aload_n 0, 1) := by decide +kernel
theorem dX4_readHow_1 : decode cX4_readHow 1 = .ok (.getfield 7, 3) := by decide +kernel
theorem dX4_readHow_4 : decode cX4_readHow 4 = .ok (.invokevirtual 49, 3) := by decide +kernel
theorem dX4_readHow_7 : decode cX4_readHow 7 = .ok (.istore_n 1, 1) := by decide +kernel
theorem dX4_readHow_8 : decode cX4_readHow 8 = .ok (.aload_n 0, 1) := by decide +kernel
theorem dX4_readHow_9 : decode cX4_readHow 9 = .ok (.getfield 7, 3) := by decide +kernel
theorem dX4_readHow_12 : decode cX4_readHow 12 = .ok (.invokevirtual 53, 3) := by decide +kernel
theorem dX4_readHow_15 : decode cX4_readHow 15 = .ok (.ifCond .eq 23, 3) := by decide +kernel
theorem dX4_readHow_18 : decode cX4_readHow 18 = .ok (.iload_n 1, 1) := by decide +kernel
theorem dX4_readHow_19 : decode cX4_readHow 19 = .ok (.iconst 5, 1) := by decide +kernel
theorem dX4_readHow_20 : decode cX4_readHow 20 = .ok (.bipush 7, 2) := by decide +kernel
theorem dX4_readHow_22 : decode cX4_readHow 22 = .ok (.invokestatic 56, 3) := by decide +kernel
theorem dX4_readHow_25 : decode cX4_readHow 25 = .ok (.ifCond .eq 13, 3) := by decide +kernel
theorem dX4_readHow_28 : decode cX4_readHow 28 = .ok (.aload_n 0, 1) := by decide +kernel
theorem dX4_readHow_29 : decode cX4_readHow 29 = .ok (.getfield 7, 3) := by decide +kernel
theorem dX4_readHow_32 : decode cX4_readHow 32 = .ok (.invokevirtual 66, 3) := by decide +kernel
theorem dX4_readHow_35 : decode cX4_readHow 35 = .ok (.goto 11, 3) := by decide +kernel
theorem dX4_readHow_38 : decode cX4_readHow 38 = .ok (.aload_n 0, 1) := by decide +kernel
theorem dX4_readHow_39 : decode cX4_readHow 39 = .ok (.getfield 7, 3) := by decide +kernel
theorem dX4_readHow_42 : decode cX4_readHow 42 = .ok (.iconst 2, 1) := by decide +kernel
theorem dX4_readHow_43 : decode cX4_readHow 43 = .ok (.invokevirtual 33, 3) := by decide +kernel
theorem dX4_readHow_46 : decode cX4_readHow 46 = .ok (.iload_n 1, 1) := by decide +kernel
theorem dX4_readHow_47 : decode cX4_readHow 47 = .ok (.ireturn, 1) := by decide +kernel
theorem dX4_readAgain_0 : decode cX4_readAgain 0 = .ok (.aload_n 0, 1) := by decide +kernel
theorem dX4_readAgain_1 : decode cX4_readAgain 1 = .ok (.iconst 2, 1) := by decide +kernel
theorem dX4_readAgain_2 : decode cX4_readAgain 2 = .ok (.bipush 20, 2) := by decide +kernel
theorem dX4_readAgain_4 : decode cX4_readAgain 4 = .ok (.invokevirtual 84, 3) := by decide +kernel
theorem dX4_readAgain_7 : decode cX4_readAgain 7 = .ok (.istore_n 2, 1) := by decide +kernel
theorem dX4_readAgain_8 : decode cX4_readAgain 8 = .ok (.aload_n 0, 1) := by decide +kernel
theorem dX4_readAgain_9 : decode cX4_readAgain 9 = .ok (.getfield 7, 3) := by decide +kernel
theorem dX4_readAgain_12 : decode cX4_readAgain 12 = .ok (.bipush 123, 2) := by decide +kernel
theorem dX4_readAgain_14 : decode cX4_readAgain 14 = .ok (.invokevirtual 80, 3) := by decide +kernel
theorem dX4_readAgain_17 : decode cX4_readAgain 17 = .ok (.aload_n 0, 1) := by decide +kernel
theorem dX4_readAgain_18 : decode cX4_readAgain 18 = .ok (.iconst 4, 1) := by decide +kernel
theorem dX4_readAgain_19 : decode cX4_readAgain 19 = .ok (.iload_n 2, 1) := by decide +kernel
theorem dX4_readAgain_20 : decode cX4_readAgain 20 = .ok (.iload_n 1, 1) := by decide +kernel
theorem dX4_readAgain_21 : decode cX4_readAgain 21 = .ok (.invokevirtual 76, 3) := by decide +kernel
theorem dX4_readAgain_24 : decode cX4_readAgain 24 = .ok (.aload_n 0, 1) := by decide +kernel
theorem dX4_readAgain_25 : decode cX4_readAgain 25 = .ok (.getfield 94, 3) := by decide +kernel
theorem dX4_readAgain_28 : decode cX4_readAgain 28 = .ok (.istore_n 3, 1) := by decide +kernel
theorem dX4_readAgain_29 : decode cX4_readAgain 29 = .ok (.aload_n 0, 1) := by decide +kernel
theorem dX4_readAgain_30 : decode cX4_readAgain 30 = .ok (.iload_n 1, 1) := by decide +kernel
theorem dX4_readAgain_31 : decode cX4_readAgain 31 = .ok (.iconst 1, 1) := by decide +kernel
theorem dX4_readAgain_32 : decode cX4_readAgain 32 = .ok (.iadd, 1) := by decide +kernel
theorem dX4_readAgain_33 : decode cX4_readAgain 33 = .ok (.invokevirtual 23, 3) := by decide +kernel
theorem dX4_readAgain_36 : decode cX4_readAgain 36 = .ok (.aload_n 0, 1) := by decide +kernel
theorem dX4_readAgain_37 : decode cX4_readAgain 37 = .ok (.getfield 7, 3) := by decide +kernel
theorem dX4_readAgain_40 : decode cX4_readAgain 40 = .ok (.bipush 125, 2) := by decide +kernel
theorem dX4_readAgain_42 : decode cX4_readAgain 42 = .ok (.invokevirtual 80, 3) := by decide +kernel
theorem dX4_readAgain_45 : decode cX4_readAgain 45 = .ok (.aload_n 0, 1) := by decide +kernel
theorem dX4_readAgain_46 : decode cX4_readAgain 46 = .ok (.bipush 8, 2) := by decide +kernel
theorem dX4_readAgain_48 : decode cX4_readAgain 48 = .ok (.iload_n 3, 1) := by decide +kernel
theorem dX4_readAgain_49 : decode cX4_readAgain 49 = .ok (.iload_n 1, 1) := by decide +kernel
theorem dX4_readAgain_50 : decode cX4_readAgain 50 = .ok (.invokevirtual 76, 3) := by decide +kernel
theorem dX4_readAgain_53 : decode cX4_readAgain 53 = .ok (.return_, 1) := by decide +kernel
theorem dX4_takeNumber_0 : decode cX4_takeNumber 0 = .ok (.aload_n 0, 1) := by decide +kernel
theorem dX4_takeNumber_1 : decode cX4_takeNumber 1 = .ok (.getfield 7, 3) := by decide +kernel
theorem dX4_takeNumber_4 : decode cX4_takeNumber 4 = .ok (.invokevirtual 49, 3) := by decide +kernel
theorem dX4_takeNumber_7 : decode cX4_takeNumber 7 = .ok (.istore_n 3, 1) := by decide +kernel
theorem dX4_takeNumber_8 : decode cX4_takeNumber 8 = .ok (.aload_n 0, 1) := by decide +kernel
theorem dX4_takeNumber_9 : decode cX4_takeNumber 9 = .ok (.getfield 7, 3) := by decide +kernel
theorem dX4_takeNumber_12 : decode cX4_takeNumber 12 = .ok (.invokevirtual 97, 3) := by decide +kernel
theorem dX4_takeNumber_15 : decode cX4_takeNumber 15 = .ok (.ifCond .ne 14, 3) := by decide +kernel
theorem dX4_takeNumber_18 : decode cX4_takeNumber 18 = .ok (.aload_n 0, 1) := by decide +kernel
theorem dX4_takeNumber_19 : decode cX4_takeNumber 19 = .ok (.getfield 7, 3) := by decide +kernel
theorem dX4_takeNumber_22 : decode cX4_takeNumber 22 = .ok (.iconst 2, 1) := by decide +kernel
theorem dX4_takeNumber_23 : decode cX4_takeNumber 23 = .ok (.invokevirtual 33, 3) := by decide +kernel
theorem dX4_takeNumber_26 : decode cX4_takeNumber 26 = .ok (.goto 30, 3) := by decide +kernel
theorem dX4_takeNumber_29 : decode cX4_takeNumber 29 = .ok (.iload_n 3, 1) := by decide +kernel
theorem dX4_takeNumber_30 : decode cX4_takeNumber 30 = .ok (.iload_n 1, 1) := by decide +kernel
theorem dX4_takeNumber_31 : decode cX4_takeNumber 31 = .ok (.iload_n 2, 1) := by decide +kernel
theorem dX4_takeNumber_32 : decode cX4_takeNumber 32 = .ok (.invokestatic 56, 3) := by decide +kernel
theorem dX4_takeNumber_35 : decode cX4_takeNumber 35 = .ok (.ifCond .ne 14, 3) := by decide +kernel
theorem dX4_takeNumber_38 : decode cX4_takeNumber 38 = .ok (.aload_n 0, 1) := by decide +kernel
theorem dX4_takeNumber_39 : decode cX4_takeNumber 39 = .ok (.getfield 7, 3) := by decide +kernel
theorem dX4_takeNumber_42 : decode cX4_takeNumber 42 = .ok (.iconst 4, 1) := by decide +kernel
theorem dX4_takeNumber_43 : decode cX4_takeNumber 43 = .ok (.invokevirtual 33, 3) := by decide +kernel
theorem dX4_takeNumber_46 : decode cX4_takeNumber 46 = .ok (.goto 10, 3) := by decide +kernel
theorem dX4_takeNumber_49 : decode cX4_takeNumber 49 = .ok (.aload_n 0, 1) := by decide +kernel
theorem dX4_takeNumber_50 : decode cX4_takeNumber 50 = .ok (.getfield 7, 3) := by decide +kernel
theorem dX4_takeNumber_53 : decode cX4_takeNumber 53 = .ok (.invokevirtual 66, 3) := by decide +kernel
theorem dX4_takeNumber_56 : decode cX4_takeNumber 56 = .ok (.iload_n 3, 1) := by decide +kernel
theorem dX4_takeNumber_57 : decode cX4_takeNumber 57 = .ok (.ireturn, 1) := by decide +kernel
theorem dX4_emit_0 : decode cX4_emit 0 = .ok (.aload_n 0, 1) := by decide +kernel
theorem dX4_emit_1 : decode cX4_emit 1 = .ok (.getfield 94, 3) := by decide +kernel
theorem dX4_emit_4 : decode cX4_emit 4 = .ok (.aload_n 0, 1) := by decide +kernel
theorem dX4_emit_5 : decode cX4_emit 5 = .ok (.getfield 13, 3) := by decide +kernel
theorem dX4_emit_8 : decode cX4_emit 8 = .ok (.arraylength, 1) := by decide +kernel
theorem dX4_emit_9 : decode cX4_emit 9 = .ok (.if_icmp .ge 43, 3) := by decide +kernel
theorem dX4_emit_12 : decode cX4_emit 12 = .ok (.aload_n 0, 1) := by decide +kernel
theorem dX4_emit_13 : decode cX4_emit 13 = .ok (.getfield 13, 3) := by decide +kernel
theorem dX4_emit_16 : decode cX4_emit 16 = .ok (.aload_n 0, 1) := by decide +kernel
theorem dX4_emit_17 : decode cX4_emit 17 = .ok (.getfield 94, 3) := by decide +kernel
theorem dX4_emit_20 : decode cX4_emit 20 = .ok (.iload_n 1, 1) := by decide +kernel
theorem dX4_emit_21 : decode cX4_emit 21 = .ok (.iastore, 1) := by decide +kernel
theorem dX4_emit_22 : decode cX4_emit 22 = .ok (.aload_n 0, 1) := by decide +kernel
theorem dX4_emit_23 : decode cX4_emit 23 = .ok (.getfield 17, 3) := by decide +kernel
theorem dX4_emit_26 : decode cX4_emit 26 = .ok (.aload_n 0, 1) := by decide +kernel
theorem dX4_emit_27 : decode cX4_emit 27 = .ok (.getfield 94, 3) := by decide +kernel
theorem dX4_emit_30 : decode cX4_emit 30 = .ok (.iload_n 2, 1) := by decide +kernel
theorem dX4_emit_31 : decode cX4_emit 31 = .ok (.iastore, 1) := by decide +kernel
theorem dX4_emit_32 : decode cX4_emit 32 = .ok (.aload_n 0, 1) := by decide +kernel
theorem dX4_emit_33 : decode cX4_emit 33 = .ok (.getfield 20, 3) := by decide +kernel
theorem dX4_emit_36 : decode cX4_emit 36 = .ok (.aload_n 0, 1) := by decide +kernel
theorem dX4_emit_37 : decode cX4_emit 37 = .ok (.getfield 94, 3) := by decide +kernel
theorem dX4_emit_40 : decode cX4_emit 40 = .ok (.iload_n 3, 1) := by decide +kernel
theorem dX4_emit_41 : decode cX4_emit 41 = .ok (.iastore, 1) := by decide +kernel
theorem dX4_emit_42 : decode cX4_emit 42 = .ok (.aload_n 0, 1) := by decide +kernel
theorem dX4_emit_43 : decode cX4_emit 43 = .ok (.dup, 1) := by decide +kernel
theorem dX4_emit_44 : decode cX4_emit 44 = .ok (.getfield 94, 3) := by decide +kernel
theorem dX4_emit_47 : decode cX4_emit 47 = .ok (.iconst 1, 1) := by decide +kernel
theorem dX4_emit_48 : decode cX4_emit 48 = .ok (.iadd, 1) := by decide +kernel
theorem dX4_emit_49 : decode cX4_emit 49 = .ok (.putfield 94, 3) := by decide +kernel
theorem dX4_emit_52 : decode cX4_emit 52 = .ok (.return_, 1) := by decide +kernel
theorem dX5_init_0 : decode cX5_init 0 = .ok (.aload_n 0, 1) := by decide +kernel
theorem dX5_init_1 : decode cX5_init 1 = .ok (.invokespecial 3, 3) := by decide +kernel
theorem dX5_init_4 : decode cX5_init 4 = .ok (.aload_n 0, 1) := by decide +kernel
theorem dX5_init_5 : decode cX5_init 5 = .ok (.iconst 0, 1) := by decide +kernel
theorem dX5_init_6 : decode cX5_init 6 = .ok (.iload_n 2, 1) := by decide +kernel
theorem dX5_init_7 : decode cX5_init 7 = .ok (.aload_n 1, 1) := by decide +kernel
theorem dX5_init_8 : decode cX5_init 8 = .ok (.arraylength, 1) := by decide +kernel
theorem dX5_init_9 : decode cX5_init 9 = .ok (.invokestatic 9, 3) := by decide +kernel
theorem dX5_init_12 : decode cX5_init 12 = .ok (.invokestatic 15, 3) := by decide +kernel
theorem dX5_init_15 : decode cX5_init 15 = .ok (.newarray .char, 2) := by decide +kernel
theorem dX5_init_17 : decode cX5_init 17 = .ok (.putfield 18, 3) := by decide +kernel
theorem dX5_init_20 : decode cX5_init 20 = .ok (.iconst 0, 1) := by decide +kernel
theorem dX5_init_21 : decode cX5_init 21 = .ok (.istore 5, 2) := by decide +kernel
theorem dX5_init_23 : decode cX5_init 23 = .ok (.iload 5, 2) := by decide +kernel
theorem dX5_init_25 : decode cX5_init 25 = .ok (.aload_n 0, 1) := by decide +kernel
theorem dX5_init_26 : decode cX5_init 26 = .ok (.getfield 18, 3) := by decide +kernel
theorem dX5_init_29 : decode cX5_init 29 = .ok (.arraylength, 1) := by decide +kernel
theorem dX5_init_30 : decode cX5_init 30 = .ok (.if_icmp .ge 25, 3) := by decide +kernel
theorem dX5_init_33 : decode cX5_init 33 = .ok (.aload_n 0, 1) := by decide +kernel
theorem dX5_init_34 : decode cX5_init 34 = .ok (.getfield 18, 3) := by decide +kernel
theorem dX5_init_37 : decode cX5_init 37 = .ok (.iload 5, 2) := by decide +kernel
theorem dX5_init_39 : decode cX5_init 39 = .ok (.aload_n 1, 1) := by decide +kernel
theorem dX5_init_40 : decode cX5_init 40 = .ok (.iload 5, 2) := by decide +kernel
theorem dX5_init_42 : decode cX5_init 42 = .ok (.baload, 1) := by decide +kernel
theorem dX5_init_43 : decode cX5_init 43 = .ok (.sipush 255, 3) := by decide +kernel
theorem dX5_init_46 : decode cX5_init 46 = .ok (.iand, 1) := by decide +kernel
theorem dX5_init_47 : decode cX5_init 47 = .ok (.i2c, 1) := by decide +kernel
theorem dX5_init_48 : decode cX5_init 48 = .ok (.castore, 1) := by decide +kernel
theorem dX5_init_49 : decode cX5_init 49 = .ok (.iinc 5 1, 3) := by decide +kernel
theorem dX5_init_52 : decode cX5_init 52 = .ok (.goto (-29), 3) := by decide +kernel
theorem dX5_init_55 : decode cX5_init 55 = .ok (.aload_n 0, 1) := by decide +kernel
theorem dX5_init_56 : decode cX5_init 56 = .ok (.aload_n 3, 1) := by decide +kernel
theorem dX5_init_57 : decode cX5_init 57 = .ok (.putfield 24, 3) := by decide +kernel
theorem dX5_init_60 : decode cX5_init 60 = .ok (.aload_n 0, 1) := by decide +kernel
theorem dX5_init_61 : decode cX5_init 61 = .ok (.aload 4, 2) := by decide +kernel
theorem dX5_init_63 : decode cX5_init 63 = .ok (.putfield 28, 3) := by decide +kernel
theorem dX5_init_66 : decode cX5_init 66 = .ok (.aload_n 0, 1) := by decide +kernel
theorem dX5_init_67 : decode cX5_init 67 = .ok (.aload_n 0, 1) := by decide +kernel
theorem dX5_init_68 : decode cX5_init 68 = .ok (.getfield 18, 3) := by decide +kernel
theorem dX5_init_71 : decode cX5_init 71 = .ok (.arraylength, 1) := by decide +kernel
theorem dX5_init_72 : decode cX5_init 72 = .ok (.iconst 1, 1) := by decide +kernel
theorem dX5_init_73 : decode cX5_init 73 = .ok (.iadd, 1) := by decide +kernel
theorem dX5_init_74 : decode cX5_init 74 = .ok (.newarray .int, 2) := by decide +kernel
theorem dX5_init_76 : decode cX5_init 76 = .ok (.putfield 31, 3) := by decide +kernel
theorem dX5_init_79 : decode cX5_init 79 = .ok (.aload_n 0, 1) := by decide +kernel
theorem dX5_init_80 : decode cX5_init 80 = .ok (.aload_n 0, 1) := by decide +kernel
theorem dX5_init_81 : decode cX5_init 81 = .ok (.getfield 18, 3) := by decide +kernel
theorem dX5_init_84 : decode cX5_init 84 = .ok (.arraylength, 1) := by decide +kernel
theorem dX5_init_85 : decode cX5_init 85 = .ok (.iconst 1, 1) := by decide +kernel
theorem dX5_init_86 : decode cX5_init 86 = .ok (.iadd, 1) := by decide +kernel
theorem dX5_init_87 : decode cX5_init 87 = .ok (.newarray .int, 2) := by decide +kernel
theorem dX5_init_89 : decode cX5_init 89 = .ok (.putfield 35, 3) := by decide +kernel
theorem dX5_init_92 : decode cX5_init 92 = .ok (.aload_n 0, 1) := by decide +kernel
theorem dX5_init_93 : decode cX5_init 93 = .ok (.aload_n 0, 1) := by decide +kernel
theorem dX5_init_94 : decode cX5_init 94 = .ok (.getfield 18, 3) := by decide +kernel
theorem dX5_init_97 : decode cX5_init 97 = .ok (.arraylength, 1) := by decide +kernel
theorem dX5_init_98 : decode cX5_init 98 = .ok (.iconst 1, 1) := by decide +kernel
theorem dX5_init_99 : decode cX5_init 99 = .ok (.iadd, 1) := by decide +kernel
theorem dX5_init_100 : decode cX5_init 100 = .ok (.newarray .int, 2) := by decide +kernel
theorem dX5_init_102 : decode cX5_init 102 = .ok (.putfield 38, 3) := by decide +kernel
theorem dX5_init_105 : decode cX5_init 105 = .ok (.aload_n 0, 1) := by decide +kernel
theorem dX5_init_106 : decode cX5_init 106 = .ok (.aload_n 0, 1) := by decide +kernel
theorem dX5_init_107 : decode cX5_init 107 = .ok (.getfield 18, 3) := by decide +kernel
theorem dX5_init_110 : decode cX5_init 110 = .ok (.arraylength, 1) := by decide +kernel
theorem dX5_init_111 : decode cX5_init 111 = .ok (.iconst 1, 1) := by decide +kernel
theorem dX5_init_112 : decode cX5_init 112 = .ok (.iadd, 1) := by decide +kernel
theorem dX5_init_113 : decode cX5_init 113 = .ok (.newarray .int, 2) := by decide +kernel
theorem dX5_init_115 : decode cX5_init 115 = .ok (.putfield 41, 3) := by decide +kernel
theorem dX5_init_118 : decode cX5_init 118 = .ok (.aload_n 0, 1) := by decide +kernel
theorem dX5_init_119 : decode cX5_init 119 = .ok (.iconst (-1), 1) := by decide +kernel
theorem dX5_init_120 : decode cX5_init 120 = .ok (.putfield 44, 3) := by decide +kernel
theorem dX5_init_123 : decode cX5_init 123 = .ok (.return_, 1) := by decide +kernel
theorem dX5_cut_0 : decode cX5_cut 0 = .ok (.iconst 0, 1) := by decide +kernel
theorem dX5_cut_1 : decode cX5_cut 1 = .ok (.istore_n 1, 1) := by decide +kernel
theorem dX5_cut_2 : decode cX5_cut 2 = .ok (.iload_n 1, 1) := by decide +kernel
theorem dX5_cut_3 : decode cX5_cut 3 = .ok (.aload_n 0, 1) := by decide +kernel
theorem dX5_cut_4 : decode cX5_cut 4 = .ok (.getfield 18, 3) := by decide +kernel
theorem dX5_cut_7 : decode cX5_cut 7 = .ok (.arraylength, 1) := by decide +kernel
theorem dX5_cut_8 : decode cX5_cut 8 = .ok (.if_icmp .ge 18, 3) := by decide +kernel
theorem dX5_cut_11 : decode cX5_cut 11 = .ok (.iload_n 1, 1) := by decide +kernel
theorem dX5_cut_12 : decode cX5_cut 12 = .ok (.iconst 1, 1) := by decide +kernel
theorem dX5_cut_13 : decode cX5_cut 13 = .ok (.iadd, 1) := by decide +kernel
theorem dX5_cut_14 : decode cX5_cut 14 = .ok (.aload_n 0, 1) := by decide +kernel
theorem dX5_cut_15 : decode cX5_cut 15 = .ok (.iload_n 1, 1) := by decide +kernel
theorem dX5_cut_16 : decode cX5_cut 16 = .ok (.invokevirtual 48, 3) := by decide +kernel
theorem dX5_cut_19 : decode cX5_cut 19 = .ok (.invokestatic 15, 3) := by decide +kernel
theorem dX5_cut_22 : decode cX5_cut 22 = .ok (.istore_n 1, 1) := by decide +kernel
theorem dX5_cut_23 : decode cX5_cut 23 = .ok (.goto (-21), 3) := by decide +kernel
theorem dX5_cut_26 : decode cX5_cut 26 = .ok (.aload_n 0, 1) := by decide +kernel
theorem dX5_cut_27 : decode cX5_cut 27 = .ok (.iconst 0, 1) := by decide +kernel
theorem dX5_cut_28 : decode cX5_cut 28 = .ok (.iconst (-1), 1) := by decide +kernel
theorem dX5_cut_29 : decode cX5_cut 29 = .ok (.aload_n 0, 1) := by decide +kernel
theorem dX5_cut_30 : decode cX5_cut 30 = .ok (.getfield 18, 3) := by decide +kernel
theorem dX5_cut_33 : decode cX5_cut 33 = .ok (.arraylength, 1) := by decide +kernel
theorem dX5_cut_34 : decode cX5_cut 34 = .ok (.aload_n 0, 1) := by decide +kernel
theorem dX5_cut_35 : decode cX5_cut 35 = .ok (.getfield 18, 3) := by decide +kernel
theorem dX5_cut_38 : decode cX5_cut 38 = .ok (.arraylength, 1) := by decide +kernel
theorem dX5_cut_39 : decode cX5_cut 39 = .ok (.invokevirtual 52, 3) := by decide +kernel
theorem dX5_cut_42 : decode cX5_cut 42 = .ok (.return_, 1) := by decide +kernel
theorem dX5_isFine_0 : decode cX5_isFine 0 = .ok (.aload_n 0, 1) := by decide +kernel
theorem dX5_isFine_1 : decode cX5_isFine 1 = .ok (.getfield 56, 3) := by decide +kernel
theorem dX5_isFine_4 : decode cX5_isFine 4 = .ok (.ifCond .ne 7, 3) := by decide +kernel
theorem dX5_isFine_7 : decode cX5_isFine 7 = .ok (.iconst 1, 1) := by decide +kernel
theorem dX5_isFine_8 : decode cX5_isFine 8 = .ok (.goto 4, 3) := by decide +kernel
theorem dX5_isFine_11 : decode cX5_isFine 11 = .ok (.iconst 0, 1) := by decide +kernel
theorem dX5_isFine_12 : decode cX5_isFine 12 = .ok (.ireturn, 1) := by decide +kernel
theorem dX5_isEnd_0 : decode cX5_isEnd 0 = .ok (.aload_n 0, 1) := by decide +kernel
theorem dX5_isEnd_1 : decode cX5_isEnd 1 = .ok (.getfield 31, 3) := by decide +kernel
theorem dX5_isEnd_4 : decode cX5_isEnd 4 = .ok (.aload_n 0, 1) := by decide +kernel
theorem dX5_isEnd_5 : decode cX5_isEnd 5 = .ok (.getfield 59, 3) := by decide +kernel
theorem dX5_isEnd_8 : decode cX5_isEnd 8 = .ok (.iaload, 1) := by decide +kernel
theorem dX5_isEnd_9 : decode cX5_isEnd 9 = .ok (.ifCond .ne 7, 3) := by decide +kernel
theorem dX5_isEnd_12 : decode cX5_isEnd 12 = .ok (.iconst 1, 1) := by decide +kernel
theorem dX5_isEnd_13 : decode cX5_isEnd 13 = .ok (.goto 4, 3) := by decide +kernel
theorem dX5_isEnd_16 : decode cX5_isEnd 16 = .ok (.iconst 0, 1) := by decide +kernel
theorem dX5_isEnd_17 : decode cX5_isEnd 17 = .ok (.ireturn, 1) := by decide +kernel
theorem dX5_isNumber_0 : decode cX5_isNumber 0 = .ok (.aload_n 0, 1) := by decide +kernel
theorem dX5_isNumber_1 : decode cX5_isNumber 1 = .ok (.getfield 31, 3) := by decide +kernel
theorem dX5_isNumber_4 : decode cX5_isNumber 4 = .ok (.aload_n 0, 1) := by decide +kernel
theorem dX5_isNumber_5 : decode cX5_isNumber 5 = .ok (.getfield 59, 3) := by decide +kernel
theorem dX5_isNumber_8 : decode cX5_isNumber 8 = .ok (.iaload, 1) := by decide +kernel
theorem dX5_isNumber_9 : decode cX5_isNumber 9 = .ok (.iconst 2, 1) := by decide +kernel
theorem dX5_isNumber_10 : decode cX5_isNumber 10 = .ok (.if_icmp .ne 7, 3) := by decide +kernel
theorem dX5_isNumber_13 : decode cX5_isNumber 13 = .ok (.iconst 1, 1) := by decide +kernel
theorem dX5_isNumber_14 : decode cX5_isNumber 14 = .ok (.goto 4, 3) := by decide +kernel
theorem dX5_isNumber_17 : decode cX5_isNumber 17 = .ok (.iconst 0, 1) := by decide +kernel
theorem dX5_isNumber_18 : decode cX5_isNumber 18 = .ok (.ireturn, 1) := by decide +kernel
theorem dX5_isAnyWord_0 : decode cX5_isAnyWord 0 = .ok (.aload_n 0, 1) := by decide +kernel
theorem dX5_isAnyWord_1 : decode cX5_isAnyWord 1 = .ok (.getfield 31, 3) := by decide +kernel
theorem dX5_isAnyWord_4 : decode cX5_isAnyWord 4 = .ok (.aload_n 0, 1) := by decide +kernel
theorem dX5_isAnyWord_5 : decode cX5_isAnyWord 5 = .ok (.getfield 59, 3) := by decide +kernel
theorem dX5_isAnyWord_8 : decode cX5_isAnyWord 8 = .ok (.iaload, 1) := by decide +kernel
theorem dX5_isAnyWord_9 : decode cX5_isAnyWord 9 = .ok (.iconst 1, 1) := by decide +kernel
theorem dX5_isAnyWord_10 : decode cX5_isAnyWord 10 = .ok (.if_icmp .ne 7, 3) := by decide +kernel
theorem dX5_isAnyWord_13 : decode cX5_isAnyWord 13 = .ok (.iconst 1, 1) := by decide +kernel
theorem dX5_isAnyWord_14 : decode cX5_isAnyWord 14 = .ok (.goto 4, 3) := by decide +kernel
theorem dX5_isAnyWord_17 : decode cX5_isAnyWord 17 = .ok (.iconst 0, 1) := by decide +kernel
theorem dX5_isAnyWord_18 : decode cX5_isAnyWord 18 = .ok (.ireturn, 1) := by decide +kernel
theorem dX5_isSign_0 : decode cX5_isSign 0 = .ok (.aload_n 0, 1) := by decide +kernel
theorem dX5_isSign_1 : decode cX5_isSign 1 = .ok (.getfield 31, 3) := by decide +kernel
theorem dX5_isSign_4 : decode cX5_isSign 4 = .ok (.aload_n 0, 1) := by decide +kernel
theorem dX5_isSign_5 : decode cX5_isSign 5 = .ok (.getfield 59, 3) := by decide +kernel
theorem dX5_isSign_8 : decode cX5_isSign 8 = .ok (.iaload, 1) := by decide +kernel
theorem dX5_isSign_9 : decode cX5_isSign 9 = .ok (.iconst 3, 1) := by decide +kernel
theorem dX5_isSign_10 : decode cX5_isSign 10 = .ok (.if_icmp .ne 20, 3) := by decide +kernel
theorem dX5_isSign_13 : decode cX5_isSign 13 = .ok (.aload_n 0, 1) := by decide +kernel
theorem dX5_isSign_14 : decode cX5_isSign 14 = .ok (.getfield 35, 3) := by decide +kernel
theorem dX5_isSign_17 : decode cX5_isSign 17 = .ok (.aload_n 0, 1) := by decide +kernel
theorem dX5_isSign_18 : decode cX5_isSign 18 = .ok (.getfield 59, 3) := by decide +kernel
theorem dX5_isSign_21 : decode cX5_isSign 21 = .ok (.iaload, 1) := by decide +kernel
theorem dX5_isSign_22 : decode cX5_isSign 22 = .ok (.iload_n 1, 1) := by decide +kernel
theorem dX5_isSign_23 : decode cX5_isSign 23 = .ok (.if_icmp .ne 7, 3) := by decide +kernel
theorem dX5_isSign_26 : decode cX5_isSign 26 = .ok (.iconst 1, 1) := by decide +kernel
theorem dX5_isSign_27 : decode cX5_isSign 27 = .ok (.goto 4, 3) := by decide +kernel
theorem dX5_isSign_30 : decode cX5_isSign 30 = .ok (.iconst 0, 1) := by decide +kernel
theorem dX5_isSign_31 : decode cX5_isSign 31 = .ok (.ireturn, 1) := by decide +kernel
theorem dX5_isWord_0 : decode cX5_isWord 0 = .ok (.aload_n 0, 1) := by decide +kernel
theorem dX5_isWord_1 : decode cX5_isWord 1 = .ok (.getfield 31, 3) := by decide +kernel
theorem dX5_isWord_4 : decode cX5_isWord 4 = .ok (.aload_n 0, 1) := by decide +kernel
theorem dX5_isWord_5 : decode cX5_isWord 5 = .ok (.getfield 59, 3) := by decide +kernel
theorem dX5_isWord_8 : decode cX5_isWord 8 = .ok (.iaload, 1) := by decide +kernel
theorem dX5_isWord_9 : decode cX5_isWord 9 = .ok (.iconst 1, 1) := by decide +kernel
theorem dX5_isWord_10 : decode cX5_isWord 10 = .ok (.if_icmp .ne 20, 3) := by decide +kernel
theorem dX5_isWord_13 : decode cX5_isWord 13 = .ok (.aload_n 0, 1) := by decide +kernel
theorem dX5_isWord_14 : decode cX5_isWord 14 = .ok (.getfield 35, 3) := by decide +kernel
theorem dX5_isWord_17 : decode cX5_isWord 17 = .ok (.aload_n 0, 1) := by decide +kernel
theorem dX5_isWord_18 : decode cX5_isWord 18 = .ok (.getfield 59, 3) := by decide +kernel
theorem dX5_isWord_21 : decode cX5_isWord 21 = .ok (.iaload, 1) := by decide +kernel
theorem dX5_isWord_22 : decode cX5_isWord 22 = .ok (.iload_n 1, 1) := by decide +kernel
theorem dX5_isWord_23 : decode cX5_isWord 23 = .ok (.if_icmp .ne 7, 3) := by decide +kernel
theorem dX5_isWord_26 : decode cX5_isWord 26 = .ok (.iconst 1, 1) := by decide +kernel
theorem dX5_isWord_27 : decode cX5_isWord 27 = .ok (.goto 4, 3) := by decide +kernel
theorem dX5_isWord_30 : decode cX5_isWord 30 = .ok (.iconst 0, 1) := by decide +kernel
theorem dX5_isWord_31 : decode cX5_isWord 31 = .ok (.ireturn, 1) := by decide +kernel
theorem dX5_code_0 : decode cX5_code 0 = .ok (.aload_n 0, 1) := by decide +kernel
theorem dX5_code_1 : decode cX5_code 1 = .ok (.getfield 35, 3) := by decide +kernel
theorem dX5_code_4 : decode cX5_code 4 = .ok (.aload_n 0, 1) := by decide +kernel
theorem dX5_code_5 : decode cX5_code 5 = .ok (.getfield 59, 3) := by decide +kernel
theorem dX5_code_8 : decode cX5_code 8 = .ok (.iaload, 1) := by decide +kernel
theorem dX5_code_9 : decode cX5_code 9 = .ok (.ireturn, 1) := by decide +kernel
theorem dX5_wordLength_0 : decode cX5_wordLength 0 = .ok (.aload_n 0, 1) := by decide +kernel
theorem dX5_wordLength_1 : decode cX5_wordLength 1 = .ok (.getfield 41, 3) := by decide +kernel
theorem dX5_wordLength_4 : decode cX5_wordLength 4 = .ok (.aload_n 0, 1) := by decide +kernel
theorem dX5_wordLength_5 : decode cX5_wordLength 5 = .ok (.getfield 59, 3) := by decide +kernel
theorem dX5_wordLength_8 : decode cX5_wordLength 8 = .ok (.iaload, 1) := by decide +kernel
theorem dX5_wordLength_9 : decode cX5_wordLength 9 = .ok (.aload_n 0, 1) := by decide +kernel
theorem dX5_wordLength_10 : decode cX5_wordLength 10 = .ok (.getfield 38, 3) := by decide +kernel
theorem dX5_wordLength_13 : decode cX5_wordLength 13 = .ok (.aload_n 0, 1) := by decide +kernel
theorem dX5_wordLength_14 : decode cX5_wordLength 14 = .ok (.getfield 59, 3) := by decide +kernel
theorem dX5_wordLength_17 : decode cX5_wordLength 17 = .ok (.iaload, 1) := by decide +kernel
theorem dX5_wordLength_18 : decode cX5_wordLength 18 = .ok (.isub, 1) := by decide +kernel
theorem dX5_wordLength_19 : decode cX5_wordLength 19 = .ok (.ireturn, 1) := by decide +kernel
theorem dX5_isSameWord_0 : decode cX5_isSameWord 0 = .ok (.iload_n 1, 1) := by decide +kernel
theorem dX5_isSameWord_1 : decode cX5_isSameWord 1 = .ok (.ifCond .lt 31, 3) := by decide +kernel
theorem dX5_isSameWord_4 : decode cX5_isSameWord 4 = .ok (.iload_n 1, 1) := by decide +kernel
theorem dX5_isSameWord_5 : decode cX5_isSameWord 5 = .ok (.aload_n 0, 1) := by decide +kernel
theorem dX5_isSameWord_6 : decode cX5_isSameWord 6 = .ok (.getfield 62, 3) := by decide +kernel
theorem dX5_isSameWord_9 : decode cX5_isSameWord 9 = .ok (.if_icmp .ge 23, 3) := by decide +kernel
theorem dX5_isSameWord_12 : decode cX5_isSameWord 12 = .ok (.aload_n 0, 1) := by decide +kernel
theorem dX5_isSameWord_13 : decode cX5_isSameWord 13 = .ok (.getfield 41, 3) := by decide +kernel
theorem dX5_isSameWord_16 : decode cX5_isSameWord 16 = .ok (.iload_n 1, 1) := by decide +kernel
theorem dX5_isSameWord_17 : decode cX5_isSameWord 17 = .ok (.iaload, 1) := by decide +kernel
theorem dX5_isSameWord_18 : decode cX5_isSameWord 18 = .ok (.aload_n 0, 1) := by decide +kernel
theorem dX5_isSameWord_19 : decode cX5_isSameWord 19 = .ok (.getfield 38, 3) := by decide +kernel
theorem dX5_isSameWord_22 : decode cX5_isSameWord 22 = .ok (.iload_n 1, 1) := by decide +kernel
theorem dX5_isSameWord_23 : decode cX5_isSameWord 23 = .ok (.iaload, 1) := by decide +kernel
theorem dX5_isSameWord_24 : decode cX5_isSameWord 24 = .ok (.isub, 1) := by decide +kernel
theorem dX5_isSameWord_25 : decode cX5_isSameWord 25 = .ok (.aload_n 0, 1) := by decide +kernel
theorem dX5_isSameWord_26 : decode cX5_isSameWord 26 = .ok (.invokevirtual 65, 3) := by decide +kernel
theorem dX5_isSameWord_29 : decode cX5_isSameWord 29 = .ok (.if_icmp .eq 5, 3) := by decide +kernel
theorem dX5_isSameWord_32 : decode cX5_isSameWord 32 = .ok (.iconst 0, 1) := by decide +kernel
theorem dX5_isSameWord_33 : decode cX5_isSameWord 33 = .ok (.ireturn, 1) := by decide +kernel
theorem dX5_isSameWord_34 : decode cX5_isSameWord 34 = .ok (.iconst 0, 1) := by decide +kernel
theorem dX5_isSameWord_35 : decode cX5_isSameWord 35 = .ok (.istore_n 2, 1) := by decide +kernel
theorem dX5_isSameWord_36 : decode cX5_isSameWord 36 = .ok (.iload_n 2, 1) := by decide +kernel
theorem dX5_isSameWord_37 : decode cX5_isSameWord 37 = .ok (.aload_n 0, 1) := by decide +kernel
theorem dX5_isSameWord_38 : decode cX5_isSameWord 38 = .ok (.invokevirtual 65, 3) := by decide +kernel
theorem dX5_isSameWord_41 : decode cX5_isSameWord 41 = .ok (.if_icmp .ge 43, 3) := by decide +kernel
theorem dX5_isSameWord_44 : decode cX5_isSameWord 44 = .ok (.aload_n 0, 1) := by decide +kernel
theorem dX5_isSameWord_45 : decode cX5_isSameWord 45 = .ok (.getfield 18, 3) := by decide +kernel
theorem dX5_isSameWord_48 : decode cX5_isSameWord 48 = .ok (.aload_n 0, 1) := by decide +kernel
theorem dX5_isSameWord_49 : decode cX5_isSameWord 49 = .ok (.getfield 38, 3) := by decide +kernel
theorem dX5_isSameWord_52 : decode cX5_isSameWord 52 = .ok (.iload_n 1, 1) := by decide +kernel
theorem dX5_isSameWord_53 : decode cX5_isSameWord 53 = .ok (.iaload, 1) := by decide +kernel
theorem dX5_isSameWord_54 : decode cX5_isSameWord 54 = .ok (.iload_n 2, 1) := by decide +kernel
theorem dX5_isSameWord_55 : decode cX5_isSameWord 55 = .ok (.iadd, 1) := by decide +kernel
theorem dX5_isSameWord_56 : decode cX5_isSameWord 56 = .ok (.caload, 1) := by decide +kernel
theorem dX5_isSameWord_57 : decode cX5_isSameWord 57 = .ok (.aload_n 0, 1) := by decide +kernel
theorem dX5_isSameWord_58 : decode cX5_isSameWord 58 = .ok (.getfield 18, 3) := by decide +kernel
theorem dX5_isSameWord_61 : decode cX5_isSameWord 61 = .ok (.aload_n 0, 1) := by decide +kernel
theorem dX5_isSameWord_62 : decode cX5_isSameWord 62 = .ok (.getfield 38, 3) := by decide +kernel
theorem dX5_isSameWord_65 : decode cX5_isSameWord 65 = .ok (.aload_n 0, 1) := by decide +kernel
theorem dX5_isSameWord_66 : decode cX5_isSameWord 66 = .ok (.getfield 59, 3) := by decide +kernel
theorem dX5_isSameWord_69 : decode cX5_isSameWord 69 = .ok (.iaload, 1) := by decide +kernel
theorem dX5_isSameWord_70 : decode cX5_isSameWord 70 = .ok (.iload_n 2, 1) := by decide +kernel
theorem dX5_isSameWord_71 : decode cX5_isSameWord 71 = .ok (.iadd, 1) := by decide +kernel
theorem dX5_isSameWord_72 : decode cX5_isSameWord 72 = .ok (.caload, 1) := by decide +kernel
theorem dX5_isSameWord_73 : decode cX5_isSameWord 73 = .ok (.if_icmp .eq 5, 3) := by decide +kernel
theorem dX5_isSameWord_76 : decode cX5_isSameWord 76 = .ok (.iconst 0, 1) := by decide +kernel
theorem dX5_isSameWord_77 : decode cX5_isSameWord 77 = .ok (.ireturn, 1) := by decide +kernel
theorem dX5_isSameWord_78 : decode cX5_isSameWord 78 = .ok (.iinc 2 1, 3) := by decide +kernel
theorem dX5_isSameWord_81 : decode cX5_isSameWord 81 = .ok (.goto (-45), 3) := by decide +kernel
theorem dX5_isSameWord_84 : decode cX5_isSameWord 84 = .ok (.iconst 1, 1) := by decide +kernel
theorem dX5_isSameWord_85 : decode cX5_isSameWord 85 = .ok (.ireturn, 1) := by decide +kernel
theorem dX5_refuse_0 : decode cX5_refuse 0 = .ok (.aload_n 0, 1) := by decide +kernel
theorem dX5_refuse_1 : decode cX5_refuse 1 = .ok (.getfield 56, 3) := by decide +kernel
theorem dX5_refuse_4 : decode cX5_refuse 4 = .ok (.ifCond .eq 4, 3) := by decide +kernel
theorem dX5_refuse_7 : decode cX5_refuse 7 = .ok (.return_, 1) := by decide +kernel
theorem dX5_refuse_8 : decode cX5_refuse 8 = .ok (.aload_n 0, 1) := by decide +kernel
theorem dX5_refuse_9 : decode cX5_refuse 9 = .ok (.aload_n 0, 1) := by decide +kernel
theorem dX5_refuse_10 : decode cX5_refuse 10 = .ok (.getfield 31, 3) := by decide +kernel
theorem dX5_refuse_13 : decode cX5_refuse 13 = .ok (.aload_n 0, 1) := by decide +kernel
theorem dX5_refuse_14 : decode cX5_refuse 14 = .ok (.getfield 59, 3) := by decide +kernel
theorem dX5_refuse_17 : decode cX5_refuse 17 = .ok (.iaload, 1) := by decide +kernel
theorem dX5_refuse_18 : decode cX5_refuse 18 = .ok (.iconst 4, 1) := by decide +kernel
theorem dX5_refuse_19 : decode cX5_refuse 19 = .ok (.if_icmp .ne 7, 3) := by decide +kernel
theorem dX5_refuse_22 : decode cX5_refuse 22 = .ok (.iconst 1, 1) := by decide +kernel
theorem dX5_refuse_23 : decode cX5_refuse 23 = .ok (.goto 4, 3) := by decide +kernel
theorem dX5_refuse_26 : decode cX5_refuse 26 = .ok (.iload_n 1, 1) := by decide +kernel
theorem dX5_refuse_27 : decode cX5_refuse 27 = .ok (.putfield 56, 3) := by decide +kernel
theorem dX5_refuse_30 : decode cX5_refuse 30 = .ok (.aload_n 0, 1) := by decide +kernel
theorem dX5_refuse_31 : decode cX5_refuse 31 = .ok (.aload_n 0, 1) := by decide +kernel
theorem dX5_refuse_32 : decode cX5_refuse 32 = .ok (.getfield 38, 3) := by decide +kernel
theorem dX5_refuse_35 : decode cX5_refuse 35 = .ok (.aload_n 0, 1) := by decide +kernel
theorem dX5_refuse_36 : decode cX5_refuse 36 = .ok (.getfield 59, 3) := by decide +kernel
theorem dX5_refuse_39 : decode cX5_refuse 39 = .ok (.iaload, 1) := by decide +kernel
theorem dX5_refuse_40 : decode cX5_refuse 40 = .ok (.putfield 44, 3) := by decide +kernel
theorem dX5_refuse_43 : decode cX5_refuse 43 = .ok (.aload_n 0, 1) := by decide +kernel
theorem dX5_refuse_44 : decode cX5_refuse 44 = .ok (.getfield 31, 3) := by decide +kernel
theorem dX5_refuse_47 : decode cX5_refuse 47 = .ok (.aload_n 0, 1) := by decide +kernel
theorem dX5_refuse_48 : decode cX5_refuse 48 = .ok (.getfield 59, 3) := by decide +kernel
theorem dX5_refuse_51 : decode cX5_refuse 51 = .ok (.iconst 4, 1) := by decide +kernel
theorem dX5_refuse_52 : decode cX5_refuse 52 = .ok (.iastore, 1) := by decide +kernel
theorem dX5_refuse_53 : decode cX5_refuse 53 = .ok (.return_, 1) := by decide +kernel
theorem dX5_takeSign_0 : decode cX5_takeSign 0 = .ok (.aload_n 0, 1) := by decide +kernel
theorem dX5_takeSign_1 : decode cX5_takeSign 1 = .ok (.iload_n 1, 1) := by decide +kernel
theorem dX5_takeSign_2 : decode cX5_takeSign 2 = .ok (.invokevirtual 69, 3) := by decide +kernel
theorem dX5_takeSign_5 : decode cX5_takeSign 5 = .ok (.ifCond .eq 10, 3) := by decide +kernel
theorem dX5_takeSign_8 : decode cX5_takeSign 8 = .ok (.aload_n 0, 1) := by decide +kernel
theorem dX5_takeSign_9 : decode cX5_takeSign 9 = .ok (.invokevirtual 73, 3) := by decide +kernel
theorem dX5_takeSign_12 : decode cX5_takeSign 12 = .ok (.goto 8, 3) := by decide +kernel
theorem dX5_takeSign_15 : decode cX5_takeSign 15 = .ok (.aload_n 0, 1) := by decide +kernel
theorem dX5_takeSign_16 : decode cX5_takeSign 16 = .ok (.iconst 2, 1) := by decide +kernel
theorem dX5_takeSign_17 : decode cX5_takeSign 17 = .ok (.invokevirtual 76, 3) := by decide +kernel
theorem dX5_takeSign_20 : decode cX5_takeSign 20 = .ok (.return_, 1) := by decide +kernel
theorem dX5_takeWord_0 : decode cX5_takeWord 0 = .ok (.aload_n 0, 1) := by decide +kernel
theorem dX5_takeWord_1 : decode cX5_takeWord 1 = .ok (.iload_n 1, 1) := by decide +kernel
theorem dX5_takeWord_2 : decode cX5_takeWord 2 = .ok (.invokevirtual 80, 3) := by decide +kernel
theorem dX5_takeWord_5 : decode cX5_takeWord 5 = .ok (.ifCond .eq 10, 3) := by decide +kernel
theorem dX5_takeWord_8 : decode cX5_takeWord 8 = .ok (.aload_n 0, 1) := by decide +kernel
theorem dX5_takeWord_9 : decode cX5_takeWord 9 = .ok (.invokevirtual 73, 3) := by decide +kernel
theorem dX5_takeWord_12 : decode cX5_takeWord 12 = .ok (.goto 8, 3) := by decide +kernel
theorem dX5_takeWord_15 : decode cX5_takeWord 15 = .ok (.aload_n 0, 1) := by decide +kernel
theorem dX5_takeWord_16 : decode cX5_takeWord 16 = .ok (.iconst 2, 1) := by decide +kernel
theorem dX5_takeWord_17 : decode cX5_takeWord 17 = .ok (.invokevirtual 76, 3) := by decide +kernel
theorem dX5_takeWord_20 : decode cX5_takeWord 20 = .ok (.return_, 1) := by decide +kernel
theorem dX5_advance_0 : decode cX5_advance 0 = .ok (.aload_n 0, 1) := by decide +kernel
theorem dX5_advance_1 : decode cX5_advance 1 = .ok (.getfield 59, 3) := by decide +kernel
theorem dX5_advance_4 : decode cX5_advance 4 = .ok (.aload_n 0, 1) := by decide +kernel
theorem dX5_advance_5 : decode cX5_advance 5 = .ok (.getfield 62, 3) := by decide +kernel
theorem dX5_advance_8 : decode cX5_advance 8 = .ok (.iconst 1, 1) := by decide +kernel
theorem dX5_advance_9 : decode cX5_advance 9 = .ok (.isub, 1) := by decide +kernel
theorem dX5_advance_10 : decode cX5_advance 10 = .ok (.if_icmp .ge 26, 3) := by decide +kernel
theorem dX5_advance_13 : decode cX5_advance 13 = .ok (.aload_n 0, 1) := by decide +kernel
theorem dX5_advance_14 : decode cX5_advance 14 = .ok (.getfield 31, 3) := by decide +kernel
theorem dX5_advance_17 : decode cX5_advance 17 = .ok (.aload_n 0, 1) := by decide +kernel
theorem dX5_advance_18 : decode cX5_advance 18 = .ok (.getfield 59, 3) := by decide +kernel
theorem dX5_advance_21 : decode cX5_advance 21 = .ok (.iaload, 1) := by decide +kernel
theorem dX5_advance_22 : decode cX5_advance 22 = .ok (.iconst 4, 1) := by decide +kernel
theorem dX5_advance_23 : decode cX5_advance 23 = .ok (.if_icmp .eq 13, 3) := by decide +kernel
theorem dX5_advance_26 : decode cX5_advance 26 = .ok (.aload_n 0, 1) := by decide +kernel
theorem dX5_advance_27 : decode cX5_advance 27 = .ok (.dup, 1) := by decide +kernel
theorem dX5_advance_28 : decode cX5_advance 28 = .ok (.getfield 59, 3) := by decide +kernel
theorem dX5_advance_31 : decode cX5_advance 31 = .ok (.iconst 1, 1) := by decide +kernel
theorem dX5_advance_32 : decode cX5_advance 32 = .ok (.iadd, 1) := by decide +kernel
theorem dX5_advance_33 : decode cX5_advance 33 = .ok (.putfield 59, 3) := by decide +kernel
theorem dX5_advance_36 : decode cX5_advance 36 = .ok (.return_, 1) := by decide +kernel
theorem dX5_add_0 : decode cX5_add 0 = .ok (.aload_n 0, 1) := by decide +kernel
theorem dX5_add_1 : decode cX5_add 1 = .ok (.getfield 62, 3) := by decide +kernel
theorem dX5_add_4 : decode cX5_add 4 = .ok (.aload_n 0, 1) := by decide +kernel
theorem dX5_add_5 : decode cX5_add 5 = .ok (.getfield 31, 3) := by decide +kernel
theorem dX5_add_8 : decode cX5_add 8 = .ok (.arraylength, 1) := by decide +kernel
theorem dX5_add_9 : decode cX5_add 9 = .ok (.if_icmp .ge 54, 3) := by decide +kernel
theorem dX5_add_12 : decode cX5_add 12 = .ok (.aload_n 0, 1) := by decide +kernel
theorem dX5_add_13 : decode cX5_add 13 = .ok (.getfield 31, 3) := by decide +kernel
theorem dX5_add_16 : decode cX5_add 16 = .ok (.aload_n 0, 1) := by decide +kernel
theorem dX5_add_17 : decode cX5_add 17 = .ok (.getfield 62, 3) := by decide +kernel
theorem dX5_add_20 : decode cX5_add 20 = .ok (.iload_n 1, 1) := by decide +kernel
theorem dX5_add_21 : decode cX5_add 21 = .ok (.iastore, 1) := by decide +kernel
theorem dX5_add_22 : decode cX5_add 22 = .ok (.aload_n 0, 1) := by decide +kernel
theorem dX5_add_23 : decode cX5_add 23 = .ok (.getfield 35, 3) := by decide +kernel
theorem dX5_add_26 : decode cX5_add 26 = .ok (.aload_n 0, 1) := by decide +kernel
theorem dX5_add_27 : decode cX5_add 27 = .ok (.getfield 62, 3) := by decide +kernel
theorem dX5_add_30 : decode cX5_add 30 = .ok (.iload_n 2, 1) := by decide +kernel
theorem dX5_add_31 : decode cX5_add 31 = .ok (.iastore, 1) := by decide +kernel
theorem dX5_add_32 : decode cX5_add 32 = .ok (.aload_n 0, 1) := by decide +kernel
theorem dX5_add_33 : decode cX5_add 33 = .ok (.getfield 38, 3) := by decide +kernel
theorem dX5_add_36 : decode cX5_add 36 = .ok (.aload_n 0, 1) := by decide +kernel
theorem dX5_add_37 : decode cX5_add 37 = .ok (.getfield 62, 3) := by decide +kernel
theorem dX5_add_40 : decode cX5_add 40 = .ok (.iload_n 3, 1) := by decide +kernel
theorem dX5_add_41 : decode cX5_add 41 = .ok (.iastore, 1) := by decide +kernel
theorem dX5_add_42 : decode cX5_add 42 = .ok (.aload_n 0, 1) := by decide +kernel
theorem dX5_add_43 : decode cX5_add 43 = .ok (.getfield 41, 3) := by decide +kernel
theorem dX5_add_46 : decode cX5_add 46 = .ok (.aload_n 0, 1) := by decide +kernel
theorem dX5_add_47 : decode cX5_add 47 = .ok (.getfield 62, 3) := by decide +kernel
theorem dX5_add_50 : decode cX5_add 50 = .ok (.iload 4, 2) := by decide +kernel
theorem dX5_add_52 : decode cX5_add 52 = .ok (.iastore, 1) := by decide +kernel
theorem dX5_add_53 : decode cX5_add 53 = .ok (.aload_n 0, 1) := by decide +kernel
theorem dX5_add_54 : decode cX5_add 54 = .ok (.dup, 1) := by decide +kernel
theorem dX5_add_55 : decode cX5_add 55 = .ok (.getfield 62, 3) := by decide +kernel
theorem dX5_add_58 : decode cX5_add 58 = .ok (.iconst 1, 1) := by decide +kernel
theorem dX5_add_59 : decode cX5_add 59 = .ok (.iadd, 1) := by decide +kernel
theorem dX5_add_60 : decode cX5_add 60 = .ok (.putfield 62, 3) := by decide +kernel
theorem dX5_add_63 : decode cX5_add 63 = .ok (.return_, 1) := by decide +kernel
theorem dX5_cutOne_0 : decode cX5_cutOne 0 = .ok (.aload_n 0, 1) := by decide +kernel
theorem dX5_cutOne_1 : decode cX5_cutOne 1 = .ok (.getfield 18, 3) := by decide +kernel
theorem dX5_cutOne_4 : decode cX5_cutOne 4 = .ok (.iload_n 1, 1) := by decide +kernel
theorem dX5_cutOne_5 : decode cX5_cutOne 5 = .ok (.caload, 1) := by decide +kernel
theorem dX5_cutOne_6 : decode cX5_cutOne 6 = .ok (.istore_n 2, 1) := by decide +kernel
theorem dX5_cutOne_7 : decode cX5_cutOne 7 = .ok (.iload_n 1, 1) := by decide +kernel
theorem dX5_cutOne_8 : decode cX5_cutOne 8 = .ok (.iconst 1, 1) := by decide +kernel
theorem dX5_cutOne_9 : decode cX5_cutOne 9 = .ok (.iadd, 1) := by decide +kernel
theorem dX5_cutOne_10 : decode cX5_cutOne 10 = .ok (.istore_n 3, 1) := by decide +kernel
theorem dX5_cutOne_11 : decode cX5_cutOne 11 = .ok (.iload_n 2, 1) := by decide +kernel
theorem dX5_cutOne_12 : decode cX5_cutOne 12 = .ok (.bipush 97, 2) := by decide +kernel
theorem dX5_cutOne_14 : decode cX5_cutOne 14 = .ok (.bipush 122, 2) := by decide +kernel
theorem dX5_cutOne_16 : decode cX5_cutOne 16 = .ok (.invokestatic 84, 3) := by decide +kernel
theorem dX5_cutOne_19 : decode cX5_cutOne 19 = .ok (.ifCond .eq 29, 3) := by decide +kernel
theorem dX5_cutOne_22 : decode cX5_cutOne 22 = .ok (.aload_n 0, 1) := by decide +kernel
theorem dX5_cutOne_23 : decode cX5_cutOne 23 = .ok (.iload_n 1, 1) := by decide +kernel
theorem dX5_cutOne_24 : decode cX5_cutOne 24 = .ok (.bipush 97, 2) := by decide +kernel
theorem dX5_cutOne_26 : decode cX5_cutOne 26 = .ok (.bipush 122, 2) := by decide +kernel
theorem dX5_cutOne_28 : decode cX5_cutOne 28 = .ok (.invokevirtual 88, 3) := by decide +kernel
theorem dX5_cutOne_31 : decode cX5_cutOne 31 = .ok (.istore_n 3, 1) := by decide +kernel
theorem dX5_cutOne_32 : decode cX5_cutOne 32 = .ok (.aload_n 0, 1) := by decide +kernel
theorem dX5_cutOne_33 : decode cX5_cutOne 33 = .ok (.iconst 1, 1) := by decide +kernel
theorem dX5_cutOne_34 : decode cX5_cutOne 34 = .ok (.aload_n 0, 1) := by decide +kernel
theorem dX5_cutOne_35 : decode cX5_cutOne 35 = .ok (.iload_n 1, 1) := by decide +kernel
theorem dX5_cutOne_36 : decode cX5_cutOne 36 = .ok (.iload_n 3, 1) := by decide +kernel
theorem dX5_cutOne_37 : decode cX5_cutOne 37 = .ok (.invokevirtual 92, 3) := by decide +kernel
theorem dX5_cutOne_40 : decode cX5_cutOne 40 = .ok (.iload_n 1, 1) := by decide +kernel
theorem dX5_cutOne_41 : decode cX5_cutOne 41 = .ok (.iload_n 3, 1) := by decide +kernel
theorem dX5_cutOne_42 : decode cX5_cutOne 42 = .ok (.invokevirtual 52, 3) := by decide +kernel
theorem dX5_cutOne_45 : decode cX5_cutOne 45 = .ok (.goto 108, 3) := by decide +kernel
theorem dX5_cutOne_48 : decode cX5_cutOne 48 = .ok (.iload_n 2, 1) := by decide +kernel
theorem dX5_cutOne_49 : decode cX5_cutOne 49 = .ok (.bipush 48, 2) := by decide +kernel
theorem dX5_cutOne_51 : decode cX5_cutOne 51 = .ok (.bipush 57, 2) := by decide +kernel
theorem dX5_cutOne_53 : decode cX5_cutOne 53 = .ok (.invokestatic 84, 3) := by decide +kernel
theorem dX5_cutOne_56 : decode cX5_cutOne 56 = .ok (.ifCond .eq 62, 3) := by decide +kernel
theorem dX5_cutOne_59 : decode cX5_cutOne 59 = .ok (.aload_n 0, 1) := by decide +kernel
theorem dX5_cutOne_60 : decode cX5_cutOne 60 = .ok (.iload_n 1, 1) := by decide +kernel
theorem dX5_cutOne_61 : decode cX5_cutOne 61 = .ok (.bipush 48, 2) := by decide +kernel
theorem dX5_cutOne_63 : decode cX5_cutOne 63 = .ok (.bipush 57, 2) := by decide +kernel
theorem dX5_cutOne_65 : decode cX5_cutOne 65 = .ok (.invokevirtual 88, 3) := by decide +kernel
theorem dX5_cutOne_68 : decode cX5_cutOne 68 = .ok (.istore_n 3, 1) := by decide +kernel
theorem dX5_cutOne_69 : decode cX5_cutOne 69 = .ok (.iload_n 3, 1) := by decide +kernel
theorem dX5_cutOne_70 : decode cX5_cutOne 70 = .ok (.iload_n 1, 1) := by decide +kernel
theorem dX5_cutOne_71 : decode cX5_cutOne 71 = .ok (.isub, 1) := by decide +kernel
theorem dX5_cutOne_72 : decode cX5_cutOne 72 = .ok (.bipush 6, 2) := by decide +kernel
theorem dX5_cutOne_74 : decode cX5_cutOne 74 = .ok (.if_icmp .gt 7, 3) := by decide +kernel
theorem dX5_cutOne_77 : decode cX5_cutOne 77 = .ok (.iconst 1, 1) := by decide +kernel
theorem dX5_cutOne_78 : decode cX5_cutOne 78 = .ok (.goto 4, 3) := by decide +kernel
theorem dX5_cutOne_81 : decode cX5_cutOne 81 = .ok (.iconst 0, 1) := by decide +kernel
theorem dX5_cutOne_82 : decode cX5_cutOne 82 = .ok (.istore 4, 2) := by decide +kernel
theorem dX5_cutOne_84 : decode cX5_cutOne 84 = .ok (.aload_n 0, 1) := by decide +kernel
theorem dX5_cutOne_85 : decode cX5_cutOne 85 = .ok (.iload 4, 2) := by decide +kernel
theorem dX5_cutOne_87 : decode cX5_cutOne 87 = .ok (.ifCond .eq 7, 3) := by decide +kernel
theorem dX5_cutOne_90 : decode cX5_cutOne 90 = .ok (.iconst 2, 1) := by decide +kernel
theorem dX5_cutOne_91 : decode cX5_cutOne 91 = .ok (.goto 4, 3) := by decide +kernel
theorem dX5_cutOne_94 : decode cX5_cutOne 94 = .ok (.iconst 4, 1) := by decide +kernel
theorem dX5_cutOne_95 : decode cX5_cutOne 95 = .ok (.iload 4, 2) := by decide +kernel
theorem dX5_cutOne_97 : decode cX5_cutOne 97 = .ok (.ifCond .eq 12, 3) := by decide +kernel
theorem dX5_cutOne_100 : decode cX5_cutOne 100 = .ok (.aload_n 0, 1) := by decide +kernel
theorem dX5_cutOne_101 : decode cX5_cutOne 101 = .ok (.iload_n 1, 1) := by decide +kernel
theorem dX5_cutOne_102 : decode cX5_cutOne 102 = .ok (.iload_n 3, 1) := by decide +kernel
theorem dX5_cutOne_103 : decode cX5_cutOne 103 = .ok (.invokevirtual 95, 3) := by decide +kernel
theorem dX5_cutOne_106 : decode cX5_cutOne 106 = .ok (.goto 4, 3) := by decide +kernel
theorem dX5_cutOne_109 : decode cX5_cutOne 109 = .ok (.iconst (-1), 1) := by decide +kernel
theorem dX5_cutOne_110 : decode cX5_cutOne 110 = .ok (.iload_n 1, 1) := by decide +kernel
theorem dX5_cutOne_111 : decode cX5_cutOne 111 = .ok (.iload_n 3, 1) := by decide +kernel
theorem dX5_cutOne_112 : decode cX5_cutOne 112 = .ok (.invokevirtual 52, 3) := by decide +kernel
theorem dX5_cutOne_115 : decode cX5_cutOne 115 = .ok (.goto 38, 3) := by decide +kernel
theorem dX5_cutOne_118 : decode cX5_cutOne 118 = .ok (.iload_n 2, 1) := by decide +kernel
theorem dX5_cutOne_119 : decode cX5_cutOne 119 = .ok (.bipush 32, 2) := by decide +kernel
theorem dX5_cutOne_121 : decode cX5_cutOne 121 = .ok (.if_icmp .eq 32, 3) := by decide +kernel
theorem dX5_cutOne_124 : decode cX5_cutOne 124 = .ok (.iload_n 2, 1) := by decide +kernel
theorem dX5_cutOne_125 : decode cX5_cutOne 125 = .ok (.bipush 10, 2) := by decide +kernel
theorem dX5_cutOne_127 : decode cX5_cutOne 127 = .ok (.if_icmp .eq 26, 3) := by decide +kernel
theorem dX5_cutOne_130 : decode cX5_cutOne 130 = .ok (.aload_n 0, 1) := by decide +kernel
theorem dX5_cutOne_131 : decode cX5_cutOne 131 = .ok (.aload_n 0, 1) := by decide +kernel
theorem dX5_cutOne_132 : decode cX5_cutOne 132 = .ok (.getfield 24, 3) := by decide +kernel
theorem dX5_cutOne_135 : decode cX5_cutOne 135 = .ok (.iload_n 2, 1) := by decide +kernel
theorem dX5_cutOne_136 : decode cX5_cutOne 136 = .ok (.invokevirtual 98, 3) := by decide +kernel
theorem dX5_cutOne_139 : decode cX5_cutOne 139 = .ok (.ifCond .lt 7, 3) := by decide +kernel
theorem dX5_cutOne_142 : decode cX5_cutOne 142 = .ok (.iconst 3, 1) := by decide +kernel
theorem dX5_cutOne_143 : decode cX5_cutOne 143 = .ok (.goto 4, 3) := by decide +kernel
theorem dX5_cutOne_146 : decode cX5_cutOne 146 = .ok (.iconst 4, 1) := by decide +kernel
theorem dX5_cutOne_147 : decode cX5_cutOne 147 = .ok (.iload_n 2, 1) := by decide +kernel
theorem dX5_cutOne_148 : decode cX5_cutOne 148 = .ok (.iload_n 1, 1) := by decide +kernel
theorem dX5_cutOne_149 : decode cX5_cutOne 149 = .ok (.iload_n 3, 1) := by decide +kernel
theorem dX5_cutOne_150 : decode cX5_cutOne 150 = .ok (.invokevirtual 52, 3) := by decide +kernel
theorem dX5_cutOne_153 : decode cX5_cutOne 153 = .ok (.iload_n 3, 1) := by decide +kernel
theorem dX5_cutOne_154 : decode cX5_cutOne 154 = .ok (.ireturn, 1) := by decide +kernel
theorem dX5_endOfRun_0 : decode cX5_endOfRun 0 = .ok (.iload_n 1, 1) := by decide +kernel
theorem dX5_endOfRun_1 : decode cX5_endOfRun 1 = .ok (.istore 4, 2) := by decide +kernel
theorem dX5_endOfRun_3 : decode cX5_endOfRun 3 = .ok (.iload 4, 2) := by decide +kernel
theorem dX5_endOfRun_5 : decode cX5_endOfRun 5 = .ok (.aload_n 0, 1) := by decide +kernel
theorem dX5_endOfRun_6 : decode cX5_endOfRun 6 = .ok (.getfield 18, 3) := by decide +kernel
theorem dX5_endOfRun_9 : decode cX5_endOfRun 9 = .ok (.arraylength, 1) := by decide +kernel
theorem dX5_endOfRun_10 : decode cX5_endOfRun 10 = .ok (.if_icmp .ge 31, 3) := by decide +kernel
theorem dX5_endOfRun_13 : decode cX5_endOfRun 13 = .ok (.aload_n 0, 1) := by decide +kernel
theorem dX5_endOfRun_14 : decode cX5_endOfRun 14 = .ok (.getfield 18, 3) := by decide +kernel
theorem dX5_endOfRun_17 : decode cX5_endOfRun 17 = .ok (.iload 4, 2) := by decide +kernel
theorem dX5_endOfRun_19 : decode cX5_endOfRun 19 = .ok (.caload, 1) := by decide +kernel
theorem dX5_endOfRun_20 : decode cX5_endOfRun 20 = .ok (.iload_n 2, 1) := by decide +kernel
theorem dX5_endOfRun_21 : decode cX5_endOfRun 21 = .ok (.if_icmp .lt 20, 3) := by decide +kernel
theorem dX5_endOfRun_24 : decode cX5_endOfRun 24 = .ok (.aload_n 0, 1) := by decide +kernel
theorem dX5_endOfRun_25 : decode cX5_endOfRun 25 = .ok (.getfield 18, 3) := by decide +kernel
theorem dX5_endOfRun_28 : decode cX5_endOfRun 28 = .ok (.iload 4, 2) := by decide +kernel
theorem dX5_endOfRun_30 : decode cX5_endOfRun 30 = .ok (.caload, 1) := by decide +kernel
theorem dX5_endOfRun_31 : decode cX5_endOfRun 31 = .ok (.iload_n 3, 1) := by decide +kernel
theorem dX5_endOfRun_32 : decode cX5_endOfRun 32 = .ok (.if_icmp .gt 9, 3) := by decide +kernel
theorem dX5_endOfRun_35 : decode cX5_endOfRun 35 = .ok (.iinc 4 1, 3) := by decide +kernel
theorem dX5_endOfRun_38 : decode cX5_endOfRun 38 = .ok (.goto (-35), 3) := by decide +kernel
theorem dX5_endOfRun_41 : decode cX5_endOfRun 41 = .ok (.iload 4, 2) := by decide +kernel
theorem dX5_endOfRun_43 : decode cX5_endOfRun 43 = .ok (.ireturn, 1) := by decide +kernel
theorem dX5_numberOf_0 : decode cX5_numberOf 0 = .ok (.iconst 0, 1) := by decide +kernel
theorem dX5_numberOf_1 : decode cX5_numberOf 1 = .ok (.istore_n 3, 1) := by decide +kernel
theorem dX5_numberOf_2 : decode cX5_numberOf 2 = .ok (.iload_n 1, 1) := by decide +kernel
theorem dX5_numberOf_3 : decode cX5_numberOf 3 = .ok (.istore 4, 2) := by decide +kernel
theorem dX5_numberOf_5 : decode cX5_numberOf 5 = .ok (.iload 4, 2) := by decide +kernel
theorem dX5_numberOf_7 : decode cX5_numberOf 7 = .ok (.iload_n 2, 1) := by decide +kernel
theorem dX5_numberOf_8 : decode cX5_numberOf 8 = .ok (.if_icmp .ge 25, 3) := by decide +kernel
theorem dX5_numberOf_11 : decode cX5_numberOf 11 = .ok (.bipush 10, 2) := by decide +kernel
theorem dX5_numberOf_13 : decode cX5_numberOf 13 = .ok (.iload_n 3, 1) := by decide +kernel
theorem dX5_numberOf_14 : decode cX5_numberOf 14 = .ok (.imul, 1) := by decide +kernel
theorem dX5_numberOf_15 : decode cX5_numberOf 15 = .ok (.aload_n 0, 1) := by decide +kernel
theorem dX5_numberOf_16 : decode cX5_numberOf 16 = .ok (.getfield 18, 3) := by decide +kernel
theorem dX5_numberOf_19 : decode cX5_numberOf 19 = .ok (.iload 4, 2) := by decide +kernel
theorem dX5_numberOf_21 : decode cX5_numberOf 21 = .ok (.caload, 1) := by decide +kernel
theorem dX5_numberOf_22 : decode cX5_numberOf 22 = .ok (.bipush 48, 2) := by decide +kernel
theorem dX5_numberOf_24 : decode cX5_numberOf 24 = .ok (.isub, 1) := by decide +kernel
theorem dX5_numberOf_25 : decode cX5_numberOf 25 = .ok (.iadd, 1) := by decide +kernel
theorem dX5_numberOf_26 : decode cX5_numberOf 26 = .ok (.istore_n 3, 1) := by decide +kernel
theorem dX5_numberOf_27 : decode cX5_numberOf 27 = .ok (.iinc 4 1, 3) := by decide +kernel
theorem dX5_numberOf_30 : decode cX5_numberOf 30 = .ok (.goto (-25), 3) := by decide +kernel
theorem dX5_numberOf_33 : decode cX5_numberOf 33 = .ok (.iload_n 3, 1) := by decide +kernel
theorem dX5_numberOf_34 : decode cX5_numberOf 34 = .ok (.ireturn, 1) := by decide +kernel
theorem dX5_placeInWords_0 : decode cX5_placeInWords 0 = .ok (.iconst 0, 1) := by decide +kernel
theorem dX5_placeInWords_1 : decode cX5_placeInWords 1 = .ok (.istore_n 3, 1) := by decide +kernel
theorem dX5_placeInWords_2 : decode cX5_placeInWords 2 = .ok (.iconst 0, 1) := by decide +kernel
theorem dX5_placeInWords_3 : decode cX5_placeInWords 3 = .ok (.istore 4, 2) := by decide +kernel
theorem dX5_placeInWords_5 : decode cX5_placeInWords 5 = .ok (.iconst 0, 1) := by decide +kernel
theorem dX5_placeInWords_6 : decode cX5_placeInWords 6 = .ok (.istore 5, 2) := by decide +kernel
theorem dX5_placeInWords_8 : decode cX5_placeInWords 8 = .ok (.iload 5, 2) := by decide +kernel
theorem dX5_placeInWords_10 : decode cX5_placeInWords 10 = .ok (.aload_n 0, 1) := by decide +kernel
theorem dX5_placeInWords_11 : decode cX5_placeInWords 11 = .ok (.getfield 28, 3) := by decide +kernel
theorem dX5_placeInWords_14 : decode cX5_placeInWords 14 = .ok (.invokevirtual 103, 3) := by decide +kernel
theorem dX5_placeInWords_17 : decode cX5_placeInWords 17 = .ok (.if_icmp .gt 59, 3) := by decide +kernel
theorem dX5_placeInWords_20 : decode cX5_placeInWords 20 = .ok (.iload 5, 2) := by decide +kernel
theorem dX5_placeInWords_22 : decode cX5_placeInWords 22 = .ok (.aload_n 0, 1) := by decide +kernel
theorem dX5_placeInWords_23 : decode cX5_placeInWords 23 = .ok (.getfield 28, 3) := by decide +kernel
theorem dX5_placeInWords_26 : decode cX5_placeInWords 26 = .ok (.invokevirtual 103, 3) := by decide +kernel
theorem dX5_placeInWords_29 : decode cX5_placeInWords 29 = .ok (.if_icmp .eq 17, 3) := by decide +kernel
theorem dX5_placeInWords_32 : decode cX5_placeInWords 32 = .ok (.aload_n 0, 1) := by decide +kernel
theorem dX5_placeInWords_33 : decode cX5_placeInWords 33 = .ok (.getfield 28, 3) := by decide +kernel
theorem dX5_placeInWords_36 : decode cX5_placeInWords 36 = .ok (.iload 5, 2) := by decide +kernel
theorem dX5_placeInWords_38 : decode cX5_placeInWords 38 = .ok (.invokevirtual 106, 3) := by decide +kernel
theorem dX5_placeInWords_41 : decode cX5_placeInWords 41 = .ok (.bipush 32, 2) := by decide +kernel
theorem dX5_placeInWords_43 : decode cX5_placeInWords 43 = .ok (.if_icmp .ne 27, 3) := by decide +kernel
theorem dX5_placeInWords_46 : decode cX5_placeInWords 46 = .ok (.aload_n 0, 1) := by decide +kernel
theorem dX5_placeInWords_47 : decode cX5_placeInWords 47 = .ok (.iload_n 1, 1) := by decide +kernel
theorem dX5_placeInWords_48 : decode cX5_placeInWords 48 = .ok (.iload_n 2, 1) := by decide +kernel
theorem dX5_placeInWords_49 : decode cX5_placeInWords 49 = .ok (.iload 4, 2) := by decide +kernel
theorem dX5_placeInWords_51 : decode cX5_placeInWords 51 = .ok (.iload 5, 2) := by decide +kernel
theorem dX5_placeInWords_53 : decode cX5_placeInWords 53 = .ok (.invokevirtual 110, 3) := by decide +kernel
theorem dX5_placeInWords_56 : decode cX5_placeInWords 56 = .ok (.ifCond .eq 5, 3) := by decide +kernel
theorem dX5_placeInWords_59 : decode cX5_placeInWords 59 = .ok (.iload_n 3, 1) := by decide +kernel
theorem dX5_placeInWords_60 : decode cX5_placeInWords 60 = .ok (.ireturn, 1) := by decide +kernel
theorem dX5_placeInWords_61 : decode cX5_placeInWords 61 = .ok (.iinc 3 1, 3) := by decide +kernel
theorem dX5_placeInWords_64 : decode cX5_placeInWords 64 = .ok (.iload 5, 2) := by decide +kernel
theorem dX5_placeInWords_66 : decode cX5_placeInWords 66 = .ok (.iconst 1, 1) := by decide +kernel
theorem dX5_placeInWords_67 : decode cX5_placeInWords 67 = .ok (.iadd, 1) := by decide +kernel
theorem dX5_placeInWords_68 : decode cX5_placeInWords 68 = .ok (.istore 4, 2) := by decide +kernel
theorem dX5_placeInWords_70 : decode cX5_placeInWords 70 = .ok (.iinc 5 1, 3) := by decide +kernel
theorem dX5_placeInWords_73 : decode cX5_placeInWords 73 = .ok (.goto (-65), 3) := by decide +kernel
theorem dX5_placeInWords_76 : decode cX5_placeInWords 76 = .ok (.iconst (-1), 1) := by decide +kernel
theorem dX5_placeInWords_77 : decode cX5_placeInWords 77 = .ok (.ireturn, 1) := by decide +kernel
theorem dX5_isSpelt_0 : decode cX5_isSpelt 0 = .ok (.iload 4, 2) := by decide +kernel
theorem dX5_isSpelt_2 : decode cX5_isSpelt 2 = .ok (.iload_n 3, 1) := by decide +kernel
theorem dX5_isSpelt_3 : decode cX5_isSpelt 3 = .ok (.isub, 1) := by decide +kernel
theorem dX5_isSpelt_4 : decode cX5_isSpelt 4 = .ok (.iload_n 2, 1) := by decide +kernel
theorem dX5_isSpelt_5 : decode cX5_isSpelt 5 = .ok (.iload_n 1, 1) := by decide +kernel
theorem dX5_isSpelt_6 : decode cX5_isSpelt 6 = .ok (.isub, 1) := by decide +kernel
theorem dX5_isSpelt_7 : decode cX5_isSpelt 7 = .ok (.if_icmp .eq 5, 3) := by decide +kernel
theorem dX5_isSpelt_10 : decode cX5_isSpelt 10 = .ok (.iconst 0, 1) := by decide +kernel
theorem dX5_isSpelt_11 : decode cX5_isSpelt 11 = .ok (.ireturn, 1) := by decide +kernel
theorem dX5_isSpelt_12 : decode cX5_isSpelt 12 = .ok (.iconst 0, 1) := by decide +kernel
theorem dX5_isSpelt_13 : decode cX5_isSpelt 13 = .ok (.istore 5, 2) := by decide +kernel
theorem dX5_isSpelt_15 : decode cX5_isSpelt 15 = .ok (.iload 5, 2) := by decide +kernel
theorem dX5_isSpelt_17 : decode cX5_isSpelt 17 = .ok (.iload 4, 2) := by decide +kernel
theorem dX5_isSpelt_19 : decode cX5_isSpelt 19 = .ok (.iload_n 3, 1) := by decide +kernel
theorem dX5_isSpelt_20 : decode cX5_isSpelt 20 = .ok (.isub, 1) := by decide +kernel
theorem dX5_isSpelt_21 : decode cX5_isSpelt 21 = .ok (.if_icmp .ge 34, 3) := by decide +kernel
theorem dX5_isSpelt_24 : decode cX5_isSpelt 24 = .ok (.aload_n 0, 1) := by decide +kernel
theorem dX5_isSpelt_25 : decode cX5_isSpelt 25 = .ok (.getfield 28, 3) := by decide +kernel
theorem dX5_isSpelt_28 : decode cX5_isSpelt 28 = .ok (.iload_n 3, 1) := by decide +kernel
theorem dX5_isSpelt_29 : decode cX5_isSpelt 29 = .ok (.iload 5, 2) := by decide +kernel
theorem dX5_isSpelt_31 : decode cX5_isSpelt 31 = .ok (.iadd, 1) := by decide +kernel
theorem dX5_isSpelt_32 : decode cX5_isSpelt 32 = .ok (.invokevirtual 106, 3) := by decide +kernel
theorem dX5_isSpelt_35 : decode cX5_isSpelt 35 = .ok (.aload_n 0, 1) := by decide +kernel
theorem dX5_isSpelt_36 : decode cX5_isSpelt 36 = .ok (.getfield 18, 3) := by decide +kernel
theorem dX5_isSpelt_39 : decode cX5_isSpelt 39 = .ok (.iload_n 1, 1) := by decide +kernel
theorem dX5_isSpelt_40 : decode cX5_isSpelt 40 = .ok (.iload 5, 2) := by decide +kernel
theorem dX5_isSpelt_42 : decode cX5_isSpelt 42 = .ok (.iadd, 1) := by decide +kernel
theorem dX5_isSpelt_43 : decode cX5_isSpelt 43 = .ok (.caload, 1) := by decide +kernel
theorem dX5_isSpelt_44 : decode cX5_isSpelt 44 = .ok (.if_icmp .eq 5, 3) := by decide +kernel
theorem dX5_isSpelt_47 : decode cX5_isSpelt 47 = .ok (.iconst 0, 1) := by decide +kernel
theorem dX5_isSpelt_48 : decode cX5_isSpelt 48 = .ok (.ireturn, 1) := by decide +kernel
theorem dX5_isSpelt_49 : decode cX5_isSpelt 49 = .ok (.iinc 5 1, 3) := by decide +kernel
theorem dX5_isSpelt_52 : decode cX5_isSpelt 52 = .ok (.goto (-37), 3) := by decide +kernel
theorem dX5_isSpelt_55 : decode cX5_isSpelt 55 = .ok (.iconst 1, 1) := by decide +kernel
theorem dX5_isSpelt_56 : decode cX5_isSpelt 56 = .ok (.ireturn, 1) := by decide +kernel
theorem dX6_init_0 : decode cX6_init 0 = .ok (.aload_n 0, 1) := by decide +kernel
theorem dX6_init_1 : decode cX6_init 1 = .ok (.invokespecial 5, 3) := by decide +kernel
theorem dX6_init_4 : decode cX6_init 4 = .ok (.aload_n 0, 1) := by decide +kernel
theorem dX6_init_5 : decode cX6_init 5 = .ok (.aload_n 1, 1) := by decide +kernel
theorem dX6_init_6 : decode cX6_init 6 = .ok (.putfield 11, 3) := by decide +kernel
theorem dX6_init_9 : decode cX6_init 9 = .ok (.aload_n 0, 1) := by decide +kernel
theorem dX6_init_10 : decode cX6_init 10 = .ok (.iload_n 2, 1) := by decide +kernel
theorem dX6_init_11 : decode cX6_init 11 = .ok (.putfield 15, 3) := by decide +kernel
theorem dX6_init_14 : decode cX6_init 14 = .ok (.aload_n 0, 1) := by decide +kernel
theorem dX6_init_15 : decode cX6_init 15 = .ok (.aload_n 1, 1) := by decide +kernel
theorem dX6_init_16 : decode cX6_init 16 = .ok (.getfield 19, 3) := by decide +kernel
theorem dX6_init_19 : decode cX6_init 19 = .ok (.newarray .int, 2) := by decide +kernel
theorem dX6_init_21 : decode cX6_init 21 = .ok (.putfield 24, 3) := by decide +kernel
theorem dX6_init_24 : decode cX6_init 24 = .ok (.aload_n 0, 1) := by decide +kernel
theorem dX6_init_25 : decode cX6_init 25 = .ok (.aload_n 1, 1) := by decide +kernel
theorem dX6_init_26 : decode cX6_init 26 = .ok (.getfield 19, 3) := by decide +kernel
theorem dX6_init_29 : decode cX6_init 29 = .ok (.newarray .int, 2) := by decide +kernel
theorem dX6_init_31 : decode cX6_init 31 = .ok (.putfield 28, 3) := by decide +kernel
theorem dX6_init_34 : decode cX6_init 34 = .ok (.aload_n 0, 1) := by decide +kernel
theorem dX6_init_35 : decode cX6_init 35 = .ok (.iconst (-1), 1) := by decide +kernel
theorem dX6_init_36 : decode cX6_init 36 = .ok (.putfield 31, 3) := by decide +kernel
theorem dX6_init_39 : decode cX6_init 39 = .ok (.aload_n 0, 1) := by decide +kernel
theorem dX6_init_40 : decode cX6_init 40 = .ok (.bipush 10, 2) := by decide +kernel
theorem dX6_init_42 : decode cX6_init 42 = .ok (.newarray .int, 2) := by decide +kernel
theorem dX6_init_44 : decode cX6_init 44 = .ok (.putfield 34, 3) := by decide +kernel
theorem dX6_init_47 : decode cX6_init 47 = .ok (.aload_n 0, 1) := by decide +kernel
theorem dX6_init_48 : decode cX6_init 48 = .ok (.bipush 11, 2) := by decide +kernel
theorem dX6_init_50 : decode cX6_init 50 = .ok (.newarray .long, 2) := by decide +kernel
theorem dX6_init_52 : decode cX6_init 52 = .ok (.putfield 37, 3) := by decide +kernel
theorem dX6_init_55 : decode cX6_init 55 = .ok (.aload_n 0, 1) := by decide +kernel
theorem dX6_init_56 : decode cX6_init 56 = .ok (.bipush 64, 2) := by decide +kernel
theorem dX6_init_58 : decode cX6_init 58 = .ok (.newarray .long, 2) := by decide +kernel
theorem dX6_init_60 : decode cX6_init 60 = .ok (.putfield 41, 3) := by decide +kernel
theorem dX6_init_63 : decode cX6_init 63 = .ok (.aload_n 0, 1) := by decide +kernel
theorem dX6_init_64 : decode cX6_init 64 = .ok (.bipush 64, 2) := by decide +kernel
theorem dX6_init_66 : decode cX6_init 66 = .ok (.newarray .boolean, 2) := by decide +kernel
theorem dX6_init_68 : decode cX6_init 68 = .ok (.putfield 44, 3) := by decide +kernel
theorem dX6_init_71 : decode cX6_init 71 = .ok (.aload_n 0, 1) := by decide +kernel
theorem dX6_init_72 : decode cX6_init 72 = .ok (.bipush 10, 2) := by decide +kernel
theorem dX6_init_74 : decode cX6_init 74 = .ok (.newarray .long, 2) := by decide +kernel
theorem dX6_init_76 : decode cX6_init 76 = .ok (.putfield 48, 3) := by decide +kernel
theorem dX6_init_79 : decode cX6_init 79 = .ok (.aload_n 0, 1) := by decide +kernel
theorem dX6_init_80 : decode cX6_init 80 = .ok (.bipush 10, 2) := by decide +kernel
theorem dX6_init_82 : decode cX6_init 82 = .ok (.newarray .boolean, 2) := by decide +kernel
theorem dX6_init_84 : decode cX6_init 84 = .ok (.putfield 51, 3) := by decide +kernel
theorem dX6_init_87 : decode cX6_init 87 = .ok (.return_, 1) := by decide +kernel
theorem dX6_readDefs_0 : decode cX6_readDefs 0 = .ok (.iconst 0, 1) := by decide +kernel
theorem dX6_readDefs_1 : decode cX6_readDefs 1 = .ok (.istore_n 1, 1) := by decide +kernel
theorem dX6_readDefs_2 : decode cX6_readDefs 2 = .ok (.iload_n 1, 1) := by decide +kernel
theorem dX6_readDefs_3 : decode cX6_readDefs 3 = .ok (.bipush 10, 2) := by decide +kernel
theorem dX6_readDefs_5 : decode cX6_readDefs 5 = .ok (.if_icmp .gt 33, 3) := by decide +kernel
theorem dX6_readDefs_8 : decode cX6_readDefs 8 = .ok (.aload_n 0, 1) := by decide +kernel
theorem dX6_readDefs_9 : decode cX6_readDefs 9 = .ok (.getfield 11, 3) := by decide +kernel
theorem dX6_readDefs_12 : decode cX6_readDefs 12 = .ok (.invokevirtual 54, 3) := by decide +kernel
theorem dX6_readDefs_15 : decode cX6_readDefs 15 = .ok (.ifCond .eq 23, 3) := by decide +kernel
theorem dX6_readDefs_18 : decode cX6_readDefs 18 = .ok (.aload_n 0, 1) := by decide +kernel
theorem dX6_readDefs_19 : decode cX6_readDefs 19 = .ok (.getfield 11, 3) := by decide +kernel
theorem dX6_readDefs_22 : decode cX6_readDefs 22 = .ok (.invokevirtual 58, 3) := by decide +kernel
theorem dX6_readDefs_25 : decode cX6_readDefs 25 = .ok (.ifCond .ne 13, 3) := by decide +kernel
theorem dX6_readDefs_28 : decode cX6_readDefs 28 = .ok (.aload_n 0, 1) := by decide +kernel
theorem dX6_readDefs_29 : decode cX6_readDefs 29 = .ok (.invokevirtual 61, 3) := by decide +kernel
theorem dX6_readDefs_32 : decode cX6_readDefs 32 = .ok (.iinc 1 1, 3) := by decide +kernel
theorem dX6_readDefs_35 : decode cX6_readDefs 35 = .ok (.goto (-33), 3) := by decide +kernel
theorem dX6_readDefs_38 : decode cX6_readDefs 38 = .ok (.return_, 1) := by decide +kernel
theorem dX6_readDef_0 : decode cX6_readDef 0 = .ok (.aload_n 0, 1) := by decide +kernel
theorem dX6_readDef_1 : decode cX6_readDef 1 = .ok (.invokevirtual 64, 3) := by decide +kernel
theorem dX6_readDef_4 : decode cX6_readDef 4 = .ok (.ifCond .ne 14, 3) := by decide +kernel
theorem dX6_readDef_7 : decode cX6_readDef 7 = .ok (.aload_n 0, 1) := by decide +kernel
theorem dX6_readDef_8 : decode cX6_readDef 8 = .ok (.getfield 11, 3) := by decide +kernel
theorem dX6_readDef_11 : decode cX6_readDef 11 = .ok (.iconst 2, 1) := by decide +kernel
theorem dX6_readDef_12 : decode cX6_readDef 12 = .ok (.invokevirtual 67, 3) := by decide +kernel
theorem dX6_readDef_15 : decode cX6_readDef 15 = .ok (.goto 128, 3) := by decide +kernel
theorem dX6_readDef_18 : decode cX6_readDef 18 = .ok (.aload_n 0, 1) := by decide +kernel
theorem dX6_readDef_19 : decode cX6_readDef 19 = .ok (.getfield 71, 3) := by decide +kernel
theorem dX6_readDef_22 : decode cX6_readDef 22 = .ok (.bipush 10, 2) := by decide +kernel
theorem dX6_readDef_24 : decode cX6_readDef 24 = .ok (.if_icmp .lt 14, 3) := by decide +kernel
theorem dX6_readDef_27 : decode cX6_readDef 27 = .ok (.aload_n 0, 1) := by decide +kernel
theorem dX6_readDef_28 : decode cX6_readDef 28 = .ok (.getfield 11, 3) := by decide +kernel
theorem dX6_readDef_31 : decode cX6_readDef 31 = .ok (.iconst 3, 1) := by decide +kernel
theorem dX6_readDef_32 : decode cX6_readDef 32 = .ok (.invokevirtual 67, 3) := by decide +kernel
theorem dX6_readDef_35 : decode cX6_readDef 35 = .ok (.goto 108, 3) := by decide +kernel
theorem dX6_readDef_38 : decode cX6_readDef 38 = .ok (.aload_n 0, 1) := by decide +kernel
theorem dX6_readDef_39 : decode cX6_readDef 39 = .ok (.invokevirtual 74, 3) := by decide +kernel
theorem dX6_readDef_42 : decode cX6_readDef 42 = .ok (.iconst (-1), 1) := by decide +kernel
theorem dX6_readDef_43 : decode cX6_readDef 43 = .ok (.if_icmp .eq 14, 3) := by decide +kernel
theorem dX6_readDef_46 : decode cX6_readDef 46 = .ok (.aload_n 0, 1) := by decide +kernel
theorem dX6_readDef_47 : decode cX6_readDef 47 = .ok (.getfield 11, 3) := by decide +kernel
theorem dX6_readDef_50 : decode cX6_readDef 50 = .ok (.iconst 4, 1) := by decide +kernel
theorem dX6_readDef_51 : decode cX6_readDef 51 = .ok (.invokevirtual 67, 3) := by decide +kernel
theorem dX6_readDef_54 : decode cX6_readDef 54 = .ok (.goto 89, 3) := by decide +kernel
theorem dX6_readDef_57 : decode cX6_readDef 57 = .ok (.aload_n 0, 1) := by decide +kernel
theorem dX6_readDef_58 : decode cX6_readDef 58 = .ok (.getfield 34, 3) := by decide +kernel
theorem dX6_readDef_61 : decode cX6_readDef 61 = .ok (.aload_n 0, 1) := by decide +kernel
theorem dX6_readDef_62 : decode cX6_readDef 62 = .ok (.getfield 71, 3) := by decide +kernel
theorem dX6_readDef_65 : decode cX6_readDef 65 = .ok (.aload_n 0, 1) := by decide +kernel
theorem dX6_readDef_66 : decode cX6_readDef 66 = .ok (.getfield 11, 3) := by decide +kernel
theorem dX6_readDef_69 : decode cX6_readDef 69 = .ok (.getfield 78, 3) := by decide +kernel
theorem dX6_readDef_72 : decode cX6_readDef 72 = .ok (.iastore, 1) := by decide +kernel
theorem dX6_readDef_73 : decode cX6_readDef 73 = .ok (.aload_n 0, 1) := by decide +kernel
theorem dX6_readDef_74 : decode cX6_readDef 74 = .ok (.getfield 11, 3) := by decide +kernel
theorem dX6_readDef_77 : decode cX6_readDef 77 = .ok (.bipush 19, 2) := by decide +kernel
theorem dX6_readDef_79 : decode cX6_readDef 79 = .ok (.invokevirtual 81, 3) := by decide +kernel
theorem dX6_readDef_82 : decode cX6_readDef 82 = .ok (.ifCond .eq 11, 3) := by decide +kernel
theorem dX6_readDef_85 : decode cX6_readDef 85 = .ok (.aload_n 0, 1) := by decide +kernel
theorem dX6_readDef_86 : decode cX6_readDef 86 = .ok (.aload_n 0, 1) := by decide +kernel
theorem dX6_readDef_87 : decode cX6_readDef 87 = .ok (.getfield 71, 3) := by decide +kernel
theorem dX6_readDef_90 : decode cX6_readDef 90 = .ok (.putfield 31, 3) := by decide +kernel
theorem dX6_readDef_93 : decode cX6_readDef 93 = .ok (.aload_n 0, 1) := by decide +kernel
theorem dX6_readDef_94 : decode cX6_readDef 94 = .ok (.getfield 11, 3) := by decide +kernel
theorem dX6_readDef_97 : decode cX6_readDef 97 = .ok (.invokevirtual 85, 3) := by decide +kernel
theorem dX6_readDef_100 : decode cX6_readDef 100 = .ok (.aload_n 0, 1) := by decide +kernel
theorem dX6_readDef_101 : decode cX6_readDef 101 = .ok (.getfield 11, 3) := by decide +kernel
theorem dX6_readDef_104 : decode cX6_readDef 104 = .ok (.bipush 58, 2) := by decide +kernel
theorem dX6_readDef_106 : decode cX6_readDef 106 = .ok (.invokevirtual 88, 3) := by decide +kernel
theorem dX6_readDef_109 : decode cX6_readDef 109 = .ok (.aload_n 0, 1) := by decide +kernel
theorem dX6_readDef_110 : decode cX6_readDef 110 = .ok (.iconst 1, 1) := by decide +kernel
theorem dX6_readDef_111 : decode cX6_readDef 111 = .ok (.iconst 1, 1) := by decide +kernel
theorem dX6_readDef_112 : decode cX6_readDef 112 = .ok (.invokevirtual 92, 3) := by decide +kernel
theorem dX6_readDef_115 : decode cX6_readDef 115 = .ok (.aload_n 0, 1) := by decide +kernel
theorem dX6_readDef_116 : decode cX6_readDef 116 = .ok (.iconst 3, 1) := by decide +kernel
theorem dX6_readDef_117 : decode cX6_readDef 117 = .ok (.aload_n 0, 1) := by decide +kernel
theorem dX6_readDef_118 : decode cX6_readDef 118 = .ok (.getfield 71, 3) := by decide +kernel
theorem dX6_readDef_121 : decode cX6_readDef 121 = .ok (.invokevirtual 96, 3) := by decide +kernel
theorem dX6_readDef_124 : decode cX6_readDef 124 = .ok (.aload_n 0, 1) := by decide +kernel
theorem dX6_readDef_125 : decode cX6_readDef 125 = .ok (.getfield 11, 3) := by decide +kernel
theorem dX6_readDef_128 : decode cX6_readDef 128 = .ok (.bipush 59, 2) := by decide +kernel
theorem dX6_readDef_130 : decode cX6_readDef 130 = .ok (.invokevirtual 88, 3) := by decide +kernel
theorem dX6_readDef_133 : decode cX6_readDef 133 = .ok (.aload_n 0, 1) := by decide +kernel
theorem dX6_readDef_134 : decode cX6_readDef 134 = .ok (.dup, 1) := by decide +kernel
theorem dX6_readDef_135 : decode cX6_readDef 135 = .ok (.getfield 71, 3) := by decide +kernel
theorem dX6_readDef_138 : decode cX6_readDef 138 = .ok (.iconst 1, 1) := by decide +kernel
theorem dX6_readDef_139 : decode cX6_readDef 139 = .ok (.iadd, 1) := by decide +kernel
theorem dX6_readDef_140 : decode cX6_readDef 140 = .ok (.putfield 71, 3) := by decide +kernel
theorem dX6_readDef_143 : decode cX6_readDef 143 = .ok (.return_, 1) := by decide +kernel
theorem dX6_isName_0 : decode cX6_isName 0 = .ok (.aload_n 0, 1) := by decide +kernel
theorem dX6_isName_1 : decode cX6_isName 1 = .ok (.getfield 11, 3) := by decide +kernel
theorem dX6_isName_4 : decode cX6_isName 4 = .ok (.invokevirtual 100, 3) := by decide +kernel
theorem dX6_isName_7 : decode cX6_isName 7 = .ok (.ifCond .eq 33, 3) := by decide +kernel
theorem dX6_isName_10 : decode cX6_isName 10 = .ok (.aload_n 0, 1) := by decide +kernel
theorem dX6_isName_11 : decode cX6_isName 11 = .ok (.getfield 11, 3) := by decide +kernel
theorem dX6_isName_14 : decode cX6_isName 14 = .ok (.invokevirtual 103, 3) := by decide +kernel
theorem dX6_isName_17 : decode cX6_isName 17 = .ok (.bipush 8, 2) := by decide +kernel
theorem dX6_isName_19 : decode cX6_isName 19 = .ok (.if_icmp .gt 21, 3) := by decide +kernel
theorem dX6_isName_22 : decode cX6_isName 22 = .ok (.aload_n 0, 1) := by decide +kernel
theorem dX6_isName_23 : decode cX6_isName 23 = .ok (.invokevirtual 106, 3) := by decide +kernel
theorem dX6_isName_26 : decode cX6_isName 26 = .ok (.ifCond .ne 14, 3) := by decide +kernel
theorem dX6_isName_29 : decode cX6_isName 29 = .ok (.aload_n 0, 1) := by decide +kernel
theorem dX6_isName_30 : decode cX6_isName 30 = .ok (.invokevirtual 109, 3) := by decide +kernel
theorem dX6_isName_33 : decode cX6_isName 33 = .ok (.ifCond .ne 7, 3) := by decide +kernel
theorem dX6_isName_36 : decode cX6_isName 36 = .ok (.iconst 1, 1) := by decide +kernel
theorem dX6_isName_37 : decode cX6_isName 37 = .ok (.goto 4, 3) := by decide +kernel
theorem dX6_isName_40 : decode cX6_isName 40 = .ok (.iconst 0, 1) := by decide +kernel
theorem dX6_isName_41 : decode cX6_isName 41 = .ok (.ireturn, 1) := by decide +kernel
theorem dX6_isKeyWord_0 : decode cX6_isKeyWord 0 = .ok (.aload_n 0, 1) := by decide +kernel
theorem dX6_isKeyWord_1 : decode cX6_isKeyWord 1 = .ok (.getfield 11, 3) := by decide +kernel
theorem dX6_isKeyWord_4 : decode cX6_isKeyWord 4 = .ok (.invokevirtual 100, 3) := by decide +kernel
theorem dX6_isKeyWord_7 : decode cX6_isKeyWord 7 = .ok (.ifCond .eq 23, 3) := by decide +kernel
theorem dX6_isKeyWord_10 : decode cX6_isKeyWord 10 = .ok (.aload_n 0, 1) := by decide +kernel
theorem dX6_isKeyWord_11 : decode cX6_isKeyWord 11 = .ok (.getfield 11, 3) := by decide +kernel
theorem dX6_isKeyWord_14 : decode cX6_isKeyWord 14 = .ok (.invokevirtual 112, 3) := by decide +kernel
theorem dX6_isKeyWord_17 : decode cX6_isKeyWord 17 = .ok (.iconst 0, 1) := by decide +kernel
theorem dX6_isKeyWord_18 : decode cX6_isKeyWord 18 = .ok (.bipush 7, 2) := by decide +kernel
theorem dX6_isKeyWord_20 : decode cX6_isKeyWord 20 = .ok (.invokestatic 115, 3) := by decide +kernel
theorem dX6_isKeyWord_23 : decode cX6_isKeyWord 23 = .ok (.ifCond .eq 7, 3) := by decide +kernel
theorem dX6_isKeyWord_26 : decode cX6_isKeyWord 26 = .ok (.iconst 1, 1) := by decide +kernel
theorem dX6_isKeyWord_27 : decode cX6_isKeyWord 27 = .ok (.goto 4, 3) := by decide +kernel
theorem dX6_isKeyWord_30 : decode cX6_isKeyWord 30 = .ok (.iconst 0, 1) := by decide +kernel
theorem dX6_isKeyWord_31 : decode cX6_isKeyWord 31 = .ok (.ireturn, 1) := by decide +kernel
theorem dX6_isVariable_0 : decode cX6_isVariable 0 = .ok (.aload_n 0, 1) := by decide +kernel
theorem dX6_isVariable_1 : decode cX6_isVariable 1 = .ok (.getfield 11, 3) := by decide +kernel
theorem dX6_isVariable_4 : decode cX6_isVariable 4 = .ok (.invokevirtual 100, 3) := by decide +kernel
theorem dX6_isVariable_7 : decode cX6_isVariable 7 = .ok (.ifCond .eq 24, 3) := by decide +kernel
theorem dX6_isVariable_10 : decode cX6_isVariable 10 = .ok (.aload_n 0, 1) := by decide +kernel
theorem dX6_isVariable_11 : decode cX6_isVariable 11 = .ok (.getfield 11, 3) := by decide +kernel
theorem dX6_isVariable_14 : decode cX6_isVariable 14 = .ok (.invokevirtual 112, 3) := by decide +kernel
theorem dX6_isVariable_17 : decode cX6_isVariable 17 = .ok (.bipush 8, 2) := by decide +kernel
theorem dX6_isVariable_19 : decode cX6_isVariable 19 = .ok (.bipush 18, 2) := by decide +kernel
theorem dX6_isVariable_21 : decode cX6_isVariable 21 = .ok (.invokestatic 115, 3) := by decide +kernel
theorem dX6_isVariable_24 : decode cX6_isVariable 24 = .ok (.ifCond .eq 7, 3) := by decide +kernel
theorem dX6_isVariable_27 : decode cX6_isVariable 27 = .ok (.iconst 1, 1) := by decide +kernel
theorem dX6_isVariable_28 : decode cX6_isVariable 28 = .ok (.goto 4, 3) := by decide +kernel
theorem dX6_isVariable_31 : decode cX6_isVariable 31 = .ok (.iconst 0, 1) := by decide +kernel
theorem dX6_isVariable_32 : decode cX6_isVariable 32 = .ok (.ireturn, 1) := by decide +kernel
theorem dX6_placeOfName_0 : decode cX6_placeOfName 0 = .ok (.iconst 0, 1) := by decide +kernel
theorem dX6_placeOfName_1 : decode cX6_placeOfName 1 = .ok (.istore_n 1, 1) := by decide +kernel
theorem dX6_placeOfName_2 : decode cX6_placeOfName 2 = .ok (.iload_n 1, 1) := by decide +kernel
theorem dX6_placeOfName_3 : decode cX6_placeOfName 3 = .ok (.aload_n 0, 1) := by decide +kernel
theorem dX6_placeOfName_4 : decode cX6_placeOfName 4 = .ok (.getfield 71, 3) := by decide +kernel
theorem dX6_placeOfName_7 : decode cX6_placeOfName 7 = .ok (.if_icmp .ge 27, 3) := by decide +kernel
theorem dX6_placeOfName_10 : decode cX6_placeOfName 10 = .ok (.aload_n 0, 1) := by decide +kernel
theorem dX6_placeOfName_11 : decode cX6_placeOfName 11 = .ok (.getfield 11, 3) := by decide +kernel
theorem dX6_placeOfName_14 : decode cX6_placeOfName 14 = .ok (.aload_n 0, 1) := by decide +kernel
theorem dX6_placeOfName_15 : decode cX6_placeOfName 15 = .ok (.getfield 34, 3) := by decide +kernel
theorem dX6_placeOfName_18 : decode cX6_placeOfName 18 = .ok (.iload_n 1, 1) := by decide +kernel
theorem dX6_placeOfName_19 : decode cX6_placeOfName 19 = .ok (.iaload, 1) := by decide +kernel
theorem dX6_placeOfName_20 : decode cX6_placeOfName 20 = .ok (.invokevirtual 119, 3) := by decide +kernel
theorem dX6_placeOfName_23 : decode cX6_placeOfName 23 = .ok (.ifCond .eq 5, 3) := by decide +kernel
theorem dX6_placeOfName_26 : decode cX6_placeOfName 26 = .ok (.iload_n 1, 1) := by decide +kernel
theorem dX6_placeOfName_27 : decode cX6_placeOfName 27 = .ok (.ireturn, 1) := by decide +kernel
theorem dX6_placeOfName_28 : decode cX6_placeOfName 28 = .ok (.iinc 1 1, 3) := by decide +kernel
theorem dX6_placeOfName_31 : decode cX6_placeOfName 31 = .ok (.goto (-29), 3) := by decide +kernel
theorem dX6_placeOfName_34 : decode cX6_placeOfName 34 = .ok (.iconst (-1), 1) := by decide +kernel
theorem dX6_placeOfName_35 : decode cX6_placeOfName 35 = .ok (.ireturn, 1) := by decide +kernel
theorem dX6_readPart_0 : decode cX6_readPart 0 = .ok (.iload_n 2, 1) := by decide +kernel
theorem dX6_readPart_1 : decode cX6_readPart 1 = .ok (.ifCond .eq 18, 3) := by decide +kernel
theorem dX6_readPart_4 : decode cX6_readPart 4 = .ok (.aload_n 0, 1) := by decide +kernel
theorem dX6_readPart_5 : decode cX6_readPart 5 = .ok (.getfield 11, 3) := by decide +kernel
theorem dX6_readPart_8 : decode cX6_readPart 8 = .ok (.iconst 0, 1) := by decide +kernel
theorem dX6_readPart_9 : decode cX6_readPart 9 = .ok (.invokevirtual 81, 3) := by decide +kernel
theorem dX6_readPart_12 : decode cX6_readPart 12 = .ok (.ifCond .eq 7, 3) := by decide +kernel
theorem dX6_readPart_15 : decode cX6_readPart 15 = .ok (.iconst 1, 1) := by decide +kernel
theorem dX6_readPart_16 : decode cX6_readPart 16 = .ok (.goto 4, 3) := by decide +kernel
theorem dX6_readPart_19 : decode cX6_readPart 19 = .ok (.iconst 0, 1) := by decide +kernel
theorem dX6_readPart_20 : decode cX6_readPart 20 = .ok (.istore_n 3, 1) := by decide +kernel
theorem dX6_readPart_21 : decode cX6_readPart 21 = .ok (.iload_n 1, 1) := by decide +kernel
theorem dX6_readPart_22 : decode cX6_readPart 22 = .ok (.bipush 8, 2) := by decide +kernel
theorem dX6_readPart_24 : decode cX6_readPart 24 = .ok (.if_icmp .le 29, 3) := by decide +kernel
theorem dX6_readPart_27 : decode cX6_readPart 27 = .ok (.aload_n 0, 1) := by decide +kernel
theorem dX6_readPart_28 : decode cX6_readPart 28 = .ok (.getfield 11, 3) := by decide +kernel
theorem dX6_readPart_31 : decode cX6_readPart 31 = .ok (.iload_n 3, 1) := by decide +kernel
theorem dX6_readPart_32 : decode cX6_readPart 32 = .ok (.ifCond .ne 10, 3) := by decide +kernel
theorem dX6_readPart_35 : decode cX6_readPart 35 = .ok (.aload_n 0, 1) := by decide +kernel
theorem dX6_readPart_36 : decode cX6_readPart 36 = .ok (.invokevirtual 122, 3) := by decide +kernel
theorem dX6_readPart_39 : decode cX6_readPart 39 = .ok (.ifCond .eq 7, 3) := by decide +kernel
theorem dX6_readPart_42 : decode cX6_readPart 42 = .ok (.iconst 5, 1) := by decide +kernel
theorem dX6_readPart_43 : decode cX6_readPart 43 = .ok (.goto 4, 3) := by decide +kernel
theorem dX6_readPart_46 : decode cX6_readPart 46 = .ok (.iconst 2, 1) := by decide +kernel
theorem dX6_readPart_47 : decode cX6_readPart 47 = .ok (.invokevirtual 67, 3) := by decide +kernel
theorem dX6_readPart_50 : decode cX6_readPart 50 = .ok (.goto 65, 3) := by decide +kernel
theorem dX6_readPart_53 : decode cX6_readPart 53 = .ok (.iload_n 3, 1) := by decide +kernel
theorem dX6_readPart_54 : decode cX6_readPart 54 = .ok (.ifCond .eq 56, 3) := by decide +kernel
theorem dX6_readPart_57 : decode cX6_readPart 57 = .ok (.aload_n 0, 1) := by decide +kernel
theorem dX6_readPart_58 : decode cX6_readPart 58 = .ok (.getfield 11, 3) := by decide +kernel
theorem dX6_readPart_61 : decode cX6_readPart 61 = .ok (.invokevirtual 85, 3) := by decide +kernel
theorem dX6_readPart_64 : decode cX6_readPart 64 = .ok (.aload_n 0, 1) := by decide +kernel
theorem dX6_readPart_65 : decode cX6_readPart 65 = .ok (.iload_n 1, 1) := by decide +kernel
theorem dX6_readPart_66 : decode cX6_readPart 66 = .ok (.invokevirtual 125, 3) := by decide +kernel
theorem dX6_readPart_69 : decode cX6_readPart 69 = .ok (.aload_n 0, 1) := by decide +kernel
theorem dX6_readPart_70 : decode cX6_readPart 70 = .ok (.getfield 11, 3) := by decide +kernel
theorem dX6_readPart_73 : decode cX6_readPart 73 = .ok (.iconst 1, 1) := by decide +kernel
theorem dX6_readPart_74 : decode cX6_readPart 74 = .ok (.invokevirtual 128, 3) := by decide +kernel
theorem dX6_readPart_77 : decode cX6_readPart 77 = .ok (.aload_n 0, 1) := by decide +kernel
theorem dX6_readPart_78 : decode cX6_readPart 78 = .ok (.iload_n 1, 1) := by decide +kernel
theorem dX6_readPart_79 : decode cX6_readPart 79 = .ok (.iconst 1, 1) := by decide +kernel
theorem dX6_readPart_80 : decode cX6_readPart 80 = .ok (.iadd, 1) := by decide +kernel
theorem dX6_readPart_81 : decode cX6_readPart 81 = .ok (.iconst 1, 1) := by decide +kernel
theorem dX6_readPart_82 : decode cX6_readPart 82 = .ok (.invokevirtual 92, 3) := by decide +kernel
theorem dX6_readPart_85 : decode cX6_readPart 85 = .ok (.aload_n 0, 1) := by decide +kernel
theorem dX6_readPart_86 : decode cX6_readPart 86 = .ok (.getfield 11, 3) := by decide +kernel
theorem dX6_readPart_89 : decode cX6_readPart 89 = .ok (.iconst 2, 1) := by decide +kernel
theorem dX6_readPart_90 : decode cX6_readPart 90 = .ok (.invokevirtual 128, 3) := by decide +kernel
theorem dX6_readPart_93 : decode cX6_readPart 93 = .ok (.aload_n 0, 1) := by decide +kernel
theorem dX6_readPart_94 : decode cX6_readPart 94 = .ok (.iload_n 1, 1) := by decide +kernel
theorem dX6_readPart_95 : decode cX6_readPart 95 = .ok (.iconst 1, 1) := by decide +kernel
theorem dX6_readPart_96 : decode cX6_readPart 96 = .ok (.iadd, 1) := by decide +kernel
theorem dX6_readPart_97 : decode cX6_readPart 97 = .ok (.iconst 1, 1) := by decide +kernel
theorem dX6_readPart_98 : decode cX6_readPart 98 = .ok (.invokevirtual 92, 3) := by decide +kernel
theorem dX6_readPart_101 : decode cX6_readPart 101 = .ok (.aload_n 0, 1) := by decide +kernel
theorem dX6_readPart_102 : decode cX6_readPart 102 = .ok (.iconst 4, 1) := by decide +kernel
theorem dX6_readPart_103 : decode cX6_readPart 103 = .ok (.iconst 0, 1) := by decide +kernel
theorem dX6_readPart_104 : decode cX6_readPart 104 = .ok (.invokevirtual 96, 3) := by decide +kernel
theorem dX6_readPart_107 : decode cX6_readPart 107 = .ok (.goto 8, 3) := by decide +kernel
theorem dX6_readPart_110 : decode cX6_readPart 110 = .ok (.aload_n 0, 1) := by decide +kernel
theorem dX6_readPart_111 : decode cX6_readPart 111 = .ok (.iload_n 1, 1) := by decide +kernel
theorem dX6_readPart_112 : decode cX6_readPart 112 = .ok (.invokevirtual 131, 3) := by decide +kernel
theorem dX6_readPart_115 : decode cX6_readPart 115 = .ok (.return_, 1) := by decide +kernel
theorem dX6_canBeginSum_0 : decode cX6_canBeginSum 0 = .ok (.aload_n 0, 1) := by decide +kernel
theorem dX6_canBeginSum_1 : decode cX6_canBeginSum 1 = .ok (.getfield 11, 3) := by decide +kernel
theorem dX6_canBeginSum_4 : decode cX6_canBeginSum 4 = .ok (.invokevirtual 100, 3) := by decide +kernel
theorem dX6_canBeginSum_7 : decode cX6_canBeginSum 7 = .ok (.ifCond .eq 21, 3) := by decide +kernel
theorem dX6_canBeginSum_10 : decode cX6_canBeginSum 10 = .ok (.aload_n 0, 1) := by decide +kernel
theorem dX6_canBeginSum_11 : decode cX6_canBeginSum 11 = .ok (.invokevirtual 134, 3) := by decide +kernel
theorem dX6_canBeginSum_14 : decode cX6_canBeginSum 14 = .ok (.ifCond .ne 10, 3) := by decide +kernel
theorem dX6_canBeginSum_17 : decode cX6_canBeginSum 17 = .ok (.aload_n 0, 1) := by decide +kernel
theorem dX6_canBeginSum_18 : decode cX6_canBeginSum 18 = .ok (.invokevirtual 106, 3) := by decide +kernel
theorem dX6_canBeginSum_21 : decode cX6_canBeginSum 21 = .ok (.ifCond .ne 7, 3) := by decide +kernel
theorem dX6_canBeginSum_24 : decode cX6_canBeginSum 24 = .ok (.iconst 1, 1) := by decide +kernel
theorem dX6_canBeginSum_25 : decode cX6_canBeginSum 25 = .ok (.goto 4, 3) := by decide +kernel
theorem dX6_canBeginSum_28 : decode cX6_canBeginSum 28 = .ok (.iconst 0, 1) := by decide +kernel
theorem dX6_canBeginSum_29 : decode cX6_canBeginSum 29 = .ok (.istore_n 1, 1) := by decide +kernel
theorem dX6_canBeginSum_30 : decode cX6_canBeginSum 30 = .ok (.iload_n 1, 1) := by decide +kernel
theorem dX6_canBeginSum_31 : decode cX6_canBeginSum 31 = .ok (.ifCond .ne 25, 3) := by decide +kernel
theorem dX6_canBeginSum_34 : decode cX6_canBeginSum 34 = .ok (.aload_n 0, 1) := by decide +kernel
theorem dX6_canBeginSum_35 : decode cX6_canBeginSum 35 = .ok (.getfield 11, 3) := by decide +kernel
theorem dX6_canBeginSum_38 : decode cX6_canBeginSum 38 = .ok (.invokevirtual 137, 3) := by decide +kernel
theorem dX6_canBeginSum_41 : decode cX6_canBeginSum 41 = .ok (.ifCond .ne 15, 3) := by decide +kernel
theorem dX6_canBeginSum_44 : decode cX6_canBeginSum 44 = .ok (.aload_n 0, 1) := by decide +kernel
theorem dX6_canBeginSum_45 : decode cX6_canBeginSum 45 = .ok (.getfield 11, 3) := by decide +kernel
theorem dX6_canBeginSum_48 : decode cX6_canBeginSum 48 = .ok (.bipush 40, 2) := by decide +kernel
theorem dX6_canBeginSum_50 : decode cX6_canBeginSum 50 = .ok (.invokevirtual 140, 3) := by decide +kernel
theorem dX6_canBeginSum_53 : decode cX6_canBeginSum 53 = .ok (.ifCond .eq 7, 3) := by decide +kernel
theorem dX6_canBeginSum_56 : decode cX6_canBeginSum 56 = .ok (.iconst 1, 1) := by decide +kernel
theorem dX6_canBeginSum_57 : decode cX6_canBeginSum 57 = .ok (.goto 4, 3) := by decide +kernel
theorem dX6_canBeginSum_60 : decode cX6_canBeginSum 60 = .ok (.iconst 0, 1) := by decide +kernel
theorem dX6_canBeginSum_61 : decode cX6_canBeginSum 61 = .ok (.ireturn, 1) := by decide +kernel
theorem dX6_readTest_0 : decode cX6_readTest 0 = .ok (.aload_n 0, 1) := by decide +kernel
theorem dX6_readTest_1 : decode cX6_readTest 1 = .ok (.iload_n 1, 1) := by decide +kernel
theorem dX6_readTest_2 : decode cX6_readTest 2 = .ok (.invokevirtual 144, 3) := by decide +kernel
theorem dX6_readTest_5 : decode cX6_readTest 5 = .ok (.aload_n 0, 1) := by decide +kernel
theorem dX6_readTest_6 : decode cX6_readTest 6 = .ok (.getfield 11, 3) := by decide +kernel
theorem dX6_readTest_9 : decode cX6_readTest 9 = .ok (.iconst 4, 1) := by decide +kernel
theorem dX6_readTest_10 : decode cX6_readTest 10 = .ok (.invokevirtual 81, 3) := by decide +kernel
theorem dX6_readTest_13 : decode cX6_readTest 13 = .ok (.istore_n 2, 1) := by decide +kernel
theorem dX6_readTest_14 : decode cX6_readTest 14 = .ok (.iload_n 2, 1) := by decide +kernel
theorem dX6_readTest_15 : decode cX6_readTest 15 = .ok (.ifCond .eq 7, 3) := by decide +kernel
theorem dX6_readTest_18 : decode cX6_readTest 18 = .ok (.iconst 4, 1) := by decide +kernel
theorem dX6_readTest_19 : decode cX6_readTest 19 = .ok (.goto 4, 3) := by decide +kernel
theorem dX6_readTest_22 : decode cX6_readTest 22 = .ok (.iconst 3, 1) := by decide +kernel
theorem dX6_readTest_23 : decode cX6_readTest 23 = .ok (.istore_n 3, 1) := by decide +kernel
theorem dX6_readTest_24 : decode cX6_readTest 24 = .ok (.iconst 0, 1) := by decide +kernel
theorem dX6_readTest_25 : decode cX6_readTest 25 = .ok (.istore 4, 2) := by decide +kernel
theorem dX6_readTest_27 : decode cX6_readTest 27 = .ok (.iload 4, 2) := by decide +kernel
theorem dX6_readTest_29 : decode cX6_readTest 29 = .ok (.aload_n 0, 1) := by decide +kernel
theorem dX6_readTest_30 : decode cX6_readTest 30 = .ok (.getfield 11, 3) := by decide +kernel
theorem dX6_readTest_33 : decode cX6_readTest 33 = .ok (.getfield 19, 3) := by decide +kernel
theorem dX6_readTest_36 : decode cX6_readTest 36 = .ok (.if_icmp .ge 48, 3) := by decide +kernel
theorem dX6_readTest_39 : decode cX6_readTest 39 = .ok (.aload_n 0, 1) := by decide +kernel
theorem dX6_readTest_40 : decode cX6_readTest 40 = .ok (.getfield 11, 3) := by decide +kernel
theorem dX6_readTest_43 : decode cX6_readTest 43 = .ok (.iload_n 3, 1) := by decide +kernel
theorem dX6_readTest_44 : decode cX6_readTest 44 = .ok (.invokevirtual 81, 3) := by decide +kernel
theorem dX6_readTest_47 : decode cX6_readTest 47 = .ok (.ifCond .eq 37, 3) := by decide +kernel
theorem dX6_readTest_50 : decode cX6_readTest 50 = .ok (.aload_n 0, 1) := by decide +kernel
theorem dX6_readTest_51 : decode cX6_readTest 51 = .ok (.getfield 11, 3) := by decide +kernel
theorem dX6_readTest_54 : decode cX6_readTest 54 = .ok (.invokevirtual 85, 3) := by decide +kernel
theorem dX6_readTest_57 : decode cX6_readTest 57 = .ok (.aload_n 0, 1) := by decide +kernel
theorem dX6_readTest_58 : decode cX6_readTest 58 = .ok (.iload_n 1, 1) := by decide +kernel
theorem dX6_readTest_59 : decode cX6_readTest 59 = .ok (.invokevirtual 144, 3) := by decide +kernel
theorem dX6_readTest_62 : decode cX6_readTest 62 = .ok (.aload_n 0, 1) := by decide +kernel
theorem dX6_readTest_63 : decode cX6_readTest 63 = .ok (.iload_n 2, 1) := by decide +kernel
theorem dX6_readTest_64 : decode cX6_readTest 64 = .ok (.ifCond .eq 8, 3) := by decide +kernel
theorem dX6_readTest_67 : decode cX6_readTest 67 = .ok (.bipush 16, 2) := by decide +kernel
theorem dX6_readTest_69 : decode cX6_readTest 69 = .ok (.goto 5, 3) := by decide +kernel
theorem dX6_readTest_72 : decode cX6_readTest 72 = .ok (.bipush 15, 2) := by decide +kernel
theorem dX6_readTest_74 : decode cX6_readTest 74 = .ok (.iconst 0, 1) := by decide +kernel
theorem dX6_readTest_75 : decode cX6_readTest 75 = .ok (.invokevirtual 96, 3) := by decide +kernel
theorem dX6_readTest_78 : decode cX6_readTest 78 = .ok (.iinc 4 1, 3) := by decide +kernel
theorem dX6_readTest_81 : decode cX6_readTest 81 = .ok (.goto (-54), 3) := by decide +kernel
theorem dX6_readTest_84 : decode cX6_readTest 84 = .ok (.return_, 1) := by decide +kernel
theorem dX6_readOne_0 : decode cX6_readOne 0 = .ok (.aload_n 0, 1) := by decide +kernel
theorem dX6_readOne_1 : decode cX6_readOne 1 = .ok (.getfield 11, 3) := by decide +kernel
theorem dX6_readOne_4 : decode cX6_readOne 4 = .ok (.iconst 5, 1) := by decide +kernel
theorem dX6_readOne_5 : decode cX6_readOne 5 = .ok (.invokevirtual 81, 3) := by decide +kernel
theorem dX6_readOne_8 : decode cX6_readOne 8 = .ok (.istore_n 2, 1) := by decide +kernel
theorem dX6_readOne_9 : decode cX6_readOne 9 = .ok (.iload_n 2, 1) := by decide +kernel
theorem dX6_readOne_10 : decode cX6_readOne 10 = .ok (.ifCond .eq 10, 3) := by decide +kernel
theorem dX6_readOne_13 : decode cX6_readOne 13 = .ok (.aload_n 0, 1) := by decide +kernel
theorem dX6_readOne_14 : decode cX6_readOne 14 = .ok (.getfield 11, 3) := by decide +kernel
theorem dX6_readOne_17 : decode cX6_readOne 17 = .ok (.invokevirtual 85, 3) := by decide +kernel
theorem dX6_readOne_20 : decode cX6_readOne 20 = .ok (.aload_n 0, 1) := by decide +kernel
theorem dX6_readOne_21 : decode cX6_readOne 21 = .ok (.iload_n 1, 1) := by decide +kernel
theorem dX6_readOne_22 : decode cX6_readOne 22 = .ok (.invokevirtual 131, 3) := by decide +kernel
theorem dX6_readOne_25 : decode cX6_readOne 25 = .ok (.aload_n 0, 1) := by decide +kernel
theorem dX6_readOne_26 : decode cX6_readOne 26 = .ok (.invokevirtual 147, 3) := by decide +kernel
theorem dX6_readOne_29 : decode cX6_readOne 29 = .ok (.istore_n 3, 1) := by decide +kernel
theorem dX6_readOne_30 : decode cX6_readOne 30 = .ok (.iload_n 3, 1) := by decide +kernel
theorem dX6_readOne_31 : decode cX6_readOne 31 = .ok (.iconst (-1), 1) := by decide +kernel
theorem dX6_readOne_32 : decode cX6_readOne 32 = .ok (.if_icmp .ne 14, 3) := by decide +kernel
theorem dX6_readOne_35 : decode cX6_readOne 35 = .ok (.aload_n 0, 1) := by decide +kernel
theorem dX6_readOne_36 : decode cX6_readOne 36 = .ok (.getfield 11, 3) := by decide +kernel
theorem dX6_readOne_39 : decode cX6_readOne 39 = .ok (.iconst 2, 1) := by decide +kernel
theorem dX6_readOne_40 : decode cX6_readOne 40 = .ok (.invokevirtual 67, 3) := by decide +kernel
theorem dX6_readOne_43 : decode cX6_readOne 43 = .ok (.goto 29, 3) := by decide +kernel
theorem dX6_readOne_46 : decode cX6_readOne 46 = .ok (.aload_n 0, 1) := by decide +kernel
theorem dX6_readOne_47 : decode cX6_readOne 47 = .ok (.getfield 11, 3) := by decide +kernel
theorem dX6_readOne_50 : decode cX6_readOne 50 = .ok (.invokevirtual 85, 3) := by decide +kernel
theorem dX6_readOne_53 : decode cX6_readOne 53 = .ok (.aload_n 0, 1) := by decide +kernel
theorem dX6_readOne_54 : decode cX6_readOne 54 = .ok (.iload_n 1, 1) := by decide +kernel
theorem dX6_readOne_55 : decode cX6_readOne 55 = .ok (.invokevirtual 131, 3) := by decide +kernel
theorem dX6_readOne_58 : decode cX6_readOne 58 = .ok (.aload_n 0, 1) := by decide +kernel
theorem dX6_readOne_59 : decode cX6_readOne 59 = .ok (.iload_n 3, 1) := by decide +kernel
theorem dX6_readOne_60 : decode cX6_readOne 60 = .ok (.iload_n 2, 1) := by decide +kernel
theorem dX6_readOne_61 : decode cX6_readOne 61 = .ok (.ifCond .eq 7, 3) := by decide +kernel
theorem dX6_readOne_64 : decode cX6_readOne 64 = .ok (.iconst 1, 1) := by decide +kernel
theorem dX6_readOne_65 : decode cX6_readOne 65 = .ok (.goto 4, 3) := by decide +kernel
theorem dX6_readOne_68 : decode cX6_readOne 68 = .ok (.iconst 0, 1) := by decide +kernel
theorem dX6_readOne_69 : decode cX6_readOne 69 = .ok (.invokevirtual 96, 3) := by decide +kernel
theorem dX6_readOne_72 : decode cX6_readOne 72 = .ok (.return_, 1) := by decide +kernel
theorem dX6_comparesHere_0 : decode cX6_comparesHere 0 = .ok (.aload_n 0, 1) := by decide +kernel
theorem dX6_comparesHere_1 : decode cX6_comparesHere 1 = .ok (.getfield 11, 3) := by decide +kernel
theorem dX6_comparesHere_4 : decode cX6_comparesHere 4 = .ok (.bipush 60, 2) := by decide +kernel
theorem dX6_comparesHere_6 : decode cX6_comparesHere 6 = .ok (.invokevirtual 140, 3) := by decide +kernel
theorem dX6_comparesHere_9 : decode cX6_comparesHere 9 = .ok (.ifCond .eq 6, 3) := by decide +kernel
theorem dX6_comparesHere_12 : decode cX6_comparesHere 12 = .ok (.bipush 12, 2) := by decide +kernel
theorem dX6_comparesHere_14 : decode cX6_comparesHere 14 = .ok (.ireturn, 1) := by decide +kernel
theorem dX6_comparesHere_15 : decode cX6_comparesHere 15 = .ok (.aload_n 0, 1) := by decide +kernel
theorem dX6_comparesHere_16 : decode cX6_comparesHere 16 = .ok (.getfield 11, 3) := by decide +kernel
theorem dX6_comparesHere_19 : decode cX6_comparesHere 19 = .ok (.bipush 62, 2) := by decide +kernel
theorem dX6_comparesHere_21 : decode cX6_comparesHere 21 = .ok (.invokevirtual 140, 3) := by decide +kernel
theorem dX6_comparesHere_24 : decode cX6_comparesHere 24 = .ok (.ifCond .eq 6, 3) := by decide +kernel
theorem dX6_comparesHere_27 : decode cX6_comparesHere 27 = .ok (.bipush 13, 2) := by decide +kernel
theorem dX6_comparesHere_29 : decode cX6_comparesHere 29 = .ok (.ireturn, 1) := by decide +kernel
theorem dX6_comparesHere_30 : decode cX6_comparesHere 30 = .ok (.aload_n 0, 1) := by decide +kernel
theorem dX6_comparesHere_31 : decode cX6_comparesHere 31 = .ok (.getfield 11, 3) := by decide +kernel
theorem dX6_comparesHere_34 : decode cX6_comparesHere 34 = .ok (.bipush 61, 2) := by decide +kernel
theorem dX6_comparesHere_36 : decode cX6_comparesHere 36 = .ok (.invokevirtual 140, 3) := by decide +kernel
theorem dX6_comparesHere_39 : decode cX6_comparesHere 39 = .ok (.ifCond .eq 8, 3) := by decide +kernel
theorem dX6_comparesHere_42 : decode cX6_comparesHere 42 = .ok (.bipush 14, 2) := by decide +kernel
theorem dX6_comparesHere_44 : decode cX6_comparesHere 44 = .ok (.goto 4, 3) := by decide +kernel
theorem dX6_comparesHere_47 : decode cX6_comparesHere 47 = .ok (.iconst (-1), 1) := by decide +kernel
theorem dX6_comparesHere_48 : decode cX6_comparesHere 48 = .ok (.ireturn, 1) := by decide +kernel
theorem dX6_readSum_0 : decode cX6_readSum 0 = .ok (.aload_n 0, 1) := by decide +kernel
theorem dX6_readSum_1 : decode cX6_readSum 1 = .ok (.iload_n 1, 1) := by decide +kernel
theorem dX6_readSum_2 : decode cX6_readSum 2 = .ok (.invokevirtual 150, 3) := by decide +kernel
theorem dX6_readSum_5 : decode cX6_readSum 5 = .ok (.iconst 0, 1) := by decide +kernel
theorem dX6_readSum_6 : decode cX6_readSum 6 = .ok (.istore_n 2, 1) := by decide +kernel
theorem dX6_readSum_7 : decode cX6_readSum 7 = .ok (.iload_n 2, 1) := by decide +kernel
theorem dX6_readSum_8 : decode cX6_readSum 8 = .ok (.aload_n 0, 1) := by decide +kernel
theorem dX6_readSum_9 : decode cX6_readSum 9 = .ok (.getfield 11, 3) := by decide +kernel
theorem dX6_readSum_12 : decode cX6_readSum 12 = .ok (.getfield 19, 3) := by decide +kernel
theorem dX6_readSum_15 : decode cX6_readSum 15 = .ok (.if_icmp .ge 70, 3) := by decide +kernel
theorem dX6_readSum_18 : decode cX6_readSum 18 = .ok (.aload_n 0, 1) := by decide +kernel
theorem dX6_readSum_19 : decode cX6_readSum 19 = .ok (.getfield 11, 3) := by decide +kernel
theorem dX6_readSum_22 : decode cX6_readSum 22 = .ok (.bipush 43, 2) := by decide +kernel
theorem dX6_readSum_24 : decode cX6_readSum 24 = .ok (.invokevirtual 140, 3) := by decide +kernel
theorem dX6_readSum_27 : decode cX6_readSum 27 = .ok (.ifCond .ne 15, 3) := by decide +kernel
theorem dX6_readSum_30 : decode cX6_readSum 30 = .ok (.aload_n 0, 1) := by decide +kernel
theorem dX6_readSum_31 : decode cX6_readSum 31 = .ok (.getfield 11, 3) := by decide +kernel
theorem dX6_readSum_34 : decode cX6_readSum 34 = .ok (.bipush 45, 2) := by decide +kernel
theorem dX6_readSum_36 : decode cX6_readSum 36 = .ok (.invokevirtual 140, 3) := by decide +kernel
theorem dX6_readSum_39 : decode cX6_readSum 39 = .ok (.ifCond .eq 46, 3) := by decide +kernel
theorem dX6_readSum_42 : decode cX6_readSum 42 = .ok (.aload_n 0, 1) := by decide +kernel
theorem dX6_readSum_43 : decode cX6_readSum 43 = .ok (.getfield 11, 3) := by decide +kernel
theorem dX6_readSum_46 : decode cX6_readSum 46 = .ok (.bipush 43, 2) := by decide +kernel
theorem dX6_readSum_48 : decode cX6_readSum 48 = .ok (.invokevirtual 140, 3) := by decide +kernel
theorem dX6_readSum_51 : decode cX6_readSum 51 = .ok (.ifCond .eq 7, 3) := by decide +kernel
theorem dX6_readSum_54 : decode cX6_readSum 54 = .ok (.iconst 5, 1) := by decide +kernel
theorem dX6_readSum_55 : decode cX6_readSum 55 = .ok (.goto 5, 3) := by decide +kernel
theorem dX6_readSum_58 : decode cX6_readSum 58 = .ok (.bipush 6, 2) := by decide +kernel
theorem dX6_readSum_60 : decode cX6_readSum 60 = .ok (.istore_n 3, 1) := by decide +kernel
theorem dX6_readSum_61 : decode cX6_readSum 61 = .ok (.aload_n 0, 1) := by decide +kernel
theorem dX6_readSum_62 : decode cX6_readSum 62 = .ok (.getfield 11, 3) := by decide +kernel
theorem dX6_readSum_65 : decode cX6_readSum 65 = .ok (.invokevirtual 85, 3) := by decide +kernel
theorem dX6_readSum_68 : decode cX6_readSum 68 = .ok (.aload_n 0, 1) := by decide +kernel
theorem dX6_readSum_69 : decode cX6_readSum 69 = .ok (.iload_n 1, 1) := by decide +kernel
theorem dX6_readSum_70 : decode cX6_readSum 70 = .ok (.invokevirtual 150, 3) := by decide +kernel
theorem dX6_readSum_73 : decode cX6_readSum 73 = .ok (.aload_n 0, 1) := by decide +kernel
theorem dX6_readSum_74 : decode cX6_readSum 74 = .ok (.iload_n 3, 1) := by decide +kernel
theorem dX6_readSum_75 : decode cX6_readSum 75 = .ok (.iconst 0, 1) := by decide +kernel
theorem dX6_readSum_76 : decode cX6_readSum 76 = .ok (.invokevirtual 96, 3) := by decide +kernel
theorem dX6_readSum_79 : decode cX6_readSum 79 = .ok (.iinc 2 1, 3) := by decide +kernel
theorem dX6_readSum_82 : decode cX6_readSum 82 = .ok (.goto (-75), 3) := by decide +kernel
theorem dX6_readSum_85 : decode cX6_readSum 85 = .ok (.return_, 1) := by decide +kernel
theorem dX6_readItem_0 : decode cX6_readItem 0 = .ok (.aload_n 0, 1) := by decide +kernel
theorem dX6_readItem_1 : decode cX6_readItem 1 = .ok (.iload_n 1, 1) := by decide +kernel
theorem dX6_readItem_2 : decode cX6_readItem 2 = .ok (.invokevirtual 153, 3) := by decide +kernel
theorem dX6_readItem_5 : decode cX6_readItem 5 = .ok (.iconst 0, 1) := by decide +kernel
theorem dX6_readItem_6 : decode cX6_readItem 6 = .ok (.istore_n 2, 1) := by decide +kernel
theorem dX6_readItem_7 : decode cX6_readItem 7 = .ok (.iload_n 2, 1) := by decide +kernel
theorem dX6_readItem_8 : decode cX6_readItem 8 = .ok (.aload_n 0, 1) := by decide +kernel
theorem dX6_readItem_9 : decode cX6_readItem 9 = .ok (.getfield 11, 3) := by decide +kernel
theorem dX6_readItem_12 : decode cX6_readItem 12 = .ok (.getfield 19, 3) := by decide +kernel
theorem dX6_readItem_15 : decode cX6_readItem 15 = .ok (.if_icmp .ge 40, 3) := by decide +kernel
theorem dX6_readItem_18 : decode cX6_readItem 18 = .ok (.aload_n 0, 1) := by decide +kernel
theorem dX6_readItem_19 : decode cX6_readItem 19 = .ok (.invokevirtual 156, 3) := by decide +kernel
theorem dX6_readItem_22 : decode cX6_readItem 22 = .ok (.iconst (-1), 1) := by decide +kernel
theorem dX6_readItem_23 : decode cX6_readItem 23 = .ok (.if_icmp .eq 32, 3) := by decide +kernel
theorem dX6_readItem_26 : decode cX6_readItem 26 = .ok (.aload_n 0, 1) := by decide +kernel
theorem dX6_readItem_27 : decode cX6_readItem 27 = .ok (.invokevirtual 156, 3) := by decide +kernel
theorem dX6_readItem_30 : decode cX6_readItem 30 = .ok (.istore_n 3, 1) := by decide +kernel
theorem dX6_readItem_31 : decode cX6_readItem 31 = .ok (.aload_n 0, 1) := by decide +kernel
theorem dX6_readItem_32 : decode cX6_readItem 32 = .ok (.getfield 11, 3) := by decide +kernel
theorem dX6_readItem_35 : decode cX6_readItem 35 = .ok (.invokevirtual 85, 3) := by decide +kernel
theorem dX6_readItem_38 : decode cX6_readItem 38 = .ok (.aload_n 0, 1) := by decide +kernel
theorem dX6_readItem_39 : decode cX6_readItem 39 = .ok (.iload_n 1, 1) := by decide +kernel
theorem dX6_readItem_40 : decode cX6_readItem 40 = .ok (.invokevirtual 153, 3) := by decide +kernel
theorem dX6_readItem_43 : decode cX6_readItem 43 = .ok (.aload_n 0, 1) := by decide +kernel
theorem dX6_readItem_44 : decode cX6_readItem 44 = .ok (.iload_n 3, 1) := by decide +kernel
theorem dX6_readItem_45 : decode cX6_readItem 45 = .ok (.iconst 0, 1) := by decide +kernel
theorem dX6_readItem_46 : decode cX6_readItem 46 = .ok (.invokevirtual 96, 3) := by decide +kernel
theorem dX6_readItem_49 : decode cX6_readItem 49 = .ok (.iinc 2 1, 3) := by decide +kernel
theorem dX6_readItem_52 : decode cX6_readItem 52 = .ok (.goto (-45), 3) := by decide +kernel
theorem dX6_readItem_55 : decode cX6_readItem 55 = .ok (.return_, 1) := by decide +kernel
theorem dX6_timesHere_0 : decode cX6_timesHere 0 = .ok (.aload_n 0, 1) := by decide +kernel
theorem dX6_timesHere_1 : decode cX6_timesHere 1 = .ok (.getfield 11, 3) := by decide +kernel
theorem dX6_timesHere_4 : decode cX6_timesHere 4 = .ok (.bipush 42, 2) := by decide +kernel
theorem dX6_timesHere_6 : decode cX6_timesHere 6 = .ok (.invokevirtual 140, 3) := by decide +kernel
theorem dX6_timesHere_9 : decode cX6_timesHere 9 = .ok (.ifCond .eq 6, 3) := by decide +kernel
theorem dX6_timesHere_12 : decode cX6_timesHere 12 = .ok (.bipush 7, 2) := by decide +kernel
theorem dX6_timesHere_14 : decode cX6_timesHere 14 = .ok (.ireturn, 1) := by decide +kernel
theorem dX6_timesHere_15 : decode cX6_timesHere 15 = .ok (.aload_n 0, 1) := by decide +kernel
theorem dX6_timesHere_16 : decode cX6_timesHere 16 = .ok (.getfield 11, 3) := by decide +kernel
theorem dX6_timesHere_19 : decode cX6_timesHere 19 = .ok (.bipush 47, 2) := by decide +kernel
theorem dX6_timesHere_21 : decode cX6_timesHere 21 = .ok (.invokevirtual 140, 3) := by decide +kernel
theorem dX6_timesHere_24 : decode cX6_timesHere 24 = .ok (.ifCond .eq 6, 3) := by decide +kernel
theorem dX6_timesHere_27 : decode cX6_timesHere 27 = .ok (.bipush 8, 2) := by decide +kernel
theorem dX6_timesHere_29 : decode cX6_timesHere 29 = .ok (.ireturn, 1) := by decide +kernel
theorem dX6_timesHere_30 : decode cX6_timesHere 30 = .ok (.aload_n 0, 1) := by decide +kernel
theorem dX6_timesHere_31 : decode cX6_timesHere 31 = .ok (.getfield 11, 3) := by decide +kernel
theorem dX6_timesHere_34 : decode cX6_timesHere 34 = .ok (.bipush 37, 2) := by decide +kernel
theorem dX6_timesHere_36 : decode cX6_timesHere 36 = .ok (.invokevirtual 140, 3) := by decide +kernel
theorem dX6_timesHere_39 : decode cX6_timesHere 39 = .ok (.ifCond .eq 8, 3) := by decide +kernel
theorem dX6_timesHere_42 : decode cX6_timesHere 42 = .ok (.bipush 9, 2) := by decide +kernel
theorem dX6_timesHere_44 : decode cX6_timesHere 44 = .ok (.goto 4, 3) := by decide +kernel
theorem dX6_timesHere_47 : decode cX6_timesHere 47 = .ok (.iconst (-1), 1) := by decide +kernel
theorem dX6_timesHere_48 : decode cX6_timesHere 48 = .ok (.ireturn, 1) := by decide +kernel
theorem dX6_readAtom_0 : decode cX6_readAtom 0 = .ok (.aload_n 0, 1) := by decide +kernel
theorem dX6_readAtom_1 : decode cX6_readAtom 1 = .ok (.getfield 11, 3) := by decide +kernel
theorem dX6_readAtom_4 : decode cX6_readAtom 4 = .ok (.invokevirtual 137, 3) := by decide +kernel
theorem dX6_readAtom_7 : decode cX6_readAtom 7 = .ok (.ifCond .eq 25, 3) := by decide +kernel
theorem dX6_readAtom_10 : decode cX6_readAtom 10 = .ok (.aload_n 0, 1) := by decide +kernel
theorem dX6_readAtom_11 : decode cX6_readAtom 11 = .ok (.iconst 0, 1) := by decide +kernel
theorem dX6_readAtom_12 : decode cX6_readAtom 12 = .ok (.aload_n 0, 1) := by decide +kernel
theorem dX6_readAtom_13 : decode cX6_readAtom 13 = .ok (.getfield 11, 3) := by decide +kernel
theorem dX6_readAtom_16 : decode cX6_readAtom 16 = .ok (.invokevirtual 112, 3) := by decide +kernel
theorem dX6_readAtom_19 : decode cX6_readAtom 19 = .ok (.invokevirtual 96, 3) := by decide +kernel
theorem dX6_readAtom_22 : decode cX6_readAtom 22 = .ok (.aload_n 0, 1) := by decide +kernel
theorem dX6_readAtom_23 : decode cX6_readAtom 23 = .ok (.getfield 11, 3) := by decide +kernel
theorem dX6_readAtom_26 : decode cX6_readAtom 26 = .ok (.invokevirtual 85, 3) := by decide +kernel
theorem dX6_readAtom_29 : decode cX6_readAtom 29 = .ok (.goto 82, 3) := by decide +kernel
theorem dX6_readAtom_32 : decode cX6_readAtom 32 = .ok (.aload_n 0, 1) := by decide +kernel
theorem dX6_readAtom_33 : decode cX6_readAtom 33 = .ok (.getfield 11, 3) := by decide +kernel
theorem dX6_readAtom_36 : decode cX6_readAtom 36 = .ok (.bipush 40, 2) := by decide +kernel
theorem dX6_readAtom_38 : decode cX6_readAtom 38 = .ok (.invokevirtual 140, 3) := by decide +kernel
theorem dX6_readAtom_41 : decode cX6_readAtom 41 = .ok (.ifCond .eq 30, 3) := by decide +kernel
theorem dX6_readAtom_44 : decode cX6_readAtom 44 = .ok (.aload_n 0, 1) := by decide +kernel
theorem dX6_readAtom_45 : decode cX6_readAtom 45 = .ok (.getfield 11, 3) := by decide +kernel
theorem dX6_readAtom_48 : decode cX6_readAtom 48 = .ok (.invokevirtual 85, 3) := by decide +kernel
theorem dX6_readAtom_51 : decode cX6_readAtom 51 = .ok (.aload_n 0, 1) := by decide +kernel
theorem dX6_readAtom_52 : decode cX6_readAtom 52 = .ok (.iload_n 1, 1) := by decide +kernel
theorem dX6_readAtom_53 : decode cX6_readAtom 53 = .ok (.iconst 1, 1) := by decide +kernel
theorem dX6_readAtom_54 : decode cX6_readAtom 54 = .ok (.iadd, 1) := by decide +kernel
theorem dX6_readAtom_55 : decode cX6_readAtom 55 = .ok (.iconst 1, 1) := by decide +kernel
theorem dX6_readAtom_56 : decode cX6_readAtom 56 = .ok (.invokevirtual 92, 3) := by decide +kernel
theorem dX6_readAtom_59 : decode cX6_readAtom 59 = .ok (.aload_n 0, 1) := by decide +kernel
theorem dX6_readAtom_60 : decode cX6_readAtom 60 = .ok (.getfield 11, 3) := by decide +kernel
theorem dX6_readAtom_63 : decode cX6_readAtom 63 = .ok (.bipush 41, 2) := by decide +kernel
theorem dX6_readAtom_65 : decode cX6_readAtom 65 = .ok (.invokevirtual 88, 3) := by decide +kernel
theorem dX6_readAtom_68 : decode cX6_readAtom 68 = .ok (.goto 43, 3) := by decide +kernel
theorem dX6_readAtom_71 : decode cX6_readAtom 71 = .ok (.aload_n 0, 1) := by decide +kernel
theorem dX6_readAtom_72 : decode cX6_readAtom 72 = .ok (.invokevirtual 134, 3) := by decide +kernel
theorem dX6_readAtom_75 : decode cX6_readAtom 75 = .ok (.ifCond .eq 11, 3) := by decide +kernel
theorem dX6_readAtom_78 : decode cX6_readAtom 78 = .ok (.aload_n 0, 1) := by decide +kernel
theorem dX6_readAtom_79 : decode cX6_readAtom 79 = .ok (.iload_n 1, 1) := by decide +kernel
theorem dX6_readAtom_80 : decode cX6_readAtom 80 = .ok (.invokevirtual 159, 3) := by decide +kernel
theorem dX6_readAtom_83 : decode cX6_readAtom 83 = .ok (.goto 28, 3) := by decide +kernel
theorem dX6_readAtom_86 : decode cX6_readAtom 86 = .ok (.aload_n 0, 1) := by decide +kernel
theorem dX6_readAtom_87 : decode cX6_readAtom 87 = .ok (.getfield 11, 3) := by decide +kernel
theorem dX6_readAtom_90 : decode cX6_readAtom 90 = .ok (.invokevirtual 100, 3) := by decide +kernel
theorem dX6_readAtom_93 : decode cX6_readAtom 93 = .ok (.ifCond .eq 10, 3) := by decide +kernel
theorem dX6_readAtom_96 : decode cX6_readAtom 96 = .ok (.aload_n 0, 1) := by decide +kernel
theorem dX6_readAtom_97 : decode cX6_readAtom 97 = .ok (.invokevirtual 162, 3) := by decide +kernel
theorem dX6_readAtom_100 : decode cX6_readAtom 100 = .ok (.goto 11, 3) := by decide +kernel
theorem dX6_readAtom_103 : decode cX6_readAtom 103 = .ok (.aload_n 0, 1) := by decide +kernel
theorem dX6_readAtom_104 : decode cX6_readAtom 104 = .ok (.getfield 11, 3) := by decide +kernel
theorem dX6_readAtom_107 : decode cX6_readAtom 107 = .ok (.iconst 2, 1) := by decide +kernel
theorem dX6_readAtom_108 : decode cX6_readAtom 108 = .ok (.invokevirtual 67, 3) := by decide +kernel
theorem dX6_readAtom_111 : decode cX6_readAtom 111 = .ok (.return_, 1) := by decide +kernel
theorem dX6_isFew_0 : decode cX6_isFew 0 = .ok (.aload_n 0, 1) := by decide +kernel
theorem dX6_isFew_1 : decode cX6_isFew 1 = .ok (.getfield 11, 3) := by decide +kernel
theorem dX6_isFew_4 : decode cX6_isFew 4 = .ok (.bipush 6, 2) := by decide +kernel
theorem dX6_isFew_6 : decode cX6_isFew 6 = .ok (.invokevirtual 81, 3) := by decide +kernel
theorem dX6_isFew_9 : decode cX6_isFew 9 = .ok (.ifCond .ne 15, 3) := by decide +kernel
theorem dX6_isFew_12 : decode cX6_isFew 12 = .ok (.aload_n 0, 1) := by decide +kernel
theorem dX6_isFew_13 : decode cX6_isFew 13 = .ok (.getfield 11, 3) := by decide +kernel
theorem dX6_isFew_16 : decode cX6_isFew 16 = .ok (.bipush 7, 2) := by decide +kernel
theorem dX6_isFew_18 : decode cX6_isFew 18 = .ok (.invokevirtual 81, 3) := by decide +kernel
theorem dX6_isFew_21 : decode cX6_isFew 21 = .ok (.ifCond .eq 7, 3) := by decide +kernel
theorem dX6_isFew_24 : decode cX6_isFew 24 = .ok (.iconst 1, 1) := by decide +kernel
theorem dX6_isFew_25 : decode cX6_isFew 25 = .ok (.goto 4, 3) := by decide +kernel
theorem dX6_isFew_28 : decode cX6_isFew 28 = .ok (.iconst 0, 1) := by decide +kernel
theorem dX6_isFew_29 : decode cX6_isFew 29 = .ok (.ireturn, 1) := by decide +kernel
theorem dX6_readFew_0 : decode cX6_readFew 0 = .ok (.aload_n 0, 1) := by decide +kernel
theorem dX6_readFew_1 : decode cX6_readFew 1 = .ok (.getfield 11, 3) := by decide +kernel
theorem dX6_readFew_4 : decode cX6_readFew 4 = .ok (.bipush 6, 2) := by decide +kernel
theorem dX6_readFew_6 : decode cX6_readFew 6 = .ok (.invokevirtual 81, 3) := by decide +kernel
theorem dX6_readFew_9 : decode cX6_readFew 9 = .ok (.ifCond .eq 8, 3) := by decide +kernel
theorem dX6_readFew_12 : decode cX6_readFew 12 = .ok (.bipush 10, 2) := by decide +kernel
theorem dX6_readFew_14 : decode cX6_readFew 14 = .ok (.goto 5, 3) := by decide +kernel
theorem dX6_readFew_17 : decode cX6_readFew 17 = .ok (.bipush 11, 2) := by decide +kernel
theorem dX6_readFew_19 : decode cX6_readFew 19 = .ok (.istore_n 2, 1) := by decide +kernel
theorem dX6_readFew_20 : decode cX6_readFew 20 = .ok (.aload_n 0, 1) := by decide +kernel
theorem dX6_readFew_21 : decode cX6_readFew 21 = .ok (.getfield 11, 3) := by decide +kernel
theorem dX6_readFew_24 : decode cX6_readFew 24 = .ok (.invokevirtual 85, 3) := by decide +kernel
theorem dX6_readFew_27 : decode cX6_readFew 27 = .ok (.aload_n 0, 1) := by decide +kernel
theorem dX6_readFew_28 : decode cX6_readFew 28 = .ok (.getfield 11, 3) := by decide +kernel
theorem dX6_readFew_31 : decode cX6_readFew 31 = .ok (.bipush 40, 2) := by decide +kernel
theorem dX6_readFew_33 : decode cX6_readFew 33 = .ok (.invokevirtual 88, 3) := by decide +kernel
theorem dX6_readFew_36 : decode cX6_readFew 36 = .ok (.aload_n 0, 1) := by decide +kernel
theorem dX6_readFew_37 : decode cX6_readFew 37 = .ok (.iload_n 1, 1) := by decide +kernel
theorem dX6_readFew_38 : decode cX6_readFew 38 = .ok (.iconst 1, 1) := by decide +kernel
theorem dX6_readFew_39 : decode cX6_readFew 39 = .ok (.iadd, 1) := by decide +kernel
theorem dX6_readFew_40 : decode cX6_readFew 40 = .ok (.iconst 0, 1) := by decide +kernel
theorem dX6_readFew_41 : decode cX6_readFew 41 = .ok (.invokevirtual 92, 3) := by decide +kernel
theorem dX6_readFew_44 : decode cX6_readFew 44 = .ok (.aload_n 0, 1) := by decide +kernel
theorem dX6_readFew_45 : decode cX6_readFew 45 = .ok (.getfield 11, 3) := by decide +kernel
theorem dX6_readFew_48 : decode cX6_readFew 48 = .ok (.bipush 44, 2) := by decide +kernel
theorem dX6_readFew_50 : decode cX6_readFew 50 = .ok (.invokevirtual 88, 3) := by decide +kernel
theorem dX6_readFew_53 : decode cX6_readFew 53 = .ok (.aload_n 0, 1) := by decide +kernel
theorem dX6_readFew_54 : decode cX6_readFew 54 = .ok (.iload_n 1, 1) := by decide +kernel
theorem dX6_readFew_55 : decode cX6_readFew 55 = .ok (.iconst 1, 1) := by decide +kernel
theorem dX6_readFew_56 : decode cX6_readFew 56 = .ok (.iadd, 1) := by decide +kernel
theorem dX6_readFew_57 : decode cX6_readFew 57 = .ok (.iconst 0, 1) := by decide +kernel
theorem dX6_readFew_58 : decode cX6_readFew 58 = .ok (.invokevirtual 92, 3) := by decide +kernel
theorem dX6_readFew_61 : decode cX6_readFew 61 = .ok (.aload_n 0, 1) := by decide +kernel
theorem dX6_readFew_62 : decode cX6_readFew 62 = .ok (.getfield 11, 3) := by decide +kernel
theorem dX6_readFew_65 : decode cX6_readFew 65 = .ok (.bipush 41, 2) := by decide +kernel
theorem dX6_readFew_67 : decode cX6_readFew 67 = .ok (.invokevirtual 88, 3) := by decide +kernel
theorem dX6_readFew_70 : decode cX6_readFew 70 = .ok (.aload_n 0, 1) := by decide +kernel
theorem dX6_readFew_71 : decode cX6_readFew 71 = .ok (.iload_n 2, 1) := by decide +kernel
theorem dX6_readFew_72 : decode cX6_readFew 72 = .ok (.iconst 0, 1) := by decide +kernel
theorem dX6_readFew_73 : decode cX6_readFew 73 = .ok (.invokevirtual 96, 3) := by decide +kernel
theorem dX6_readFew_76 : decode cX6_readFew 76 = .ok (.return_, 1) := by decide +kernel
theorem dX6_readWordAtom_0 : decode cX6_readWordAtom 0 = .ok (.aload_n 0, 1) := by decide +kernel
theorem dX6_readWordAtom_1 : decode cX6_readWordAtom 1 = .ok (.invokevirtual 74, 3) := by decide +kernel
theorem dX6_readWordAtom_4 : decode cX6_readWordAtom 4 = .ok (.istore_n 1, 1) := by decide +kernel
theorem dX6_readWordAtom_5 : decode cX6_readWordAtom 5 = .ok (.aload_n 0, 1) := by decide +kernel
theorem dX6_readWordAtom_6 : decode cX6_readWordAtom 6 = .ok (.invokevirtual 109, 3) := by decide +kernel
theorem dX6_readWordAtom_9 : decode cX6_readWordAtom 9 = .ok (.ifCond .eq 28, 3) := by decide +kernel
theorem dX6_readWordAtom_12 : decode cX6_readWordAtom 12 = .ok (.aload_n 0, 1) := by decide +kernel
theorem dX6_readWordAtom_13 : decode cX6_readWordAtom 13 = .ok (.iconst 1, 1) := by decide +kernel
theorem dX6_readWordAtom_14 : decode cX6_readWordAtom 14 = .ok (.aload_n 0, 1) := by decide +kernel
theorem dX6_readWordAtom_15 : decode cX6_readWordAtom 15 = .ok (.getfield 11, 3) := by decide +kernel
theorem dX6_readWordAtom_18 : decode cX6_readWordAtom 18 = .ok (.invokevirtual 112, 3) := by decide +kernel
theorem dX6_readWordAtom_21 : decode cX6_readWordAtom 21 = .ok (.bipush 8, 2) := by decide +kernel
theorem dX6_readWordAtom_23 : decode cX6_readWordAtom 23 = .ok (.isub, 1) := by decide +kernel
theorem dX6_readWordAtom_24 : decode cX6_readWordAtom 24 = .ok (.invokevirtual 96, 3) := by decide +kernel
theorem dX6_readWordAtom_27 : decode cX6_readWordAtom 27 = .ok (.aload_n 0, 1) := by decide +kernel
theorem dX6_readWordAtom_28 : decode cX6_readWordAtom 28 = .ok (.getfield 11, 3) := by decide +kernel
theorem dX6_readWordAtom_31 : decode cX6_readWordAtom 31 = .ok (.invokevirtual 85, 3) := by decide +kernel
theorem dX6_readWordAtom_34 : decode cX6_readWordAtom 34 = .ok (.goto 44, 3) := by decide +kernel
theorem dX6_readWordAtom_37 : decode cX6_readWordAtom 37 = .ok (.iload_n 1, 1) := by decide +kernel
theorem dX6_readWordAtom_38 : decode cX6_readWordAtom 38 = .ok (.iconst (-1), 1) := by decide +kernel
theorem dX6_readWordAtom_39 : decode cX6_readWordAtom 39 = .ok (.if_icmp .eq 19, 3) := by decide +kernel
theorem dX6_readWordAtom_42 : decode cX6_readWordAtom 42 = .ok (.aload_n 0, 1) := by decide +kernel
theorem dX6_readWordAtom_43 : decode cX6_readWordAtom 43 = .ok (.iconst 2, 1) := by decide +kernel
theorem dX6_readWordAtom_44 : decode cX6_readWordAtom 44 = .ok (.iload_n 1, 1) := by decide +kernel
theorem dX6_readWordAtom_45 : decode cX6_readWordAtom 45 = .ok (.invokevirtual 96, 3) := by decide +kernel
theorem dX6_readWordAtom_48 : decode cX6_readWordAtom 48 = .ok (.aload_n 0, 1) := by decide +kernel
theorem dX6_readWordAtom_49 : decode cX6_readWordAtom 49 = .ok (.getfield 11, 3) := by decide +kernel
theorem dX6_readWordAtom_52 : decode cX6_readWordAtom 52 = .ok (.invokevirtual 85, 3) := by decide +kernel
theorem dX6_readWordAtom_55 : decode cX6_readWordAtom 55 = .ok (.goto 23, 3) := by decide +kernel
theorem dX6_readWordAtom_58 : decode cX6_readWordAtom 58 = .ok (.aload_n 0, 1) := by decide +kernel
theorem dX6_readWordAtom_59 : decode cX6_readWordAtom 59 = .ok (.getfield 11, 3) := by decide +kernel
theorem dX6_readWordAtom_62 : decode cX6_readWordAtom 62 = .ok (.aload_n 0, 1) := by decide +kernel
theorem dX6_readWordAtom_63 : decode cX6_readWordAtom 63 = .ok (.invokevirtual 106, 3) := by decide +kernel
theorem dX6_readWordAtom_66 : decode cX6_readWordAtom 66 = .ok (.ifCond .eq 7, 3) := by decide +kernel
theorem dX6_readWordAtom_69 : decode cX6_readWordAtom 69 = .ok (.iconst 2, 1) := by decide +kernel
theorem dX6_readWordAtom_70 : decode cX6_readWordAtom 70 = .ok (.goto 5, 3) := by decide +kernel
theorem dX6_readWordAtom_73 : decode cX6_readWordAtom 73 = .ok (.bipush 6, 2) := by decide +kernel
theorem dX6_readWordAtom_75 : decode cX6_readWordAtom 75 = .ok (.invokevirtual 67, 3) := by decide +kernel
theorem dX6_readWordAtom_78 : decode cX6_readWordAtom 78 = .ok (.return_, 1) := by decide +kernel
theorem dX6_emit_0 : decode cX6_emit 0 = .ok (.aload_n 0, 1) := by decide +kernel
theorem dX6_emit_1 : decode cX6_emit 1 = .ok (.getfield 165, 3) := by decide +kernel
theorem dX6_emit_4 : decode cX6_emit 4 = .ok (.aload_n 0, 1) := by decide +kernel
theorem dX6_emit_5 : decode cX6_emit 5 = .ok (.getfield 24, 3) := by decide +kernel
theorem dX6_emit_8 : decode cX6_emit 8 = .ok (.arraylength, 1) := by decide +kernel
theorem dX6_emit_9 : decode cX6_emit 9 = .ok (.if_icmp .ge 33, 3) := by decide +kernel
theorem dX6_emit_12 : decode cX6_emit 12 = .ok (.aload_n 0, 1) := by decide +kernel
theorem dX6_emit_13 : decode cX6_emit 13 = .ok (.getfield 24, 3) := by decide +kernel
theorem dX6_emit_16 : decode cX6_emit 16 = .ok (.aload_n 0, 1) := by decide +kernel
theorem dX6_emit_17 : decode cX6_emit 17 = .ok (.getfield 165, 3) := by decide +kernel
theorem dX6_emit_20 : decode cX6_emit 20 = .ok (.iload_n 1, 1) := by decide +kernel
theorem dX6_emit_21 : decode cX6_emit 21 = .ok (.iastore, 1) := by decide +kernel
theorem dX6_emit_22 : decode cX6_emit 22 = .ok (.aload_n 0, 1) := by decide +kernel
theorem dX6_emit_23 : decode cX6_emit 23 = .ok (.getfield 28, 3) := by decide +kernel
theorem dX6_emit_26 : decode cX6_emit 26 = .ok (.aload_n 0, 1) := by decide +kernel
theorem dX6_emit_27 : decode cX6_emit 27 = .ok (.getfield 165, 3) := by decide +kernel
theorem dX6_emit_30 : decode cX6_emit 30 = .ok (.iload_n 2, 1) := by decide +kernel
theorem dX6_emit_31 : decode cX6_emit 31 = .ok (.iastore, 1) := by decide +kernel
theorem dX6_emit_32 : decode cX6_emit 32 = .ok (.aload_n 0, 1) := by decide +kernel
theorem dX6_emit_33 : decode cX6_emit 33 = .ok (.dup, 1) := by decide +kernel
theorem dX6_emit_34 : decode cX6_emit 34 = .ok (.getfield 165, 3) := by decide +kernel
theorem dX6_emit_37 : decode cX6_emit 37 = .ok (.iconst 1, 1) := by decide +kernel
theorem dX6_emit_38 : decode cX6_emit 38 = .ok (.iadd, 1) := by decide +kernel
theorem dX6_emit_39 : decode cX6_emit 39 = .ok (.putfield 165, 3) := by decide +kernel
theorem dX6_emit_42 : decode cX6_emit 42 = .ok (.return_, 1) := by decide +kernel
theorem dX6_holds_0 : decode cX6_holds 0 = .ok (.aload_n 0, 1) := by decide +kernel
theorem dX6_holds_1 : decode cX6_holds 1 = .ok (.iconst 0, 1) := by decide +kernel
theorem dX6_holds_2 : decode cX6_holds 2 = .ok (.putfield 166, 3) := by decide +kernel
theorem dX6_holds_5 : decode cX6_holds 5 = .ok (.iconst 0, 1) := by decide +kernel
theorem dX6_holds_6 : decode cX6_holds 6 = .ok (.istore_n 1, 1) := by decide +kernel
theorem dX6_holds_7 : decode cX6_holds 7 = .ok (.iload_n 1, 1) := by decide +kernel
theorem dX6_holds_8 : decode cX6_holds 8 = .ok (.aload_n 0, 1) := by decide +kernel
theorem dX6_holds_9 : decode cX6_holds 9 = .ok (.getfield 165, 3) := by decide +kernel
theorem dX6_holds_12 : decode cX6_holds 12 = .ok (.if_icmp .ge 25, 3) := by decide +kernel
theorem dX6_holds_15 : decode cX6_holds 15 = .ok (.aload_n 0, 1) := by decide +kernel
theorem dX6_holds_16 : decode cX6_holds 16 = .ok (.aload_n 0, 1) := by decide +kernel
theorem dX6_holds_17 : decode cX6_holds 17 = .ok (.getfield 24, 3) := by decide +kernel
theorem dX6_holds_20 : decode cX6_holds 20 = .ok (.iload_n 1, 1) := by decide +kernel
theorem dX6_holds_21 : decode cX6_holds 21 = .ok (.iaload, 1) := by decide +kernel
theorem dX6_holds_22 : decode cX6_holds 22 = .ok (.aload_n 0, 1) := by decide +kernel
theorem dX6_holds_23 : decode cX6_holds 23 = .ok (.getfield 28, 3) := by decide +kernel
theorem dX6_holds_26 : decode cX6_holds 26 = .ok (.iload_n 1, 1) := by decide +kernel
theorem dX6_holds_27 : decode cX6_holds 27 = .ok (.iaload, 1) := by decide +kernel
theorem dX6_holds_28 : decode cX6_holds 28 = .ok (.invokevirtual 169, 3) := by decide +kernel
theorem dX6_holds_31 : decode cX6_holds 31 = .ok (.iinc 1 1, 3) := by decide +kernel
theorem dX6_holds_34 : decode cX6_holds 34 = .ok (.goto (-27), 3) := by decide +kernel
theorem dX6_holds_37 : decode cX6_holds 37 = .ok (.aload_n 0, 1) := by decide +kernel
theorem dX6_holds_38 : decode cX6_holds 38 = .ok (.getfield 31, 3) := by decide +kernel
theorem dX6_holds_41 : decode cX6_holds 41 = .ok (.ifCond .lt 42, 3) := by decide +kernel
theorem dX6_holds_44 : decode cX6_holds 44 = .ok (.aload_n 0, 1) := by decide +kernel
theorem dX6_holds_45 : decode cX6_holds 45 = .ok (.getfield 31, 3) := by decide +kernel
theorem dX6_holds_48 : decode cX6_holds 48 = .ok (.bipush 10, 2) := by decide +kernel
theorem dX6_holds_50 : decode cX6_holds 50 = .ok (.if_icmp .ge 33, 3) := by decide +kernel
theorem dX6_holds_53 : decode cX6_holds 53 = .ok (.aload_n 0, 1) := by decide +kernel
theorem dX6_holds_54 : decode cX6_holds 54 = .ok (.getfield 51, 3) := by decide +kernel
theorem dX6_holds_57 : decode cX6_holds 57 = .ok (.aload_n 0, 1) := by decide +kernel
theorem dX6_holds_58 : decode cX6_holds 58 = .ok (.getfield 31, 3) := by decide +kernel
theorem dX6_holds_61 : decode cX6_holds 61 = .ok (.baload, 1) := by decide +kernel
theorem dX6_holds_62 : decode cX6_holds 62 = .ok (.ifCond .ne 21, 3) := by decide +kernel
theorem dX6_holds_65 : decode cX6_holds 65 = .ok (.aload_n 0, 1) := by decide +kernel
theorem dX6_holds_66 : decode cX6_holds 66 = .ok (.getfield 48, 3) := by decide +kernel
theorem dX6_holds_69 : decode cX6_holds 69 = .ok (.aload_n 0, 1) := by decide +kernel
theorem dX6_holds_70 : decode cX6_holds 70 = .ok (.getfield 31, 3) := by decide +kernel
theorem dX6_holds_73 : decode cX6_holds 73 = .ok (.laload, 1) := by decide +kernel
theorem dX6_holds_74 : decode cX6_holds 74 = .ok (.lconst 0, 1) := by decide +kernel
theorem dX6_holds_75 : decode cX6_holds 75 = .ok (.lcmp, 1) := by decide +kernel
theorem dX6_holds_76 : decode cX6_holds 76 = .ok (.ifCond .eq 7, 3) := by decide +kernel
theorem dX6_holds_79 : decode cX6_holds 79 = .ok (.iconst 1, 1) := by decide +kernel
theorem dX6_holds_80 : decode cX6_holds 80 = .ok (.goto 4, 3) := by decide +kernel
theorem dX6_holds_83 : decode cX6_holds 83 = .ok (.iconst 0, 1) := by decide +kernel
theorem dX6_holds_84 : decode cX6_holds 84 = .ok (.ireturn, 1) := by decide +kernel
theorem dX6_perform_0 : decode cX6_perform 0 = .ok (.iload_n 1, 1) := by decide +kernel
theorem dX6_perform_1 : decode cX6_perform 1 = .ok (.tableswitch 93 0 4 #[35, 45, 59, 78, 86], 35) := by decide +kernel
theorem dX6_perform_36 : decode cX6_perform 36 = .ok (.aload_n 0, 1) := by decide +kernel
theorem dX6_perform_37 : decode cX6_perform 37 = .ok (.iload_n 2, 1) := by decide +kernel
theorem dX6_perform_38 : decode cX6_perform 38 = .ok (.i2l, 1) := by decide +kernel
theorem dX6_perform_39 : decode cX6_perform 39 = .ok (.iconst 0, 1) := by decide +kernel
theorem dX6_perform_40 : decode cX6_perform 40 = .ok (.invokevirtual 172, 3) := by decide +kernel
theorem dX6_perform_43 : decode cX6_perform 43 = .ok (.goto 65, 3) := by decide +kernel
theorem dX6_perform_46 : decode cX6_perform 46 = .ok (.aload_n 0, 1) := by decide +kernel
theorem dX6_perform_47 : decode cX6_perform 47 = .ok (.aload_n 0, 1) := by decide +kernel
theorem dX6_perform_48 : decode cX6_perform 48 = .ok (.getfield 37, 3) := by decide +kernel
theorem dX6_perform_51 : decode cX6_perform 51 = .ok (.iload_n 2, 1) := by decide +kernel
theorem dX6_perform_52 : decode cX6_perform 52 = .ok (.laload, 1) := by decide +kernel
theorem dX6_perform_53 : decode cX6_perform 53 = .ok (.iconst 0, 1) := by decide +kernel
theorem dX6_perform_54 : decode cX6_perform 54 = .ok (.invokevirtual 172, 3) := by decide +kernel
theorem dX6_perform_57 : decode cX6_perform 57 = .ok (.goto 51, 3) := by decide +kernel
theorem dX6_perform_60 : decode cX6_perform 60 = .ok (.aload_n 0, 1) := by decide +kernel
theorem dX6_perform_61 : decode cX6_perform 61 = .ok (.aload_n 0, 1) := by decide +kernel
theorem dX6_perform_62 : decode cX6_perform 62 = .ok (.getfield 48, 3) := by decide +kernel
theorem dX6_perform_65 : decode cX6_perform 65 = .ok (.iload_n 2, 1) := by decide +kernel
theorem dX6_perform_66 : decode cX6_perform 66 = .ok (.laload, 1) := by decide +kernel
theorem dX6_perform_67 : decode cX6_perform 67 = .ok (.aload_n 0, 1) := by decide +kernel
theorem dX6_perform_68 : decode cX6_perform 68 = .ok (.getfield 51, 3) := by decide +kernel
theorem dX6_perform_71 : decode cX6_perform 71 = .ok (.iload_n 2, 1) := by decide +kernel
theorem dX6_perform_72 : decode cX6_perform 72 = .ok (.baload, 1) := by decide +kernel
theorem dX6_perform_73 : decode cX6_perform 73 = .ok (.invokevirtual 172, 3) := by decide +kernel
theorem dX6_perform_76 : decode cX6_perform 76 = .ok (.goto 32, 3) := by decide +kernel
theorem dX6_perform_79 : decode cX6_perform 79 = .ok (.aload_n 0, 1) := by decide +kernel
theorem dX6_perform_80 : decode cX6_perform 80 = .ok (.iload_n 2, 1) := by decide +kernel
theorem dX6_perform_81 : decode cX6_perform 81 = .ok (.invokevirtual 176, 3) := by decide +kernel
theorem dX6_perform_84 : decode cX6_perform 84 = .ok (.goto 24, 3) := by decide +kernel
theorem dX6_perform_87 : decode cX6_perform 87 = .ok (.aload_n 0, 1) := by decide +kernel
theorem dX6_perform_88 : decode cX6_perform 88 = .ok (.invokevirtual 179, 3) := by decide +kernel
theorem dX6_perform_91 : decode cX6_perform 91 = .ok (.goto 17, 3) := by decide +kernel
theorem dX6_perform_94 : decode cX6_perform 94 = .ok (.aload_n 0, 1) := by decide +kernel
theorem dX6_perform_95 : decode cX6_perform 95 = .ok (.iload_n 1, 1) := by decide +kernel
theorem dX6_perform_96 : decode cX6_perform 96 = .ok (.iload_n 2, 1) := by decide +kernel
theorem dX6_perform_97 : decode cX6_perform 97 = .ok (.ifCond .eq 7, 3) := by decide +kernel
theorem dX6_perform_100 : decode cX6_perform 100 = .ok (.iconst 1, 1) := by decide +kernel
theorem dX6_perform_101 : decode cX6_perform 101 = .ok (.goto 4, 3) := by decide +kernel
theorem dX6_perform_104 : decode cX6_perform 104 = .ok (.iconst 0, 1) := by decide +kernel
theorem dX6_perform_105 : decode cX6_perform 105 = .ok (.invokevirtual 182, 3) := by decide +kernel
theorem dX6_perform_108 : decode cX6_perform 108 = .ok (.return_, 1) := by decide +kernel
theorem dX6_lay_0 : decode cX6_lay 0 = .ok (.aload_n 0, 1) := by decide +kernel
theorem dX6_lay_1 : decode cX6_lay 1 = .ok (.getfield 166, 3) := by decide +kernel
theorem dX6_lay_4 : decode cX6_lay 4 = .ok (.bipush 64, 2) := by decide +kernel
theorem dX6_lay_6 : decode cX6_lay 6 = .ok (.if_icmp .ge 33, 3) := by decide +kernel
theorem dX6_lay_9 : decode cX6_lay 9 = .ok (.aload_n 0, 1) := by decide +kernel
theorem dX6_lay_10 : decode cX6_lay 10 = .ok (.getfield 41, 3) := by decide +kernel
theorem dX6_lay_13 : decode cX6_lay 13 = .ok (.aload_n 0, 1) := by decide +kernel
theorem dX6_lay_14 : decode cX6_lay 14 = .ok (.getfield 166, 3) := by decide +kernel
theorem dX6_lay_17 : decode cX6_lay 17 = .ok (.lload_n 1, 1) := by decide +kernel
theorem dX6_lay_18 : decode cX6_lay 18 = .ok (.lastore, 1) := by decide +kernel
theorem dX6_lay_19 : decode cX6_lay 19 = .ok (.aload_n 0, 1) := by decide +kernel
theorem dX6_lay_20 : decode cX6_lay 20 = .ok (.getfield 44, 3) := by decide +kernel
theorem dX6_lay_23 : decode cX6_lay 23 = .ok (.aload_n 0, 1) := by decide +kernel
theorem dX6_lay_24 : decode cX6_lay 24 = .ok (.getfield 166, 3) := by decide +kernel
theorem dX6_lay_27 : decode cX6_lay 27 = .ok (.iload_n 3, 1) := by decide +kernel
theorem dX6_lay_28 : decode cX6_lay 28 = .ok (.bastore, 1) := by decide +kernel
theorem dX6_lay_29 : decode cX6_lay 29 = .ok (.aload_n 0, 1) := by decide +kernel
theorem dX6_lay_30 : decode cX6_lay 30 = .ok (.dup, 1) := by decide +kernel
theorem dX6_lay_31 : decode cX6_lay 31 = .ok (.getfield 166, 3) := by decide +kernel
theorem dX6_lay_34 : decode cX6_lay 34 = .ok (.iconst 1, 1) := by decide +kernel
theorem dX6_lay_35 : decode cX6_lay 35 = .ok (.iadd, 1) := by decide +kernel
theorem dX6_lay_36 : decode cX6_lay 36 = .ok (.putfield 166, 3) := by decide +kernel
theorem dX6_lay_39 : decode cX6_lay 39 = .ok (.return_, 1) := by decide +kernel
theorem dX6_keepValue_0 : decode cX6_keepValue 0 = .ok (.aload_n 0, 1) := by decide +kernel
theorem dX6_keepValue_1 : decode cX6_keepValue 1 = .ok (.getfield 166, 3) := by decide +kernel
theorem dX6_keepValue_4 : decode cX6_keepValue 4 = .ok (.ifCond .le 43, 3) := by decide +kernel
theorem dX6_keepValue_7 : decode cX6_keepValue 7 = .ok (.aload_n 0, 1) := by decide +kernel
theorem dX6_keepValue_8 : decode cX6_keepValue 8 = .ok (.dup, 1) := by decide +kernel
theorem dX6_keepValue_9 : decode cX6_keepValue 9 = .ok (.getfield 166, 3) := by decide +kernel
theorem dX6_keepValue_12 : decode cX6_keepValue 12 = .ok (.iconst 1, 1) := by decide +kernel
theorem dX6_keepValue_13 : decode cX6_keepValue 13 = .ok (.isub, 1) := by decide +kernel
theorem dX6_keepValue_14 : decode cX6_keepValue 14 = .ok (.putfield 166, 3) := by decide +kernel
theorem dX6_keepValue_17 : decode cX6_keepValue 17 = .ok (.aload_n 0, 1) := by decide +kernel
theorem dX6_keepValue_18 : decode cX6_keepValue 18 = .ok (.getfield 48, 3) := by decide +kernel
theorem dX6_keepValue_21 : decode cX6_keepValue 21 = .ok (.iload_n 1, 1) := by decide +kernel
theorem dX6_keepValue_22 : decode cX6_keepValue 22 = .ok (.aload_n 0, 1) := by decide +kernel
theorem dX6_keepValue_23 : decode cX6_keepValue 23 = .ok (.getfield 41, 3) := by decide +kernel
theorem dX6_keepValue_26 : decode cX6_keepValue 26 = .ok (.aload_n 0, 1) := by decide +kernel
theorem dX6_keepValue_27 : decode cX6_keepValue 27 = .ok (.getfield 166, 3) := by decide +kernel
theorem dX6_keepValue_30 : decode cX6_keepValue 30 = .ok (.laload, 1) := by decide +kernel
theorem dX6_keepValue_31 : decode cX6_keepValue 31 = .ok (.lastore, 1) := by decide +kernel
theorem dX6_keepValue_32 : decode cX6_keepValue 32 = .ok (.aload_n 0, 1) := by decide +kernel
theorem dX6_keepValue_33 : decode cX6_keepValue 33 = .ok (.getfield 51, 3) := by decide +kernel
theorem dX6_keepValue_36 : decode cX6_keepValue 36 = .ok (.iload_n 1, 1) := by decide +kernel
theorem dX6_keepValue_37 : decode cX6_keepValue 37 = .ok (.aload_n 0, 1) := by decide +kernel
theorem dX6_keepValue_38 : decode cX6_keepValue 38 = .ok (.getfield 44, 3) := by decide +kernel
theorem dX6_keepValue_41 : decode cX6_keepValue 41 = .ok (.aload_n 0, 1) := by decide +kernel
theorem dX6_keepValue_42 : decode cX6_keepValue 42 = .ok (.getfield 166, 3) := by decide +kernel
theorem dX6_keepValue_45 : decode cX6_keepValue 45 = .ok (.baload, 1) := by decide +kernel
theorem dX6_keepValue_46 : decode cX6_keepValue 46 = .ok (.bastore, 1) := by decide +kernel
theorem dX6_keepValue_47 : decode cX6_keepValue 47 = .ok (.return_, 1) := by decide +kernel
theorem dX6_choose_0 : decode cX6_choose 0 = .ok (.aload_n 0, 1) := by decide +kernel
theorem dX6_choose_1 : decode cX6_choose 1 = .ok (.getfield 166, 3) := by decide +kernel
theorem dX6_choose_4 : decode cX6_choose 4 = .ok (.iconst 3, 1) := by decide +kernel
theorem dX6_choose_5 : decode cX6_choose 5 = .ok (.if_icmp .ge 4, 3) := by decide +kernel
theorem dX6_choose_8 : decode cX6_choose 8 = .ok (.return_, 1) := by decide +kernel
theorem dX6_choose_9 : decode cX6_choose 9 = .ok (.aload_n 0, 1) := by decide +kernel
theorem dX6_choose_10 : decode cX6_choose 10 = .ok (.dup, 1) := by decide +kernel
theorem dX6_choose_11 : decode cX6_choose 11 = .ok (.getfield 166, 3) := by decide +kernel
theorem dX6_choose_14 : decode cX6_choose 14 = .ok (.iconst 3, 1) := by decide +kernel
theorem dX6_choose_15 : decode cX6_choose 15 = .ok (.isub, 1) := by decide +kernel
theorem dX6_choose_16 : decode cX6_choose 16 = .ok (.putfield 166, 3) := by decide +kernel
theorem dX6_choose_19 : decode cX6_choose 19 = .ok (.aload_n 0, 1) := by decide +kernel
theorem dX6_choose_20 : decode cX6_choose 20 = .ok (.getfield 41, 3) := by decide +kernel
theorem dX6_choose_23 : decode cX6_choose 23 = .ok (.aload_n 0, 1) := by decide +kernel
theorem dX6_choose_24 : decode cX6_choose 24 = .ok (.getfield 166, 3) := by decide +kernel
theorem dX6_choose_27 : decode cX6_choose 27 = .ok (.laload, 1) := by decide +kernel
theorem dX6_choose_28 : decode cX6_choose 28 = .ok (.lconst 0, 1) := by decide +kernel
theorem dX6_choose_29 : decode cX6_choose 29 = .ok (.lcmp, 1) := by decide +kernel
theorem dX6_choose_30 : decode cX6_choose 30 = .ok (.ifCond .eq 12, 3) := by decide +kernel
theorem dX6_choose_33 : decode cX6_choose 33 = .ok (.aload_n 0, 1) := by decide +kernel
theorem dX6_choose_34 : decode cX6_choose 34 = .ok (.getfield 166, 3) := by decide +kernel
theorem dX6_choose_37 : decode cX6_choose 37 = .ok (.iconst 1, 1) := by decide +kernel
theorem dX6_choose_38 : decode cX6_choose 38 = .ok (.iadd, 1) := by decide +kernel
theorem dX6_choose_39 : decode cX6_choose 39 = .ok (.goto 9, 3) := by decide +kernel
theorem dX6_choose_42 : decode cX6_choose 42 = .ok (.aload_n 0, 1) := by decide +kernel
theorem dX6_choose_43 : decode cX6_choose 43 = .ok (.getfield 166, 3) := by decide +kernel
theorem dX6_choose_46 : decode cX6_choose 46 = .ok (.iconst 2, 1) := by decide +kernel
theorem dX6_choose_47 : decode cX6_choose 47 = .ok (.iadd, 1) := by decide +kernel
theorem dX6_choose_48 : decode cX6_choose 48 = .ok (.istore_n 1, 1) := by decide +kernel
theorem dX6_choose_49 : decode cX6_choose 49 = .ok (.aload_n 0, 1) := by decide +kernel
theorem dX6_choose_50 : decode cX6_choose 50 = .ok (.aload_n 0, 1) := by decide +kernel
theorem dX6_choose_51 : decode cX6_choose 51 = .ok (.getfield 41, 3) := by decide +kernel
theorem dX6_choose_54 : decode cX6_choose 54 = .ok (.iload_n 1, 1) := by decide +kernel
theorem dX6_choose_55 : decode cX6_choose 55 = .ok (.laload, 1) := by decide +kernel
theorem dX6_choose_56 : decode cX6_choose 56 = .ok (.aload_n 0, 1) := by decide +kernel
theorem dX6_choose_57 : decode cX6_choose 57 = .ok (.getfield 44, 3) := by decide +kernel
theorem dX6_choose_60 : decode cX6_choose 60 = .ok (.iload_n 1, 1) := by decide +kernel
theorem dX6_choose_61 : decode cX6_choose 61 = .ok (.baload, 1) := by decide +kernel
theorem dX6_choose_62 : decode cX6_choose 62 = .ok (.invokevirtual 172, 3) := by decide +kernel
theorem dX6_choose_65 : decode cX6_choose 65 = .ok (.return_, 1) := by decide +kernel
theorem dX6_combine_0 : decode cX6_combine 0 = .ok (.aload_n 0, 1) := by decide +kernel
theorem dX6_combine_1 : decode cX6_combine 1 = .ok (.getfield 166, 3) := by decide +kernel
theorem dX6_combine_4 : decode cX6_combine 4 = .ok (.iconst 2, 1) := by decide +kernel
theorem dX6_combine_5 : decode cX6_combine 5 = .ok (.if_icmp .ge 4, 3) := by decide +kernel
theorem dX6_combine_8 : decode cX6_combine 8 = .ok (.return_, 1) := by decide +kernel
theorem dX6_combine_9 : decode cX6_combine 9 = .ok (.aload_n 0, 1) := by decide +kernel
theorem dX6_combine_10 : decode cX6_combine 10 = .ok (.dup, 1) := by decide +kernel
theorem dX6_combine_11 : decode cX6_combine 11 = .ok (.getfield 166, 3) := by decide +kernel
theorem dX6_combine_14 : decode cX6_combine 14 = .ok (.iconst 2, 1) := by decide +kernel
theorem dX6_combine_15 : decode cX6_combine 15 = .ok (.isub, 1) := by decide +kernel
theorem dX6_combine_16 : decode cX6_combine 16 = .ok (.putfield 166, 3) := by decide +kernel
theorem dX6_combine_19 : decode cX6_combine 19 = .ok (.aload_n 0, 1) := by decide +kernel
theorem dX6_combine_20 : decode cX6_combine 20 = .ok (.getfield 41, 3) := by decide +kernel
theorem dX6_combine_23 : decode cX6_combine 23 = .ok (.aload_n 0, 1) := by decide +kernel
theorem dX6_combine_24 : decode cX6_combine 24 = .ok (.getfield 166, 3) := by decide +kernel
theorem dX6_combine_27 : decode cX6_combine 27 = .ok (.laload, 1) := by decide +kernel
theorem dX6_combine_28 : decode cX6_combine 28 = .ok (.lstore_n 3, 1) := by decide +kernel
theorem dX6_combine_29 : decode cX6_combine 29 = .ok (.aload_n 0, 1) := by decide +kernel
theorem dX6_combine_30 : decode cX6_combine 30 = .ok (.getfield 41, 3) := by decide +kernel
theorem dX6_combine_33 : decode cX6_combine 33 = .ok (.aload_n 0, 1) := by decide +kernel
theorem dX6_combine_34 : decode cX6_combine 34 = .ok (.getfield 166, 3) := by decide +kernel
theorem dX6_combine_37 : decode cX6_combine 37 = .ok (.iconst 1, 1) := by decide +kernel
theorem dX6_combine_38 : decode cX6_combine 38 = .ok (.iadd, 1) := by decide +kernel
theorem dX6_combine_39 : decode cX6_combine 39 = .ok (.laload, 1) := by decide +kernel
theorem dX6_combine_40 : decode cX6_combine 40 = .ok (.lstore 5, 2) := by decide +kernel
theorem dX6_combine_42 : decode cX6_combine 42 = .ok (.aload_n 0, 1) := by decide +kernel
theorem dX6_combine_43 : decode cX6_combine 43 = .ok (.getfield 44, 3) := by decide +kernel
theorem dX6_combine_46 : decode cX6_combine 46 = .ok (.aload_n 0, 1) := by decide +kernel
theorem dX6_combine_47 : decode cX6_combine 47 = .ok (.getfield 166, 3) := by decide +kernel
theorem dX6_combine_50 : decode cX6_combine 50 = .ok (.baload, 1) := by decide +kernel
theorem dX6_combine_51 : decode cX6_combine 51 = .ok (.ifCond .ne 17, 3) := by decide +kernel
theorem dX6_combine_54 : decode cX6_combine 54 = .ok (.aload_n 0, 1) := by decide +kernel
theorem dX6_combine_55 : decode cX6_combine 55 = .ok (.getfield 44, 3) := by decide +kernel
theorem dX6_combine_58 : decode cX6_combine 58 = .ok (.aload_n 0, 1) := by decide +kernel
theorem dX6_combine_59 : decode cX6_combine 59 = .ok (.getfield 166, 3) := by decide +kernel
theorem dX6_combine_62 : decode cX6_combine 62 = .ok (.iconst 1, 1) := by decide +kernel
theorem dX6_combine_63 : decode cX6_combine 63 = .ok (.iadd, 1) := by decide +kernel
theorem dX6_combine_64 : decode cX6_combine 64 = .ok (.baload, 1) := by decide +kernel
theorem dX6_combine_65 : decode cX6_combine 65 = .ok (.ifCond .eq 7, 3) := by decide +kernel
theorem dX6_combine_68 : decode cX6_combine 68 = .ok (.iconst 1, 1) := by decide +kernel
theorem dX6_combine_69 : decode cX6_combine 69 = .ok (.goto 4, 3) := by decide +kernel
theorem dX6_combine_72 : decode cX6_combine 72 = .ok (.iconst 0, 1) := by decide +kernel
theorem dX6_combine_73 : decode cX6_combine 73 = .ok (.istore 7, 2) := by decide +kernel
theorem dX6_combine_75 : decode cX6_combine 75 = .ok (.iload_n 1, 1) := by decide +kernel
theorem dX6_combine_76 : decode cX6_combine 76 = .ok (.bipush 12, 2) := by decide +kernel
theorem dX6_combine_78 : decode cX6_combine 78 = .ok (.if_icmp .eq 15, 3) := by decide +kernel
theorem dX6_combine_81 : decode cX6_combine 81 = .ok (.iload_n 1, 1) := by decide +kernel
theorem dX6_combine_82 : decode cX6_combine 82 = .ok (.bipush 13, 2) := by decide +kernel
theorem dX6_combine_84 : decode cX6_combine 84 = .ok (.if_icmp .eq 9, 3) := by decide +kernel
theorem dX6_combine_87 : decode cX6_combine 87 = .ok (.iload_n 1, 1) := by decide +kernel
theorem dX6_combine_88 : decode cX6_combine 88 = .ok (.bipush 14, 2) := by decide +kernel
theorem dX6_combine_90 : decode cX6_combine 90 = .ok (.if_icmp .ne 32, 3) := by decide +kernel
theorem dX6_combine_93 : decode cX6_combine 93 = .ok (.aload_n 0, 1) := by decide +kernel
theorem dX6_combine_94 : decode cX6_combine 94 = .ok (.iload 7, 2) := by decide +kernel
theorem dX6_combine_96 : decode cX6_combine 96 = .ok (.ifCond .ne 18, 3) := by decide +kernel
theorem dX6_combine_99 : decode cX6_combine 99 = .ok (.iload_n 1, 1) := by decide +kernel
theorem dX6_combine_100 : decode cX6_combine 100 = .ok (.lload_n 3, 1) := by decide +kernel
theorem dX6_combine_101 : decode cX6_combine 101 = .ok (.lload 5, 2) := by decide +kernel
theorem dX6_combine_103 : decode cX6_combine 103 = .ok (.invokestatic 185, 3) := by decide +kernel
theorem dX6_combine_106 : decode cX6_combine 106 = .ok (.iload_n 2, 1) := by decide +kernel
theorem dX6_combine_107 : decode cX6_combine 107 = .ok (.if_icmp .eq 7, 3) := by decide +kernel
theorem dX6_combine_110 : decode cX6_combine 110 = .ok (.lconst 1, 1) := by decide +kernel
theorem dX6_combine_111 : decode cX6_combine 111 = .ok (.goto 4, 3) := by decide +kernel
theorem dX6_combine_114 : decode cX6_combine 114 = .ok (.lconst 0, 1) := by decide +kernel
theorem dX6_combine_115 : decode cX6_combine 115 = .ok (.iconst 0, 1) := by decide +kernel
theorem dX6_combine_116 : decode cX6_combine 116 = .ok (.invokevirtual 172, 3) := by decide +kernel
theorem dX6_combine_119 : decode cX6_combine 119 = .ok (.goto 44, 3) := by decide +kernel
theorem dX6_combine_122 : decode cX6_combine 122 = .ok (.iload_n 1, 1) := by decide +kernel
theorem dX6_combine_123 : decode cX6_combine 123 = .ok (.bipush 8, 2) := by decide +kernel
theorem dX6_combine_125 : decode cX6_combine 125 = .ok (.if_icmp .eq 9, 3) := by decide +kernel
theorem dX6_combine_128 : decode cX6_combine 128 = .ok (.iload_n 1, 1) := by decide +kernel
theorem dX6_combine_129 : decode cX6_combine 129 = .ok (.bipush 9, 2) := by decide +kernel
theorem dX6_combine_131 : decode cX6_combine 131 = .ok (.if_icmp .ne 19, 3) := by decide +kernel
theorem dX6_combine_134 : decode cX6_combine 134 = .ok (.lload 5, 2) := by decide +kernel
theorem dX6_combine_136 : decode cX6_combine 136 = .ok (.lconst 0, 1) := by decide +kernel
theorem dX6_combine_137 : decode cX6_combine 137 = .ok (.lcmp, 1) := by decide +kernel
theorem dX6_combine_138 : decode cX6_combine 138 = .ok (.ifCond .ne 12, 3) := by decide +kernel
theorem dX6_combine_141 : decode cX6_combine 141 = .ok (.aload_n 0, 1) := by decide +kernel
theorem dX6_combine_142 : decode cX6_combine 142 = .ok (.lconst 0, 1) := by decide +kernel
theorem dX6_combine_143 : decode cX6_combine 143 = .ok (.iconst 1, 1) := by decide +kernel
theorem dX6_combine_144 : decode cX6_combine 144 = .ok (.invokevirtual 172, 3) := by decide +kernel
theorem dX6_combine_147 : decode cX6_combine 147 = .ok (.goto 16, 3) := by decide +kernel
theorem dX6_combine_150 : decode cX6_combine 150 = .ok (.aload_n 0, 1) := by decide +kernel
theorem dX6_combine_151 : decode cX6_combine 151 = .ok (.iload_n 1, 1) := by decide +kernel
theorem dX6_combine_152 : decode cX6_combine 152 = .ok (.lload_n 3, 1) := by decide +kernel
theorem dX6_combine_153 : decode cX6_combine 153 = .ok (.lload 5, 2) := by decide +kernel
theorem dX6_combine_155 : decode cX6_combine 155 = .ok (.invokestatic 189, 3) := by decide +kernel
theorem dX6_combine_158 : decode cX6_combine 158 = .ok (.iload 7, 2) := by decide +kernel
theorem dX6_combine_160 : decode cX6_combine 160 = .ok (.invokevirtual 172, 3) := by decide +kernel
theorem dX6_combine_163 : decode cX6_combine 163 = .ok (.return_, 1) := by decide +kernel
theorem dX6_compares_0 : decode cX6_compares 0 = .ok (.iload_n 0, 1) := by decide +kernel
theorem dX6_compares_1 : decode cX6_compares 1 = .ok (.bipush 12, 2) := by decide +kernel
theorem dX6_compares_3 : decode cX6_compares 3 = .ok (.if_icmp .ne 15, 3) := by decide +kernel
theorem dX6_compares_6 : decode cX6_compares 6 = .ok (.lload_n 1, 1) := by decide +kernel
theorem dX6_compares_7 : decode cX6_compares 7 = .ok (.lload_n 3, 1) := by decide +kernel
theorem dX6_compares_8 : decode cX6_compares 8 = .ok (.lcmp, 1) := by decide +kernel
theorem dX6_compares_9 : decode cX6_compares 9 = .ok (.ifCond .ge 7, 3) := by decide +kernel
theorem dX6_compares_12 : decode cX6_compares 12 = .ok (.iconst 1, 1) := by decide +kernel
theorem dX6_compares_13 : decode cX6_compares 13 = .ok (.goto 4, 3) := by decide +kernel
theorem dX6_compares_16 : decode cX6_compares 16 = .ok (.iconst 0, 1) := by decide +kernel
theorem dX6_compares_17 : decode cX6_compares 17 = .ok (.ireturn, 1) := by decide +kernel
theorem dX6_compares_18 : decode cX6_compares 18 = .ok (.iload_n 0, 1) := by decide +kernel
theorem dX6_compares_19 : decode cX6_compares 19 = .ok (.bipush 13, 2) := by decide +kernel
theorem dX6_compares_21 : decode cX6_compares 21 = .ok (.if_icmp .ne 17, 3) := by decide +kernel
theorem dX6_compares_24 : decode cX6_compares 24 = .ok (.lload_n 1, 1) := by decide +kernel
theorem dX6_compares_25 : decode cX6_compares 25 = .ok (.lload_n 3, 1) := by decide +kernel
theorem dX6_compares_26 : decode cX6_compares 26 = .ok (.lcmp, 1) := by decide +kernel
theorem dX6_compares_27 : decode cX6_compares 27 = .ok (.ifCond .le 7, 3) := by decide +kernel
theorem dX6_compares_30 : decode cX6_compares 30 = .ok (.iconst 1, 1) := by decide +kernel
theorem dX6_compares_31 : decode cX6_compares 31 = .ok (.goto 18, 3) := by decide +kernel
theorem dX6_compares_34 : decode cX6_compares 34 = .ok (.iconst 0, 1) := by decide +kernel
theorem dX6_compares_35 : decode cX6_compares 35 = .ok (.goto 14, 3) := by decide +kernel
theorem dX6_compares_38 : decode cX6_compares 38 = .ok (.lload_n 1, 1) := by decide +kernel
theorem dX6_compares_39 : decode cX6_compares 39 = .ok (.lload_n 3, 1) := by decide +kernel
theorem dX6_compares_40 : decode cX6_compares 40 = .ok (.lcmp, 1) := by decide +kernel
theorem dX6_compares_41 : decode cX6_compares 41 = .ok (.ifCond .ne 7, 3) := by decide +kernel
theorem dX6_compares_44 : decode cX6_compares 44 = .ok (.iconst 1, 1) := by decide +kernel
theorem dX6_compares_45 : decode cX6_compares 45 = .ok (.goto 4, 3) := by decide +kernel
theorem dX6_compares_48 : decode cX6_compares 48 = .ok (.iconst 0, 1) := by decide +kernel
theorem dX6_compares_49 : decode cX6_compares 49 = .ok (.ireturn, 1) := by decide +kernel
theorem dX6_outcome_0 : decode cX6_outcome 0 = .ok (.iload_n 0, 1) := by decide +kernel
theorem dX6_outcome_1 : decode cX6_outcome 1 = .ok (.tableswitch 127 5 15 #[59, 63, 67, 71, 85, 99, 111, 127, 127, 127, 123], 59) := by decide +kernel
theorem dX6_outcome_60 : decode cX6_outcome 60 = .ok (.lload_n 1, 1) := by decide +kernel
theorem dX6_outcome_61 : decode cX6_outcome 61 = .ok (.lload_n 3, 1) := by decide +kernel
theorem dX6_outcome_62 : decode cX6_outcome 62 = .ok (.ladd, 1) := by decide +kernel
theorem dX6_outcome_63 : decode cX6_outcome 63 = .ok (.lreturn, 1) := by decide +kernel
theorem dX6_outcome_64 : decode cX6_outcome 64 = .ok (.lload_n 1, 1) := by decide +kernel
theorem dX6_outcome_65 : decode cX6_outcome 65 = .ok (.lload_n 3, 1) := by decide +kernel
theorem dX6_outcome_66 : decode cX6_outcome 66 = .ok (.lsub, 1) := by decide +kernel
theorem dX6_outcome_67 : decode cX6_outcome 67 = .ok (.lreturn, 1) := by decide +kernel
theorem dX6_outcome_68 : decode cX6_outcome 68 = .ok (.lload_n 1, 1) := by decide +kernel
theorem dX6_outcome_69 : decode cX6_outcome 69 = .ok (.lload_n 3, 1) := by decide +kernel
theorem dX6_outcome_70 : decode cX6_outcome 70 = .ok (.lmul, 1) := by decide +kernel
theorem dX6_outcome_71 : decode cX6_outcome 71 = .ok (.lreturn, 1) := by decide +kernel
theorem dX6_outcome_72 : decode cX6_outcome 72 = .ok (.lload_n 3, 1) := by decide +kernel
theorem dX6_outcome_73 : decode cX6_outcome 73 = .ok (.lconst 0, 1) := by decide +kernel
theorem dX6_outcome_74 : decode cX6_outcome 74 = .ok (.lcmp, 1) := by decide +kernel
theorem dX6_outcome_75 : decode cX6_outcome 75 = .ok (.ifCond .ne 7, 3) := by decide +kernel
theorem dX6_outcome_78 : decode cX6_outcome 78 = .ok (.lconst 0, 1) := by decide +kernel
theorem dX6_outcome_79 : decode cX6_outcome 79 = .ok (.goto 6, 3) := by decide +kernel
theorem dX6_outcome_82 : decode cX6_outcome 82 = .ok (.lload_n 1, 1) := by decide +kernel
theorem dX6_outcome_83 : decode cX6_outcome 83 = .ok (.lload_n 3, 1) := by decide +kernel
theorem dX6_outcome_84 : decode cX6_outcome 84 = .ok (.ldiv, 1) := by decide +kernel
theorem dX6_outcome_85 : decode cX6_outcome 85 = .ok (.lreturn, 1) := by decide +kernel
theorem dX6_outcome_86 : decode cX6_outcome 86 = .ok (.lload_n 3, 1) := by decide +kernel
theorem dX6_outcome_87 : decode cX6_outcome 87 = .ok (.lconst 0, 1) := by decide +kernel
theorem dX6_outcome_88 : decode cX6_outcome 88 = .ok (.lcmp, 1) := by decide +kernel
theorem dX6_outcome_89 : decode cX6_outcome 89 = .ok (.ifCond .ne 7, 3) := by decide +kernel
theorem dX6_outcome_92 : decode cX6_outcome 92 = .ok (.lconst 0, 1) := by decide +kernel
theorem dX6_outcome_93 : decode cX6_outcome 93 = .ok (.goto 6, 3) := by decide +kernel
theorem dX6_outcome_96 : decode cX6_outcome 96 = .ok (.lload_n 1, 1) := by decide +kernel
theorem dX6_outcome_97 : decode cX6_outcome 97 = .ok (.lload_n 3, 1) := by decide +kernel
theorem dX6_outcome_98 : decode cX6_outcome 98 = .ok (.lrem, 1) := by decide +kernel
theorem dX6_outcome_99 : decode cX6_outcome 99 = .ok (.lreturn, 1) := by decide +kernel
theorem dX6_outcome_100 : decode cX6_outcome 100 = .ok (.lload_n 1, 1) := by decide +kernel
theorem dX6_outcome_101 : decode cX6_outcome 101 = .ok (.lload_n 3, 1) := by decide +kernel
theorem dX6_outcome_102 : decode cX6_outcome 102 = .ok (.lcmp, 1) := by decide +kernel
theorem dX6_outcome_103 : decode cX6_outcome 103 = .ok (.ifCond .ge 7, 3) := by decide +kernel
theorem dX6_outcome_106 : decode cX6_outcome 106 = .ok (.lload_n 1, 1) := by decide +kernel
theorem dX6_outcome_107 : decode cX6_outcome 107 = .ok (.goto 4, 3) := by decide +kernel
theorem dX6_outcome_110 : decode cX6_outcome 110 = .ok (.lload_n 3, 1) := by decide +kernel
theorem dX6_outcome_111 : decode cX6_outcome 111 = .ok (.lreturn, 1) := by decide +kernel
theorem dX6_outcome_112 : decode cX6_outcome 112 = .ok (.lload_n 1, 1) := by decide +kernel
theorem dX6_outcome_113 : decode cX6_outcome 113 = .ok (.lload_n 3, 1) := by decide +kernel
theorem dX6_outcome_114 : decode cX6_outcome 114 = .ok (.lcmp, 1) := by decide +kernel
theorem dX6_outcome_115 : decode cX6_outcome 115 = .ok (.ifCond .le 7, 3) := by decide +kernel
theorem dX6_outcome_118 : decode cX6_outcome 118 = .ok (.lload_n 1, 1) := by decide +kernel
theorem dX6_outcome_119 : decode cX6_outcome 119 = .ok (.goto 4, 3) := by decide +kernel
theorem dX6_outcome_122 : decode cX6_outcome 122 = .ok (.lload_n 3, 1) := by decide +kernel
theorem dX6_outcome_123 : decode cX6_outcome 123 = .ok (.lreturn, 1) := by decide +kernel
theorem dX6_outcome_124 : decode cX6_outcome 124 = .ok (.lload_n 1, 1) := by decide +kernel
theorem dX6_outcome_125 : decode cX6_outcome 125 = .ok (.lload_n 3, 1) := by decide +kernel
theorem dX6_outcome_126 : decode cX6_outcome 126 = .ok (.land, 1) := by decide +kernel
theorem dX6_outcome_127 : decode cX6_outcome 127 = .ok (.lreturn, 1) := by decide +kernel
theorem dX6_outcome_128 : decode cX6_outcome 128 = .ok (.lload_n 1, 1) := by decide +kernel
theorem dX6_outcome_129 : decode cX6_outcome 129 = .ok (.lload_n 3, 1) := by decide +kernel
theorem dX6_outcome_130 : decode cX6_outcome 130 = .ok (.lor, 1) := by decide +kernel
theorem dX6_outcome_131 : decode cX6_outcome 131 = .ok (.lreturn, 1) := by decide +kernel
theorem dX7_init_0 : decode cX7_init 0 = .ok (.aload_n 0, 1) := by decide +kernel
theorem dX7_init_1 : decode cX7_init 1 = .ok (.invokespecial 3, 3) := by decide +kernel
theorem dX7_init_4 : decode cX7_init 4 = .ok (.aload_n 0, 1) := by decide +kernel
theorem dX7_init_5 : decode cX7_init 5 = .ok (.bipush 40, 2) := by decide +kernel
theorem dX7_init_7 : decode cX7_init 7 = .ok (.newarray .long, 2) := by decide +kernel
theorem dX7_init_9 : decode cX7_init 9 = .ok (.putfield 11, 3) := by decide +kernel
theorem dX7_init_12 : decode cX7_init 12 = .ok (.aload_n 0, 1) := by decide +kernel
theorem dX7_init_13 : decode cX7_init 13 = .ok (.iconst 3, 1) := by decide +kernel
theorem dX7_init_14 : decode cX7_init 14 = .ok (.newarray .int, 2) := by decide +kernel
theorem dX7_init_16 : decode cX7_init 16 = .ok (.putfield 17, 3) := by decide +kernel
theorem dX7_init_19 : decode cX7_init 19 = .ok (.return_, 1) := by decide +kernel
theorem dX7_hasKept_0 : decode cX7_hasKept 0 = .ok (.iload_n 1, 1) := by decide +kernel
theorem dX7_hasKept_1 : decode cX7_hasKept 1 = .ok (.ifCond .lt 21, 3) := by decide +kernel
theorem dX7_hasKept_4 : decode cX7_hasKept 4 = .ok (.iload_n 1, 1) := by decide +kernel
theorem dX7_hasKept_5 : decode cX7_hasKept 5 = .ok (.bipush 40, 2) := by decide +kernel
theorem dX7_hasKept_7 : decode cX7_hasKept 7 = .ok (.if_icmp .ge 15, 3) := by decide +kernel
theorem dX7_hasKept_10 : decode cX7_hasKept 10 = .ok (.iload_n 1, 1) := by decide +kernel
theorem dX7_hasKept_11 : decode cX7_hasKept 11 = .ok (.aload_n 0, 1) := by decide +kernel
theorem dX7_hasKept_12 : decode cX7_hasKept 12 = .ok (.getfield 21, 3) := by decide +kernel
theorem dX7_hasKept_15 : decode cX7_hasKept 15 = .ok (.if_icmp .ge 7, 3) := by decide +kernel
theorem dX7_hasKept_18 : decode cX7_hasKept 18 = .ok (.iconst 1, 1) := by decide +kernel
theorem dX7_hasKept_19 : decode cX7_hasKept 19 = .ok (.goto 4, 3) := by decide +kernel
theorem dX7_hasKept_22 : decode cX7_hasKept 22 = .ok (.iconst 0, 1) := by decide +kernel
theorem dX7_hasKept_23 : decode cX7_hasKept 23 = .ok (.ireturn, 1) := by decide +kernel
theorem dX7_perform_0 : decode cX7_perform 0 = .ok (.aload_n 0, 1) := by decide +kernel
theorem dX7_perform_1 : decode cX7_perform 1 = .ok (.aload_n 1, 1) := by decide +kernel
theorem dX7_perform_2 : decode cX7_perform 2 = .ok (.putfield 25, 3) := by decide +kernel
theorem dX7_perform_5 : decode cX7_perform 5 = .ok (.aload_n 0, 1) := by decide +kernel
theorem dX7_perform_6 : decode cX7_perform 6 = .ok (.aload_n 2, 1) := by decide +kernel
theorem dX7_perform_7 : decode cX7_perform 7 = .ok (.putfield 29, 3) := by decide +kernel
theorem dX7_perform_10 : decode cX7_perform 10 = .ok (.aload_n 0, 1) := by decide +kernel
theorem dX7_perform_11 : decode cX7_perform 11 = .ok (.iload_n 3, 1) := by decide +kernel
theorem dX7_perform_12 : decode cX7_perform 12 = .ok (.putfield 33, 3) := by decide +kernel
theorem dX7_perform_15 : decode cX7_perform 15 = .ok (.aload_n 0, 1) := by decide +kernel
theorem dX7_perform_16 : decode cX7_perform 16 = .ok (.iload_n 3, 1) := by decide +kernel
theorem dX7_perform_17 : decode cX7_perform 17 = .ok (.putfield 36, 3) := by decide +kernel
theorem dX7_perform_20 : decode cX7_perform 20 = .ok (.aload_n 0, 1) := by decide +kernel
theorem dX7_perform_21 : decode cX7_perform 21 = .ok (.aload_n 0, 1) := by decide +kernel
theorem dX7_perform_22 : decode cX7_perform 22 = .ok (.getfield 29, 3) := by decide +kernel
theorem dX7_perform_25 : decode cX7_perform 25 = .ok (.iload_n 3, 1) := by decide +kernel
theorem dX7_perform_26 : decode cX7_perform 26 = .ok (.invokevirtual 39, 3) := by decide +kernel
theorem dX7_perform_29 : decode cX7_perform 29 = .ok (.putfield 45, 3) := by decide +kernel
theorem dX7_perform_32 : decode cX7_perform 32 = .ok (.aload_n 0, 1) := by decide +kernel
theorem dX7_perform_33 : decode cX7_perform 33 = .ok (.iconst 0, 1) := by decide +kernel
theorem dX7_perform_34 : decode cX7_perform 34 = .ok (.putfield 49, 3) := by decide +kernel
theorem dX7_perform_37 : decode cX7_perform 37 = .ok (.aload_n 0, 1) := by decide +kernel
theorem dX7_perform_38 : decode cX7_perform 38 = .ok (.iconst 0, 1) := by decide +kernel
theorem dX7_perform_39 : decode cX7_perform 39 = .ok (.putfield 52, 3) := by decide +kernel
theorem dX7_perform_42 : decode cX7_perform 42 = .ok (.aload_n 0, 1) := by decide +kernel
theorem dX7_perform_43 : decode cX7_perform 43 = .ok (.iconst 0, 1) := by decide +kernel
theorem dX7_perform_44 : decode cX7_perform 44 = .ok (.putfield 21, 3) := by decide +kernel
theorem dX7_perform_47 : decode cX7_perform 47 = .ok (.iconst 0, 1) := by decide +kernel
theorem dX7_perform_48 : decode cX7_perform 48 = .ok (.istore 4, 2) := by decide +kernel
theorem dX7_perform_50 : decode cX7_perform 50 = .ok (.iconst 0, 1) := by decide +kernel
theorem dX7_perform_51 : decode cX7_perform 51 = .ok (.istore 5, 2) := by decide +kernel
theorem dX7_perform_53 : decode cX7_perform 53 = .ok (.iload 5, 2) := by decide +kernel
theorem dX7_perform_55 : decode cX7_perform 55 = .ok (.ldc 55, 2) := by decide +kernel
theorem dX7_perform_57 : decode cX7_perform 57 = .ok (.if_icmp .ge 36, 3) := by decide +kernel
theorem dX7_perform_60 : decode cX7_perform 60 = .ok (.aload_n 0, 1) := by decide +kernel
theorem dX7_perform_61 : decode cX7_perform 61 = .ok (.getfield 49, 3) := by decide +kernel
theorem dX7_perform_64 : decode cX7_perform 64 = .ok (.ifCond .ne 29, 3) := by decide +kernel
theorem dX7_perform_67 : decode cX7_perform 67 = .ok (.iload 4, 2) := by decide +kernel
theorem dX7_perform_69 : decode cX7_perform 69 = .ok (.aload_n 0, 1) := by decide +kernel
theorem dX7_perform_70 : decode cX7_perform 70 = .ok (.getfield 25, 3) := by decide +kernel
theorem dX7_perform_73 : decode cX7_perform 73 = .ok (.getfield 56, 3) := by decide +kernel
theorem dX7_perform_76 : decode cX7_perform 76 = .ok (.if_icmp .ge 17, 3) := by decide +kernel
theorem dX7_perform_79 : decode cX7_perform 79 = .ok (.aload_n 0, 1) := by decide +kernel
theorem dX7_perform_80 : decode cX7_perform 80 = .ok (.iload 4, 2) := by decide +kernel
theorem dX7_perform_82 : decode cX7_perform 82 = .ok (.invokevirtual 59, 3) := by decide +kernel
theorem dX7_perform_85 : decode cX7_perform 85 = .ok (.istore 4, 2) := by decide +kernel
theorem dX7_perform_87 : decode cX7_perform 87 = .ok (.iinc 5 1, 3) := by decide +kernel
theorem dX7_perform_90 : decode cX7_perform 90 = .ok (.goto (-37), 3) := by decide +kernel
theorem dX7_perform_93 : decode cX7_perform 93 = .ok (.aload_n 0, 1) := by decide +kernel
theorem dX7_perform_94 : decode cX7_perform 94 = .ok (.getfield 49, 3) := by decide +kernel
theorem dX7_perform_97 : decode cX7_perform 97 = .ok (.ireturn, 1) := by decide +kernel
theorem dX7_performRow_0 : decode cX7_performRow 0 = .ok (.aload_n 0, 1) := by decide +kernel
theorem dX7_performRow_1 : decode cX7_performRow 1 = .ok (.getfield 25, 3) := by decide +kernel
theorem dX7_performRow_4 : decode cX7_performRow 4 = .ok (.getfield 63, 3) := by decide +kernel
theorem dX7_performRow_7 : decode cX7_performRow 7 = .ok (.iload_n 1, 1) := by decide +kernel
theorem dX7_performRow_8 : decode cX7_performRow 8 = .ok (.iaload, 1) := by decide +kernel
theorem dX7_performRow_9 : decode cX7_performRow 9 = .ok (.istore_n 2, 1) := by decide +kernel
theorem dX7_performRow_10 : decode cX7_performRow 10 = .ok (.aload_n 0, 1) := by decide +kernel
theorem dX7_performRow_11 : decode cX7_performRow 11 = .ok (.getfield 25, 3) := by decide +kernel
theorem dX7_performRow_14 : decode cX7_performRow 14 = .ok (.getfield 66, 3) := by decide +kernel
theorem dX7_performRow_17 : decode cX7_performRow 17 = .ok (.iload_n 1, 1) := by decide +kernel
theorem dX7_performRow_18 : decode cX7_performRow 18 = .ok (.iaload, 1) := by decide +kernel
theorem dX7_performRow_19 : decode cX7_performRow 19 = .ok (.tableswitch 98 0 4 #[33, 42, 56, 68, 77], 33) := by decide +kernel
theorem dX7_performRow_52 : decode cX7_performRow 52 = .ok (.aload_n 0, 1) := by decide +kernel
theorem dX7_performRow_53 : decode cX7_performRow 53 = .ok (.iload_n 2, 1) := by decide +kernel
theorem dX7_performRow_54 : decode cX7_performRow 54 = .ok (.invokevirtual 69, 3) := by decide +kernel
theorem dX7_performRow_57 : decode cX7_performRow 57 = .ok (.iload_n 1, 1) := by decide +kernel
theorem dX7_performRow_58 : decode cX7_performRow 58 = .ok (.iconst 1, 1) := by decide +kernel
theorem dX7_performRow_59 : decode cX7_performRow 59 = .ok (.iadd, 1) := by decide +kernel
theorem dX7_performRow_60 : decode cX7_performRow 60 = .ok (.ireturn, 1) := by decide +kernel
theorem dX7_performRow_61 : decode cX7_performRow 61 = .ok (.aload_n 0, 1) := by decide +kernel
theorem dX7_performRow_62 : decode cX7_performRow 62 = .ok (.ldc2_w 73, 3) := by decide +kernel
theorem dX7_performRow_65 : decode cX7_performRow 65 = .ok (.iload_n 2, 1) := by decide +kernel
theorem dX7_performRow_66 : decode cX7_performRow 66 = .ok (.i2l, 1) := by decide +kernel
theorem dX7_performRow_67 : decode cX7_performRow 67 = .ok (.lmul, 1) := by decide +kernel
theorem dX7_performRow_68 : decode cX7_performRow 68 = .ok (.invokevirtual 75, 3) := by decide +kernel
theorem dX7_performRow_71 : decode cX7_performRow 71 = .ok (.iload_n 1, 1) := by decide +kernel
theorem dX7_performRow_72 : decode cX7_performRow 72 = .ok (.iconst 1, 1) := by decide +kernel
theorem dX7_performRow_73 : decode cX7_performRow 73 = .ok (.iadd, 1) := by decide +kernel
theorem dX7_performRow_74 : decode cX7_performRow 74 = .ok (.ireturn, 1) := by decide +kernel
theorem dX7_performRow_75 : decode cX7_performRow 75 = .ok (.aload_n 0, 1) := by decide +kernel
theorem dX7_performRow_76 : decode cX7_performRow 76 = .ok (.aload_n 0, 1) := by decide +kernel
theorem dX7_performRow_77 : decode cX7_performRow 77 = .ok (.getfield 45, 3) := by decide +kernel
theorem dX7_performRow_80 : decode cX7_performRow 80 = .ok (.invokevirtual 79, 3) := by decide +kernel
theorem dX7_performRow_83 : decode cX7_performRow 83 = .ok (.iload_n 1, 1) := by decide +kernel
theorem dX7_performRow_84 : decode cX7_performRow 84 = .ok (.iconst 1, 1) := by decide +kernel
theorem dX7_performRow_85 : decode cX7_performRow 85 = .ok (.iadd, 1) := by decide +kernel
theorem dX7_performRow_86 : decode cX7_performRow 86 = .ok (.ireturn, 1) := by decide +kernel
theorem dX7_performRow_87 : decode cX7_performRow 87 = .ok (.aload_n 0, 1) := by decide +kernel
theorem dX7_performRow_88 : decode cX7_performRow 88 = .ok (.iload_n 2, 1) := by decide +kernel
theorem dX7_performRow_89 : decode cX7_performRow 89 = .ok (.invokevirtual 82, 3) := by decide +kernel
theorem dX7_performRow_92 : decode cX7_performRow 92 = .ok (.iload_n 1, 1) := by decide +kernel
theorem dX7_performRow_93 : decode cX7_performRow 93 = .ok (.iconst 1, 1) := by decide +kernel
theorem dX7_performRow_94 : decode cX7_performRow 94 = .ok (.iadd, 1) := by decide +kernel
theorem dX7_performRow_95 : decode cX7_performRow 95 = .ok (.ireturn, 1) := by decide +kernel
theorem dX7_performRow_96 : decode cX7_performRow 96 = .ok (.aload_n 0, 1) := by decide +kernel
theorem dX7_performRow_97 : decode cX7_performRow 97 = .ok (.getfield 17, 3) := by decide +kernel
theorem dX7_performRow_100 : decode cX7_performRow 100 = .ok (.aload_n 0, 1) := by decide +kernel
theorem dX7_performRow_101 : decode cX7_performRow 101 = .ok (.getfield 25, 3) := by decide +kernel
theorem dX7_performRow_104 : decode cX7_performRow 104 = .ok (.getfield 85, 3) := by decide +kernel
theorem dX7_performRow_107 : decode cX7_performRow 107 = .ok (.iload_n 1, 1) := by decide +kernel
theorem dX7_performRow_108 : decode cX7_performRow 108 = .ok (.iaload, 1) := by decide +kernel
theorem dX7_performRow_109 : decode cX7_performRow 109 = .ok (.iload_n 2, 1) := by decide +kernel
theorem dX7_performRow_110 : decode cX7_performRow 110 = .ok (.iconst 1, 1) := by decide +kernel
theorem dX7_performRow_111 : decode cX7_performRow 111 = .ok (.isub, 1) := by decide +kernel
theorem dX7_performRow_112 : decode cX7_performRow 112 = .ok (.iastore, 1) := by decide +kernel
theorem dX7_performRow_113 : decode cX7_performRow 113 = .ok (.iload_n 1, 1) := by decide +kernel
theorem dX7_performRow_114 : decode cX7_performRow 114 = .ok (.iconst 1, 1) := by decide +kernel
theorem dX7_performRow_115 : decode cX7_performRow 115 = .ok (.iadd, 1) := by decide +kernel
theorem dX7_performRow_116 : decode cX7_performRow 116 = .ok (.ireturn, 1) := by decide +kernel
theorem dX7_performRow_117 : decode cX7_performRow 117 = .ok (.aload_n 0, 1) := by decide +kernel
theorem dX7_performRow_118 : decode cX7_performRow 118 = .ok (.iload_n 1, 1) := by decide +kernel
theorem dX7_performRow_119 : decode cX7_performRow 119 = .ok (.invokevirtual 88, 3) := by decide +kernel
theorem dX7_performRow_122 : decode cX7_performRow 122 = .ok (.ireturn, 1) := by decide +kernel
theorem dX7_rowBehindBack_0 : decode cX7_rowBehindBack 0 = .ok (.aload_n 0, 1) := by decide +kernel
theorem dX7_rowBehindBack_1 : decode cX7_rowBehindBack 1 = .ok (.getfield 25, 3) := by decide +kernel
theorem dX7_rowBehindBack_4 : decode cX7_rowBehindBack 4 = .ok (.getfield 85, 3) := by decide +kernel
theorem dX7_rowBehindBack_7 : decode cX7_rowBehindBack 7 = .ok (.iload_n 1, 1) := by decide +kernel
theorem dX7_rowBehindBack_8 : decode cX7_rowBehindBack 8 = .ok (.iaload, 1) := by decide +kernel
theorem dX7_rowBehindBack_9 : decode cX7_rowBehindBack 9 = .ok (.istore_n 2, 1) := by decide +kernel
theorem dX7_rowBehindBack_10 : decode cX7_rowBehindBack 10 = .ok (.aload_n 0, 1) := by decide +kernel
theorem dX7_rowBehindBack_11 : decode cX7_rowBehindBack 11 = .ok (.getfield 17, 3) := by decide +kernel
theorem dX7_rowBehindBack_14 : decode cX7_rowBehindBack 14 = .ok (.iload_n 2, 1) := by decide +kernel
theorem dX7_rowBehindBack_15 : decode cX7_rowBehindBack 15 = .ok (.iaload, 1) := by decide +kernel
theorem dX7_rowBehindBack_16 : decode cX7_rowBehindBack 16 = .ok (.ifCond .gt 7, 3) := by decide +kernel
theorem dX7_rowBehindBack_19 : decode cX7_rowBehindBack 19 = .ok (.iload_n 1, 1) := by decide +kernel
theorem dX7_rowBehindBack_20 : decode cX7_rowBehindBack 20 = .ok (.iconst 1, 1) := by decide +kernel
theorem dX7_rowBehindBack_21 : decode cX7_rowBehindBack 21 = .ok (.iadd, 1) := by decide +kernel
theorem dX7_rowBehindBack_22 : decode cX7_rowBehindBack 22 = .ok (.ireturn, 1) := by decide +kernel
theorem dX7_rowBehindBack_23 : decode cX7_rowBehindBack 23 = .ok (.aload_n 0, 1) := by decide +kernel
theorem dX7_rowBehindBack_24 : decode cX7_rowBehindBack 24 = .ok (.getfield 17, 3) := by decide +kernel
theorem dX7_rowBehindBack_27 : decode cX7_rowBehindBack 27 = .ok (.iload_n 2, 1) := by decide +kernel
theorem dX7_rowBehindBack_28 : decode cX7_rowBehindBack 28 = .ok (.dup2, 1) := by decide +kernel
theorem dX7_rowBehindBack_29 : decode cX7_rowBehindBack 29 = .ok (.iaload, 1) := by decide +kernel
theorem dX7_rowBehindBack_30 : decode cX7_rowBehindBack 30 = .ok (.iconst 1, 1) := by decide +kernel
theorem dX7_rowBehindBack_31 : decode cX7_rowBehindBack 31 = .ok (.isub, 1) := by decide +kernel
theorem dX7_rowBehindBack_32 : decode cX7_rowBehindBack 32 = .ok (.iastore, 1) := by decide +kernel
theorem dX7_rowBehindBack_33 : decode cX7_rowBehindBack 33 = .ok (.aload_n 0, 1) := by decide +kernel
theorem dX7_rowBehindBack_34 : decode cX7_rowBehindBack 34 = .ok (.getfield 25, 3) := by decide +kernel
theorem dX7_rowBehindBack_37 : decode cX7_rowBehindBack 37 = .ok (.getfield 63, 3) := by decide +kernel
theorem dX7_rowBehindBack_40 : decode cX7_rowBehindBack 40 = .ok (.iload_n 1, 1) := by decide +kernel
theorem dX7_rowBehindBack_41 : decode cX7_rowBehindBack 41 = .ok (.iaload, 1) := by decide +kernel
theorem dX7_rowBehindBack_42 : decode cX7_rowBehindBack 42 = .ok (.ireturn, 1) := by decide +kernel
theorem dX7_waitFor_0 : decode cX7_waitFor 0 = .ok (.aload_n 0, 1) := by decide +kernel
theorem dX7_waitFor_1 : decode cX7_waitFor 1 = .ok (.getfield 36, 3) := by decide +kernel
theorem dX7_waitFor_4 : decode cX7_waitFor 4 = .ok (.istore_n 2, 1) := by decide +kernel
theorem dX7_waitFor_5 : decode cX7_waitFor 5 = .ok (.aload_n 0, 1) := by decide +kernel
theorem dX7_waitFor_6 : decode cX7_waitFor 6 = .ok (.getfield 45, 3) := by decide +kernel
theorem dX7_waitFor_9 : decode cX7_waitFor 9 = .ok (.invokestatic 91, 3) := by decide +kernel
theorem dX7_waitFor_12 : decode cX7_waitFor 12 = .ok (.ldc2_w 73, 3) := by decide +kernel
theorem dX7_waitFor_15 : decode cX7_waitFor 15 = .ok (.iload_n 1, 1) := by decide +kernel
theorem dX7_waitFor_16 : decode cX7_waitFor 16 = .ok (.i2l, 1) := by decide +kernel
theorem dX7_waitFor_17 : decode cX7_waitFor 17 = .ok (.lmul, 1) := by decide +kernel
theorem dX7_waitFor_18 : decode cX7_waitFor 18 = .ok (.ladd, 1) := by decide +kernel
theorem dX7_waitFor_19 : decode cX7_waitFor 19 = .ok (.lstore_n 3, 1) := by decide +kernel
theorem dX7_waitFor_20 : decode cX7_waitFor 20 = .ok (.iconst 0, 1) := by decide +kernel
theorem dX7_waitFor_21 : decode cX7_waitFor 21 = .ok (.istore 5, 2) := by decide +kernel
theorem dX7_waitFor_23 : decode cX7_waitFor 23 = .ok (.iload 5, 2) := by decide +kernel
theorem dX7_waitFor_25 : decode cX7_waitFor 25 = .ok (.sipush 5000, 3) := by decide +kernel
theorem dX7_waitFor_28 : decode cX7_waitFor 28 = .ok (.if_icmp .gt 32, 3) := by decide +kernel
theorem dX7_waitFor_31 : decode cX7_waitFor 31 = .ok (.aload_n 0, 1) := by decide +kernel
theorem dX7_waitFor_32 : decode cX7_waitFor 32 = .ok (.getfield 49, 3) := by decide +kernel
theorem dX7_waitFor_35 : decode cX7_waitFor 35 = .ok (.ifCond .ne 25, 3) := by decide +kernel
theorem dX7_waitFor_38 : decode cX7_waitFor 38 = .ok (.aload_n 0, 1) := by decide +kernel
theorem dX7_waitFor_39 : decode cX7_waitFor 39 = .ok (.getfield 45, 3) := by decide +kernel
theorem dX7_waitFor_42 : decode cX7_waitFor 42 = .ok (.invokestatic 91, 3) := by decide +kernel
theorem dX7_waitFor_45 : decode cX7_waitFor 45 = .ok (.lload_n 3, 1) := by decide +kernel
theorem dX7_waitFor_46 : decode cX7_waitFor 46 = .ok (.lcmp, 1) := by decide +kernel
theorem dX7_waitFor_47 : decode cX7_waitFor 47 = .ok (.ifCond .ge 13, 3) := by decide +kernel
theorem dX7_waitFor_50 : decode cX7_waitFor 50 = .ok (.aload_n 0, 1) := by decide +kernel
theorem dX7_waitFor_51 : decode cX7_waitFor 51 = .ok (.invokevirtual 95, 3) := by decide +kernel
theorem dX7_waitFor_54 : decode cX7_waitFor 54 = .ok (.iinc 5 1, 3) := by decide +kernel
theorem dX7_waitFor_57 : decode cX7_waitFor 57 = .ok (.goto (-34), 3) := by decide +kernel
theorem dX7_waitFor_60 : decode cX7_waitFor 60 = .ok (.aload_n 0, 1) := by decide +kernel
theorem dX7_waitFor_61 : decode cX7_waitFor 61 = .ok (.getfield 49, 3) := by decide +kernel
theorem dX7_waitFor_64 : decode cX7_waitFor 64 = .ok (.ifCond .ne 20, 3) := by decide +kernel
theorem dX7_waitFor_67 : decode cX7_waitFor 67 = .ok (.aload_n 0, 1) := by decide +kernel
theorem dX7_waitFor_68 : decode cX7_waitFor 68 = .ok (.dup, 1) := by decide +kernel
theorem dX7_waitFor_69 : decode cX7_waitFor 69 = .ok (.getfield 52, 3) := by decide +kernel
theorem dX7_waitFor_72 : decode cX7_waitFor 72 = .ok (.aload_n 0, 1) := by decide +kernel
theorem dX7_waitFor_73 : decode cX7_waitFor 73 = .ok (.getfield 36, 3) := by decide +kernel
theorem dX7_waitFor_76 : decode cX7_waitFor 76 = .ok (.iload_n 2, 1) := by decide +kernel
theorem dX7_waitFor_77 : decode cX7_waitFor 77 = .ok (.isub, 1) := by decide +kernel
theorem dX7_waitFor_78 : decode cX7_waitFor 78 = .ok (.iload_n 1, 1) := by decide +kernel
theorem dX7_waitFor_79 : decode cX7_waitFor 79 = .ok (.isub, 1) := by decide +kernel
theorem dX7_waitFor_80 : decode cX7_waitFor 80 = .ok (.iadd, 1) := by decide +kernel
theorem dX7_waitFor_81 : decode cX7_waitFor 81 = .ok (.putfield 52, 3) := by decide +kernel
theorem dX7_waitFor_84 : decode cX7_waitFor 84 = .ok (.return_, 1) := by decide +kernel
theorem dX7_goOnUntil_0 : decode cX7_goOnUntil 0 = .ok (.iconst 0, 1) := by decide +kernel
theorem dX7_goOnUntil_1 : decode cX7_goOnUntil 1 = .ok (.istore_n 3, 1) := by decide +kernel
theorem dX7_goOnUntil_2 : decode cX7_goOnUntil 2 = .ok (.iload_n 3, 1) := by decide +kernel
theorem dX7_goOnUntil_3 : decode cX7_goOnUntil 3 = .ok (.sipush 5000, 3) := by decide +kernel
theorem dX7_goOnUntil_6 : decode cX7_goOnUntil 6 = .ok (.if_icmp .gt 33, 3) := by decide +kernel
theorem dX7_goOnUntil_9 : decode cX7_goOnUntil 9 = .ok (.aload_n 0, 1) := by decide +kernel
theorem dX7_goOnUntil_10 : decode cX7_goOnUntil 10 = .ok (.getfield 49, 3) := by decide +kernel
theorem dX7_goOnUntil_13 : decode cX7_goOnUntil 13 = .ok (.ifCond .ne 26, 3) := by decide +kernel
theorem dX7_goOnUntil_16 : decode cX7_goOnUntil 16 = .ok (.aload_n 0, 1) := by decide +kernel
theorem dX7_goOnUntil_17 : decode cX7_goOnUntil 17 = .ok (.getfield 45, 3) := by decide +kernel
theorem dX7_goOnUntil_20 : decode cX7_goOnUntil 20 = .ok (.ldc2_w 98, 3) := by decide +kernel
theorem dX7_goOnUntil_23 : decode cX7_goOnUntil 23 = .ok (.lrem, 1) := by decide +kernel
theorem dX7_goOnUntil_24 : decode cX7_goOnUntil 24 = .ok (.lload_n 1, 1) := by decide +kernel
theorem dX7_goOnUntil_25 : decode cX7_goOnUntil 25 = .ok (.lcmp, 1) := by decide +kernel
theorem dX7_goOnUntil_26 : decode cX7_goOnUntil 26 = .ok (.ifCond .ge 13, 3) := by decide +kernel
theorem dX7_goOnUntil_29 : decode cX7_goOnUntil 29 = .ok (.aload_n 0, 1) := by decide +kernel
theorem dX7_goOnUntil_30 : decode cX7_goOnUntil 30 = .ok (.invokevirtual 95, 3) := by decide +kernel
theorem dX7_goOnUntil_33 : decode cX7_goOnUntil 33 = .ok (.iinc 3 1, 3) := by decide +kernel
theorem dX7_goOnUntil_36 : decode cX7_goOnUntil 36 = .ok (.goto (-34), 3) := by decide +kernel
theorem dX7_goOnUntil_39 : decode cX7_goOnUntil 39 = .ok (.return_, 1) := by decide +kernel
theorem dX7_goOn_0 : decode cX7_goOn 0 = .ok (.aload_n 0, 1) := by decide +kernel
theorem dX7_goOn_1 : decode cX7_goOn 1 = .ok (.getfield 36, 3) := by decide +kernel
theorem dX7_goOn_4 : decode cX7_goOn 4 = .ok (.aload_n 0, 1) := by decide +kernel
theorem dX7_goOn_5 : decode cX7_goOn 5 = .ok (.getfield 33, 3) := by decide +kernel
theorem dX7_goOn_8 : decode cX7_goOn 8 = .ok (.isub, 1) := by decide +kernel
theorem dX7_goOn_9 : decode cX7_goOn 9 = .ok (.sipush 5000, 3) := by decide +kernel
theorem dX7_goOn_12 : decode cX7_goOn 12 = .ok (.if_icmp .lt 11, 3) := by decide +kernel
theorem dX7_goOn_15 : decode cX7_goOn 15 = .ok (.aload_n 0, 1) := by decide +kernel
theorem dX7_goOn_16 : decode cX7_goOn 16 = .ok (.iconst 2, 1) := by decide +kernel
theorem dX7_goOn_17 : decode cX7_goOn 17 = .ok (.putfield 49, 3) := by decide +kernel
theorem dX7_goOn_20 : decode cX7_goOn 20 = .ok (.goto 28, 3) := by decide +kernel
theorem dX7_goOn_23 : decode cX7_goOn 23 = .ok (.aload_n 0, 1) := by decide +kernel
theorem dX7_goOn_24 : decode cX7_goOn 24 = .ok (.dup, 1) := by decide +kernel
theorem dX7_goOn_25 : decode cX7_goOn 25 = .ok (.getfield 36, 3) := by decide +kernel
theorem dX7_goOn_28 : decode cX7_goOn 28 = .ok (.iconst 1, 1) := by decide +kernel
theorem dX7_goOn_29 : decode cX7_goOn 29 = .ok (.iadd, 1) := by decide +kernel
theorem dX7_goOn_30 : decode cX7_goOn 30 = .ok (.putfield 36, 3) := by decide +kernel
theorem dX7_goOn_33 : decode cX7_goOn 33 = .ok (.aload_n 0, 1) := by decide +kernel
theorem dX7_goOn_34 : decode cX7_goOn 34 = .ok (.aload_n 0, 1) := by decide +kernel
theorem dX7_goOn_35 : decode cX7_goOn 35 = .ok (.getfield 29, 3) := by decide +kernel
theorem dX7_goOn_38 : decode cX7_goOn 38 = .ok (.aload_n 0, 1) := by decide +kernel
theorem dX7_goOn_39 : decode cX7_goOn 39 = .ok (.getfield 36, 3) := by decide +kernel
theorem dX7_goOn_42 : decode cX7_goOn 42 = .ok (.invokevirtual 39, 3) := by decide +kernel
theorem dX7_goOn_45 : decode cX7_goOn 45 = .ok (.putfield 45, 3) := by decide +kernel
theorem dX7_goOn_48 : decode cX7_goOn 48 = .ok (.return_, 1) := by decide +kernel
theorem dX7_parse_0 : decode cX7_parse 0 = .ok (.aload_n 0, 1) := by decide +kernel
theorem dX7_parse_1 : decode cX7_parse 1 = .ok (.getfield 45, 3) := by decide +kernel
theorem dX7_parse_4 : decode cX7_parse 4 = .ok (.ldc2_w 98, 3) := by decide +kernel
theorem dX7_parse_7 : decode cX7_parse 7 = .ok (.lrem, 1) := by decide +kernel
theorem dX7_parse_8 : decode cX7_parse 8 = .ok (.ldc2_w 100, 3) := by decide +kernel
theorem dX7_parse_11 : decode cX7_parse 11 = .ok (.lcmp, 1) := by decide +kernel
theorem dX7_parse_12 : decode cX7_parse 12 = .ok (.ifCond .ne 7, 3) := by decide +kernel
theorem dX7_parse_15 : decode cX7_parse 15 = .ok (.iconst 1, 1) := by decide +kernel
theorem dX7_parse_16 : decode cX7_parse 16 = .ok (.goto 4, 3) := by decide +kernel
theorem dX7_parse_19 : decode cX7_parse 19 = .ok (.iconst 0, 1) := by decide +kernel
theorem dX7_parse_20 : decode cX7_parse 20 = .ok (.istore_n 2, 1) := by decide +kernel
theorem dX7_parse_21 : decode cX7_parse 21 = .ok (.iload_n 2, 1) := by decide +kernel
theorem dX7_parse_22 : decode cX7_parse 22 = .ok (.ifCond .eq 16, 3) := by decide +kernel
theorem dX7_parse_25 : decode cX7_parse 25 = .ok (.iload_n 1, 1) := by decide +kernel
theorem dX7_parse_26 : decode cX7_parse 26 = .ok (.iconst 5, 1) := by decide +kernel
theorem dX7_parse_27 : decode cX7_parse 27 = .ok (.if_icmp .ne 11, 3) := by decide +kernel
theorem dX7_parse_30 : decode cX7_parse 30 = .ok (.aload_n 0, 1) := by decide +kernel
theorem dX7_parse_31 : decode cX7_parse 31 = .ok (.iconst 1, 1) := by decide +kernel
theorem dX7_parse_32 : decode cX7_parse 32 = .ok (.putfield 49, 3) := by decide +kernel
theorem dX7_parse_35 : decode cX7_parse 35 = .ok (.goto 42, 3) := by decide +kernel
theorem dX7_parse_38 : decode cX7_parse 38 = .ok (.iload_n 2, 1) := by decide +kernel
theorem dX7_parse_39 : decode cX7_parse 39 = .ok (.ifCond .eq 30, 3) := by decide +kernel
theorem dX7_parse_42 : decode cX7_parse 42 = .ok (.iload_n 1, 1) := by decide +kernel
theorem dX7_parse_43 : decode cX7_parse 43 = .ok (.bipush 6, 2) := by decide +kernel
