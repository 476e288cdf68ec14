theorem dX11_lies_29 : decode cX11_lies 29 = .ok (.ireturn, 1) := by decide +kernel
theorem dX11_lies_30 : decode cX11_lies 30 = .ok (.aload_n 0, 1) := by decide +kernel
theorem dX11_lies_31 : decode cX11_lies 31 = .ok (.iconst 0, 1) := by decide +kernel
theorem dX11_lies_32 : decode cX11_lies 32 = .ok (.putfield 9, 3) := by decide +kernel
theorem dX11_lies_35 : decode cX11_lies 35 = .ok (.aload_n 0, 1) := by decide +kernel
theorem dX11_lies_36 : decode cX11_lies 36 = .ok (.getfield 462, 3) := by decide +kernel
theorem dX11_lies_39 : decode cX11_lies 39 = .ok (.iload_n 1, 1) := by decide +kernel
theorem dX11_lies_40 : decode cX11_lies 40 = .ok (.invokevirtual 481, 3) := by decide +kernel
theorem dX11_lies_43 : decode cX11_lies 43 = .ok (.ifCond .eq 7, 3) := by decide +kernel
theorem dX11_lies_46 : decode cX11_lies 46 = .ok (.iconst 1, 1) := by decide +kernel
theorem dX11_lies_47 : decode cX11_lies 47 = .ok (.goto 4, 3) := by decide +kernel
theorem dX11_lies_50 : decode cX11_lies 50 = .ok (.iconst 0, 1) := by decide +kernel
theorem dX11_lies_51 : decode cX11_lies 51 = .ok (.ireturn, 1) := by decide +kernel
theorem dX11_find_0 : decode cX11_find 0 = .ok (.aload_n 0, 1) := by decide +kernel
theorem dX11_find_1 : decode cX11_find 1 = .ok (.aload_n 0, 1) := by decide +kernel
theorem dX11_find_2 : decode cX11_find 2 = .ok (.iload_n 1, 1) := by decide +kernel
theorem dX11_find_3 : decode cX11_find 3 = .ok (.iload_n 2, 1) := by decide +kernel
theorem dX11_find_4 : decode cX11_find 4 = .ok (.iload_n 3, 1) := by decide +kernel
theorem dX11_find_5 : decode cX11_find 5 = .ok (.bipush 20, 2) := by decide +kernel
theorem dX11_find_7 : decode cX11_find 7 = .ok (.invokevirtual 449, 3) := by decide +kernel
theorem dX11_find_10 : decode cX11_find 10 = .ok (.putfield 9, 3) := by decide +kernel
theorem dX11_find_13 : decode cX11_find 13 = .ok (.aload_n 0, 1) := by decide +kernel
theorem dX11_find_14 : decode cX11_find 14 = .ok (.getfield 9, 3) := by decide +kernel
theorem dX11_find_17 : decode cX11_find 17 = .ok (.ifCond .ne 27, 3) := by decide +kernel
theorem dX11_find_20 : decode cX11_find 20 = .ok (.aload_n 0, 1) := by decide +kernel
theorem dX11_find_21 : decode cX11_find 21 = .ok (.getfield 15, 3) := by decide +kernel
theorem dX11_find_24 : decode cX11_find 24 = .ok (.iload_n 1, 1) := by decide +kernel
theorem dX11_find_25 : decode cX11_find 25 = .ok (.aaload, 1) := by decide +kernel
theorem dX11_find_26 : decode cX11_find 26 = .ok (.aload_n 0, 1) := by decide +kernel
theorem dX11_find_27 : decode cX11_find 27 = .ok (.getfield 15, 3) := by decide +kernel
theorem dX11_find_30 : decode cX11_find 30 = .ok (.iload_n 2, 1) := by decide +kernel
theorem dX11_find_31 : decode cX11_find 31 = .ok (.aaload, 1) := by decide +kernel
theorem dX11_find_32 : decode cX11_find 32 = .ok (.iload_n 3, 1) := by decide +kernel
theorem dX11_find_33 : decode cX11_find 33 = .ok (.invokestatic 484, 3) := by decide +kernel
theorem dX11_find_36 : decode cX11_find 36 = .ok (.ifCond .ne 8, 3) := by decide +kernel
theorem dX11_find_39 : decode cX11_find 39 = .ok (.aload_n 0, 1) := by decide +kernel
theorem dX11_find_40 : decode cX11_find 40 = .ok (.iconst 5, 1) := by decide +kernel
theorem dX11_find_41 : decode cX11_find 41 = .ok (.putfield 9, 3) := by decide +kernel
theorem dX11_find_44 : decode cX11_find 44 = .ok (.aload_n 0, 1) := by decide +kernel
theorem dX11_find_45 : decode cX11_find 45 = .ok (.getfield 9, 3) := by decide +kernel
theorem dX11_find_48 : decode cX11_find 48 = .ok (.ifCond .eq 5, 3) := by decide +kernel
theorem dX11_find_51 : decode cX11_find 51 = .ok (.iconst (-1), 1) := by decide +kernel
theorem dX11_find_52 : decode cX11_find 52 = .ok (.ireturn, 1) := by decide +kernel
theorem dX11_find_53 : decode cX11_find 53 = .ok (.aload_n 0, 1) := by decide +kernel
theorem dX11_find_54 : decode cX11_find 54 = .ok (.iconst 0, 1) := by decide +kernel
theorem dX11_find_55 : decode cX11_find 55 = .ok (.putfield 64, 3) := by decide +kernel
theorem dX11_find_58 : decode cX11_find 58 = .ok (.iconst 0, 1) := by decide +kernel
theorem dX11_find_59 : decode cX11_find 59 = .ok (.istore 4, 2) := by decide +kernel
theorem dX11_find_61 : decode cX11_find 61 = .ok (.iload 4, 2) := by decide +kernel
theorem dX11_find_63 : decode cX11_find 63 = .ok (.iconst 4, 1) := by decide +kernel
theorem dX11_find_64 : decode cX11_find 64 = .ok (.if_icmp .gt 43, 3) := by decide +kernel
theorem dX11_find_67 : decode cX11_find 67 = .ok (.iload 4, 2) := by decide +kernel
theorem dX11_find_69 : decode cX11_find 69 = .ok (.aload_n 0, 1) := by decide +kernel
theorem dX11_find_70 : decode cX11_find 70 = .ok (.getfield 15, 3) := by decide +kernel
theorem dX11_find_73 : decode cX11_find 73 = .ok (.iload_n 1, 1) := by decide +kernel
theorem dX11_find_74 : decode cX11_find 74 = .ok (.aaload, 1) := by decide +kernel
theorem dX11_find_75 : decode cX11_find 75 = .ok (.aload_n 0, 1) := by decide +kernel
theorem dX11_find_76 : decode cX11_find 76 = .ok (.getfield 15, 3) := by decide +kernel
theorem dX11_find_79 : decode cX11_find 79 = .ok (.iload_n 2, 1) := by decide +kernel
theorem dX11_find_80 : decode cX11_find 80 = .ok (.aaload, 1) := by decide +kernel
theorem dX11_find_81 : decode cX11_find 81 = .ok (.iload_n 3, 1) := by decide +kernel
theorem dX11_find_82 : decode cX11_find 82 = .ok (.invokestatic 487, 3) := by decide +kernel
theorem dX11_find_85 : decode cX11_find 85 = .ok (.ifCond .eq 16, 3) := by decide +kernel
theorem dX11_find_88 : decode cX11_find 88 = .ok (.aload_n 0, 1) := by decide +kernel
theorem dX11_find_89 : decode cX11_find 89 = .ok (.dup, 1) := by decide +kernel
theorem dX11_find_90 : decode cX11_find 90 = .ok (.getfield 64, 3) := by decide +kernel
theorem dX11_find_93 : decode cX11_find 93 = .ok (.iconst 1, 1) := by decide +kernel
theorem dX11_find_94 : decode cX11_find 94 = .ok (.iload 4, 2) := by decide +kernel
theorem dX11_find_96 : decode cX11_find 96 = .ok (.ishl, 1) := by decide +kernel
theorem dX11_find_97 : decode cX11_find 97 = .ok (.ior, 1) := by decide +kernel
theorem dX11_find_98 : decode cX11_find 98 = .ok (.putfield 64, 3) := by decide +kernel
theorem dX11_find_101 : decode cX11_find 101 = .ok (.iinc 4 1, 3) := by decide +kernel
theorem dX11_find_104 : decode cX11_find 104 = .ok (.goto (-43), 3) := by decide +kernel
theorem dX11_find_107 : decode cX11_find 107 = .ok (.aload_n 0, 1) := by decide +kernel
theorem dX11_find_108 : decode cX11_find 108 = .ok (.getfield 64, 3) := by decide +kernel
theorem dX11_find_111 : decode cX11_find 111 = .ok (.ireturn, 1) := by decide +kernel
theorem dX11_ask_0 : decode cX11_ask 0 = .ok (.aload_n 0, 1) := by decide +kernel
theorem dX11_ask_1 : decode cX11_ask 1 = .ok (.getfield 64, 3) := by decide +kernel
theorem dX11_ask_4 : decode cX11_ask 4 = .ok (.iconst (-1), 1) := by decide +kernel
theorem dX11_ask_5 : decode cX11_ask 5 = .ok (.if_icmp .ne 7, 3) := by decide +kernel
theorem dX11_ask_8 : decode cX11_ask 8 = .ok (.iconst 1, 1) := by decide +kernel
theorem dX11_ask_9 : decode cX11_ask 9 = .ok (.goto 11, 3) := by decide +kernel
theorem dX11_ask_12 : decode cX11_ask 12 = .ok (.aload_n 0, 1) := by decide +kernel
theorem dX11_ask_13 : decode cX11_ask 13 = .ok (.getfield 64, 3) := by decide +kernel
theorem dX11_ask_16 : decode cX11_ask 16 = .ok (.iconst 1, 1) := by decide +kernel
theorem dX11_ask_17 : decode cX11_ask 17 = .ok (.invokestatic 491, 3) := by decide +kernel
theorem dX11_ask_20 : decode cX11_ask 20 = .ok (.istore_n 1, 1) := by decide +kernel
theorem dX11_ask_21 : decode cX11_ask 21 = .ok (.aload_n 0, 1) := by decide +kernel
theorem dX11_ask_22 : decode cX11_ask 22 = .ok (.getfield 64, 3) := by decide +kernel
theorem dX11_ask_25 : decode cX11_ask 25 = .ok (.iconst (-1), 1) := by decide +kernel
theorem dX11_ask_26 : decode cX11_ask 26 = .ok (.if_icmp .ne 7, 3) := by decide +kernel
theorem dX11_ask_29 : decode cX11_ask 29 = .ok (.iconst 1, 1) := by decide +kernel
theorem dX11_ask_30 : decode cX11_ask 30 = .ok (.goto 12, 3) := by decide +kernel
theorem dX11_ask_33 : decode cX11_ask 33 = .ok (.aload_n 0, 1) := by decide +kernel
theorem dX11_ask_34 : decode cX11_ask 34 = .ok (.getfield 64, 3) := by decide +kernel
theorem dX11_ask_37 : decode cX11_ask 37 = .ok (.ldc 170, 2) := by decide +kernel
theorem dX11_ask_39 : decode cX11_ask 39 = .ok (.invokestatic 491, 3) := by decide +kernel
theorem dX11_ask_42 : decode cX11_ask 42 = .ok (.istore_n 2, 1) := by decide +kernel
theorem dX11_ask_43 : decode cX11_ask 43 = .ok (.aload_n 0, 1) := by decide +kernel
theorem dX11_ask_44 : decode cX11_ask 44 = .ok (.iload_n 1, 1) := by decide +kernel
theorem dX11_ask_45 : decode cX11_ask 45 = .ok (.iload_n 2, 1) := by decide +kernel
theorem dX11_ask_46 : decode cX11_ask 46 = .ok (.invokestatic 494, 3) := by decide +kernel
theorem dX11_ask_49 : decode cX11_ask 49 = .ok (.iconst 1, 1) := by decide +kernel
theorem dX11_ask_50 : decode cX11_ask 50 = .ok (.if_icmp .le 7, 3) := by decide +kernel
theorem dX11_ask_53 : decode cX11_ask 53 = .ok (.iconst 0, 1) := by decide +kernel
theorem dX11_ask_54 : decode cX11_ask 54 = .ok (.goto 5, 3) := by decide +kernel
theorem dX11_ask_57 : decode cX11_ask 57 = .ok (.bipush 8, 2) := by decide +kernel
theorem dX11_ask_59 : decode cX11_ask 59 = .ok (.putfield 9, 3) := by decide +kernel
theorem dX11_ask_62 : decode cX11_ask 62 = .ok (.aload_n 0, 1) := by decide +kernel
theorem dX11_ask_63 : decode cX11_ask 63 = .ok (.getfield 9, 3) := by decide +kernel
theorem dX11_ask_66 : decode cX11_ask 66 = .ok (.ifCond .eq 5, 3) := by decide +kernel
theorem dX11_ask_69 : decode cX11_ask 69 = .ok (.iconst (-1), 1) := by decide +kernel
theorem dX11_ask_70 : decode cX11_ask 70 = .ok (.ireturn, 1) := by decide +kernel
theorem dX11_ask_71 : decode cX11_ask 71 = .ok (.iload_n 2, 1) := by decide +kernel
theorem dX11_ask_72 : decode cX11_ask 72 = .ok (.iload_n 1, 1) := by decide +kernel
theorem dX11_ask_73 : decode cX11_ask 73 = .ok (.if_icmp .le 8, 3) := by decide +kernel
theorem dX11_ask_76 : decode cX11_ask 76 = .ok (.ldc 170, 2) := by decide +kernel
theorem dX11_ask_78 : decode cX11_ask 78 = .ok (.goto 4, 3) := by decide +kernel
theorem dX11_ask_81 : decode cX11_ask 81 = .ok (.iconst 1, 1) := by decide +kernel
theorem dX11_ask_82 : decode cX11_ask 82 = .ok (.ireturn, 1) := by decide +kernel
theorem dX11_rowsStatus_0 : decode cX11_rowsStatus 0 = .ok (.iload_n 1, 1) := by decide +kernel
theorem dX11_rowsStatus_1 : decode cX11_rowsStatus 1 = .ok (.invokestatic 111, 3) := by decide +kernel
theorem dX11_rowsStatus_4 : decode cX11_rowsStatus 4 = .ok (.ifCond .eq 10, 3) := by decide +kernel
theorem dX11_rowsStatus_7 : decode cX11_rowsStatus 7 = .ok (.iload_n 2, 1) := by decide +kernel
theorem dX11_rowsStatus_8 : decode cX11_rowsStatus 8 = .ok (.invokestatic 111, 3) := by decide +kernel
theorem dX11_rowsStatus_11 : decode cX11_rowsStatus 11 = .ok (.ifCond .ne 5, 3) := by decide +kernel
theorem dX11_rowsStatus_14 : decode cX11_rowsStatus 14 = .ok (.iconst 1, 1) := by decide +kernel
theorem dX11_rowsStatus_15 : decode cX11_rowsStatus 15 = .ok (.ireturn, 1) := by decide +kernel
theorem dX11_rowsStatus_16 : decode cX11_rowsStatus 16 = .ok (.aload_n 0, 1) := by decide +kernel
theorem dX11_rowsStatus_17 : decode cX11_rowsStatus 17 = .ok (.getfield 15, 3) := by decide +kernel
theorem dX11_rowsStatus_20 : decode cX11_rowsStatus 20 = .ok (.iload_n 1, 1) := by decide +kernel
theorem dX11_rowsStatus_21 : decode cX11_rowsStatus 21 = .ok (.aaload, 1) := by decide +kernel
theorem dX11_rowsStatus_22 : decode cX11_rowsStatus 22 = .ok (.ifnull 12, 3) := by decide +kernel
theorem dX11_rowsStatus_25 : decode cX11_rowsStatus 25 = .ok (.aload_n 0, 1) := by decide +kernel
theorem dX11_rowsStatus_26 : decode cX11_rowsStatus 26 = .ok (.getfield 15, 3) := by decide +kernel
theorem dX11_rowsStatus_29 : decode cX11_rowsStatus 29 = .ok (.iload_n 2, 1) := by decide +kernel
theorem dX11_rowsStatus_30 : decode cX11_rowsStatus 30 = .ok (.aaload, 1) := by decide +kernel
theorem dX11_rowsStatus_31 : decode cX11_rowsStatus 31 = .ok (.ifnonnull 5, 3) := by decide +kernel
theorem dX11_rowsStatus_34 : decode cX11_rowsStatus 34 = .ok (.iconst 3, 1) := by decide +kernel
theorem dX11_rowsStatus_35 : decode cX11_rowsStatus 35 = .ok (.ireturn, 1) := by decide +kernel
theorem dX11_rowsStatus_36 : decode cX11_rowsStatus 36 = .ok (.iload_n 3, 1) := by decide +kernel
theorem dX11_rowsStatus_37 : decode cX11_rowsStatus 37 = .ok (.iconst 1, 1) := by decide +kernel
theorem dX11_rowsStatus_38 : decode cX11_rowsStatus 38 = .ok (.iload 4, 2) := by decide +kernel
theorem dX11_rowsStatus_40 : decode cX11_rowsStatus 40 = .ok (.invokestatic 139, 3) := by decide +kernel
theorem dX11_rowsStatus_43 : decode cX11_rowsStatus 43 = .ok (.ifCond .ne 5, 3) := by decide +kernel
theorem dX11_rowsStatus_46 : decode cX11_rowsStatus 46 = .ok (.iconst 5, 1) := by decide +kernel
theorem dX11_rowsStatus_47 : decode cX11_rowsStatus 47 = .ok (.ireturn, 1) := by decide +kernel
theorem dX11_rowsStatus_48 : decode cX11_rowsStatus 48 = .ok (.aload_n 0, 1) := by decide +kernel
theorem dX11_rowsStatus_49 : decode cX11_rowsStatus 49 = .ok (.getfield 15, 3) := by decide +kernel
theorem dX11_rowsStatus_52 : decode cX11_rowsStatus 52 = .ok (.iload_n 1, 1) := by decide +kernel
theorem dX11_rowsStatus_53 : decode cX11_rowsStatus 53 = .ok (.aaload, 1) := by decide +kernel
theorem dX11_rowsStatus_54 : decode cX11_rowsStatus 54 = .ok (.iconst 0, 1) := by decide +kernel
theorem dX11_rowsStatus_55 : decode cX11_rowsStatus 55 = .ok (.iload_n 3, 1) := by decide +kernel
theorem dX11_rowsStatus_56 : decode cX11_rowsStatus 56 = .ok (.invokevirtual 122, 3) := by decide +kernel
theorem dX11_rowsStatus_59 : decode cX11_rowsStatus 59 = .ok (.ifCond .eq 21, 3) := by decide +kernel
theorem dX11_rowsStatus_62 : decode cX11_rowsStatus 62 = .ok (.aload_n 0, 1) := by decide +kernel
theorem dX11_rowsStatus_63 : decode cX11_rowsStatus 63 = .ok (.getfield 15, 3) := by decide +kernel
theorem dX11_rowsStatus_66 : decode cX11_rowsStatus 66 = .ok (.iload_n 2, 1) := by decide +kernel
theorem dX11_rowsStatus_67 : decode cX11_rowsStatus 67 = .ok (.aaload, 1) := by decide +kernel
theorem dX11_rowsStatus_68 : decode cX11_rowsStatus 68 = .ok (.iconst 0, 1) := by decide +kernel
theorem dX11_rowsStatus_69 : decode cX11_rowsStatus 69 = .ok (.iload_n 3, 1) := by decide +kernel
theorem dX11_rowsStatus_70 : decode cX11_rowsStatus 70 = .ok (.invokevirtual 122, 3) := by decide +kernel
theorem dX11_rowsStatus_73 : decode cX11_rowsStatus 73 = .ok (.ifCond .eq 7, 3) := by decide +kernel
theorem dX11_rowsStatus_76 : decode cX11_rowsStatus 76 = .ok (.iconst 0, 1) := by decide +kernel
theorem dX11_rowsStatus_77 : decode cX11_rowsStatus 77 = .ok (.goto 4, 3) := by decide +kernel
theorem dX11_rowsStatus_80 : decode cX11_rowsStatus 80 = .ok (.iconst 4, 1) := by decide +kernel
theorem dX11_rowsStatus_81 : decode cX11_rowsStatus 81 = .ok (.ireturn, 1) := by decide +kernel
theorem dX11_areAnswers_0 : decode cX11_areAnswers 0 = .ok (.iconst 0, 1) := by decide +kernel
theorem dX11_areAnswers_1 : decode cX11_areAnswers 1 = .ok (.istore_n 3, 1) := by decide +kernel
theorem dX11_areAnswers_2 : decode cX11_areAnswers 2 = .ok (.iload_n 3, 1) := by decide +kernel
theorem dX11_areAnswers_3 : decode cX11_areAnswers 3 = .ok (.iload_n 2, 1) := by decide +kernel
theorem dX11_areAnswers_4 : decode cX11_areAnswers 4 = .ok (.if_icmp .ge 49, 3) := by decide +kernel
theorem dX11_areAnswers_7 : decode cX11_areAnswers 7 = .ok (.aload_n 0, 1) := by decide +kernel
theorem dX11_areAnswers_8 : decode cX11_areAnswers 8 = .ok (.iload_n 3, 1) := by decide +kernel
theorem dX11_areAnswers_9 : decode cX11_areAnswers 9 = .ok (.invokevirtual 91, 3) := by decide +kernel
theorem dX11_areAnswers_12 : decode cX11_areAnswers 12 = .ok (.ldc2_w 496, 3) := by decide +kernel
theorem dX11_areAnswers_15 : decode cX11_areAnswers 15 = .ok (.lcmp, 1) := by decide +kernel
theorem dX11_areAnswers_16 : decode cX11_areAnswers 16 = .ok (.ifCond .lt 29, 3) := by decide +kernel
theorem dX11_areAnswers_19 : decode cX11_areAnswers 19 = .ok (.aload_n 1, 1) := by decide +kernel
theorem dX11_areAnswers_20 : decode cX11_areAnswers 20 = .ok (.iload_n 3, 1) := by decide +kernel
theorem dX11_areAnswers_21 : decode cX11_areAnswers 21 = .ok (.invokevirtual 91, 3) := by decide +kernel
theorem dX11_areAnswers_24 : decode cX11_areAnswers 24 = .ok (.ldc2_w 498, 3) := by decide +kernel
theorem dX11_areAnswers_27 : decode cX11_areAnswers 27 = .ok (.lcmp, 1) := by decide +kernel
theorem dX11_areAnswers_28 : decode cX11_areAnswers 28 = .ok (.ifCond .gt 17, 3) := by decide +kernel
theorem dX11_areAnswers_31 : decode cX11_areAnswers 31 = .ok (.aload_n 0, 1) := by decide +kernel
theorem dX11_areAnswers_32 : decode cX11_areAnswers 32 = .ok (.iload_n 3, 1) := by decide +kernel
theorem dX11_areAnswers_33 : decode cX11_areAnswers 33 = .ok (.invokevirtual 91, 3) := by decide +kernel
theorem dX11_areAnswers_36 : decode cX11_areAnswers 36 = .ok (.aload_n 1, 1) := by decide +kernel
theorem dX11_areAnswers_37 : decode cX11_areAnswers 37 = .ok (.iload_n 3, 1) := by decide +kernel
theorem dX11_areAnswers_38 : decode cX11_areAnswers 38 = .ok (.invokevirtual 91, 3) := by decide +kernel
theorem dX11_areAnswers_41 : decode cX11_areAnswers 41 = .ok (.lcmp, 1) := by decide +kernel
theorem dX11_areAnswers_42 : decode cX11_areAnswers 42 = .ok (.ifCond .le 5, 3) := by decide +kernel
theorem dX11_areAnswers_45 : decode cX11_areAnswers 45 = .ok (.iconst 0, 1) := by decide +kernel
theorem dX11_areAnswers_46 : decode cX11_areAnswers 46 = .ok (.ireturn, 1) := by decide +kernel
theorem dX11_areAnswers_47 : decode cX11_areAnswers 47 = .ok (.iinc 3 1, 3) := by decide +kernel
theorem dX11_areAnswers_50 : decode cX11_areAnswers 50 = .ok (.goto (-48), 3) := by decide +kernel
theorem dX11_areAnswers_53 : decode cX11_areAnswers 53 = .ok (.iconst 1, 1) := by decide +kernel
theorem dX11_areAnswers_54 : decode cX11_areAnswers 54 = .ok (.ireturn, 1) := by decide +kernel
theorem dX11_areSeen_0 : decode cX11_areSeen 0 = .ok (.iconst 0, 1) := by decide +kernel
theorem dX11_areSeen_1 : decode cX11_areSeen 1 = .ok (.istore_n 3, 1) := by decide +kernel
theorem dX11_areSeen_2 : decode cX11_areSeen 2 = .ok (.iload_n 3, 1) := by decide +kernel
theorem dX11_areSeen_3 : decode cX11_areSeen 3 = .ok (.iload_n 2, 1) := by decide +kernel
theorem dX11_areSeen_4 : decode cX11_areSeen 4 = .ok (.if_icmp .ge 57, 3) := by decide +kernel
theorem dX11_areSeen_7 : decode cX11_areSeen 7 = .ok (.aload_n 0, 1) := by decide +kernel
theorem dX11_areSeen_8 : decode cX11_areSeen 8 = .ok (.iload_n 3, 1) := by decide +kernel
theorem dX11_areSeen_9 : decode cX11_areSeen 9 = .ok (.invokevirtual 91, 3) := by decide +kernel
theorem dX11_areSeen_12 : decode cX11_areSeen 12 = .ok (.lconst 0, 1) := by decide +kernel
theorem dX11_areSeen_13 : decode cX11_areSeen 13 = .ok (.lcmp, 1) := by decide +kernel
theorem dX11_areSeen_14 : decode cX11_areSeen 14 = .ok (.ifCond .lt 15, 3) := by decide +kernel
theorem dX11_areSeen_17 : decode cX11_areSeen 17 = .ok (.aload_n 0, 1) := by decide +kernel
theorem dX11_areSeen_18 : decode cX11_areSeen 18 = .ok (.iload_n 3, 1) := by decide +kernel
theorem dX11_areSeen_19 : decode cX11_areSeen 19 = .ok (.invokevirtual 91, 3) := by decide +kernel
theorem dX11_areSeen_22 : decode cX11_areSeen 22 = .ok (.ldc2_w 500, 3) := by decide +kernel
theorem dX11_areSeen_25 : decode cX11_areSeen 25 = .ok (.lcmp, 1) := by decide +kernel
theorem dX11_areSeen_26 : decode cX11_areSeen 26 = .ok (.ifCond .le 5, 3) := by decide +kernel
theorem dX11_areSeen_29 : decode cX11_areSeen 29 = .ok (.iconst 0, 1) := by decide +kernel
theorem dX11_areSeen_30 : decode cX11_areSeen 30 = .ok (.ireturn, 1) := by decide +kernel
theorem dX11_areSeen_31 : decode cX11_areSeen 31 = .ok (.aload_n 1, 1) := by decide +kernel
theorem dX11_areSeen_32 : decode cX11_areSeen 32 = .ok (.iload_n 3, 1) := by decide +kernel
theorem dX11_areSeen_33 : decode cX11_areSeen 33 = .ok (.invokevirtual 91, 3) := by decide +kernel
theorem dX11_areSeen_36 : decode cX11_areSeen 36 = .ok (.lconst 0, 1) := by decide +kernel
theorem dX11_areSeen_37 : decode cX11_areSeen 37 = .ok (.lcmp, 1) := by decide +kernel
theorem dX11_areSeen_38 : decode cX11_areSeen 38 = .ok (.ifCond .lt 15, 3) := by decide +kernel
theorem dX11_areSeen_41 : decode cX11_areSeen 41 = .ok (.aload_n 1, 1) := by decide +kernel
theorem dX11_areSeen_42 : decode cX11_areSeen 42 = .ok (.iload_n 3, 1) := by decide +kernel
theorem dX11_areSeen_43 : decode cX11_areSeen 43 = .ok (.invokevirtual 91, 3) := by decide +kernel
theorem dX11_areSeen_46 : decode cX11_areSeen 46 = .ok (.ldc2_w 235, 3) := by decide +kernel
theorem dX11_areSeen_49 : decode cX11_areSeen 49 = .ok (.lcmp, 1) := by decide +kernel
theorem dX11_areSeen_50 : decode cX11_areSeen 50 = .ok (.ifCond .le 5, 3) := by decide +kernel
theorem dX11_areSeen_53 : decode cX11_areSeen 53 = .ok (.iconst 0, 1) := by decide +kernel
theorem dX11_areSeen_54 : decode cX11_areSeen 54 = .ok (.ireturn, 1) := by decide +kernel
theorem dX11_areSeen_55 : decode cX11_areSeen 55 = .ok (.iinc 3 1, 3) := by decide +kernel
theorem dX11_areSeen_58 : decode cX11_areSeen 58 = .ok (.goto (-56), 3) := by decide +kernel
theorem dX11_areSeen_61 : decode cX11_areSeen 61 = .ok (.iconst 1, 1) := by decide +kernel
theorem dX11_areSeen_62 : decode cX11_areSeen 62 = .ok (.ireturn, 1) := by decide +kernel
theorem dX11_showsAll_0 : decode cX11_showsAll 0 = .ok (.iconst 0, 1) := by decide +kernel
theorem dX11_showsAll_1 : decode cX11_showsAll 1 = .ok (.istore 4, 2) := by decide +kernel
theorem dX11_showsAll_3 : decode cX11_showsAll 3 = .ok (.iload 4, 2) := by decide +kernel
theorem dX11_showsAll_5 : decode cX11_showsAll 5 = .ok (.iload_n 3, 1) := by decide +kernel
theorem dX11_showsAll_6 : decode cX11_showsAll 6 = .ok (.if_icmp .ge 33, 3) := by decide +kernel
theorem dX11_showsAll_9 : decode cX11_showsAll 9 = .ok (.iload_n 0, 1) := by decide +kernel
theorem dX11_showsAll_10 : decode cX11_showsAll 10 = .ok (.aload_n 1, 1) := by decide +kernel
theorem dX11_showsAll_11 : decode cX11_showsAll 11 = .ok (.iload 4, 2) := by decide +kernel
theorem dX11_showsAll_13 : decode cX11_showsAll 13 = .ok (.invokevirtual 91, 3) := by decide +kernel
theorem dX11_showsAll_16 : decode cX11_showsAll 16 = .ok (.l2i, 1) := by decide +kernel
theorem dX11_showsAll_17 : decode cX11_showsAll 17 = .ok (.iconst 1, 1) := by decide +kernel
theorem dX11_showsAll_18 : decode cX11_showsAll 18 = .ok (.invokestatic 502, 3) := by decide +kernel
theorem dX11_showsAll_21 : decode cX11_showsAll 21 = .ok (.aload_n 2, 1) := by decide +kernel
theorem dX11_showsAll_22 : decode cX11_showsAll 22 = .ok (.iload 4, 2) := by decide +kernel
theorem dX11_showsAll_24 : decode cX11_showsAll 24 = .ok (.invokevirtual 91, 3) := by decide +kernel
theorem dX11_showsAll_27 : decode cX11_showsAll 27 = .ok (.lcmp, 1) := by decide +kernel
theorem dX11_showsAll_28 : decode cX11_showsAll 28 = .ok (.ifCond .eq 5, 3) := by decide +kernel
theorem dX11_showsAll_31 : decode cX11_showsAll 31 = .ok (.iconst 0, 1) := by decide +kernel
theorem dX11_showsAll_32 : decode cX11_showsAll 32 = .ok (.ireturn, 1) := by decide +kernel
theorem dX11_showsAll_33 : decode cX11_showsAll 33 = .ok (.iinc 4 1, 3) := by decide +kernel
theorem dX11_showsAll_36 : decode cX11_showsAll 36 = .ok (.goto (-33), 3) := by decide +kernel
theorem dX11_showsAll_39 : decode cX11_showsAll 39 = .ok (.iconst 1, 1) := by decide +kernel
theorem dX11_showsAll_40 : decode cX11_showsAll 40 = .ok (.ireturn, 1) := by decide +kernel
theorem dX11_unlikeShown_0 : decode cX11_unlikeShown 0 = .ok (.iconst 0, 1) := by decide +kernel
theorem dX11_unlikeShown_1 : decode cX11_unlikeShown 1 = .ok (.istore_n 2, 1) := by decide +kernel
theorem dX11_unlikeShown_2 : decode cX11_unlikeShown 2 = .ok (.iconst 0, 1) := by decide +kernel
theorem dX11_unlikeShown_3 : decode cX11_unlikeShown 3 = .ok (.istore_n 3, 1) := by decide +kernel
theorem dX11_unlikeShown_4 : decode cX11_unlikeShown 4 = .ok (.iload_n 3, 1) := by decide +kernel
theorem dX11_unlikeShown_5 : decode cX11_unlikeShown 5 = .ok (.iconst 4, 1) := by decide +kernel
theorem dX11_unlikeShown_6 : decode cX11_unlikeShown 6 = .ok (.if_icmp .gt 30, 3) := by decide +kernel
theorem dX11_unlikeShown_9 : decode cX11_unlikeShown 9 = .ok (.iload_n 0, 1) := by decide +kernel
theorem dX11_unlikeShown_10 : decode cX11_unlikeShown 10 = .ok (.iload_n 3, 1) := by decide +kernel
theorem dX11_unlikeShown_11 : decode cX11_unlikeShown 11 = .ok (.ishr, 1) := by decide +kernel
theorem dX11_unlikeShown_12 : decode cX11_unlikeShown 12 = .ok (.iconst 1, 1) := by decide +kernel
theorem dX11_unlikeShown_13 : decode cX11_unlikeShown 13 = .ok (.iand, 1) := by decide +kernel
theorem dX11_unlikeShown_14 : decode cX11_unlikeShown 14 = .ok (.iconst 1, 1) := by decide +kernel
theorem dX11_unlikeShown_15 : decode cX11_unlikeShown 15 = .ok (.if_icmp .ne 15, 3) := by decide +kernel
theorem dX11_unlikeShown_18 : decode cX11_unlikeShown 18 = .ok (.iload_n 0, 1) := by decide +kernel
theorem dX11_unlikeShown_19 : decode cX11_unlikeShown 19 = .ok (.iload_n 3, 1) := by decide +kernel
theorem dX11_unlikeShown_20 : decode cX11_unlikeShown 20 = .ok (.iload_n 1, 1) := by decide +kernel
theorem dX11_unlikeShown_21 : decode cX11_unlikeShown 21 = .ok (.invokestatic 506, 3) := by decide +kernel
theorem dX11_unlikeShown_24 : decode cX11_unlikeShown 24 = .ok (.ifCond .ne 6, 3) := by decide +kernel
theorem dX11_unlikeShown_27 : decode cX11_unlikeShown 27 = .ok (.iinc 2 1, 3) := by decide +kernel
theorem dX11_unlikeShown_30 : decode cX11_unlikeShown 30 = .ok (.iinc 3 1, 3) := by decide +kernel
theorem dX11_unlikeShown_33 : decode cX11_unlikeShown 33 = .ok (.goto (-29), 3) := by decide +kernel
theorem dX11_unlikeShown_36 : decode cX11_unlikeShown 36 = .ok (.iload_n 2, 1) := by decide +kernel
theorem dX11_unlikeShown_37 : decode cX11_unlikeShown 37 = .ok (.ireturn, 1) := by decide +kernel
theorem dX11_isShownByLower_0 : decode cX11_isShownByLower 0 = .ok (.iload_n 1, 1) := by decide +kernel
theorem dX11_isShownByLower_1 : decode cX11_isShownByLower 1 = .ok (.iload_n 2, 1) := by decide +kernel
theorem dX11_isShownByLower_2 : decode cX11_isShownByLower 2 = .ok (.iconst 1, 1) := by decide +kernel
theorem dX11_isShownByLower_3 : decode cX11_isShownByLower 3 = .ok (.invokestatic 502, 3) := by decide +kernel
theorem dX11_isShownByLower_6 : decode cX11_isShownByLower 6 = .ok (.lstore_n 3, 1) := by decide +kernel
theorem dX11_isShownByLower_7 : decode cX11_isShownByLower 7 = .ok (.iconst 0, 1) := by decide +kernel
theorem dX11_isShownByLower_8 : decode cX11_isShownByLower 8 = .ok (.istore 5, 2) := by decide +kernel
theorem dX11_isShownByLower_10 : decode cX11_isShownByLower 10 = .ok (.iload 5, 2) := by decide +kernel
theorem dX11_isShownByLower_12 : decode cX11_isShownByLower 12 = .ok (.iload_n 1, 1) := by decide +kernel
theorem dX11_isShownByLower_13 : decode cX11_isShownByLower 13 = .ok (.if_icmp .ge 33, 3) := by decide +kernel
theorem dX11_isShownByLower_16 : decode cX11_isShownByLower 16 = .ok (.iload_n 0, 1) := by decide +kernel
theorem dX11_isShownByLower_17 : decode cX11_isShownByLower 17 = .ok (.iload 5, 2) := by decide +kernel
theorem dX11_isShownByLower_19 : decode cX11_isShownByLower 19 = .ok (.ishr, 1) := by decide +kernel
theorem dX11_isShownByLower_20 : decode cX11_isShownByLower 20 = .ok (.iconst 1, 1) := by decide +kernel
theorem dX11_isShownByLower_21 : decode cX11_isShownByLower 21 = .ok (.iand, 1) := by decide +kernel
theorem dX11_isShownByLower_22 : decode cX11_isShownByLower 22 = .ok (.iconst 1, 1) := by decide +kernel
theorem dX11_isShownByLower_23 : decode cX11_isShownByLower 23 = .ok (.if_icmp .ne 17, 3) := by decide +kernel
theorem dX11_isShownByLower_26 : decode cX11_isShownByLower 26 = .ok (.iload 5, 2) := by decide +kernel
theorem dX11_isShownByLower_28 : decode cX11_isShownByLower 28 = .ok (.iload_n 2, 1) := by decide +kernel
theorem dX11_isShownByLower_29 : decode cX11_isShownByLower 29 = .ok (.iconst 1, 1) := by decide +kernel
theorem dX11_isShownByLower_30 : decode cX11_isShownByLower 30 = .ok (.invokestatic 502, 3) := by decide +kernel
theorem dX11_isShownByLower_33 : decode cX11_isShownByLower 33 = .ok (.lload_n 3, 1) := by decide +kernel
theorem dX11_isShownByLower_34 : decode cX11_isShownByLower 34 = .ok (.lcmp, 1) := by decide +kernel
theorem dX11_isShownByLower_35 : decode cX11_isShownByLower 35 = .ok (.ifCond .ne 5, 3) := by decide +kernel
theorem dX11_isShownByLower_38 : decode cX11_isShownByLower 38 = .ok (.iconst 1, 1) := by decide +kernel
theorem dX11_isShownByLower_39 : decode cX11_isShownByLower 39 = .ok (.ireturn, 1) := by decide +kernel
theorem dX11_isShownByLower_40 : decode cX11_isShownByLower 40 = .ok (.iinc 5 1, 3) := by decide +kernel
theorem dX11_isShownByLower_43 : decode cX11_isShownByLower 43 = .ok (.goto (-33), 3) := by decide +kernel
theorem dX11_isShownByLower_46 : decode cX11_isShownByLower 46 = .ok (.iconst 0, 1) := by decide +kernel
theorem dX11_isShownByLower_47 : decode cX11_isShownByLower 47 = .ok (.ireturn, 1) := by decide +kernel
theorem dX11_land_0 : decode cX11_land 0 = .ok (.aload_n 0, 1) := by decide +kernel
theorem dX11_land_1 : decode cX11_land 1 = .ok (.iload_n 1, 1) := by decide +kernel
theorem dX11_land_2 : decode cX11_land 2 = .ok (.iload_n 2, 1) := by decide +kernel
theorem dX11_land_3 : decode cX11_land 3 = .ok (.iload_n 3, 1) := by decide +kernel
theorem dX11_land_4 : decode cX11_land 4 = .ok (.iload 4, 2) := by decide +kernel
theorem dX11_land_6 : decode cX11_land 6 = .ok (.invokestatic 509, 3) := by decide +kernel
theorem dX11_land_9 : decode cX11_land 9 = .ok (.putfield 9, 3) := by decide +kernel
theorem dX11_land_12 : decode cX11_land 12 = .ok (.aload_n 0, 1) := by decide +kernel
theorem dX11_land_13 : decode cX11_land 13 = .ok (.getfield 9, 3) := by decide +kernel
theorem dX11_land_16 : decode cX11_land 16 = .ok (.ifCond .eq 5, 3) := by decide +kernel
theorem dX11_land_19 : decode cX11_land 19 = .ok (.iconst 0, 1) := by decide +kernel
theorem dX11_land_20 : decode cX11_land 20 = .ok (.ireturn, 1) := by decide +kernel
theorem dX11_land_21 : decode cX11_land 21 = .ok (.aload_n 0, 1) := by decide +kernel
theorem dX11_land_22 : decode cX11_land 22 = .ok (.getfield 69, 3) := by decide +kernel
theorem dX11_land_25 : decode cX11_land 25 = .ok (.iload_n 1, 1) := by decide +kernel
theorem dX11_land_26 : decode cX11_land 26 = .ok (.new 67, 3) := by decide +kernel
theorem dX11_land_29 : decode cX11_land 29 = .ok (.dup, 1) := by decide +kernel
theorem dX11_land_30 : decode cX11_land 30 = .ok (.iload_n 2, 1) := by decide +kernel
theorem dX11_land_31 : decode cX11_land 31 = .ok (.iload_n 3, 1) := by decide +kernel
theorem dX11_land_32 : decode cX11_land 32 = .ok (.iload 4, 2) := by decide +kernel
theorem dX11_land_34 : decode cX11_land 34 = .ok (.invokespecial 73, 3) := by decide +kernel
theorem dX11_land_37 : decode cX11_land 37 = .ok (.aastore, 1) := by decide +kernel
theorem dX11_land_38 : decode cX11_land 38 = .ok (.iconst 1, 1) := by decide +kernel
theorem dX11_land_39 : decode cX11_land 39 = .ok (.ireturn, 1) := by decide +kernel
theorem dX11_local_0 : decode cX11_local 0 = .ok (.iload_n 1, 1) := by decide +kernel
theorem dX11_local_1 : decode cX11_local 1 = .ok (.invokestatic 512, 3) := by decide +kernel
theorem dX11_local_4 : decode cX11_local 4 = .ok (.ifCond .ne 11, 3) := by decide +kernel
theorem dX11_local_7 : decode cX11_local 7 = .ok (.aload_n 0, 1) := by decide +kernel
theorem dX11_local_8 : decode cX11_local 8 = .ok (.iconst 2, 1) := by decide +kernel
theorem dX11_local_9 : decode cX11_local 9 = .ok (.putfield 9, 3) := by decide +kernel
theorem dX11_local_12 : decode cX11_local 12 = .ok (.goto 19, 3) := by decide +kernel
theorem dX11_local_15 : decode cX11_local 15 = .ok (.aload_n 0, 1) := by decide +kernel
theorem dX11_local_16 : decode cX11_local 16 = .ok (.iload_n 2, 1) := by decide +kernel
theorem dX11_local_17 : decode cX11_local 17 = .ok (.invokestatic 136, 3) := by decide +kernel
theorem dX11_local_20 : decode cX11_local 20 = .ok (.ifCond .eq 7, 3) := by decide +kernel
theorem dX11_local_23 : decode cX11_local 23 = .ok (.iconst 0, 1) := by decide +kernel
theorem dX11_local_24 : decode cX11_local 24 = .ok (.goto 4, 3) := by decide +kernel
theorem dX11_local_27 : decode cX11_local 27 = .ok (.iconst 5, 1) := by decide +kernel
theorem dX11_local_28 : decode cX11_local 28 = .ok (.putfield 9, 3) := by decide +kernel
theorem dX11_local_31 : decode cX11_local 31 = .ok (.aload_n 0, 1) := by decide +kernel
theorem dX11_local_32 : decode cX11_local 32 = .ok (.getfield 9, 3) := by decide +kernel
theorem dX11_local_35 : decode cX11_local 35 = .ok (.ifCond .eq 5, 3) := by decide +kernel
theorem dX11_local_38 : decode cX11_local 38 = .ok (.iconst (-1), 1) := by decide +kernel
theorem dX11_local_39 : decode cX11_local 39 = .ok (.ireturn, 1) := by decide +kernel
theorem dX11_local_40 : decode cX11_local 40 = .ok (.aload_n 0, 1) := by decide +kernel
theorem dX11_local_41 : decode cX11_local 41 = .ok (.getfield 34, 3) := by decide +kernel
theorem dX11_local_44 : decode cX11_local 44 = .ok (.iload_n 2, 1) := by decide +kernel
theorem dX11_local_45 : decode cX11_local 45 = .ok (.i2l, 1) := by decide +kernel
theorem dX11_local_46 : decode cX11_local 46 = .ok (.invokevirtual 143, 3) := by decide +kernel
theorem dX11_local_49 : decode cX11_local 49 = .ok (.aload_n 0, 1) := by decide +kernel
theorem dX11_local_50 : decode cX11_local 50 = .ok (.getfield 34, 3) := by decide +kernel
theorem dX11_local_53 : decode cX11_local 53 = .ok (.getfield 150, 3) := by decide +kernel
theorem dX11_local_56 : decode cX11_local 56 = .ok (.bipush 60, 2) := by decide +kernel
theorem dX11_local_58 : decode cX11_local 58 = .ok (.idiv, 1) := by decide +kernel
theorem dX11_local_59 : decode cX11_local 59 = .ok (.sipush 1439, 3) := by decide +kernel
theorem dX11_local_62 : decode cX11_local 62 = .ok (.invokestatic 374, 3) := by decide +kernel
theorem dX11_local_65 : decode cX11_local 65 = .ok (.istore_n 3, 1) := by decide +kernel
theorem dX11_local_66 : decode cX11_local 66 = .ok (.aload_n 0, 1) := by decide +kernel
theorem dX11_local_67 : decode cX11_local 67 = .ok (.getfield 69, 3) := by decide +kernel
theorem dX11_local_70 : decode cX11_local 70 = .ok (.iload_n 1, 1) := by decide +kernel
theorem dX11_local_71 : decode cX11_local 71 = .ok (.aaload, 1) := by decide +kernel
theorem dX11_local_72 : decode cX11_local 72 = .ok (.sipush 1440, 3) := by decide +kernel
theorem dX11_local_75 : decode cX11_local 75 = .ok (.aload_n 0, 1) := by decide +kernel
theorem dX11_local_76 : decode cX11_local 76 = .ok (.getfield 34, 3) := by decide +kernel
theorem dX11_local_79 : decode cX11_local 79 = .ok (.getfield 147, 3) := by decide +kernel
theorem dX11_local_82 : decode cX11_local 82 = .ok (.imul, 1) := by decide +kernel
theorem dX11_local_83 : decode cX11_local 83 = .ok (.iload_n 3, 1) := by decide +kernel
theorem dX11_local_84 : decode cX11_local 84 = .ok (.iadd, 1) := by decide +kernel
theorem dX11_local_85 : decode cX11_local 85 = .ok (.aload_n 0, 1) := by decide +kernel
theorem dX11_local_86 : decode cX11_local 86 = .ok (.getfield 69, 3) := by decide +kernel
theorem dX11_local_89 : decode cX11_local 89 = .ok (.iload_n 1, 1) := by decide +kernel
theorem dX11_local_90 : decode cX11_local 90 = .ok (.aaload, 1) := by decide +kernel
theorem dX11_local_91 : decode cX11_local 91 = .ok (.getfield 515, 3) := by decide +kernel
theorem dX11_local_94 : decode cX11_local 94 = .ok (.iadd, 1) := by decide +kernel
theorem dX11_local_95 : decode cX11_local 95 = .ok (.invokevirtual 518, 3) := by decide +kernel
theorem dX11_local_98 : decode cX11_local 98 = .ok (.ireturn, 1) := by decide +kernel
theorem dX11_oft_0 : decode cX11_oft 0 = .ok (.iload_n 1, 1) := by decide +kernel
theorem dX11_oft_1 : decode cX11_oft 1 = .ok (.invokestatic 512, 3) := by decide +kernel
theorem dX11_oft_4 : decode cX11_oft 4 = .ok (.ifCond .ne 11, 3) := by decide +kernel
theorem dX11_oft_7 : decode cX11_oft 7 = .ok (.aload_n 0, 1) := by decide +kernel
theorem dX11_oft_8 : decode cX11_oft 8 = .ok (.iconst 2, 1) := by decide +kernel
theorem dX11_oft_9 : decode cX11_oft 9 = .ok (.putfield 9, 3) := by decide +kernel
theorem dX11_oft_12 : decode cX11_oft 12 = .ok (.goto 46, 3) := by decide +kernel
theorem dX11_oft_15 : decode cX11_oft 15 = .ok (.iload_n 2, 1) := by decide +kernel
theorem dX11_oft_16 : decode cX11_oft 16 = .ok (.iconst 1, 1) := by decide +kernel
theorem dX11_oft_17 : decode cX11_oft 17 = .ok (.sipush 9998, 3) := by decide +kernel
theorem dX11_oft_20 : decode cX11_oft 20 = .ok (.invokestatic 139, 3) := by decide +kernel
theorem dX11_oft_23 : decode cX11_oft 23 = .ok (.ifCond .eq 18, 3) := by decide +kernel
theorem dX11_oft_26 : decode cX11_oft 26 = .ok (.iload_n 3, 1) := by decide +kernel
theorem dX11_oft_27 : decode cX11_oft 27 = .ok (.iconst 0, 1) := by decide +kernel
theorem dX11_oft_28 : decode cX11_oft 28 = .ok (.sipush 1439, 3) := by decide +kernel
theorem dX11_oft_31 : decode cX11_oft 31 = .ok (.invokestatic 139, 3) := by decide +kernel
theorem dX11_oft_34 : decode cX11_oft 34 = .ok (.ifCond .eq 7, 3) := by decide +kernel
theorem dX11_oft_37 : decode cX11_oft 37 = .ok (.iconst 1, 1) := by decide +kernel
theorem dX11_oft_38 : decode cX11_oft 38 = .ok (.goto 4, 3) := by decide +kernel
theorem dX11_oft_41 : decode cX11_oft 41 = .ok (.iconst 0, 1) := by decide +kernel
theorem dX11_oft_42 : decode cX11_oft 42 = .ok (.istore 4, 2) := by decide +kernel
theorem dX11_oft_44 : decode cX11_oft 44 = .ok (.aload_n 0, 1) := by decide +kernel
theorem dX11_oft_45 : decode cX11_oft 45 = .ok (.iload 4, 2) := by decide +kernel
theorem dX11_oft_47 : decode cX11_oft 47 = .ok (.ifCond .eq 7, 3) := by decide +kernel
theorem dX11_oft_50 : decode cX11_oft 50 = .ok (.iconst 0, 1) := by decide +kernel
theorem dX11_oft_51 : decode cX11_oft 51 = .ok (.goto 4, 3) := by decide +kernel
theorem dX11_oft_54 : decode cX11_oft 54 = .ok (.iconst 5, 1) := by decide +kernel
theorem dX11_oft_55 : decode cX11_oft 55 = .ok (.putfield 9, 3) := by decide +kernel
theorem dX11_oft_58 : decode cX11_oft 58 = .ok (.aload_n 0, 1) := by decide +kernel
theorem dX11_oft_59 : decode cX11_oft 59 = .ok (.getfield 9, 3) := by decide +kernel
theorem dX11_oft_62 : decode cX11_oft 62 = .ok (.ifCond .ne 22, 3) := by decide +kernel
theorem dX11_oft_65 : decode cX11_oft 65 = .ok (.aload_n 0, 1) := by decide +kernel
theorem dX11_oft_66 : decode cX11_oft 66 = .ok (.getfield 69, 3) := by decide +kernel
theorem dX11_oft_69 : decode cX11_oft 69 = .ok (.iload_n 1, 1) := by decide +kernel
theorem dX11_oft_70 : decode cX11_oft 70 = .ok (.aaload, 1) := by decide +kernel
theorem dX11_oft_71 : decode cX11_oft 71 = .ok (.sipush 1440, 3) := by decide +kernel
theorem dX11_oft_74 : decode cX11_oft 74 = .ok (.iload_n 2, 1) := by decide +kernel
theorem dX11_oft_75 : decode cX11_oft 75 = .ok (.imul, 1) := by decide +kernel
theorem dX11_oft_76 : decode cX11_oft 76 = .ok (.iload_n 3, 1) := by decide +kernel
theorem dX11_oft_77 : decode cX11_oft 77 = .ok (.iadd, 1) := by decide +kernel
theorem dX11_oft_78 : decode cX11_oft 78 = .ok (.invokevirtual 521, 3) := by decide +kernel
theorem dX11_oft_81 : decode cX11_oft 81 = .ok (.goto 4, 3) := by decide +kernel
theorem dX11_oft_84 : decode cX11_oft 84 = .ok (.iconst (-1), 1) := by decide +kernel
theorem dX11_oft_85 : decode cX11_oft 85 = .ok (.ireturn, 1) := by decide +kernel
theorem dX11_newLandStatus_0 : decode cX11_newLandStatus 0 = .ok (.iload_n 0, 1) := by decide +kernel
theorem dX11_newLandStatus_1 : decode cX11_newLandStatus 1 = .ok (.invokestatic 512, 3) := by decide +kernel
theorem dX11_newLandStatus_4 : decode cX11_newLandStatus 4 = .ok (.ifCond .ne 5, 3) := by decide +kernel
theorem dX11_newLandStatus_7 : decode cX11_newLandStatus 7 = .ok (.iconst 2, 1) := by decide +kernel
theorem dX11_newLandStatus_8 : decode cX11_newLandStatus 8 = .ok (.ireturn, 1) := by decide +kernel
theorem dX11_newLandStatus_9 : decode cX11_newLandStatus 9 = .ok (.iload_n 1, 1) := by decide +kernel
theorem dX11_newLandStatus_10 : decode cX11_newLandStatus 10 = .ok (.sipush (-720), 3) := by decide +kernel
theorem dX11_newLandStatus_13 : decode cX11_newLandStatus 13 = .ok (.sipush 840, 3) := by decide +kernel
theorem dX11_newLandStatus_16 : decode cX11_newLandStatus 16 = .ok (.invokestatic 139, 3) := by decide +kernel
theorem dX11_newLandStatus_19 : decode cX11_newLandStatus 19 = .ok (.ifCond .eq 23, 3) := by decide +kernel
theorem dX11_newLandStatus_22 : decode cX11_newLandStatus 22 = .ok (.iload_n 2, 1) := by decide +kernel
theorem dX11_newLandStatus_23 : decode cX11_newLandStatus 23 = .ok (.ifCond .lt 19, 3) := by decide +kernel
theorem dX11_newLandStatus_26 : decode cX11_newLandStatus 26 = .ok (.iload_n 2, 1) := by decide +kernel
theorem dX11_newLandStatus_27 : decode cX11_newLandStatus 27 = .ok (.iload_n 3, 1) := by decide +kernel
theorem dX11_newLandStatus_28 : decode cX11_newLandStatus 28 = .ok (.if_icmp .gt 14, 3) := by decide +kernel
theorem dX11_newLandStatus_31 : decode cX11_newLandStatus 31 = .ok (.iload_n 3, 1) := by decide +kernel
theorem dX11_newLandStatus_32 : decode cX11_newLandStatus 32 = .ok (.sipush 365, 3) := by decide +kernel
theorem dX11_newLandStatus_35 : decode cX11_newLandStatus 35 = .ok (.if_icmp .ge 7, 3) := by decide +kernel
theorem dX11_newLandStatus_38 : decode cX11_newLandStatus 38 = .ok (.iconst 1, 1) := by decide +kernel
theorem dX11_newLandStatus_39 : decode cX11_newLandStatus 39 = .ok (.goto 4, 3) := by decide +kernel
theorem dX11_newLandStatus_42 : decode cX11_newLandStatus 42 = .ok (.iconst 0, 1) := by decide +kernel
theorem dX11_newLandStatus_43 : decode cX11_newLandStatus 43 = .ok (.istore 4, 2) := by decide +kernel
theorem dX11_newLandStatus_45 : decode cX11_newLandStatus 45 = .ok (.iload 4, 2) := by decide +kernel
theorem dX11_newLandStatus_47 : decode cX11_newLandStatus 47 = .ok (.ifCond .eq 7, 3) := by decide +kernel
theorem dX11_newLandStatus_50 : decode cX11_newLandStatus 50 = .ok (.iconst 0, 1) := by decide +kernel
theorem dX11_newLandStatus_51 : decode cX11_newLandStatus 51 = .ok (.goto 4, 3) := by decide +kernel
theorem dX11_newLandStatus_54 : decode cX11_newLandStatus 54 = .ok (.iconst 5, 1) := by decide +kernel
theorem dX11_newLandStatus_55 : decode cX11_newLandStatus 55 = .ok (.ireturn, 1) := by decide +kernel
theorem dX11_isLand_0 : decode cX11_isLand 0 = .ok (.iload_n 0, 1) := by decide +kernel
theorem dX11_isLand_1 : decode cX11_isLand 1 = .ok (.ifCond .lt 12, 3) := by decide +kernel
theorem dX11_isLand_4 : decode cX11_isLand 4 = .ok (.iload_n 0, 1) := by decide +kernel
theorem dX11_isLand_5 : decode cX11_isLand 5 = .ok (.iconst 4, 1) := by decide +kernel
theorem dX11_isLand_6 : decode cX11_isLand 6 = .ok (.if_icmp .ge 7, 3) := by decide +kernel
theorem dX11_isLand_9 : decode cX11_isLand 9 = .ok (.iconst 1, 1) := by decide +kernel
theorem dX11_isLand_10 : decode cX11_isLand 10 = .ok (.goto 4, 3) := by decide +kernel
theorem dX11_isLand_13 : decode cX11_isLand 13 = .ok (.iconst 0, 1) := by decide +kernel
theorem dX11_isLand_14 : decode cX11_isLand 14 = .ok (.ireturn, 1) := by decide +kernel
theorem dX12_init_0 : decode cX12_init 0 = .ok (.aload_n 0, 1) := by decide +kernel
theorem dX12_init_1 : decode cX12_init 1 = .ok (.invokespecial 3, 3) := by decide +kernel
theorem dX12_init_4 : decode cX12_init 4 = .ok (.aload_n 0, 1) := by decide +kernel
theorem dX12_init_5 : decode cX12_init 5 = .ok (.iconst 4, 1) := by decide +kernel
theorem dX12_init_6 : decode cX12_init 6 = .ok (.newarray .int, 2) := by decide +kernel
theorem dX12_init_8 : decode cX12_init 8 = .ok (.putfield 9, 3) := by decide +kernel
theorem dX12_init_11 : decode cX12_init 11 = .ok (.aload_n 0, 1) := by decide +kernel
theorem dX12_init_12 : decode cX12_init 12 = .ok (.iconst 4, 1) := by decide +kernel
theorem dX12_init_13 : decode cX12_init 13 = .ok (.newarray .int, 2) := by decide +kernel
theorem dX12_init_15 : decode cX12_init 15 = .ok (.putfield 13, 3) := by decide +kernel
theorem dX12_init_18 : decode cX12_init 18 = .ok (.aload_n 0, 1) := by decide +kernel
theorem dX12_init_19 : decode cX12_init 19 = .ok (.sipush 160, 3) := by decide +kernel
theorem dX12_init_22 : decode cX12_init 22 = .ok (.newarray .long, 2) := by decide +kernel
theorem dX12_init_24 : decode cX12_init 24 = .ok (.putfield 16, 3) := by decide +kernel
theorem dX12_init_27 : decode cX12_init 27 = .ok (.aload_n 0, 1) := by decide +kernel
theorem dX12_init_28 : decode cX12_init 28 = .ok (.bipush 20, 2) := by decide +kernel
theorem dX12_init_30 : decode cX12_init 30 = .ok (.newarray .int, 2) := by decide +kernel
theorem dX12_init_32 : decode cX12_init 32 = .ok (.putfield 20, 3) := by decide +kernel
theorem dX12_init_35 : decode cX12_init 35 = .ok (.aload_n 0, 1) := by decide +kernel
theorem dX12_init_36 : decode cX12_init 36 = .ok (.bipush 20, 2) := by decide +kernel
theorem dX12_init_38 : decode cX12_init 38 = .ok (.newarray .int, 2) := by decide +kernel
theorem dX12_init_40 : decode cX12_init 40 = .ok (.putfield 23, 3) := by decide +kernel
theorem dX12_init_43 : decode cX12_init 43 = .ok (.aload_n 0, 1) := by decide +kernel
theorem dX12_init_44 : decode cX12_init 44 = .ok (.bipush 60, 2) := by decide +kernel
theorem dX12_init_46 : decode cX12_init 46 = .ok (.newarray .int, 2) := by decide +kernel
theorem dX12_init_48 : decode cX12_init 48 = .ok (.putfield 26, 3) := by decide +kernel
theorem dX12_init_51 : decode cX12_init 51 = .ok (.aload_n 0, 1) := by decide +kernel
theorem dX12_init_52 : decode cX12_init 52 = .ok (.bipush 60, 2) := by decide +kernel
theorem dX12_init_54 : decode cX12_init 54 = .ok (.newarray .int, 2) := by decide +kernel
theorem dX12_init_56 : decode cX12_init 56 = .ok (.putfield 29, 3) := by decide +kernel
theorem dX12_init_59 : decode cX12_init 59 = .ok (.aload_n 0, 1) := by decide +kernel
theorem dX12_init_60 : decode cX12_init 60 = .ok (.bipush 12, 2) := by decide +kernel
theorem dX12_init_62 : decode cX12_init 62 = .ok (.newarray .int, 2) := by decide +kernel
theorem dX12_init_64 : decode cX12_init 64 = .ok (.putfield 32, 3) := by decide +kernel
theorem dX12_init_67 : decode cX12_init 67 = .ok (.aload_n 0, 1) := by decide +kernel
theorem dX12_init_68 : decode cX12_init 68 = .ok (.bipush 60, 2) := by decide +kernel
theorem dX12_init_70 : decode cX12_init 70 = .ok (.newarray .int, 2) := by decide +kernel
theorem dX12_init_72 : decode cX12_init 72 = .ok (.putfield 35, 3) := by decide +kernel
theorem dX12_init_75 : decode cX12_init 75 = .ok (.aload_n 0, 1) := by decide +kernel
theorem dX12_init_76 : decode cX12_init 76 = .ok (.bipush 60, 2) := by decide +kernel
theorem dX12_init_78 : decode cX12_init 78 = .ok (.newarray .int, 2) := by decide +kernel
theorem dX12_init_80 : decode cX12_init 80 = .ok (.putfield 38, 3) := by decide +kernel
theorem dX12_init_83 : decode cX12_init 83 = .ok (.aload_n 0, 1) := by decide +kernel
theorem dX12_init_84 : decode cX12_init 84 = .ok (.sipush 500, 3) := by decide +kernel
theorem dX12_init_87 : decode cX12_init 87 = .ok (.newarray .byte, 2) := by decide +kernel
theorem dX12_init_89 : decode cX12_init 89 = .ok (.putfield 41, 3) := by decide +kernel
theorem dX12_init_92 : decode cX12_init 92 = .ok (.aload_n 0, 1) := by decide +kernel
theorem dX12_init_93 : decode cX12_init 93 = .ok (.iconst (-1), 1) := by decide +kernel
theorem dX12_init_94 : decode cX12_init 94 = .ok (.putfield 45, 3) := by decide +kernel
theorem dX12_init_97 : decode cX12_init 97 = .ok (.aload_n 0, 1) := by decide +kernel
theorem dX12_init_98 : decode cX12_init 98 = .ok (.iconst (-1), 1) := by decide +kernel
theorem dX12_init_99 : decode cX12_init 99 = .ok (.putfield 49, 3) := by decide +kernel
theorem dX12_init_102 : decode cX12_init 102 = .ok (.aload_n 0, 1) := by decide +kernel
theorem dX12_init_103 : decode cX12_init 103 = .ok (.iconst 4, 1) := by decide +kernel
theorem dX12_init_104 : decode cX12_init 104 = .ok (.newarray .int, 2) := by decide +kernel
theorem dX12_init_106 : decode cX12_init 106 = .ok (.putfield 52, 3) := by decide +kernel
theorem dX12_init_109 : decode cX12_init 109 = .ok (.aload_n 0, 1) := by decide +kernel
theorem dX12_init_110 : decode cX12_init 110 = .ok (.iconst 4, 1) := by decide +kernel
theorem dX12_init_111 : decode cX12_init 111 = .ok (.newarray .int, 2) := by decide +kernel
theorem dX12_init_113 : decode cX12_init 113 = .ok (.putfield 55, 3) := by decide +kernel
theorem dX12_init_116 : decode cX12_init 116 = .ok (.aload_n 0, 1) := by decide +kernel
theorem dX12_init_117 : decode cX12_init 117 = .ok (.bipush 44, 2) := by decide +kernel
theorem dX12_init_119 : decode cX12_init 119 = .ok (.newarray .int, 2) := by decide +kernel
theorem dX12_init_121 : decode cX12_init 121 = .ok (.putfield 58, 3) := by decide +kernel
theorem dX12_init_124 : decode cX12_init 124 = .ok (.aload_n 0, 1) := by decide +kernel
theorem dX12_init_125 : decode cX12_init 125 = .ok (.sipush 4400, 3) := by decide +kernel
theorem dX12_init_128 : decode cX12_init 128 = .ok (.newarray .int, 2) := by decide +kernel
theorem dX12_init_130 : decode cX12_init 130 = .ok (.putfield 61, 3) := by decide +kernel
theorem dX12_init_133 : decode cX12_init 133 = .ok (.aload_n 0, 1) := by decide +kernel
theorem dX12_init_134 : decode cX12_init 134 = .ok (.bipush 11, 2) := by decide +kernel
theorem dX12_init_136 : decode cX12_init 136 = .ok (.newarray .int, 2) := by decide +kernel
theorem dX12_init_138 : decode cX12_init 138 = .ok (.putfield 64, 3) := by decide +kernel
theorem dX12_init_141 : decode cX12_init 141 = .ok (.aload_n 0, 1) := by decide +kernel
theorem dX12_init_142 : decode cX12_init 142 = .ok (.sipush 1100, 3) := by decide +kernel
theorem dX12_init_145 : decode cX12_init 145 = .ok (.newarray .int, 2) := by decide +kernel
theorem dX12_init_147 : decode cX12_init 147 = .ok (.putfield 67, 3) := by decide +kernel
theorem dX12_init_150 : decode cX12_init 150 = .ok (.aload_n 0, 1) := by decide +kernel
theorem dX12_init_151 : decode cX12_init 151 = .ok (.bipush 40, 2) := by decide +kernel
theorem dX12_init_153 : decode cX12_init 153 = .ok (.newarray .long, 2) := by decide +kernel
theorem dX12_init_155 : decode cX12_init 155 = .ok (.putfield 70, 3) := by decide +kernel
theorem dX12_init_158 : decode cX12_init 158 = .ok (.aload_n 0, 1) := by decide +kernel
theorem dX12_init_159 : decode cX12_init 159 = .ok (.bipush 10, 2) := by decide +kernel
theorem dX12_init_161 : decode cX12_init 161 = .ok (.newarray .long, 2) := by decide +kernel
theorem dX12_init_163 : decode cX12_init 163 = .ok (.putfield 73, 3) := by decide +kernel
theorem dX12_init_166 : decode cX12_init 166 = .ok (.aload_n 0, 1) := by decide +kernel
theorem dX12_init_167 : decode cX12_init 167 = .ok (.sipush 600, 3) := by decide +kernel
theorem dX12_init_170 : decode cX12_init 170 = .ok (.newarray .long, 2) := by decide +kernel
theorem dX12_init_172 : decode cX12_init 172 = .ok (.putfield 76, 3) := by decide +kernel
theorem dX12_init_175 : decode cX12_init 175 = .ok (.aload_n 0, 1) := by decide +kernel
theorem dX12_init_176 : decode cX12_init 176 = .ok (.bipush 11, 2) := by decide +kernel
theorem dX12_init_178 : decode cX12_init 178 = .ok (.newarray .long, 2) := by decide +kernel
theorem dX12_init_180 : decode cX12_init 180 = .ok (.putfield 79, 3) := by decide +kernel
theorem dX12_init_183 : decode cX12_init 183 = .ok (.aload_n 0, 1) := by decide +kernel
theorem dX12_init_184 : decode cX12_init 184 = .ok (.bipush 10, 2) := by decide +kernel
theorem dX12_init_186 : decode cX12_init 186 = .ok (.newarray .long, 2) := by decide +kernel
theorem dX12_init_188 : decode cX12_init 188 = .ok (.putfield 82, 3) := by decide +kernel
theorem dX12_init_191 : decode cX12_init 191 = .ok (.aload_n 0, 1) := by decide +kernel
theorem dX12_init_192 : decode cX12_init 192 = .ok (.sipush 600, 3) := by decide +kernel
theorem dX12_init_195 : decode cX12_init 195 = .ok (.newarray .boolean, 2) := by decide +kernel
theorem dX12_init_197 : decode cX12_init 197 = .ok (.putfield 85, 3) := by decide +kernel
theorem dX12_init_200 : decode cX12_init 200 = .ok (.aload_n 0, 1) := by decide +kernel
theorem dX12_init_201 : decode cX12_init 201 = .ok (.bipush 10, 2) := by decide +kernel
theorem dX12_init_203 : decode cX12_init 203 = .ok (.newarray .boolean, 2) := by decide +kernel
theorem dX12_init_205 : decode cX12_init 205 = .ok (.putfield 89, 3) := by decide +kernel
theorem dX12_init_208 : decode cX12_init 208 = .ok (.aload_n 0, 1) := by decide +kernel
theorem dX12_init_209 : decode cX12_init 209 = .ok (.bipush 8, 2) := by decide +kernel
theorem dX12_init_211 : decode cX12_init 211 = .ok (.newarray .int, 2) := by decide +kernel
theorem dX12_init_213 : decode cX12_init 213 = .ok (.putfield 92, 3) := by decide +kernel
theorem dX12_init_216 : decode cX12_init 216 = .ok (.aload_n 0, 1) := by decide +kernel
theorem dX12_init_217 : decode cX12_init 217 = .ok (.bipush 60, 2) := by decide +kernel
theorem dX12_init_219 : decode cX12_init 219 = .ok (.newarray .int, 2) := by decide +kernel
theorem dX12_init_221 : decode cX12_init 221 = .ok (.putfield 95, 3) := by decide +kernel
theorem dX12_init_224 : decode cX12_init 224 = .ok (.aload_n 0, 1) := by decide +kernel
theorem dX12_init_225 : decode cX12_init 225 = .ok (.bipush 60, 2) := by decide +kernel
theorem dX12_init_227 : decode cX12_init 227 = .ok (.newarray .int, 2) := by decide +kernel
theorem dX12_init_229 : decode cX12_init 229 = .ok (.putfield 98, 3) := by decide +kernel
theorem dX12_init_232 : decode cX12_init 232 = .ok (.aload_n 0, 1) := by decide +kernel
theorem dX12_init_233 : decode cX12_init 233 = .ok (.bipush 60, 2) := by decide +kernel
theorem dX12_init_235 : decode cX12_init 235 = .ok (.newarray .int, 2) := by decide +kernel
theorem dX12_init_237 : decode cX12_init 237 = .ok (.putfield 101, 3) := by decide +kernel
theorem dX12_init_240 : decode cX12_init 240 = .ok (.aload_n 0, 1) := by decide +kernel
theorem dX12_init_241 : decode cX12_init 241 = .ok (.bipush 60, 2) := by decide +kernel
theorem dX12_init_243 : decode cX12_init 243 = .ok (.newarray .int, 2) := by decide +kernel
theorem dX12_init_245 : decode cX12_init 245 = .ok (.putfield 104, 3) := by decide +kernel
theorem dX12_init_248 : decode cX12_init 248 = .ok (.aload_n 0, 1) := by decide +kernel
theorem dX12_init_249 : decode cX12_init 249 = .ok (.bipush 60, 2) := by decide +kernel
theorem dX12_init_251 : decode cX12_init 251 = .ok (.newarray .int, 2) := by decide +kernel
theorem dX12_init_253 : decode cX12_init 253 = .ok (.putfield 107, 3) := by decide +kernel
theorem dX12_init_256 : decode cX12_init 256 = .ok (.aload_n 0, 1) := by decide +kernel
theorem dX12_init_257 : decode cX12_init 257 = .ok (.bipush 60, 2) := by decide +kernel
theorem dX12_init_259 : decode cX12_init 259 = .ok (.newarray .int, 2) := by decide +kernel
theorem dX12_init_261 : decode cX12_init 261 = .ok (.putfield 110, 3) := by decide +kernel
theorem dX12_init_264 : decode cX12_init 264 = .ok (.aload_n 0, 1) := by decide +kernel
theorem dX12_init_265 : decode cX12_init 265 = .ok (.bipush 60, 2) := by decide +kernel
theorem dX12_init_267 : decode cX12_init 267 = .ok (.newarray .int, 2) := by decide +kernel
theorem dX12_init_269 : decode cX12_init 269 = .ok (.putfield 113, 3) := by decide +kernel
theorem dX12_init_272 : decode cX12_init 272 = .ok (.aload_n 0, 1) := by decide +kernel
theorem dX12_init_273 : decode cX12_init 273 = .ok (.bipush 60, 2) := by decide +kernel
theorem dX12_init_275 : decode cX12_init 275 = .ok (.newarray .long, 2) := by decide +kernel
theorem dX12_init_277 : decode cX12_init 277 = .ok (.putfield 116, 3) := by decide +kernel
theorem dX12_init_280 : decode cX12_init 280 = .ok (.aload_n 0, 1) := by decide +kernel
theorem dX12_init_281 : decode cX12_init 281 = .ok (.iconst (-1), 1) := by decide +kernel
theorem dX12_init_282 : decode cX12_init 282 = .ok (.putfield 119, 3) := by decide +kernel
theorem dX12_init_285 : decode cX12_init 285 = .ok (.aload_n 0, 1) := by decide +kernel
theorem dX12_init_286 : decode cX12_init 286 = .ok (.iconst (-1), 1) := by decide +kernel
theorem dX12_init_287 : decode cX12_init 287 = .ok (.putfield 122, 3) := by decide +kernel
theorem dX12_init_290 : decode cX12_init 290 = .ok (.aload_n 0, 1) := by decide +kernel
theorem dX12_init_291 : decode cX12_init 291 = .ok (.bipush 40, 2) := by decide +kernel
theorem dX12_init_293 : decode cX12_init 293 = .ok (.newarray .int, 2) := by decide +kernel
theorem dX12_init_295 : decode cX12_init 295 = .ok (.putfield 125, 3) := by decide +kernel
theorem dX12_init_298 : decode cX12_init 298 = .ok (.aload_n 0, 1) := by decide +kernel
theorem dX12_init_299 : decode cX12_init 299 = .ok (.bipush 40, 2) := by decide +kernel
theorem dX12_init_301 : decode cX12_init 301 = .ok (.newarray .int, 2) := by decide +kernel
theorem dX12_init_303 : decode cX12_init 303 = .ok (.putfield 128, 3) := by decide +kernel
theorem dX12_init_306 : decode cX12_init 306 = .ok (.aload_n 0, 1) := by decide +kernel
theorem dX12_init_307 : decode cX12_init 307 = .ok (.bipush 40, 2) := by decide +kernel
theorem dX12_init_309 : decode cX12_init 309 = .ok (.newarray .int, 2) := by decide +kernel
theorem dX12_init_311 : decode cX12_init 311 = .ok (.putfield 131, 3) := by decide +kernel
theorem dX12_init_314 : decode cX12_init 314 = .ok (.aload_n 0, 1) := by decide +kernel
theorem dX12_init_315 : decode cX12_init 315 = .ok (.bipush 40, 2) := by decide +kernel
theorem dX12_init_317 : decode cX12_init 317 = .ok (.newarray .int, 2) := by decide +kernel
theorem dX12_init_319 : decode cX12_init 319 = .ok (.putfield 134, 3) := by decide +kernel
theorem dX12_init_322 : decode cX12_init 322 = .ok (.aload_n 0, 1) := by decide +kernel
theorem dX12_init_323 : decode cX12_init 323 = .ok (.bipush 40, 2) := by decide +kernel
theorem dX12_init_325 : decode cX12_init 325 = .ok (.newarray .int, 2) := by decide +kernel
theorem dX12_init_327 : decode cX12_init 327 = .ok (.putfield 137, 3) := by decide +kernel
theorem dX12_init_330 : decode cX12_init 330 = .ok (.aload_n 0, 1) := by decide +kernel
theorem dX12_init_331 : decode cX12_init 331 = .ok (.bipush 40, 2) := by decide +kernel
theorem dX12_init_333 : decode cX12_init 333 = .ok (.newarray .int, 2) := by decide +kernel
theorem dX12_init_335 : decode cX12_init 335 = .ok (.putfield 140, 3) := by decide +kernel
theorem dX12_init_338 : decode cX12_init 338 = .ok (.aload_n 0, 1) := by decide +kernel
theorem dX12_init_339 : decode cX12_init 339 = .ok (.bipush 40, 2) := by decide +kernel
theorem dX12_init_341 : decode cX12_init 341 = .ok (.newarray .long, 2) := by decide +kernel
theorem dX12_init_343 : decode cX12_init 343 = .ok (.putfield 143, 3) := by decide +kernel
theorem dX12_init_346 : decode cX12_init 346 = .ok (.aload_n 0, 1) := by decide +kernel
theorem dX12_init_347 : decode cX12_init 347 = .ok (.bipush 40, 2) := by decide +kernel
theorem dX12_init_349 : decode cX12_init 349 = .ok (.newarray .long, 2) := by decide +kernel
theorem dX12_init_351 : decode cX12_init 351 = .ok (.putfield 146, 3) := by decide +kernel
theorem dX12_init_354 : decode cX12_init 354 = .ok (.aload_n 0, 1) := by decide +kernel
theorem dX12_init_355 : decode cX12_init 355 = .ok (.bipush 12, 2) := by decide +kernel
theorem dX12_init_357 : decode cX12_init 357 = .ok (.newarray .int, 2) := by decide +kernel
theorem dX12_init_359 : decode cX12_init 359 = .ok (.putfield 149, 3) := by decide +kernel
theorem dX12_init_362 : decode cX12_init 362 = .ok (.aload_n 0, 1) := by decide +kernel
theorem dX12_init_363 : decode cX12_init 363 = .ok (.bipush 12, 2) := by decide +kernel
theorem dX12_init_365 : decode cX12_init 365 = .ok (.newarray .int, 2) := by decide +kernel
theorem dX12_init_367 : decode cX12_init 367 = .ok (.putfield 152, 3) := by decide +kernel
theorem dX12_init_370 : decode cX12_init 370 = .ok (.aload_n 0, 1) := by decide +kernel
theorem dX12_init_371 : decode cX12_init 371 = .ok (.bipush 20, 2) := by decide +kernel
theorem dX12_init_373 : decode cX12_init 373 = .ok (.newarray .int, 2) := by decide +kernel
theorem dX12_init_375 : decode cX12_init 375 = .ok (.putfield 155, 3) := by decide +kernel
theorem dX12_init_378 : decode cX12_init 378 = .ok (.aload_n 0, 1) := by decide +kernel
theorem dX12_init_379 : decode cX12_init 379 = .ok (.bipush 20, 2) := by decide +kernel
theorem dX12_init_381 : decode cX12_init 381 = .ok (.newarray .int, 2) := by decide +kernel
theorem dX12_init_383 : decode cX12_init 383 = .ok (.putfield 158, 3) := by decide +kernel
theorem dX12_init_386 : decode cX12_init 386 = .ok (.aload_n 0, 1) := by decide +kernel
theorem dX12_init_387 : decode cX12_init 387 = .ok (.iconst 4, 1) := by decide +kernel
theorem dX12_init_388 : decode cX12_init 388 = .ok (.newarray .int, 2) := by decide +kernel
theorem dX12_init_390 : decode cX12_init 390 = .ok (.putfield 161, 3) := by decide +kernel
theorem dX12_init_393 : decode cX12_init 393 = .ok (.aload_n 0, 1) := by decide +kernel
theorem dX12_init_394 : decode cX12_init 394 = .ok (.iconst 4, 1) := by decide +kernel
theorem dX12_init_395 : decode cX12_init 395 = .ok (.newarray .int, 2) := by decide +kernel
theorem dX12_init_397 : decode cX12_init 397 = .ok (.putfield 164, 3) := by decide +kernel
theorem dX12_init_400 : decode cX12_init 400 = .ok (.aload_n 0, 1) := by decide +kernel
theorem dX12_init_401 : decode cX12_init 401 = .ok (.iconst 4, 1) := by decide +kernel
theorem dX12_init_402 : decode cX12_init 402 = .ok (.newarray .int, 2) := by decide +kernel
theorem dX12_init_404 : decode cX12_init 404 = .ok (.putfield 167, 3) := by decide +kernel
theorem dX12_init_407 : decode cX12_init 407 = .ok (.aload_n 0, 1) := by decide +kernel
theorem dX12_init_408 : decode cX12_init 408 = .ok (.iconst (-1), 1) := by decide +kernel
theorem dX12_init_409 : decode cX12_init 409 = .ok (.putfield 170, 3) := by decide +kernel
theorem dX12_init_412 : decode cX12_init 412 = .ok (.aload_n 0, 1) := by decide +kernel
theorem dX12_init_413 : decode cX12_init 413 = .ok (.bipush 60, 2) := by decide +kernel
theorem dX12_init_415 : decode cX12_init 415 = .ok (.newarray .int, 2) := by decide +kernel
theorem dX12_init_417 : decode cX12_init 417 = .ok (.putfield 173, 3) := by decide +kernel
theorem dX12_init_420 : decode cX12_init 420 = .ok (.aload_n 0, 1) := by decide +kernel
theorem dX12_init_421 : decode cX12_init 421 = .ok (.bipush 60, 2) := by decide +kernel
theorem dX12_init_423 : decode cX12_init 423 = .ok (.newarray .int, 2) := by decide +kernel
theorem dX12_init_425 : decode cX12_init 425 = .ok (.putfield 176, 3) := by decide +kernel
theorem dX12_init_428 : decode cX12_init 428 = .ok (.aload_n 0, 1) := by decide +kernel
theorem dX12_init_429 : decode cX12_init 429 = .ok (.bipush 60, 2) := by decide +kernel
theorem dX12_init_431 : decode cX12_init 431 = .ok (.newarray .int, 2) := by decide +kernel
theorem dX12_init_433 : decode cX12_init 433 = .ok (.putfield 179, 3) := by decide +kernel
theorem dX12_init_436 : decode cX12_init 436 = .ok (.aload_n 0, 1) := by decide +kernel
theorem dX12_init_437 : decode cX12_init 437 = .ok (.bipush 60, 2) := by decide +kernel
theorem dX12_init_439 : decode cX12_init 439 = .ok (.newarray .int, 2) := by decide +kernel
theorem dX12_init_441 : decode cX12_init 441 = .ok (.putfield 182, 3) := by decide +kernel
theorem dX12_init_444 : decode cX12_init 444 = .ok (.aload_n 0, 1) := by decide +kernel
theorem dX12_init_445 : decode cX12_init 445 = .ok (.sipush 2001, 3) := by decide +kernel
theorem dX12_init_448 : decode cX12_init 448 = .ok (.newarray .long, 2) := by decide +kernel
theorem dX12_init_450 : decode cX12_init 450 = .ok (.putfield 185, 3) := by decide +kernel
theorem dX12_init_453 : decode cX12_init 453 = .ok (.aload_n 0, 1) := by decide +kernel
theorem dX12_init_454 : decode cX12_init 454 = .ok (.sipush 2001, 3) := by decide +kernel
theorem dX12_init_457 : decode cX12_init 457 = .ok (.newarray .long, 2) := by decide +kernel
theorem dX12_init_459 : decode cX12_init 459 = .ok (.putfield 188, 3) := by decide +kernel
theorem dX12_init_462 : decode cX12_init 462 = .ok (.aload_n 0, 1) := by decide +kernel
theorem dX12_init_463 : decode cX12_init 463 = .ok (.bipush 60, 2) := by decide +kernel
theorem dX12_init_465 : decode cX12_init 465 = .ok (.newarray .int, 2) := by decide +kernel
theorem dX12_init_467 : decode cX12_init 467 = .ok (.putfield 191, 3) := by decide +kernel
theorem dX12_init_470 : decode cX12_init 470 = .ok (.aload_n 0, 1) := by decide +kernel
theorem dX12_init_471 : decode cX12_init 471 = .ok (.bipush 60, 2) := by decide +kernel
theorem dX12_init_473 : decode cX12_init 473 = .ok (.newarray .int, 2) := by decide +kernel
theorem dX12_init_475 : decode cX12_init 475 = .ok (.putfield 194, 3) := by decide +kernel
theorem dX12_init_478 : decode cX12_init 478 = .ok (.aload_n 0, 1) := by decide +kernel
theorem dX12_init_479 : decode cX12_init 479 = .ok (.bipush 12, 2) := by decide +kernel
theorem dX12_init_481 : decode cX12_init 481 = .ok (.newarray .int, 2) := by decide +kernel
theorem dX12_init_483 : decode cX12_init 483 = .ok (.putfield 197, 3) := by decide +kernel
theorem dX12_init_486 : decode cX12_init 486 = .ok (.iconst 0, 1) := by decide +kernel
theorem dX12_init_487 : decode cX12_init 487 = .ok (.istore_n 1, 1) := by decide +kernel
theorem dX12_init_488 : decode cX12_init 488 = .ok (.iload_n 1, 1) := by decide +kernel
theorem dX12_init_489 : decode cX12_init 489 = .ok (.iconst 4, 1) := by decide +kernel
theorem dX12_init_490 : decode cX12_init 490 = .ok (.if_icmp .ge 16, 3) := by decide +kernel
theorem dX12_init_493 : decode cX12_init 493 = .ok (.aload_n 0, 1) := by decide +kernel
theorem dX12_init_494 : decode cX12_init 494 = .ok (.getfield 13, 3) := by decide +kernel
theorem dX12_init_497 : decode cX12_init 497 = .ok (.iload_n 1, 1) := by decide +kernel
theorem dX12_init_498 : decode cX12_init 498 = .ok (.iconst (-1), 1) := by decide +kernel
theorem dX12_init_499 : decode cX12_init 499 = .ok (.iastore, 1) := by decide +kernel
theorem dX12_init_500 : decode cX12_init 500 = .ok (.iinc 1 1, 3) := by decide +kernel
theorem dX12_init_503 : decode cX12_init 503 = .ok (.goto (-15), 3) := by decide +kernel
theorem dX12_init_506 : decode cX12_init 506 = .ok (.return_, 1) := by decide +kernel
theorem dX12_status_0 : decode cX12_status 0 = .ok (.aload_n 0, 1) := by decide +kernel
theorem dX12_status_1 : decode cX12_status 1 = .ok (.iconst 0, 1) := by decide +kernel
theorem dX12_status_2 : decode cX12_status 2 = .ok (.putfield 200, 3) := by decide +kernel
theorem dX12_status_5 : decode cX12_status 5 = .ok (.aload_n 0, 1) := by decide +kernel
theorem dX12_status_6 : decode cX12_status 6 = .ok (.getfield 203, 3) := by decide +kernel
theorem dX12_status_9 : decode cX12_status 9 = .ok (.ireturn, 1) := by decide +kernel
theorem dX12_refuse_0 : decode cX12_refuse 0 = .ok (.aload_n 0, 1) := by decide +kernel
theorem dX12_refuse_1 : decode cX12_refuse 1 = .ok (.iload_n 1, 1) := by decide +kernel
theorem dX12_refuse_2 : decode cX12_refuse 2 = .ok (.putfield 203, 3) := by decide +kernel
theorem dX12_refuse_5 : decode cX12_refuse 5 = .ok (.iconst (-1), 1) := by decide +kernel
theorem dX12_refuse_6 : decode cX12_refuse 6 = .ok (.ireturn, 1) := by decide +kernel
theorem dX12_no_0 : decode cX12_no 0 = .ok (.aload_n 0, 1) := by decide +kernel
theorem dX12_no_1 : decode cX12_no 1 = .ok (.iload_n 1, 1) := by decide +kernel
theorem dX12_no_2 : decode cX12_no 2 = .ok (.putfield 203, 3) := by decide +kernel
theorem dX12_no_5 : decode cX12_no 5 = .ok (.iconst 0, 1) := by decide +kernel
theorem dX12_no_6 : decode cX12_no 6 = .ok (.ireturn, 1) := by decide +kernel
theorem dX12_isIn_0 : decode cX12_isIn 0 = .ok (.lload_n 0, 1) := by decide +kernel
theorem dX12_isIn_1 : decode cX12_isIn 1 = .ok (.lload_n 2, 1) := by decide +kernel
theorem dX12_isIn_2 : decode cX12_isIn 2 = .ok (.lcmp, 1) := by decide +kernel
theorem dX12_isIn_3 : decode cX12_isIn 3 = .ok (.ifCond .lt 14, 3) := by decide +kernel
theorem dX12_isIn_6 : decode cX12_isIn 6 = .ok (.lload_n 0, 1) := by decide +kernel
theorem dX12_isIn_7 : decode cX12_isIn 7 = .ok (.lload 4, 2) := by decide +kernel
theorem dX12_isIn_9 : decode cX12_isIn 9 = .ok (.lcmp, 1) := by decide +kernel
theorem dX12_isIn_10 : decode cX12_isIn 10 = .ok (.ifCond .gt 7, 3) := by decide +kernel
theorem dX12_isIn_13 : decode cX12_isIn 13 = .ok (.iconst 1, 1) := by decide +kernel
theorem dX12_isIn_14 : decode cX12_isIn 14 = .ok (.goto 4, 3) := by decide +kernel
theorem dX12_isIn_17 : decode cX12_isIn 17 = .ok (.iconst 0, 1) := by decide +kernel
theorem dX12_isIn_18 : decode cX12_isIn 18 = .ok (.ireturn, 1) := by decide +kernel
theorem dX12_isDay_0 : decode cX12_isDay 0 = .ok (.iload_n 0, 1) := by decide +kernel
theorem dX12_isDay_1 : decode cX12_isDay 1 = .ok (.i2l, 1) := by decide +kernel
theorem dX12_isDay_2 : decode cX12_isDay 2 = .ok (.lconst 0, 1) := by decide +kernel
theorem dX12_isDay_3 : decode cX12_isDay 3 = .ok (.ldc2_w 206, 3) := by decide +kernel
theorem dX12_isDay_6 : decode cX12_isDay 6 = .ok (.invokestatic 208, 3) := by decide +kernel
theorem dX12_isDay_9 : decode cX12_isDay 9 = .ok (.ireturn, 1) := by decide +kernel
theorem dX12_isCount_0 : decode cX12_isCount 0 = .ok (.iload_n 0, 1) := by decide +kernel
theorem dX12_isCount_1 : decode cX12_isCount 1 = .ok (.i2l, 1) := by decide +kernel
theorem dX12_isCount_2 : decode cX12_isCount 2 = .ok (.lconst 0, 1) := by decide +kernel
theorem dX12_isCount_3 : decode cX12_isCount 3 = .ok (.ldc2_w 212, 3) := by decide +kernel
theorem dX12_isCount_6 : decode cX12_isCount 6 = .ok (.invokestatic 208, 3) := by decide +kernel
theorem dX12_isCount_9 : decode cX12_isCount 9 = .ok (.ireturn, 1) := by decide +kernel
theorem dX12_cut_0 : decode cX12_cut 0 = .ok (.iload_n 0, 1) := by decide +kernel
theorem dX12_cut_1 : decode cX12_cut 1 = .ok (.ifCond .ne 10, 3) := by decide +kernel
theorem dX12_cut_4 : decode cX12_cut 4 = .ok (.lload_n 1, 1) := by decide +kernel
theorem dX12_cut_5 : decode cX12_cut 5 = .ok (.l2i, 1) := by decide +kernel
theorem dX12_cut_6 : decode cX12_cut 6 = .ok (.i2b, 1) := by decide +kernel
theorem dX12_cut_7 : decode cX12_cut 7 = .ok (.i2l, 1) := by decide +kernel
theorem dX12_cut_8 : decode cX12_cut 8 = .ok (.goto 27, 3) := by decide +kernel
theorem dX12_cut_11 : decode cX12_cut 11 = .ok (.iload_n 0, 1) := by decide +kernel
theorem dX12_cut_12 : decode cX12_cut 12 = .ok (.iconst 1, 1) := by decide +kernel
theorem dX12_cut_13 : decode cX12_cut 13 = .ok (.if_icmp .ne 10, 3) := by decide +kernel
theorem dX12_cut_16 : decode cX12_cut 16 = .ok (.lload_n 1, 1) := by decide +kernel
theorem dX12_cut_17 : decode cX12_cut 17 = .ok (.l2i, 1) := by decide +kernel
theorem dX12_cut_18 : decode cX12_cut 18 = .ok (.i2s, 1) := by decide +kernel
theorem dX12_cut_19 : decode cX12_cut 19 = .ok (.i2l, 1) := by decide +kernel
theorem dX12_cut_20 : decode cX12_cut 20 = .ok (.goto 15, 3) := by decide +kernel
theorem dX12_cut_23 : decode cX12_cut 23 = .ok (.iload_n 0, 1) := by decide +kernel
theorem dX12_cut_24 : decode cX12_cut 24 = .ok (.iconst 2, 1) := by decide +kernel
theorem dX12_cut_25 : decode cX12_cut 25 = .ok (.if_icmp .ne 9, 3) := by decide +kernel
theorem dX12_cut_28 : decode cX12_cut 28 = .ok (.lload_n 1, 1) := by decide +kernel
theorem dX12_cut_29 : decode cX12_cut 29 = .ok (.l2i, 1) := by decide +kernel
theorem dX12_cut_30 : decode cX12_cut 30 = .ok (.i2l, 1) := by decide +kernel
theorem dX12_cut_31 : decode cX12_cut 31 = .ok (.goto 4, 3) := by decide +kernel
theorem dX12_cut_34 : decode cX12_cut 34 = .ok (.lload_n 1, 1) := by decide +kernel
theorem dX12_cut_35 : decode cX12_cut 35 = .ok (.lreturn, 1) := by decide +kernel
theorem dX12_tray_0 : decode cX12_tray 0 = .ok (.aload_n 0, 1) := by decide +kernel
theorem dX12_tray_1 : decode cX12_tray 1 = .ok (.iconst 0, 1) := by decide +kernel
theorem dX12_tray_2 : decode cX12_tray 2 = .ok (.putfield 200, 3) := by decide +kernel
theorem dX12_tray_5 : decode cX12_tray 5 = .ok (.aload_n 0, 1) := by decide +kernel
theorem dX12_tray_6 : decode cX12_tray 6 = .ok (.iconst 0, 1) := by decide +kernel
theorem dX12_tray_7 : decode cX12_tray 7 = .ok (.putfield 203, 3) := by decide +kernel
theorem dX12_tray_10 : decode cX12_tray 10 = .ok (.iload_n 1, 1) := by decide +kernel
theorem dX12_tray_11 : decode cX12_tray 11 = .ok (.ifCond .lt 17, 3) := by decide +kernel
theorem dX12_tray_14 : decode cX12_tray 14 = .ok (.iload_n 1, 1) := by decide +kernel
theorem dX12_tray_15 : decode cX12_tray 15 = .ok (.iconst 4, 1) := by decide +kernel
theorem dX12_tray_16 : decode cX12_tray 16 = .ok (.if_icmp .ge 12, 3) := by decide +kernel
theorem dX12_tray_19 : decode cX12_tray 19 = .ok (.iload_n 2, 1) := by decide +kernel
theorem dX12_tray_20 : decode cX12_tray 20 = .ok (.ifCond .lt 8, 3) := by decide +kernel
theorem dX12_tray_23 : decode cX12_tray 23 = .ok (.iload_n 2, 1) := by decide +kernel
theorem dX12_tray_24 : decode cX12_tray 24 = .ok (.iconst 3, 1) := by decide +kernel
theorem dX12_tray_25 : decode cX12_tray 25 = .ok (.if_icmp .le 9, 3) := by decide +kernel
theorem dX12_tray_28 : decode cX12_tray 28 = .ok (.aload_n 0, 1) := by decide +kernel
theorem dX12_tray_29 : decode cX12_tray 29 = .ok (.iconst 1, 1) := by decide +kernel
theorem dX12_tray_30 : decode cX12_tray 30 = .ok (.invokevirtual 214, 3) := by decide +kernel
theorem dX12_tray_33 : decode cX12_tray 33 = .ok (.ireturn, 1) := by decide +kernel
theorem dX12_tray_34 : decode cX12_tray 34 = .ok (.iload_n 3, 1) := by decide +kernel
theorem dX12_tray_35 : decode cX12_tray 35 = .ok (.bipush 40, 2) := by decide +kernel
theorem dX12_tray_37 : decode cX12_tray 37 = .ok (.if_icmp .le 9, 3) := by decide +kernel
theorem dX12_tray_40 : decode cX12_tray 40 = .ok (.aload_n 0, 1) := by decide +kernel
theorem dX12_tray_41 : decode cX12_tray 41 = .ok (.iconst 5, 1) := by decide +kernel
theorem dX12_tray_42 : decode cX12_tray 42 = .ok (.invokevirtual 214, 3) := by decide +kernel
theorem dX12_tray_45 : decode cX12_tray 45 = .ok (.ireturn, 1) := by decide +kernel
theorem dX12_tray_46 : decode cX12_tray 46 = .ok (.iload_n 3, 1) := by decide +kernel
theorem dX12_tray_47 : decode cX12_tray 47 = .ok (.ifCond .ge 10, 3) := by decide +kernel
theorem dX12_tray_50 : decode cX12_tray 50 = .ok (.aload_n 0, 1) := by decide +kernel
theorem dX12_tray_51 : decode cX12_tray 51 = .ok (.bipush 6, 2) := by decide +kernel
theorem dX12_tray_53 : decode cX12_tray 53 = .ok (.invokevirtual 214, 3) := by decide +kernel
theorem dX12_tray_56 : decode cX12_tray 56 = .ok (.ireturn, 1) := by decide +kernel
theorem dX12_tray_57 : decode cX12_tray 57 = .ok (.aload_n 0, 1) := by decide +kernel
theorem dX12_tray_58 : decode cX12_tray 58 = .ok (.getfield 9, 3) := by decide +kernel
theorem dX12_tray_61 : decode cX12_tray 61 = .ok (.iload_n 1, 1) := by decide +kernel
theorem dX12_tray_62 : decode cX12_tray 62 = .ok (.iload_n 2, 1) := by decide +kernel
theorem dX12_tray_63 : decode cX12_tray 63 = .ok (.iastore, 1) := by decide +kernel
theorem dX12_tray_64 : decode cX12_tray 64 = .ok (.aload_n 0, 1) := by decide +kernel
theorem dX12_tray_65 : decode cX12_tray 65 = .ok (.getfield 13, 3) := by decide +kernel
theorem dX12_tray_68 : decode cX12_tray 68 = .ok (.iload_n 1, 1) := by decide +kernel
theorem dX12_tray_69 : decode cX12_tray 69 = .ok (.iload_n 3, 1) := by decide +kernel
theorem dX12_tray_70 : decode cX12_tray 70 = .ok (.iastore, 1) := by decide +kernel
theorem dX12_tray_71 : decode cX12_tray 71 = .ok (.iconst 0, 1) := by decide +kernel
theorem dX12_tray_72 : decode cX12_tray 72 = .ok (.istore 4, 2) := by decide +kernel
theorem dX12_tray_74 : decode cX12_tray 74 = .ok (.iload 4, 2) := by decide +kernel
theorem dX12_tray_76 : decode cX12_tray 76 = .ok (.iload_n 3, 1) := by decide +kernel
theorem dX12_tray_77 : decode cX12_tray 77 = .ok (.if_icmp .ge 22, 3) := by decide +kernel
theorem dX12_tray_80 : decode cX12_tray 80 = .ok (.aload_n 0, 1) := by decide +kernel
theorem dX12_tray_81 : decode cX12_tray 81 = .ok (.getfield 16, 3) := by decide +kernel
theorem dX12_tray_84 : decode cX12_tray 84 = .ok (.bipush 40, 2) := by decide +kernel
theorem dX12_tray_86 : decode cX12_tray 86 = .ok (.iload_n 1, 1) := by decide +kernel
theorem dX12_tray_87 : decode cX12_tray 87 = .ok (.imul, 1) := by decide +kernel
theorem dX12_tray_88 : decode cX12_tray 88 = .ok (.iload 4, 2) := by decide +kernel
theorem dX12_tray_90 : decode cX12_tray 90 = .ok (.iadd, 1) := by decide +kernel
theorem dX12_tray_91 : decode cX12_tray 91 = .ok (.lconst 0, 1) := by decide +kernel
theorem dX12_tray_92 : decode cX12_tray 92 = .ok (.lastore, 1) := by decide +kernel
theorem dX12_tray_93 : decode cX12_tray 93 = .ok (.iinc 4 1, 3) := by decide +kernel
theorem dX12_tray_96 : decode cX12_tray 96 = .ok (.goto (-22), 3) := by decide +kernel
theorem dX12_tray_99 : decode cX12_tray 99 = .ok (.iconst 1, 1) := by decide +kernel
theorem dX12_tray_100 : decode cX12_tray 100 = .ok (.ireturn, 1) := by decide +kernel
theorem dX12_trayed_0 : decode cX12_trayed 0 = .ok (.iload_n 1, 1) := by decide +kernel
theorem dX12_trayed_1 : decode cX12_trayed 1 = .ok (.ifCond .lt 8, 3) := by decide +kernel
theorem dX12_trayed_4 : decode cX12_trayed 4 = .ok (.iload_n 1, 1) := by decide +kernel
theorem dX12_trayed_5 : decode cX12_trayed 5 = .ok (.iconst 4, 1) := by decide +kernel
theorem dX12_trayed_6 : decode cX12_trayed 6 = .ok (.if_icmp .lt 7, 3) := by decide +kernel
theorem dX12_trayed_9 : decode cX12_trayed 9 = .ok (.iconst 1, 1) := by decide +kernel
theorem dX12_trayed_10 : decode cX12_trayed 10 = .ok (.goto 17, 3) := by decide +kernel
theorem dX12_trayed_13 : decode cX12_trayed 13 = .ok (.aload_n 0, 1) := by decide +kernel
theorem dX12_trayed_14 : decode cX12_trayed 14 = .ok (.getfield 13, 3) := by decide +kernel
theorem dX12_trayed_17 : decode cX12_trayed 17 = .ok (.iload_n 1, 1) := by decide +kernel
theorem dX12_trayed_18 : decode cX12_trayed 18 = .ok (.iaload, 1) := by decide +kernel
theorem dX12_trayed_19 : decode cX12_trayed 19 = .ok (.ifCond .ge 7, 3) := by decide +kernel
theorem dX12_trayed_22 : decode cX12_trayed 22 = .ok (.iconst 3, 1) := by decide +kernel
theorem dX12_trayed_23 : decode cX12_trayed 23 = .ok (.goto 4, 3) := by decide +kernel
theorem dX12_trayed_26 : decode cX12_trayed 26 = .ok (.iconst 0, 1) := by decide +kernel
theorem dX12_trayed_27 : decode cX12_trayed 27 = .ok (.ireturn, 1) := by decide +kernel
theorem dX12_placed_0 : decode cX12_placed 0 = .ok (.aload_n 0, 1) := by decide +kernel
theorem dX12_placed_1 : decode cX12_placed 1 = .ok (.iload_n 1, 1) := by decide +kernel
theorem dX12_placed_2 : decode cX12_placed 2 = .ok (.invokevirtual 218, 3) := by decide +kernel
theorem dX12_placed_5 : decode cX12_placed 5 = .ok (.istore_n 3, 1) := by decide +kernel
theorem dX12_placed_6 : decode cX12_placed 6 = .ok (.iload_n 3, 1) := by decide +kernel
theorem dX12_placed_7 : decode cX12_placed 7 = .ok (.ifCond .le 7, 3) := by decide +kernel
theorem dX12_placed_10 : decode cX12_placed 10 = .ok (.iload_n 3, 1) := by decide +kernel
theorem dX12_placed_11 : decode cX12_placed 11 = .ok (.goto 22, 3) := by decide +kernel
theorem dX12_placed_14 : decode cX12_placed 14 = .ok (.iload_n 2, 1) := by decide +kernel
theorem dX12_placed_15 : decode cX12_placed 15 = .ok (.ifCond .lt 13, 3) := by decide +kernel
theorem dX12_placed_18 : decode cX12_placed 18 = .ok (.iload_n 2, 1) := by decide +kernel
theorem dX12_placed_19 : decode cX12_placed 19 = .ok (.aload_n 0, 1) := by decide +kernel
theorem dX12_placed_20 : decode cX12_placed 20 = .ok (.getfield 13, 3) := by decide +kernel
theorem dX12_placed_23 : decode cX12_placed 23 = .ok (.iload_n 1, 1) := by decide +kernel
theorem dX12_placed_24 : decode cX12_placed 24 = .ok (.iaload, 1) := by decide +kernel
theorem dX12_placed_25 : decode cX12_placed 25 = .ok (.if_icmp .lt 7, 3) := by decide +kernel
theorem dX12_placed_28 : decode cX12_placed 28 = .ok (.iconst 4, 1) := by decide +kernel
theorem dX12_placed_29 : decode cX12_placed 29 = .ok (.goto 4, 3) := by decide +kernel
theorem dX12_placed_32 : decode cX12_placed 32 = .ok (.iconst 0, 1) := by decide +kernel
theorem dX12_placed_33 : decode cX12_placed 33 = .ok (.ireturn, 1) := by decide +kernel
theorem dX12_write_0 : decode cX12_write 0 = .ok (.aload_n 0, 1) := by decide +kernel
theorem dX12_write_1 : decode cX12_write 1 = .ok (.iconst 0, 1) := by decide +kernel
theorem dX12_write_2 : decode cX12_write 2 = .ok (.putfield 200, 3) := by decide +kernel
theorem dX12_write_5 : decode cX12_write 5 = .ok (.aload_n 0, 1) := by decide +kernel
theorem dX12_write_6 : decode cX12_write 6 = .ok (.aload_n 0, 1) := by decide +kernel
theorem dX12_write_7 : decode cX12_write 7 = .ok (.iload_n 1, 1) := by decide +kernel
theorem dX12_write_8 : decode cX12_write 8 = .ok (.iload_n 2, 1) := by decide +kernel
theorem dX12_write_9 : decode cX12_write 9 = .ok (.invokevirtual 222, 3) := by decide +kernel
theorem dX12_write_12 : decode cX12_write 12 = .ok (.putfield 203, 3) := by decide +kernel
theorem dX12_write_15 : decode cX12_write 15 = .ok (.aload_n 0, 1) := by decide +kernel
theorem dX12_write_16 : decode cX12_write 16 = .ok (.getfield 203, 3) := by decide +kernel
theorem dX12_write_19 : decode cX12_write 19 = .ok (.ifCond .le 5, 3) := by decide +kernel
theorem dX12_write_22 : decode cX12_write 22 = .ok (.iconst 0, 1) := by decide +kernel
theorem dX12_write_23 : decode cX12_write 23 = .ok (.ireturn, 1) := by decide +kernel
theorem dX12_write_24 : decode cX12_write 24 = .ok (.aload_n 0, 1) := by decide +kernel
theorem dX12_write_25 : decode cX12_write 25 = .ok (.getfield 16, 3) := by decide +kernel
theorem dX12_write_28 : decode cX12_write 28 = .ok (.bipush 40, 2) := by decide +kernel
theorem dX12_write_30 : decode cX12_write 30 = .ok (.iload_n 1, 1) := by decide +kernel
theorem dX12_write_31 : decode cX12_write 31 = .ok (.imul, 1) := by decide +kernel
theorem dX12_write_32 : decode cX12_write 32 = .ok (.iload_n 2, 1) := by decide +kernel
theorem dX12_write_33 : decode cX12_write 33 = .ok (.iadd, 1) := by decide +kernel
theorem dX12_write_34 : decode cX12_write 34 = .ok (.aload_n 0, 1) := by decide +kernel
theorem dX12_write_35 : decode cX12_write 35 = .ok (.getfield 9, 3) := by decide +kernel
theorem dX12_write_38 : decode cX12_write 38 = .ok (.iload_n 1, 1) := by decide +kernel
theorem dX12_write_39 : decode cX12_write 39 = .ok (.iaload, 1) := by decide +kernel
theorem dX12_write_40 : decode cX12_write 40 = .ok (.lload_n 3, 1) := by decide +kernel
theorem dX12_write_41 : decode cX12_write 41 = .ok (.invokestatic 226, 3) := by decide +kernel
theorem dX12_write_44 : decode cX12_write 44 = .ok (.lastore, 1) := by decide +kernel
theorem dX12_write_45 : decode cX12_write 45 = .ok (.iconst 1, 1) := by decide +kernel
theorem dX12_write_46 : decode cX12_write 46 = .ok (.ireturn, 1) := by decide +kernel
theorem dX12_read_0 : decode cX12_read 0 = .ok (.aload_n 0, 1) := by decide +kernel
theorem dX12_read_1 : decode cX12_read 1 = .ok (.iconst 0, 1) := by decide +kernel
theorem dX12_read_2 : decode cX12_read 2 = .ok (.putfield 200, 3) := by decide +kernel
theorem dX12_read_5 : decode cX12_read 5 = .ok (.aload_n 0, 1) := by decide +kernel
theorem dX12_read_6 : decode cX12_read 6 = .ok (.aload_n 0, 1) := by decide +kernel
theorem dX12_read_7 : decode cX12_read 7 = .ok (.iload_n 1, 1) := by decide +kernel
theorem dX12_read_8 : decode cX12_read 8 = .ok (.iload_n 2, 1) := by decide +kernel
theorem dX12_read_9 : decode cX12_read 9 = .ok (.invokevirtual 222, 3) := by decide +kernel
theorem dX12_read_12 : decode cX12_read 12 = .ok (.putfield 203, 3) := by decide +kernel
theorem dX12_read_15 : decode cX12_read 15 = .ok (.aload_n 0, 1) := by decide +kernel
theorem dX12_read_16 : decode cX12_read 16 = .ok (.getfield 203, 3) := by decide +kernel
theorem dX12_read_19 : decode cX12_read 19 = .ok (.ifCond .le 9, 3) := by decide +kernel
theorem dX12_read_22 : decode cX12_read 22 = .ok (.ldc2_w 230, 3) := by decide +kernel
theorem dX12_read_25 : decode cX12_read 25 = .ok (.goto 14, 3) := by decide +kernel
theorem dX12_read_28 : decode cX12_read 28 = .ok (.aload_n 0, 1) := by decide +kernel
theorem dX12_read_29 : decode cX12_read 29 = .ok (.getfield 16, 3) := by decide +kernel
theorem dX12_read_32 : decode cX12_read 32 = .ok (.bipush 40, 2) := by decide +kernel
theorem dX12_read_34 : decode cX12_read 34 = .ok (.iload_n 1, 1) := by decide +kernel
theorem dX12_read_35 : decode cX12_read 35 = .ok (.imul, 1) := by decide +kernel
theorem dX12_read_36 : decode cX12_read 36 = .ok (.iload_n 2, 1) := by decide +kernel
theorem dX12_read_37 : decode cX12_read 37 = .ok (.iadd, 1) := by decide +kernel
theorem dX12_read_38 : decode cX12_read 38 = .ok (.laload, 1) := by decide +kernel
theorem dX12_read_39 : decode cX12_read 39 = .ok (.lreturn, 1) := by decide +kernel
theorem dX12_pour_0 : decode cX12_pour 0 = .ok (.aload_n 0, 1) := by decide +kernel
theorem dX12_pour_1 : decode cX12_pour 1 = .ok (.iconst 0, 1) := by decide +kernel
theorem dX12_pour_2 : decode cX12_pour 2 = .ok (.putfield 200, 3) := by decide +kernel
theorem dX12_pour_5 : decode cX12_pour 5 = .ok (.aload_n 0, 1) := by decide +kernel
theorem dX12_pour_6 : decode cX12_pour 6 = .ok (.iconst 0, 1) := by decide +kernel
theorem dX12_pour_7 : decode cX12_pour 7 = .ok (.putfield 203, 3) := by decide +kernel
theorem dX12_pour_10 : decode cX12_pour 10 = .ok (.iload_n 1, 1) := by decide +kernel
theorem dX12_pour_11 : decode cX12_pour 11 = .ok (.ifCond .lt 17, 3) := by decide +kernel
theorem dX12_pour_14 : decode cX12_pour 14 = .ok (.iload_n 1, 1) := by decide +kernel
theorem dX12_pour_15 : decode cX12_pour 15 = .ok (.iconst 4, 1) := by decide +kernel
theorem dX12_pour_16 : decode cX12_pour 16 = .ok (.if_icmp .ge 12, 3) := by decide +kernel
theorem dX12_pour_19 : decode cX12_pour 19 = .ok (.iload_n 3, 1) := by decide +kernel
theorem dX12_pour_20 : decode cX12_pour 20 = .ok (.ifCond .lt 8, 3) := by decide +kernel
theorem dX12_pour_23 : decode cX12_pour 23 = .ok (.iload_n 3, 1) := by decide +kernel
theorem dX12_pour_24 : decode cX12_pour 24 = .ok (.iconst 4, 1) := by decide +kernel
theorem dX12_pour_25 : decode cX12_pour 25 = .ok (.if_icmp .lt 9, 3) := by decide +kernel
theorem dX12_pour_28 : decode cX12_pour 28 = .ok (.aload_n 0, 1) := by decide +kernel
theorem dX12_pour_29 : decode cX12_pour 29 = .ok (.iconst 1, 1) := by decide +kernel
theorem dX12_pour_30 : decode cX12_pour 30 = .ok (.invokevirtual 214, 3) := by decide +kernel
theorem dX12_pour_33 : decode cX12_pour 33 = .ok (.ireturn, 1) := by decide +kernel
theorem dX12_pour_34 : decode cX12_pour 34 = .ok (.aload_n 0, 1) := by decide +kernel
theorem dX12_pour_35 : decode cX12_pour 35 = .ok (.getfield 13, 3) := by decide +kernel
theorem dX12_pour_38 : decode cX12_pour 38 = .ok (.iload_n 1, 1) := by decide +kernel
theorem dX12_pour_39 : decode cX12_pour 39 = .ok (.iaload, 1) := by decide +kernel
theorem dX12_pour_40 : decode cX12_pour 40 = .ok (.ifCond .lt 12, 3) := by decide +kernel
theorem dX12_pour_43 : decode cX12_pour 43 = .ok (.aload_n 0, 1) := by decide +kernel
theorem dX12_pour_44 : decode cX12_pour 44 = .ok (.getfield 13, 3) := by decide +kernel
theorem dX12_pour_47 : decode cX12_pour 47 = .ok (.iload_n 3, 1) := by decide +kernel
theorem dX12_pour_48 : decode cX12_pour 48 = .ok (.iaload, 1) := by decide +kernel
theorem dX12_pour_49 : decode cX12_pour 49 = .ok (.ifCond .ge 9, 3) := by decide +kernel
theorem dX12_pour_52 : decode cX12_pour 52 = .ok (.aload_n 0, 1) := by decide +kernel
theorem dX12_pour_53 : decode cX12_pour 53 = .ok (.iconst 3, 1) := by decide +kernel
theorem dX12_pour_54 : decode cX12_pour 54 = .ok (.invokevirtual 214, 3) := by decide +kernel
theorem dX12_pour_57 : decode cX12_pour 57 = .ok (.ireturn, 1) := by decide +kernel
theorem dX12_pour_58 : decode cX12_pour 58 = .ok (.aload_n 0, 1) := by decide +kernel
theorem dX12_pour_59 : decode cX12_pour 59 = .ok (.getfield 9, 3) := by decide +kernel
theorem dX12_pour_62 : decode cX12_pour 62 = .ok (.iload_n 1, 1) := by decide +kernel
theorem dX12_pour_63 : decode cX12_pour 63 = .ok (.iaload, 1) := by decide +kernel
theorem dX12_pour_64 : decode cX12_pour 64 = .ok (.aload_n 0, 1) := by decide +kernel
theorem dX12_pour_65 : decode cX12_pour 65 = .ok (.getfield 9, 3) := by decide +kernel
theorem dX12_pour_68 : decode cX12_pour 68 = .ok (.iload_n 3, 1) := by decide +kernel
theorem dX12_pour_69 : decode cX12_pour 69 = .ok (.iaload, 1) := by decide +kernel
theorem dX12_pour_70 : decode cX12_pour 70 = .ok (.if_icmp .eq 10, 3) := by decide +kernel
theorem dX12_pour_73 : decode cX12_pour 73 = .ok (.aload_n 0, 1) := by decide +kernel
theorem dX12_pour_74 : decode cX12_pour 74 = .ok (.bipush 11, 2) := by decide +kernel
theorem dX12_pour_76 : decode cX12_pour 76 = .ok (.invokevirtual 214, 3) := by decide +kernel
theorem dX12_pour_79 : decode cX12_pour 79 = .ok (.ireturn, 1) := by decide +kernel
theorem dX12_pour_80 : decode cX12_pour 80 = .ok (.iload 5, 2) := by decide +kernel
theorem dX12_pour_82 : decode cX12_pour 82 = .ok (.ifCond .ge 10, 3) := by decide +kernel
theorem dX12_pour_85 : decode cX12_pour 85 = .ok (.aload_n 0, 1) := by decide +kernel
theorem dX12_pour_86 : decode cX12_pour 86 = .ok (.bipush 6, 2) := by decide +kernel
theorem dX12_pour_88 : decode cX12_pour 88 = .ok (.invokevirtual 214, 3) := by decide +kernel
theorem dX12_pour_91 : decode cX12_pour 91 = .ok (.ireturn, 1) := by decide +kernel
theorem dX12_pour_92 : decode cX12_pour 92 = .ok (.iload_n 2, 1) := by decide +kernel
theorem dX12_pour_93 : decode cX12_pour 93 = .ok (.ifCond .lt 43, 3) := by decide +kernel
theorem dX12_pour_96 : decode cX12_pour 96 = .ok (.iload 4, 2) := by decide +kernel
theorem dX12_pour_98 : decode cX12_pour 98 = .ok (.ifCond .lt 38, 3) := by decide +kernel
theorem dX12_pour_101 : decode cX12_pour 101 = .ok (.iload_n 2, 1) := by decide +kernel
theorem dX12_pour_102 : decode cX12_pour 102 = .ok (.i2l, 1) := by decide +kernel
theorem dX12_pour_103 : decode cX12_pour 103 = .ok (.iload 5, 2) := by decide +kernel
theorem dX12_pour_105 : decode cX12_pour 105 = .ok (.i2l, 1) := by decide +kernel
theorem dX12_pour_106 : decode cX12_pour 106 = .ok (.ladd, 1) := by decide +kernel
theorem dX12_pour_107 : decode cX12_pour 107 = .ok (.aload_n 0, 1) := by decide +kernel
theorem dX12_pour_108 : decode cX12_pour 108 = .ok (.getfield 13, 3) := by decide +kernel
theorem dX12_pour_111 : decode cX12_pour 111 = .ok (.iload_n 1, 1) := by decide +kernel
theorem dX12_pour_112 : decode cX12_pour 112 = .ok (.iaload, 1) := by decide +kernel
theorem dX12_pour_113 : decode cX12_pour 113 = .ok (.i2l, 1) := by decide +kernel
theorem dX12_pour_114 : decode cX12_pour 114 = .ok (.lcmp, 1) := by decide +kernel
theorem dX12_pour_115 : decode cX12_pour 115 = .ok (.ifCond .gt 21, 3) := by decide +kernel
theorem dX12_pour_118 : decode cX12_pour 118 = .ok (.iload 4, 2) := by decide +kernel
theorem dX12_pour_120 : decode cX12_pour 120 = .ok (.i2l, 1) := by decide +kernel
theorem dX12_pour_121 : decode cX12_pour 121 = .ok (.iload 5, 2) := by decide +kernel
theorem dX12_pour_123 : decode cX12_pour 123 = .ok (.i2l, 1) := by decide +kernel
theorem dX12_pour_124 : decode cX12_pour 124 = .ok (.ladd, 1) := by decide +kernel
theorem dX12_pour_125 : decode cX12_pour 125 = .ok (.aload_n 0, 1) := by decide +kernel
theorem dX12_pour_126 : decode cX12_pour 126 = .ok (.getfield 13, 3) := by decide +kernel
theorem dX12_pour_129 : decode cX12_pour 129 = .ok (.iload_n 3, 1) := by decide +kernel
theorem dX12_pour_130 : decode cX12_pour 130 = .ok (.iaload, 1) := by decide +kernel
theorem dX12_pour_131 : decode cX12_pour 131 = .ok (.i2l, 1) := by decide +kernel
theorem dX12_pour_132 : decode cX12_pour 132 = .ok (.lcmp, 1) := by decide +kernel
theorem dX12_pour_133 : decode cX12_pour 133 = .ok (.ifCond .le 9, 3) := by decide +kernel
theorem dX12_pour_136 : decode cX12_pour 136 = .ok (.aload_n 0, 1) := by decide +kernel
theorem dX12_pour_137 : decode cX12_pour 137 = .ok (.iconst 4, 1) := by decide +kernel
theorem dX12_pour_138 : decode cX12_pour 138 = .ok (.invokevirtual 214, 3) := by decide +kernel
theorem dX12_pour_141 : decode cX12_pour 141 = .ok (.ireturn, 1) := by decide +kernel
theorem dX12_pour_142 : decode cX12_pour 142 = .ok (.iload_n 2, 1) := by decide +kernel
theorem dX12_pour_143 : decode cX12_pour 143 = .ok (.iload 4, 2) := by decide +kernel
theorem dX12_pour_145 : decode cX12_pour 145 = .ok (.if_icmp .ge 7, 3) := by decide +kernel
theorem dX12_pour_148 : decode cX12_pour 148 = .ok (.iconst 1, 1) := by decide +kernel
theorem dX12_pour_149 : decode cX12_pour 149 = .ok (.goto 4, 3) := by decide +kernel
theorem dX12_pour_152 : decode cX12_pour 152 = .ok (.iconst 0, 1) := by decide +kernel
theorem dX12_pour_153 : decode cX12_pour 153 = .ok (.istore 6, 2) := by decide +kernel
theorem dX12_pour_155 : decode cX12_pour 155 = .ok (.iconst 0, 1) := by decide +kernel
theorem dX12_pour_156 : decode cX12_pour 156 = .ok (.istore 7, 2) := by decide +kernel
theorem dX12_pour_158 : decode cX12_pour 158 = .ok (.iload 7, 2) := by decide +kernel
theorem dX12_pour_160 : decode cX12_pour 160 = .ok (.iload 5, 2) := by decide +kernel
theorem dX12_pour_162 : decode cX12_pour 162 = .ok (.if_icmp .ge 57, 3) := by decide +kernel
theorem dX12_pour_165 : decode cX12_pour 165 = .ok (.iload 6, 2) := by decide +kernel
theorem dX12_pour_167 : decode cX12_pour 167 = .ok (.ifCond .eq 13, 3) := by decide +kernel
theorem dX12_pour_170 : decode cX12_pour 170 = .ok (.iload 5, 2) := by decide +kernel
theorem dX12_pour_172 : decode cX12_pour 172 = .ok (.iconst 1, 1) := by decide +kernel
theorem dX12_pour_173 : decode cX12_pour 173 = .ok (.isub, 1) := by decide +kernel
theorem dX12_pour_174 : decode cX12_pour 174 = .ok (.iload 7, 2) := by decide +kernel
theorem dX12_pour_176 : decode cX12_pour 176 = .ok (.isub, 1) := by decide +kernel
theorem dX12_pour_177 : decode cX12_pour 177 = .ok (.goto 5, 3) := by decide +kernel
theorem dX12_pour_180 : decode cX12_pour 180 = .ok (.iload 7, 2) := by decide +kernel
theorem dX12_pour_182 : decode cX12_pour 182 = .ok (.istore 8, 2) := by decide +kernel
theorem dX12_pour_184 : decode cX12_pour 184 = .ok (.aload_n 0, 1) := by decide +kernel
theorem dX12_pour_185 : decode cX12_pour 185 = .ok (.getfield 16, 3) := by decide +kernel
theorem dX12_pour_188 : decode cX12_pour 188 = .ok (.bipush 40, 2) := by decide +kernel
theorem dX12_pour_190 : decode cX12_pour 190 = .ok (.iload_n 3, 1) := by decide +kernel
theorem dX12_pour_191 : decode cX12_pour 191 = .ok (.imul, 1) := by decide +kernel
theorem dX12_pour_192 : decode cX12_pour 192 = .ok (.iload 4, 2) := by decide +kernel
theorem dX12_pour_194 : decode cX12_pour 194 = .ok (.iadd, 1) := by decide +kernel
theorem dX12_pour_195 : decode cX12_pour 195 = .ok (.iload 8, 2) := by decide +kernel
theorem dX12_pour_197 : decode cX12_pour 197 = .ok (.iadd, 1) := by decide +kernel
theorem dX12_pour_198 : decode cX12_pour 198 = .ok (.aload_n 0, 1) := by decide +kernel
theorem dX12_pour_199 : decode cX12_pour 199 = .ok (.getfield 16, 3) := by decide +kernel
theorem dX12_pour_202 : decode cX12_pour 202 = .ok (.bipush 40, 2) := by decide +kernel
theorem dX12_pour_204 : decode cX12_pour 204 = .ok (.iload_n 1, 1) := by decide +kernel
theorem dX12_pour_205 : decode cX12_pour 205 = .ok (.imul, 1) := by decide +kernel
theorem dX12_pour_206 : decode cX12_pour 206 = .ok (.iload_n 2, 1) := by decide +kernel
theorem dX12_pour_207 : decode cX12_pour 207 = .ok (.iadd, 1) := by decide +kernel
theorem dX12_pour_208 : decode cX12_pour 208 = .ok (.iload 8, 2) := by decide +kernel
theorem dX12_pour_210 : decode cX12_pour 210 = .ok (.iadd, 1) := by decide +kernel
theorem dX12_pour_211 : decode cX12_pour 211 = .ok (.laload, 1) := by decide +kernel
theorem dX12_pour_212 : decode cX12_pour 212 = .ok (.lastore, 1) := by decide +kernel
theorem dX12_pour_213 : decode cX12_pour 213 = .ok (.iinc 7 1, 3) := by decide +kernel
theorem dX12_pour_216 : decode cX12_pour 216 = .ok (.goto (-58), 3) := by decide +kernel
theorem dX12_pour_219 : decode cX12_pour 219 = .ok (.iconst 1, 1) := by decide +kernel
theorem dX12_pour_220 : decode cX12_pour 220 = .ok (.ireturn, 1) := by decide +kernel
theorem dX12_numberOf_0 : decode cX12_numberOf 0 = .ok (.aload_n 0, 1) := by decide +kernel
theorem dX12_numberOf_1 : decode cX12_numberOf 1 = .ok (.getfield 16, 3) := by decide +kernel
theorem dX12_numberOf_4 : decode cX12_numberOf 4 = .ok (.bipush 40, 2) := by decide +kernel
theorem dX12_numberOf_6 : decode cX12_numberOf 6 = .ok (.iload_n 1, 1) := by decide +kernel
theorem dX12_numberOf_7 : decode cX12_numberOf 7 = .ok (.imul, 1) := by decide +kernel
theorem dX12_numberOf_8 : decode cX12_numberOf 8 = .ok (.iload_n 2, 1) := by decide +kernel
theorem dX12_numberOf_9 : decode cX12_numberOf 9 = .ok (.iadd, 1) := by decide +kernel
theorem dX12_numberOf_10 : decode cX12_numberOf 10 = .ok (.laload, 1) := by decide +kernel
theorem dX12_numberOf_11 : decode cX12_numberOf 11 = .ok (.lreturn, 1) := by decide +kernel
theorem dX12_trueKind_0 : decode cX12_trueKind 0 = .ok (.iconst 0, 1) := by decide +kernel
theorem dX12_trueKind_1 : decode cX12_trueKind 1 = .ok (.istore_n 2, 1) := by decide +kernel
theorem dX12_trueKind_2 : decode cX12_trueKind 2 = .ok (.iload_n 2, 1) := by decide +kernel
theorem dX12_trueKind_3 : decode cX12_trueKind 3 = .ok (.aload_n 0, 1) := by decide +kernel
theorem dX12_trueKind_4 : decode cX12_trueKind 4 = .ok (.getfield 232, 3) := by decide +kernel
theorem dX12_trueKind_7 : decode cX12_trueKind 7 = .ok (.if_icmp .ge 26, 3) := by decide +kernel
theorem dX12_trueKind_10 : decode cX12_trueKind 10 = .ok (.aload_n 0, 1) := by decide +kernel
theorem dX12_trueKind_11 : decode cX12_trueKind 11 = .ok (.getfield 20, 3) := by decide +kernel
theorem dX12_trueKind_14 : decode cX12_trueKind 14 = .ok (.iload_n 2, 1) := by decide +kernel
theorem dX12_trueKind_15 : decode cX12_trueKind 15 = .ok (.iaload, 1) := by decide +kernel
theorem dX12_trueKind_16 : decode cX12_trueKind 16 = .ok (.iload_n 1, 1) := by decide +kernel
theorem dX12_trueKind_17 : decode cX12_trueKind 17 = .ok (.if_icmp .ne 10, 3) := by decide +kernel
theorem dX12_trueKind_20 : decode cX12_trueKind 20 = .ok (.aload_n 0, 1) := by decide +kernel
theorem dX12_trueKind_21 : decode cX12_trueKind 21 = .ok (.getfield 23, 3) := by decide +kernel
theorem dX12_trueKind_24 : decode cX12_trueKind 24 = .ok (.iload_n 2, 1) := by decide +kernel
theorem dX12_trueKind_25 : decode cX12_trueKind 25 = .ok (.iaload, 1) := by decide +kernel
theorem dX12_trueKind_26 : decode cX12_trueKind 26 = .ok (.ireturn, 1) := by decide +kernel
theorem dX12_trueKind_27 : decode cX12_trueKind 27 = .ok (.iinc 2 1, 3) := by decide +kernel
theorem dX12_trueKind_30 : decode cX12_trueKind 30 = .ok (.goto (-28), 3) := by decide +kernel
theorem dX12_trueKind_33 : decode cX12_trueKind 33 = .ok (.iconst 0, 1) := by decide +kernel
theorem dX12_trueKind_34 : decode cX12_trueKind 34 = .ok (.ireturn, 1) := by decide +kernel
theorem dX12_takeTrue_0 : decode cX12_takeTrue 0 = .ok (.aload_n 0, 1) := by decide +kernel
theorem dX12_takeTrue_1 : decode cX12_takeTrue 1 = .ok (.aload_n 0, 1) := by decide +kernel
theorem dX12_takeTrue_2 : decode cX12_takeTrue 2 = .ok (.getfield 232, 3) := by decide +kernel
theorem dX12_takeTrue_5 : decode cX12_takeTrue 5 = .ok (.putfield 235, 3) := by decide +kernel
theorem dX12_takeTrue_8 : decode cX12_takeTrue 8 = .ok (.iconst 0, 1) := by decide +kernel
theorem dX12_takeTrue_9 : decode cX12_takeTrue 9 = .ok (.istore_n 1, 1) := by decide +kernel
theorem dX12_takeTrue_10 : decode cX12_takeTrue 10 = .ok (.iload_n 1, 1) := by decide +kernel
theorem dX12_takeTrue_11 : decode cX12_takeTrue 11 = .ok (.aload_n 0, 1) := by decide +kernel
theorem dX12_takeTrue_12 : decode cX12_takeTrue 12 = .ok (.getfield 232, 3) := by decide +kernel
theorem dX12_takeTrue_15 : decode cX12_takeTrue 15 = .ok (.if_icmp .ge 33, 3) := by decide +kernel
theorem dX12_takeTrue_18 : decode cX12_takeTrue 18 = .ok (.aload_n 0, 1) := by decide +kernel
theorem dX12_takeTrue_19 : decode cX12_takeTrue 19 = .ok (.getfield 26, 3) := by decide +kernel
theorem dX12_takeTrue_22 : decode cX12_takeTrue 22 = .ok (.iload_n 1, 1) := by decide +kernel
theorem dX12_takeTrue_23 : decode cX12_takeTrue 23 = .ok (.aload_n 0, 1) := by decide +kernel
theorem dX12_takeTrue_24 : decode cX12_takeTrue 24 = .ok (.getfield 20, 3) := by decide +kernel
theorem dX12_takeTrue_27 : decode cX12_takeTrue 27 = .ok (.iload_n 1, 1) := by decide +kernel
theorem dX12_takeTrue_28 : decode cX12_takeTrue 28 = .ok (.iaload, 1) := by decide +kernel
theorem dX12_takeTrue_29 : decode cX12_takeTrue 29 = .ok (.iastore, 1) := by decide +kernel
theorem dX12_takeTrue_30 : decode cX12_takeTrue 30 = .ok (.aload_n 0, 1) := by decide +kernel
theorem dX12_takeTrue_31 : decode cX12_takeTrue 31 = .ok (.getfield 29, 3) := by decide +kernel
theorem dX12_takeTrue_34 : decode cX12_takeTrue 34 = .ok (.iload_n 1, 1) := by decide +kernel
theorem dX12_takeTrue_35 : decode cX12_takeTrue 35 = .ok (.aload_n 0, 1) := by decide +kernel
theorem dX12_takeTrue_36 : decode cX12_takeTrue 36 = .ok (.getfield 23, 3) := by decide +kernel
theorem dX12_takeTrue_39 : decode cX12_takeTrue 39 = .ok (.iload_n 1, 1) := by decide +kernel
theorem dX12_takeTrue_40 : decode cX12_takeTrue 40 = .ok (.iaload, 1) := by decide +kernel
theorem dX12_takeTrue_41 : decode cX12_takeTrue 41 = .ok (.iastore, 1) := by decide +kernel
theorem dX12_takeTrue_42 : decode cX12_takeTrue 42 = .ok (.iinc 1 1, 3) := by decide +kernel
theorem dX12_takeTrue_45 : decode cX12_takeTrue 45 = .ok (.goto (-35), 3) := by decide +kernel
theorem dX12_takeTrue_48 : decode cX12_takeTrue 48 = .ok (.return_, 1) := by decide +kernel
theorem dX12_handKindOf_0 : decode cX12_handKindOf 0 = .ok (.iconst 0, 1) := by decide +kernel
theorem dX12_handKindOf_1 : decode cX12_handKindOf 1 = .ok (.istore_n 2, 1) := by decide +kernel
theorem dX12_handKindOf_2 : decode cX12_handKindOf 2 = .ok (.iload_n 2, 1) := by decide +kernel
theorem dX12_handKindOf_3 : decode cX12_handKindOf 3 = .ok (.aload_n 0, 1) := by decide +kernel
theorem dX12_handKindOf_4 : decode cX12_handKindOf 4 = .ok (.getfield 235, 3) := by decide +kernel
theorem dX12_handKindOf_7 : decode cX12_handKindOf 7 = .ok (.if_icmp .ge 26, 3) := by decide +kernel
theorem dX12_handKindOf_10 : decode cX12_handKindOf 10 = .ok (.aload_n 0, 1) := by decide +kernel
theorem dX12_handKindOf_11 : decode cX12_handKindOf 11 = .ok (.getfield 26, 3) := by decide +kernel
theorem dX12_handKindOf_14 : decode cX12_handKindOf 14 = .ok (.iload_n 2, 1) := by decide +kernel
theorem dX12_handKindOf_15 : decode cX12_handKindOf 15 = .ok (.iaload, 1) := by decide +kernel
theorem dX12_handKindOf_16 : decode cX12_handKindOf 16 = .ok (.iload_n 1, 1) := by decide +kernel
theorem dX12_handKindOf_17 : decode cX12_handKindOf 17 = .ok (.if_icmp .ne 10, 3) := by decide +kernel
theorem dX12_handKindOf_20 : decode cX12_handKindOf 20 = .ok (.aload_n 0, 1) := by decide +kernel
theorem dX12_handKindOf_21 : decode cX12_handKindOf 21 = .ok (.getfield 29, 3) := by decide +kernel
theorem dX12_handKindOf_24 : decode cX12_handKindOf 24 = .ok (.iload_n 2, 1) := by decide +kernel
theorem dX12_handKindOf_25 : decode cX12_handKindOf 25 = .ok (.iaload, 1) := by decide +kernel
theorem dX12_handKindOf_26 : decode cX12_handKindOf 26 = .ok (.ireturn, 1) := by decide +kernel
theorem dX12_handKindOf_27 : decode cX12_handKindOf 27 = .ok (.iinc 2 1, 3) := by decide +kernel
theorem dX12_handKindOf_30 : decode cX12_handKindOf 30 = .ok (.goto (-28), 3) := by decide +kernel
theorem dX12_handKindOf_33 : decode cX12_handKindOf 33 = .ok (.iconst 0, 1) := by decide +kernel
theorem dX12_handKindOf_34 : decode cX12_handKindOf 34 = .ok (.ireturn, 1) := by decide +kernel
theorem dX12_beginOf_0 : decode cX12_beginOf 0 = .ok (.ldc2_w 238, 3) := by decide +kernel
theorem dX12_beginOf_3 : decode cX12_beginOf 3 = .ok (.iload_n 1, 1) := by decide +kernel
theorem dX12_beginOf_4 : decode cX12_beginOf 4 = .ok (.i2l, 1) := by decide +kernel
theorem dX12_beginOf_5 : decode cX12_beginOf 5 = .ok (.lmul, 1) := by decide +kernel
theorem dX12_beginOf_6 : decode cX12_beginOf 6 = .ok (.lstore_n 2, 1) := by decide +kernel
theorem dX12_beginOf_7 : decode cX12_beginOf 7 = .ok (.iconst 0, 1) := by decide +kernel
theorem dX12_beginOf_8 : decode cX12_beginOf 8 = .ok (.istore 4, 2) := by decide +kernel
theorem dX12_beginOf_10 : decode cX12_beginOf 10 = .ok (.iload 4, 2) := by decide +kernel
theorem dX12_beginOf_12 : decode cX12_beginOf 12 = .ok (.aload_n 0, 1) := by decide +kernel
theorem dX12_beginOf_13 : decode cX12_beginOf 13 = .ok (.getfield 235, 3) := by decide +kernel
theorem dX12_beginOf_16 : decode cX12_beginOf 16 = .ok (.if_icmp .ge 35, 3) := by decide +kernel
theorem dX12_beginOf_19 : decode cX12_beginOf 19 = .ok (.lload_n 2, 1) := by decide +kernel
theorem dX12_beginOf_20 : decode cX12_beginOf 20 = .ok (.aload_n 0, 1) := by decide +kernel
theorem dX12_beginOf_21 : decode cX12_beginOf 21 = .ok (.getfield 26, 3) := by decide +kernel
theorem dX12_beginOf_24 : decode cX12_beginOf 24 = .ok (.iload 4, 2) := by decide +kernel
theorem dX12_beginOf_26 : decode cX12_beginOf 26 = .ok (.iaload, 1) := by decide +kernel
theorem dX12_beginOf_27 : decode cX12_beginOf 27 = .ok (.iload_n 1, 1) := by decide +kernel
theorem dX12_beginOf_28 : decode cX12_beginOf 28 = .ok (.if_icmp .ge 14, 3) := by decide +kernel
theorem dX12_beginOf_31 : decode cX12_beginOf 31 = .ok (.aload_n 0, 1) := by decide +kernel
theorem dX12_beginOf_32 : decode cX12_beginOf 32 = .ok (.getfield 29, 3) := by decide +kernel
theorem dX12_beginOf_35 : decode cX12_beginOf 35 = .ok (.iload 4, 2) := by decide +kernel
theorem dX12_beginOf_37 : decode cX12_beginOf 37 = .ok (.iaload, 1) := by decide +kernel
theorem dX12_beginOf_38 : decode cX12_beginOf 38 = .ok (.i2l, 1) := by decide +kernel
theorem dX12_beginOf_39 : decode cX12_beginOf 39 = .ok (.goto 4, 3) := by decide +kernel
theorem dX12_beginOf_42 : decode cX12_beginOf 42 = .ok (.lconst 0, 1) := by decide +kernel
theorem dX12_beginOf_43 : decode cX12_beginOf 43 = .ok (.ladd, 1) := by decide +kernel
theorem dX12_beginOf_44 : decode cX12_beginOf 44 = .ok (.lstore_n 2, 1) := by decide +kernel
theorem dX12_beginOf_45 : decode cX12_beginOf 45 = .ok (.iinc 4 1, 3) := by decide +kernel
theorem dX12_beginOf_48 : decode cX12_beginOf 48 = .ok (.goto (-38), 3) := by decide +kernel
theorem dX12_beginOf_51 : decode cX12_beginOf 51 = .ok (.lload_n 2, 1) := by decide +kernel
theorem dX12_beginOf_52 : decode cX12_beginOf 52 = .ok (.lreturn, 1) := by decide +kernel
theorem dX12_findCivil_0 : decode cX12_findCivil 0 = .ok (.lload_n 1, 1) := by decide +kernel
theorem dX12_findCivil_1 : decode cX12_findCivil 1 = .ok (.ldc2_w 238, 3) := by decide +kernel
theorem dX12_findCivil_4 : decode cX12_findCivil 4 = .ok (.ldiv, 1) := by decide +kernel
theorem dX12_findCivil_5 : decode cX12_findCivil 5 = .ok (.l2i, 1) := by decide +kernel
theorem dX12_findCivil_6 : decode cX12_findCivil 6 = .ok (.istore_n 3, 1) := by decide +kernel
theorem dX12_findCivil_7 : decode cX12_findCivil 7 = .ok (.aload_n 0, 1) := by decide +kernel
theorem dX12_findCivil_8 : decode cX12_findCivil 8 = .ok (.iload_n 3, 1) := by decide +kernel
theorem dX12_findCivil_9 : decode cX12_findCivil 9 = .ok (.invokevirtual 240, 3) := by decide +kernel
theorem dX12_findCivil_12 : decode cX12_findCivil 12 = .ok (.lload_n 1, 1) := by decide +kernel
theorem dX12_findCivil_13 : decode cX12_findCivil 13 = .ok (.lcmp, 1) := by decide +kernel
theorem dX12_findCivil_14 : decode cX12_findCivil 14 = .ok (.ifCond .le 9, 3) := by decide +kernel
theorem dX12_findCivil_17 : decode cX12_findCivil 17 = .ok (.iinc 3 (-1), 3) := by decide +kernel
theorem dX12_findCivil_20 : decode cX12_findCivil 20 = .ok (.goto (-13), 3) := by decide +kernel
theorem dX12_findCivil_23 : decode cX12_findCivil 23 = .ok (.aload_n 0, 1) := by decide +kernel
theorem dX12_findCivil_24 : decode cX12_findCivil 24 = .ok (.iload_n 3, 1) := by decide +kernel
theorem dX12_findCivil_25 : decode cX12_findCivil 25 = .ok (.iconst 1, 1) := by decide +kernel
theorem dX12_findCivil_26 : decode cX12_findCivil 26 = .ok (.iadd, 1) := by decide +kernel
theorem dX12_findCivil_27 : decode cX12_findCivil 27 = .ok (.invokevirtual 240, 3) := by decide +kernel
theorem dX12_findCivil_30 : decode cX12_findCivil 30 = .ok (.lload_n 1, 1) := by decide +kernel
theorem dX12_findCivil_31 : decode cX12_findCivil 31 = .ok (.lcmp, 1) := by decide +kernel
theorem dX12_findCivil_32 : decode cX12_findCivil 32 = .ok (.ifCond .gt 9, 3) := by decide +kernel
theorem dX12_findCivil_35 : decode cX12_findCivil 35 = .ok (.iinc 3 1, 3) := by decide +kernel
theorem dX12_findCivil_38 : decode cX12_findCivil 38 = .ok (.goto (-15), 3) := by decide +kernel
theorem dX12_findCivil_41 : decode cX12_findCivil 41 = .ok (.aload_n 0, 1) := by decide +kernel
theorem dX12_findCivil_42 : decode cX12_findCivil 42 = .ok (.iload_n 3, 1) := by decide +kernel
theorem dX12_findCivil_43 : decode cX12_findCivil 43 = .ok (.putfield 244, 3) := by decide +kernel
theorem dX12_findCivil_46 : decode cX12_findCivil 46 = .ok (.aload_n 0, 1) := by decide +kernel
theorem dX12_findCivil_47 : decode cX12_findCivil 47 = .ok (.lload_n 1, 1) := by decide +kernel
theorem dX12_findCivil_48 : decode cX12_findCivil 48 = .ok (.aload_n 0, 1) := by decide +kernel
theorem dX12_findCivil_49 : decode cX12_findCivil 49 = .ok (.iload_n 3, 1) := by decide +kernel
theorem dX12_findCivil_50 : decode cX12_findCivil 50 = .ok (.invokevirtual 240, 3) := by decide +kernel
theorem dX12_findCivil_53 : decode cX12_findCivil 53 = .ok (.lsub, 1) := by decide +kernel
theorem dX12_findCivil_54 : decode cX12_findCivil 54 = .ok (.l2i, 1) := by decide +kernel
theorem dX12_findCivil_55 : decode cX12_findCivil 55 = .ok (.putfield 247, 3) := by decide +kernel
theorem dX12_findCivil_58 : decode cX12_findCivil 58 = .ok (.return_, 1) := by decide +kernel
theorem dX12_leap_0 : decode cX12_leap 0 = .ok (.aload_n 0, 1) := by decide +kernel
theorem dX12_leap_1 : decode cX12_leap 1 = .ok (.iconst 0, 1) := by decide +kernel
theorem dX12_leap_2 : decode cX12_leap 2 = .ok (.putfield 200, 3) := by decide +kernel
theorem dX12_leap_5 : decode cX12_leap 5 = .ok (.aload_n 0, 1) := by decide +kernel
theorem dX12_leap_6 : decode cX12_leap 6 = .ok (.iconst 0, 1) := by decide +kernel
theorem dX12_leap_7 : decode cX12_leap 7 = .ok (.putfield 203, 3) := by decide +kernel
theorem dX12_leap_10 : decode cX12_leap 10 = .ok (.iload_n 1, 1) := by decide +kernel
theorem dX12_leap_11 : decode cX12_leap 11 = .ok (.invokestatic 250, 3) := by decide +kernel
theorem dX12_leap_14 : decode cX12_leap 14 = .ok (.ifCond .eq 15, 3) := by decide +kernel
theorem dX12_leap_17 : decode cX12_leap 17 = .ok (.iload_n 2, 1) := by decide +kernel
theorem dX12_leap_18 : decode cX12_leap 18 = .ok (.i2l, 1) := by decide +kernel
theorem dX12_leap_19 : decode cX12_leap 19 = .ok (.ldc2_w 230, 3) := by decide +kernel
theorem dX12_leap_22 : decode cX12_leap 22 = .ok (.lconst 1, 1) := by decide +kernel
theorem dX12_leap_23 : decode cX12_leap 23 = .ok (.invokestatic 208, 3) := by decide +kernel
theorem dX12_leap_26 : decode cX12_leap 26 = .ok (.ifCond .ne 9, 3) := by decide +kernel
theorem dX12_leap_29 : decode cX12_leap 29 = .ok (.aload_n 0, 1) := by decide +kernel
theorem dX12_leap_30 : decode cX12_leap 30 = .ok (.iconst 5, 1) := by decide +kernel
theorem dX12_leap_31 : decode cX12_leap 31 = .ok (.invokevirtual 214, 3) := by decide +kernel
theorem dX12_leap_34 : decode cX12_leap 34 = .ok (.ireturn, 1) := by decide +kernel
theorem dX12_leap_35 : decode cX12_leap 35 = .ok (.aload_n 0, 1) := by decide +kernel
theorem dX12_leap_36 : decode cX12_leap 36 = .ok (.getfield 232, 3) := by decide +kernel
theorem dX12_leap_39 : decode cX12_leap 39 = .ok (.istore_n 3, 1) := by decide +kernel
theorem dX12_leap_40 : decode cX12_leap 40 = .ok (.iconst 0, 1) := by decide +kernel
theorem dX12_leap_41 : decode cX12_leap 41 = .ok (.istore 4, 2) := by decide +kernel
theorem dX12_leap_43 : decode cX12_leap 43 = .ok (.iload 4, 2) := by decide +kernel
theorem dX12_leap_45 : decode cX12_leap 45 = .ok (.aload_n 0, 1) := by decide +kernel
theorem dX12_leap_46 : decode cX12_leap 46 = .ok (.getfield 232, 3) := by decide +kernel
theorem dX12_leap_49 : decode cX12_leap 49 = .ok (.if_icmp .ge 27, 3) := by decide +kernel
theorem dX12_leap_52 : decode cX12_leap 52 = .ok (.aload_n 0, 1) := by decide +kernel
theorem dX12_leap_53 : decode cX12_leap 53 = .ok (.getfield 20, 3) := by decide +kernel
theorem dX12_leap_56 : decode cX12_leap 56 = .ok (.iload 4, 2) := by decide +kernel
theorem dX12_leap_58 : decode cX12_leap 58 = .ok (.iaload, 1) := by decide +kernel
theorem dX12_leap_59 : decode cX12_leap 59 = .ok (.iload_n 1, 1) := by decide +kernel
theorem dX12_leap_60 : decode cX12_leap 60 = .ok (.if_icmp .ne 8, 3) := by decide +kernel
theorem dX12_leap_63 : decode cX12_leap 63 = .ok (.iload 4, 2) := by decide +kernel
theorem dX12_leap_65 : decode cX12_leap 65 = .ok (.goto 4, 3) := by decide +kernel
theorem dX12_leap_68 : decode cX12_leap 68 = .ok (.iload_n 3, 1) := by decide +kernel
theorem dX12_leap_69 : decode cX12_leap 69 = .ok (.istore_n 3, 1) := by decide +kernel
theorem dX12_leap_70 : decode cX12_leap 70 = .ok (.iinc 4 1, 3) := by decide +kernel
theorem dX12_leap_73 : decode cX12_leap 73 = .ok (.goto (-30), 3) := by decide +kernel
theorem dX12_leap_76 : decode cX12_leap 76 = .ok (.iload_n 2, 1) := by decide +kernel
theorem dX12_leap_77 : decode cX12_leap 77 = .ok (.ifCond .ne 55, 3) := by decide +kernel
theorem dX12_leap_80 : decode cX12_leap 80 = .ok (.iload_n 3, 1) := by decide +kernel
theorem dX12_leap_81 : decode cX12_leap 81 = .ok (.aload_n 0, 1) := by decide +kernel
theorem dX12_leap_82 : decode cX12_leap 82 = .ok (.getfield 232, 3) := by decide +kernel
theorem dX12_leap_85 : decode cX12_leap 85 = .ok (.if_icmp .ne 5, 3) := by decide +kernel
theorem dX12_leap_88 : decode cX12_leap 88 = .ok (.iconst 1, 1) := by decide +kernel
theorem dX12_leap_89 : decode cX12_leap 89 = .ok (.ireturn, 1) := by decide +kernel
theorem dX12_leap_90 : decode cX12_leap 90 = .ok (.aload_n 0, 1) := by decide +kernel
theorem dX12_leap_91 : decode cX12_leap 91 = .ok (.dup, 1) := by decide +kernel
theorem dX12_leap_92 : decode cX12_leap 92 = .ok (.getfield 232, 3) := by decide +kernel
theorem dX12_leap_95 : decode cX12_leap 95 = .ok (.iconst 1, 1) := by decide +kernel
theorem dX12_leap_96 : decode cX12_leap 96 = .ok (.isub, 1) := by decide +kernel
theorem dX12_leap_97 : decode cX12_leap 97 = .ok (.putfield 232, 3) := by decide +kernel
theorem dX12_leap_100 : decode cX12_leap 100 = .ok (.aload_n 0, 1) := by decide +kernel
theorem dX12_leap_101 : decode cX12_leap 101 = .ok (.getfield 20, 3) := by decide +kernel
theorem dX12_leap_104 : decode cX12_leap 104 = .ok (.iload_n 3, 1) := by decide +kernel
theorem dX12_leap_105 : decode cX12_leap 105 = .ok (.aload_n 0, 1) := by decide +kernel
theorem dX12_leap_106 : decode cX12_leap 106 = .ok (.getfield 20, 3) := by decide +kernel
theorem dX12_leap_109 : decode cX12_leap 109 = .ok (.aload_n 0, 1) := by decide +kernel
theorem dX12_leap_110 : decode cX12_leap 110 = .ok (.getfield 232, 3) := by decide +kernel
theorem dX12_leap_113 : decode cX12_leap 113 = .ok (.iaload, 1) := by decide +kernel
theorem dX12_leap_114 : decode cX12_leap 114 = .ok (.iastore, 1) := by decide +kernel
theorem dX12_leap_115 : decode cX12_leap 115 = .ok (.aload_n 0, 1) := by decide +kernel
theorem dX12_leap_116 : decode cX12_leap 116 = .ok (.getfield 23, 3) := by decide +kernel
theorem dX12_leap_119 : decode cX12_leap 119 = .ok (.iload_n 3, 1) := by decide +kernel
theorem dX12_leap_120 : decode cX12_leap 120 = .ok (.aload_n 0, 1) := by decide +kernel
theorem dX12_leap_121 : decode cX12_leap 121 = .ok (.getfield 23, 3) := by decide +kernel
theorem dX12_leap_124 : decode cX12_leap 124 = .ok (.aload_n 0, 1) := by decide +kernel
theorem dX12_leap_125 : decode cX12_leap 125 = .ok (.getfield 232, 3) := by decide +kernel
theorem dX12_leap_128 : decode cX12_leap 128 = .ok (.iaload, 1) := by decide +kernel
theorem dX12_leap_129 : decode cX12_leap 129 = .ok (.iastore, 1) := by decide +kernel
theorem dX12_leap_130 : decode cX12_leap 130 = .ok (.iconst 1, 1) := by decide +kernel
theorem dX12_leap_131 : decode cX12_leap 131 = .ok (.ireturn, 1) := by decide +kernel
theorem dX12_leap_132 : decode cX12_leap 132 = .ok (.iload_n 3, 1) := by decide +kernel
theorem dX12_leap_133 : decode cX12_leap 133 = .ok (.bipush 20, 2) := by decide +kernel
theorem dX12_leap_135 : decode cX12_leap 135 = .ok (.if_icmp .ne 10, 3) := by decide +kernel
theorem dX12_leap_138 : decode cX12_leap 138 = .ok (.aload_n 0, 1) := by decide +kernel
theorem dX12_leap_139 : decode cX12_leap 139 = .ok (.bipush 7, 2) := by decide +kernel
theorem dX12_leap_141 : decode cX12_leap 141 = .ok (.invokevirtual 214, 3) := by decide +kernel
theorem dX12_leap_144 : decode cX12_leap 144 = .ok (.ireturn, 1) := by decide +kernel
theorem dX12_leap_145 : decode cX12_leap 145 = .ok (.aload_n 0, 1) := by decide +kernel
theorem dX12_leap_146 : decode cX12_leap 146 = .ok (.getfield 20, 3) := by decide +kernel
theorem dX12_leap_149 : decode cX12_leap 149 = .ok (.iload_n 3, 1) := by decide +kernel
theorem dX12_leap_150 : decode cX12_leap 150 = .ok (.iload_n 1, 1) := by decide +kernel
theorem dX12_leap_151 : decode cX12_leap 151 = .ok (.iastore, 1) := by decide +kernel
theorem dX12_leap_152 : decode cX12_leap 152 = .ok (.aload_n 0, 1) := by decide +kernel
theorem dX12_leap_153 : decode cX12_leap 153 = .ok (.getfield 23, 3) := by decide +kernel
theorem dX12_leap_156 : decode cX12_leap 156 = .ok (.iload_n 3, 1) := by decide +kernel
theorem dX12_leap_157 : decode cX12_leap 157 = .ok (.iload_n 2, 1) := by decide +kernel
theorem dX12_leap_158 : decode cX12_leap 158 = .ok (.iastore, 1) := by decide +kernel
theorem dX12_leap_159 : decode cX12_leap 159 = .ok (.aload_n 0, 1) := by decide +kernel
theorem dX12_leap_160 : decode cX12_leap 160 = .ok (.aload_n 0, 1) := by decide +kernel
theorem dX12_leap_161 : decode cX12_leap 161 = .ok (.getfield 232, 3) := by decide +kernel
theorem dX12_leap_164 : decode cX12_leap 164 = .ok (.iload_n 3, 1) := by decide +kernel
theorem dX12_leap_165 : decode cX12_leap 165 = .ok (.iconst 1, 1) := by decide +kernel
theorem dX12_leap_166 : decode cX12_leap 166 = .ok (.iadd, 1) := by decide +kernel
theorem dX12_leap_167 : decode cX12_leap 167 = .ok (.invokestatic 253, 3) := by decide +kernel
theorem dX12_leap_170 : decode cX12_leap 170 = .ok (.putfield 232, 3) := by decide +kernel
theorem dX12_leap_173 : decode cX12_leap 173 = .ok (.iconst 1, 1) := by decide +kernel
theorem dX12_leap_174 : decode cX12_leap 174 = .ok (.ireturn, 1) := by decide +kernel
theorem dX12_civil_0 : decode cX12_civil 0 = .ok (.aload_n 0, 1) := by decide +kernel
theorem dX12_civil_1 : decode cX12_civil 1 = .ok (.iconst 0, 1) := by decide +kernel
theorem dX12_civil_2 : decode cX12_civil 2 = .ok (.putfield 200, 3) := by decide +kernel
theorem dX12_civil_5 : decode cX12_civil 5 = .ok (.aload_n 0, 1) := by decide +kernel
theorem dX12_civil_6 : decode cX12_civil 6 = .ok (.iconst 0, 1) := by decide +kernel
theorem dX12_civil_7 : decode cX12_civil 7 = .ok (.putfield 203, 3) := by decide +kernel
theorem dX12_civil_10 : decode cX12_civil 10 = .ok (.iload_n 1, 1) := by decide +kernel
theorem dX12_civil_11 : decode cX12_civil 11 = .ok (.invokestatic 258, 3) := by decide +kernel
theorem dX12_civil_14 : decode cX12_civil 14 = .ok (.ifCond .eq 13, 3) := by decide +kernel
theorem dX12_civil_17 : decode cX12_civil 17 = .ok (.iload_n 2, 1) := by decide +kernel
theorem dX12_civil_18 : decode cX12_civil 18 = .ok (.i2l, 1) := by decide +kernel
theorem dX12_civil_19 : decode cX12_civil 19 = .ok (.lconst 0, 1) := by decide +kernel
theorem dX12_civil_20 : decode cX12_civil 20 = .ok (.lconst 1, 1) := by decide +kernel
theorem dX12_civil_21 : decode cX12_civil 21 = .ok (.invokestatic 208, 3) := by decide +kernel
theorem dX12_civil_24 : decode cX12_civil 24 = .ok (.ifCond .ne 9, 3) := by decide +kernel
theorem dX12_civil_27 : decode cX12_civil 27 = .ok (.aload_n 0, 1) := by decide +kernel
theorem dX12_civil_28 : decode cX12_civil 28 = .ok (.iconst 5, 1) := by decide +kernel
theorem dX12_civil_29 : decode cX12_civil 29 = .ok (.invokevirtual 261, 3) := by decide +kernel
theorem dX12_civil_32 : decode cX12_civil 32 = .ok (.ireturn, 1) := by decide +kernel
theorem dX12_civil_33 : decode cX12_civil 33 = .ok (.aload_n 0, 1) := by decide +kernel
theorem dX12_civil_34 : decode cX12_civil 34 = .ok (.invokevirtual 264, 3) := by decide +kernel
theorem dX12_civil_37 : decode cX12_civil 37 = .ok (.aload_n 0, 1) := by decide +kernel
theorem dX12_civil_38 : decode cX12_civil 38 = .ok (.iload_n 1, 1) := by decide +kernel
theorem dX12_civil_39 : decode cX12_civil 39 = .ok (.i2l, 1) := by decide +kernel
theorem dX12_civil_40 : decode cX12_civil 40 = .ok (.invokevirtual 267, 3) := by decide +kernel
theorem dX12_civil_43 : decode cX12_civil 43 = .ok (.iload_n 2, 1) := by decide +kernel
theorem dX12_civil_44 : decode cX12_civil 44 = .ok (.ifCond .ne 10, 3) := by decide +kernel
theorem dX12_civil_47 : decode cX12_civil 47 = .ok (.aload_n 0, 1) := by decide +kernel
theorem dX12_civil_48 : decode cX12_civil 48 = .ok (.getfield 244, 3) := by decide +kernel
theorem dX12_civil_51 : decode cX12_civil 51 = .ok (.goto 7, 3) := by decide +kernel
theorem dX12_civil_54 : decode cX12_civil 54 = .ok (.aload_n 0, 1) := by decide +kernel
theorem dX12_civil_55 : decode cX12_civil 55 = .ok (.getfield 247, 3) := by decide +kernel
theorem dX12_civil_58 : decode cX12_civil 58 = .ok (.ireturn, 1) := by decide +kernel
theorem dX12_count_0 : decode cX12_count 0 = .ok (.aload_n 0, 1) := by decide +kernel
theorem dX12_count_1 : decode cX12_count 1 = .ok (.iconst 0, 1) := by decide +kernel
theorem dX12_count_2 : decode cX12_count 2 = .ok (.putfield 200, 3) := by decide +kernel
theorem dX12_count_5 : decode cX12_count 5 = .ok (.aload_n 0, 1) := by decide +kernel
theorem dX12_count_6 : decode cX12_count 6 = .ok (.iconst 0, 1) := by decide +kernel
theorem dX12_count_7 : decode cX12_count 7 = .ok (.putfield 203, 3) := by decide +kernel
theorem dX12_count_10 : decode cX12_count 10 = .ok (.iload_n 1, 1) := by decide +kernel
theorem dX12_count_11 : decode cX12_count 11 = .ok (.invokestatic 250, 3) := by decide +kernel
theorem dX12_count_14 : decode cX12_count 14 = .ok (.ifCond .eq 15, 3) := by decide +kernel
theorem dX12_count_17 : decode cX12_count 17 = .ok (.iload_n 2, 1) := by decide +kernel
theorem dX12_count_18 : decode cX12_count 18 = .ok (.i2l, 1) := by decide +kernel
theorem dX12_count_19 : decode cX12_count 19 = .ok (.lconst 0, 1) := by decide +kernel
theorem dX12_count_20 : decode cX12_count 20 = .ok (.ldc2_w 238, 3) := by decide +kernel
theorem dX12_count_23 : decode cX12_count 23 = .ok (.invokestatic 208, 3) := by decide +kernel
theorem dX12_count_26 : decode cX12_count 26 = .ok (.ifCond .ne 9, 3) := by decide +kernel
theorem dX12_count_29 : decode cX12_count 29 = .ok (.aload_n 0, 1) := by decide +kernel
theorem dX12_count_30 : decode cX12_count 30 = .ok (.iconst 5, 1) := by decide +kernel
theorem dX12_count_31 : decode cX12_count 31 = .ok (.invokevirtual 261, 3) := by decide +kernel
theorem dX12_count_34 : decode cX12_count 34 = .ok (.ireturn, 1) := by decide +kernel
theorem dX12_count_35 : decode cX12_count 35 = .ok (.aload_n 0, 1) := by decide +kernel
theorem dX12_count_36 : decode cX12_count 36 = .ok (.invokevirtual 264, 3) := by decide +kernel
theorem dX12_count_39 : decode cX12_count 39 = .ok (.aload_n 0, 1) := by decide +kernel
theorem dX12_count_40 : decode cX12_count 40 = .ok (.iload_n 1, 1) := by decide +kernel
theorem dX12_count_41 : decode cX12_count 41 = .ok (.invokevirtual 240, 3) := by decide +kernel
theorem dX12_count_44 : decode cX12_count 44 = .ok (.iload_n 2, 1) := by decide +kernel
theorem dX12_count_45 : decode cX12_count 45 = .ok (.i2l, 1) := by decide +kernel
theorem dX12_count_46 : decode cX12_count 46 = .ok (.ladd, 1) := by decide +kernel
theorem dX12_count_47 : decode cX12_count 47 = .ok (.lstore_n 3, 1) := by decide +kernel
theorem dX12_count_48 : decode cX12_count 48 = .ok (.lload_n 3, 1) := by decide +kernel
theorem dX12_count_49 : decode cX12_count 49 = .ok (.ldc2_w 212, 3) := by decide +kernel
theorem dX12_count_52 : decode cX12_count 52 = .ok (.lcmp, 1) := by decide +kernel
theorem dX12_count_53 : decode cX12_count 53 = .ok (.ifCond .le 9, 3) := by decide +kernel
theorem dX12_count_56 : decode cX12_count 56 = .ok (.aload_n 0, 1) := by decide +kernel
theorem dX12_count_57 : decode cX12_count 57 = .ok (.iconst 5, 1) := by decide +kernel
theorem dX12_count_58 : decode cX12_count 58 = .ok (.invokevirtual 261, 3) := by decide +kernel
theorem dX12_count_61 : decode cX12_count 61 = .ok (.ireturn, 1) := by decide +kernel
theorem dX12_count_62 : decode cX12_count 62 = .ok (.iload_n 2, 1) := by decide +kernel
theorem dX12_count_63 : decode cX12_count 63 = .ok (.ldc_w 271, 3) := by decide +kernel
theorem dX12_count_66 : decode cX12_count 66 = .ok (.aload_n 0, 1) := by decide +kernel
theorem dX12_count_67 : decode cX12_count 67 = .ok (.iload_n 1, 1) := by decide +kernel
theorem dX12_count_68 : decode cX12_count 68 = .ok (.invokevirtual 272, 3) := by decide +kernel
theorem dX12_count_71 : decode cX12_count 71 = .ok (.iadd, 1) := by decide +kernel
theorem dX12_count_72 : decode cX12_count 72 = .ok (.if_icmp .ge 8, 3) := by decide +kernel
theorem dX12_count_75 : decode cX12_count 75 = .ok (.lload_n 3, 1) := by decide +kernel
theorem dX12_count_76 : decode cX12_count 76 = .ok (.l2i, 1) := by decide +kernel
theorem dX12_count_77 : decode cX12_count 77 = .ok (.goto 9, 3) := by decide +kernel
theorem dX12_count_80 : decode cX12_count 80 = .ok (.aload_n 0, 1) := by decide +kernel
theorem dX12_count_81 : decode cX12_count 81 = .ok (.bipush 9, 2) := by decide +kernel
theorem dX12_count_83 : decode cX12_count 83 = .ok (.invokevirtual 261, 3) := by decide +kernel
theorem dX12_count_86 : decode cX12_count 86 = .ok (.ireturn, 1) := by decide +kernel
theorem dX12_isClock_0 : decode cX12_isClock 0 = .ok (.iload_n 1, 1) := by decide +kernel
theorem dX12_isClock_1 : decode cX12_isClock 1 = .ok (.i2l, 1) := by decide +kernel
theorem dX12_isClock_2 : decode cX12_isClock 2 = .ok (.lconst 0, 1) := by decide +kernel
theorem dX12_isClock_3 : decode cX12_isClock 3 = .ok (.aload_n 0, 1) := by decide +kernel
theorem dX12_isClock_4 : decode cX12_isClock 4 = .ok (.getfield 275, 3) := by decide +kernel
theorem dX12_isClock_7 : decode cX12_isClock 7 = .ok (.iconst 1, 1) := by decide +kernel
theorem dX12_isClock_8 : decode cX12_isClock 8 = .ok (.isub, 1) := by decide +kernel
theorem dX12_isClock_9 : decode cX12_isClock 9 = .ok (.i2l, 1) := by decide +kernel
theorem dX12_isClock_10 : decode cX12_isClock 10 = .ok (.invokestatic 208, 3) := by decide +kernel
theorem dX12_isClock_13 : decode cX12_isClock 13 = .ok (.ireturn, 1) := by decide +kernel
theorem dX12_clock_0 : decode cX12_clock 0 = .ok (.aload_n 0, 1) := by decide +kernel
theorem dX12_clock_1 : decode cX12_clock 1 = .ok (.iconst 0, 1) := by decide +kernel
theorem dX12_clock_2 : decode cX12_clock 2 = .ok (.putfield 200, 3) := by decide +kernel
theorem dX12_clock_5 : decode cX12_clock 5 = .ok (.aload_n 0, 1) := by decide +kernel
theorem dX12_clock_6 : decode cX12_clock 6 = .ok (.iconst 0, 1) := by decide +kernel
theorem dX12_clock_7 : decode cX12_clock 7 = .ok (.putfield 203, 3) := by decide +kernel
theorem dX12_clock_10 : decode cX12_clock 10 = .ok (.iload_n 1, 1) := by decide +kernel
theorem dX12_clock_11 : decode cX12_clock 11 = .ok (.i2l, 1) := by decide +kernel
theorem dX12_clock_12 : decode cX12_clock 12 = .ok (.lconst 0, 1) := by decide +kernel
theorem dX12_clock_13 : decode cX12_clock 13 = .ok (.ldc2_w 278, 3) := by decide +kernel
theorem dX12_clock_16 : decode cX12_clock 16 = .ok (.invokestatic 208, 3) := by decide +kernel
theorem dX12_clock_19 : decode cX12_clock 19 = .ok (.ifCond .ne 9, 3) := by decide +kernel
theorem dX12_clock_22 : decode cX12_clock 22 = .ok (.aload_n 0, 1) := by decide +kernel
theorem dX12_clock_23 : decode cX12_clock 23 = .ok (.iconst 5, 1) := by decide +kernel
theorem dX12_clock_24 : decode cX12_clock 24 = .ok (.invokevirtual 261, 3) := by decide +kernel
theorem dX12_clock_27 : decode cX12_clock 27 = .ok (.ireturn, 1) := by decide +kernel
theorem dX12_clock_28 : decode cX12_clock 28 = .ok (.aload_n 0, 1) := by decide +kernel
theorem dX12_clock_29 : decode cX12_clock 29 = .ok (.getfield 275, 3) := by decide +kernel
theorem dX12_clock_32 : decode cX12_clock 32 = .ok (.bipush 12, 2) := by decide +kernel
theorem dX12_clock_34 : decode cX12_clock 34 = .ok (.if_icmp .ne 10, 3) := by decide +kernel
theorem dX12_clock_37 : decode cX12_clock 37 = .ok (.aload_n 0, 1) := by decide +kernel
theorem dX12_clock_38 : decode cX12_clock 38 = .ok (.bipush 7, 2) := by decide +kernel
theorem dX12_clock_40 : decode cX12_clock 40 = .ok (.invokevirtual 261, 3) := by decide +kernel
theorem dX12_clock_43 : decode cX12_clock 43 = .ok (.ireturn, 1) := by decide +kernel
theorem dX12_clock_44 : decode cX12_clock 44 = .ok (.aload_n 0, 1) := by decide +kernel
theorem dX12_clock_45 : decode cX12_clock 45 = .ok (.getfield 32, 3) := by decide +kernel
theorem dX12_clock_48 : decode cX12_clock 48 = .ok (.aload_n 0, 1) := by decide +kernel
theorem dX12_clock_49 : decode cX12_clock 49 = .ok (.getfield 275, 3) := by decide +kernel
theorem dX12_clock_52 : decode cX12_clock 52 = .ok (.iload_n 1, 1) := by decide +kernel
theorem dX12_clock_53 : decode cX12_clock 53 = .ok (.iastore, 1) := by decide +kernel
theorem dX12_clock_54 : decode cX12_clock 54 = .ok (.aload_n 0, 1) := by decide +kernel
theorem dX12_clock_55 : decode cX12_clock 55 = .ok (.dup, 1) := by decide +kernel
theorem dX12_clock_56 : decode cX12_clock 56 = .ok (.getfield 275, 3) := by decide +kernel
theorem dX12_clock_59 : decode cX12_clock 59 = .ok (.iconst 1, 1) := by decide +kernel
theorem dX12_clock_60 : decode cX12_clock 60 = .ok (.iadd, 1) := by decide +kernel
theorem dX12_clock_61 : decode cX12_clock 61 = .ok (.putfield 275, 3) := by decide +kernel
theorem dX12_clock_64 : decode cX12_clock 64 = .ok (.aload_n 0, 1) := by decide +kernel
theorem dX12_clock_65 : decode cX12_clock 65 = .ok (.getfield 275, 3) := by decide +kernel
theorem dX12_clock_68 : decode cX12_clock 68 = .ok (.iconst 1, 1) := by decide +kernel
theorem dX12_clock_69 : decode cX12_clock 69 = .ok (.isub, 1) := by decide +kernel
theorem dX12_clock_70 : decode cX12_clock 70 = .ok (.ireturn, 1) := by decide +kernel
theorem dX12_step_0 : decode cX12_step 0 = .ok (.aload_n 0, 1) := by decide +kernel
theorem dX12_step_1 : decode cX12_step 1 = .ok (.iconst 0, 1) := by decide +kernel
theorem dX12_step_2 : decode cX12_step 2 = .ok (.putfield 200, 3) := by decide +kernel
theorem dX12_step_5 : decode cX12_step 5 = .ok (.aload_n 0, 1) := by decide +kernel
theorem dX12_step_6 : decode cX12_step 6 = .ok (.iconst 0, 1) := by decide +kernel
theorem dX12_step_7 : decode cX12_step 7 = .ok (.putfield 203, 3) := by decide +kernel
theorem dX12_step_10 : decode cX12_step 10 = .ok (.aload_n 0, 1) := by decide +kernel
theorem dX12_step_11 : decode cX12_step 11 = .ok (.iload_n 1, 1) := by decide +kernel
theorem dX12_step_12 : decode cX12_step 12 = .ok (.invokevirtual 280, 3) := by decide +kernel
theorem dX12_step_15 : decode cX12_step 15 = .ok (.ifCond .ne 9, 3) := by decide +kernel
theorem dX12_step_18 : decode cX12_step 18 = .ok (.aload_n 0, 1) := by decide +kernel
theorem dX12_step_19 : decode cX12_step 19 = .ok (.iconst 2, 1) := by decide +kernel
theorem dX12_step_20 : decode cX12_step 20 = .ok (.invokevirtual 214, 3) := by decide +kernel
theorem dX12_step_23 : decode cX12_step 23 = .ok (.ireturn, 1) := by decide +kernel
theorem dX12_step_24 : decode cX12_step 24 = .ok (.iload_n 2, 1) := by decide +kernel
theorem dX12_step_25 : decode cX12_step 25 = .ok (.invokestatic 258, 3) := by decide +kernel
theorem dX12_step_28 : decode cX12_step 28 = .ok (.ifCond .ne 9, 3) := by decide +kernel
theorem dX12_step_31 : decode cX12_step 31 = .ok (.aload_n 0, 1) := by decide +kernel
theorem dX12_step_32 : decode cX12_step 32 = .ok (.iconst 5, 1) := by decide +kernel
theorem dX12_step_33 : decode cX12_step 33 = .ok (.invokevirtual 214, 3) := by decide +kernel
theorem dX12_step_36 : decode cX12_step 36 = .ok (.ireturn, 1) := by decide +kernel
theorem dX12_step_37 : decode cX12_step 37 = .ok (.aload_n 0, 1) := by decide +kernel
theorem dX12_step_38 : decode cX12_step 38 = .ok (.getfield 283, 3) := by decide +kernel
theorem dX12_step_41 : decode cX12_step 41 = .ok (.bipush 60, 2) := by decide +kernel
theorem dX12_step_43 : decode cX12_step 43 = .ok (.if_icmp .ne 10, 3) := by decide +kernel
theorem dX12_step_46 : decode cX12_step 46 = .ok (.aload_n 0, 1) := by decide +kernel
theorem dX12_step_47 : decode cX12_step 47 = .ok (.bipush 7, 2) := by decide +kernel
theorem dX12_step_49 : decode cX12_step 49 = .ok (.invokevirtual 214, 3) := by decide +kernel
theorem dX12_step_52 : decode cX12_step 52 = .ok (.ireturn, 1) := by decide +kernel
theorem dX12_step_53 : decode cX12_step 53 = .ok (.aload_n 0, 1) := by decide +kernel
theorem dX12_step_54 : decode cX12_step 54 = .ok (.getfield 35, 3) := by decide +kernel
theorem dX12_step_57 : decode cX12_step 57 = .ok (.aload_n 0, 1) := by decide +kernel
theorem dX12_step_58 : decode cX12_step 58 = .ok (.getfield 283, 3) := by decide +kernel
theorem dX12_step_61 : decode cX12_step 61 = .ok (.iload_n 1, 1) := by decide +kernel
theorem dX12_step_62 : decode cX12_step 62 = .ok (.iastore, 1) := by decide +kernel
theorem dX12_step_63 : decode cX12_step 63 = .ok (.aload_n 0, 1) := by decide +kernel
theorem dX12_step_64 : decode cX12_step 64 = .ok (.getfield 38, 3) := by decide +kernel
theorem dX12_step_67 : decode cX12_step 67 = .ok (.aload_n 0, 1) := by decide +kernel
theorem dX12_step_68 : decode cX12_step 68 = .ok (.getfield 283, 3) := by decide +kernel
theorem dX12_step_71 : decode cX12_step 71 = .ok (.iload_n 2, 1) := by decide +kernel
theorem dX12_step_72 : decode cX12_step 72 = .ok (.iastore, 1) := by decide +kernel
theorem dX12_step_73 : decode cX12_step 73 = .ok (.aload_n 0, 1) := by decide +kernel
theorem dX12_step_74 : decode cX12_step 74 = .ok (.dup, 1) := by decide +kernel
theorem dX12_step_75 : decode cX12_step 75 = .ok (.getfield 283, 3) := by decide +kernel
theorem dX12_step_78 : decode cX12_step 78 = .ok (.iconst 1, 1) := by decide +kernel
theorem dX12_step_79 : decode cX12_step 79 = .ok (.iadd, 1) := by decide +kernel
theorem dX12_step_80 : decode cX12_step 80 = .ok (.putfield 283, 3) := by decide +kernel
theorem dX12_step_83 : decode cX12_step 83 = .ok (.iconst 1, 1) := by decide +kernel
theorem dX12_step_84 : decode cX12_step 84 = .ok (.ireturn, 1) := by decide +kernel
theorem dX12_takeClock_0 : decode cX12_takeClock 0 = .ok (.aload_n 0, 1) := by decide +kernel
theorem dX12_takeClock_1 : decode cX12_takeClock 1 = .ok (.iconst 0, 1) := by decide +kernel
theorem dX12_takeClock_2 : decode cX12_takeClock 2 = .ok (.putfield 235, 3) := by decide +kernel
theorem dX12_takeClock_5 : decode cX12_takeClock 5 = .ok (.aload_n 0, 1) := by decide +kernel
theorem dX12_takeClock_6 : decode cX12_takeClock 6 = .ok (.getfield 286, 3) := by decide +kernel
theorem dX12_takeClock_9 : decode cX12_takeClock 9 = .ok (.iconst 1, 1) := by decide +kernel
theorem dX12_takeClock_10 : decode cX12_takeClock 10 = .ok (.isub, 1) := by decide +kernel
theorem dX12_takeClock_11 : decode cX12_takeClock 11 = .ok (.istore_n 2, 1) := by decide +kernel
theorem dX12_takeClock_12 : decode cX12_takeClock 12 = .ok (.iload_n 2, 1) := by decide +kernel
theorem dX12_takeClock_13 : decode cX12_takeClock 13 = .ok (.ifCond .lt 123, 3) := by decide +kernel
theorem dX12_takeClock_16 : decode cX12_takeClock 16 = .ok (.aload_n 0, 1) := by decide +kernel
theorem dX12_takeClock_17 : decode cX12_takeClock 17 = .ok (.getfield 98, 3) := by decide +kernel
theorem dX12_takeClock_20 : decode cX12_takeClock 20 = .ok (.iload_n 2, 1) := by decide +kernel
theorem dX12_takeClock_21 : decode cX12_takeClock 21 = .ok (.iaload, 1) := by decide +kernel
theorem dX12_takeClock_22 : decode cX12_takeClock 22 = .ok (.iload_n 1, 1) := by decide +kernel
theorem dX12_takeClock_23 : decode cX12_takeClock 23 = .ok (.if_icmp .ne 107, 3) := by decide +kernel
theorem dX12_takeClock_26 : decode cX12_takeClock 26 = .ok (.aload_n 0, 1) := by decide +kernel
theorem dX12_takeClock_27 : decode cX12_takeClock 27 = .ok (.iload_n 2, 1) := by decide +kernel
theorem dX12_takeClock_28 : decode cX12_takeClock 28 = .ok (.invokevirtual 289, 3) := by decide +kernel
theorem dX12_takeClock_31 : decode cX12_takeClock 31 = .ok (.ifCond .ne 6, 3) := by decide +kernel
theorem dX12_takeClock_34 : decode cX12_takeClock 34 = .ok (.goto 96, 3) := by decide +kernel
theorem dX12_takeClock_37 : decode cX12_takeClock 37 = .ok (.iconst 0, 1) := by decide +kernel
theorem dX12_takeClock_38 : decode cX12_takeClock 38 = .ok (.istore_n 3, 1) := by decide +kernel
theorem dX12_takeClock_39 : decode cX12_takeClock 39 = .ok (.iconst 0, 1) := by decide +kernel
theorem dX12_takeClock_40 : decode cX12_takeClock 40 = .ok (.istore 4, 2) := by decide +kernel
theorem dX12_takeClock_42 : decode cX12_takeClock 42 = .ok (.iload 4, 2) := by decide +kernel
theorem dX12_takeClock_44 : decode cX12_takeClock 44 = .ok (.aload_n 0, 1) := by decide +kernel
theorem dX12_takeClock_45 : decode cX12_takeClock 45 = .ok (.getfield 235, 3) := by decide +kernel
theorem dX12_takeClock_48 : decode cX12_takeClock 48 = .ok (.if_icmp .ge 35, 3) := by decide +kernel
theorem dX12_takeClock_51 : decode cX12_takeClock 51 = .ok (.iload_n 3, 1) := by decide +kernel
theorem dX12_takeClock_52 : decode cX12_takeClock 52 = .ok (.ifCond .ne 19, 3) := by decide +kernel
theorem dX12_takeClock_55 : decode cX12_takeClock 55 = .ok (.aload_n 0, 1) := by decide +kernel
theorem dX12_takeClock_56 : decode cX12_takeClock 56 = .ok (.getfield 26, 3) := by decide +kernel
theorem dX12_takeClock_59 : decode cX12_takeClock 59 = .ok (.iload 4, 2) := by decide +kernel
theorem dX12_takeClock_61 : decode cX12_takeClock 61 = .ok (.iaload, 1) := by decide +kernel
theorem dX12_takeClock_62 : decode cX12_takeClock 62 = .ok (.aload_n 0, 1) := by decide +kernel
theorem dX12_takeClock_63 : decode cX12_takeClock 63 = .ok (.getfield 101, 3) := by decide +kernel
theorem dX12_takeClock_66 : decode cX12_takeClock 66 = .ok (.iload_n 2, 1) := by decide +kernel
theorem dX12_takeClock_67 : decode cX12_takeClock 67 = .ok (.iaload, 1) := by decide +kernel
theorem dX12_takeClock_68 : decode cX12_takeClock 68 = .ok (.if_icmp .ne 7, 3) := by decide +kernel
theorem dX12_takeClock_71 : decode cX12_takeClock 71 = .ok (.iconst 1, 1) := by decide +kernel
theorem dX12_takeClock_72 : decode cX12_takeClock 72 = .ok (.goto 4, 3) := by decide +kernel
theorem dX12_takeClock_75 : decode cX12_takeClock 75 = .ok (.iconst 0, 1) := by decide +kernel
theorem dX12_takeClock_76 : decode cX12_takeClock 76 = .ok (.istore_n 3, 1) := by decide +kernel
theorem dX12_takeClock_77 : decode cX12_takeClock 77 = .ok (.iinc 4 1, 3) := by decide +kernel
theorem dX12_takeClock_80 : decode cX12_takeClock 80 = .ok (.goto (-38), 3) := by decide +kernel
theorem dX12_takeClock_83 : decode cX12_takeClock 83 = .ok (.iload_n 3, 1) := by decide +kernel
theorem dX12_takeClock_84 : decode cX12_takeClock 84 = .ok (.ifCond .eq 6, 3) := by decide +kernel
theorem dX12_takeClock_87 : decode cX12_takeClock 87 = .ok (.goto 43, 3) := by decide +kernel
theorem dX12_takeClock_90 : decode cX12_takeClock 90 = .ok (.aload_n 0, 1) := by decide +kernel
theorem dX12_takeClock_91 : decode cX12_takeClock 91 = .ok (.getfield 26, 3) := by decide +kernel
theorem dX12_takeClock_94 : decode cX12_takeClock 94 = .ok (.aload_n 0, 1) := by decide +kernel
theorem dX12_takeClock_95 : decode cX12_takeClock 95 = .ok (.getfield 235, 3) := by decide +kernel
theorem dX12_takeClock_98 : decode cX12_takeClock 98 = .ok (.aload_n 0, 1) := by decide +kernel
theorem dX12_takeClock_99 : decode cX12_takeClock 99 = .ok (.getfield 101, 3) := by decide +kernel
theorem dX12_takeClock_102 : decode cX12_takeClock 102 = .ok (.iload_n 2, 1) := by decide +kernel
theorem dX12_takeClock_103 : decode cX12_takeClock 103 = .ok (.iaload, 1) := by decide +kernel
theorem dX12_takeClock_104 : decode cX12_takeClock 104 = .ok (.iastore, 1) := by decide +kernel
theorem dX12_takeClock_105 : decode cX12_takeClock 105 = .ok (.aload_n 0, 1) := by decide +kernel
theorem dX12_takeClock_106 : decode cX12_takeClock 106 = .ok (.getfield 29, 3) := by decide +kernel
theorem dX12_takeClock_109 : decode cX12_takeClock 109 = .ok (.aload_n 0, 1) := by decide +kernel
theorem dX12_takeClock_110 : decode cX12_takeClock 110 = .ok (.getfield 235, 3) := by decide +kernel
theorem dX12_takeClock_113 : decode cX12_takeClock 113 = .ok (.aload_n 0, 1) := by decide +kernel
theorem dX12_takeClock_114 : decode cX12_takeClock 114 = .ok (.getfield 104, 3) := by decide +kernel
theorem dX12_takeClock_117 : decode cX12_takeClock 117 = .ok (.iload_n 2, 1) := by decide +kernel
theorem dX12_takeClock_118 : decode cX12_takeClock 118 = .ok (.iaload, 1) := by decide +kernel
theorem dX12_takeClock_119 : decode cX12_takeClock 119 = .ok (.iastore, 1) := by decide +kernel
theorem dX12_takeClock_120 : decode cX12_takeClock 120 = .ok (.aload_n 0, 1) := by decide +kernel
theorem dX12_takeClock_121 : decode cX12_takeClock 121 = .ok (.dup, 1) := by decide +kernel
theorem dX12_takeClock_122 : decode cX12_takeClock 122 = .ok (.getfield 235, 3) := by decide +kernel
theorem dX12_takeClock_125 : decode cX12_takeClock 125 = .ok (.iconst 1, 1) := by decide +kernel
theorem dX12_takeClock_126 : decode cX12_takeClock 126 = .ok (.iadd, 1) := by decide +kernel
theorem dX12_takeClock_127 : decode cX12_takeClock 127 = .ok (.putfield 235, 3) := by decide +kernel
theorem dX12_takeClock_130 : decode cX12_takeClock 130 = .ok (.iinc 2 (-1), 3) := by decide +kernel
theorem dX12_takeClock_133 : decode cX12_takeClock 133 = .ok (.goto (-121), 3) := by decide +kernel
theorem dX12_takeClock_136 : decode cX12_takeClock 136 = .ok (.return_, 1) := by decide +kernel
theorem dX12_findSteps_0 : decode cX12_findSteps 0 = .ok (.aload_n 0, 1) := by decide +kernel
theorem dX12_findSteps_1 : decode cX12_findSteps 1 = .ok (.iconst 0, 1) := by decide +kernel
theorem dX12_findSteps_2 : decode cX12_findSteps 2 = .ok (.putfield 292, 3) := by decide +kernel
theorem dX12_findSteps_5 : decode cX12_findSteps 5 = .ok (.aload_n 0, 1) := by decide +kernel
theorem dX12_findSteps_6 : decode cX12_findSteps 6 = .ok (.invokevirtual 264, 3) := by decide +kernel
theorem dX12_findSteps_9 : decode cX12_findSteps 9 = .ok (.iconst 0, 1) := by decide +kernel
theorem dX12_findSteps_10 : decode cX12_findSteps 10 = .ok (.istore_n 2, 1) := by decide +kernel
theorem dX12_findSteps_11 : decode cX12_findSteps 11 = .ok (.iload_n 2, 1) := by decide +kernel
theorem dX12_findSteps_12 : decode cX12_findSteps 12 = .ok (.aload_n 0, 1) := by decide +kernel
theorem dX12_findSteps_13 : decode cX12_findSteps 13 = .ok (.getfield 283, 3) := by decide +kernel
theorem dX12_findSteps_16 : decode cX12_findSteps 16 = .ok (.if_icmp .ge 90, 3) := by decide +kernel
theorem dX12_findSteps_19 : decode cX12_findSteps 19 = .ok (.aload_n 0, 1) := by decide +kernel
theorem dX12_findSteps_20 : decode cX12_findSteps 20 = .ok (.getfield 35, 3) := by decide +kernel
theorem dX12_findSteps_23 : decode cX12_findSteps 23 = .ok (.iload_n 2, 1) := by decide +kernel
theorem dX12_findSteps_24 : decode cX12_findSteps 24 = .ok (.iaload, 1) := by decide +kernel
theorem dX12_findSteps_25 : decode cX12_findSteps 25 = .ok (.iload_n 1, 1) := by decide +kernel
theorem dX12_findSteps_26 : decode cX12_findSteps 26 = .ok (.if_icmp .eq 6, 3) := by decide +kernel
theorem dX12_findSteps_29 : decode cX12_findSteps 29 = .ok (.goto 71, 3) := by decide +kernel
theorem dX12_findSteps_32 : decode cX12_findSteps 32 = .ok (.aload_n 0, 1) := by decide +kernel
theorem dX12_findSteps_33 : decode cX12_findSteps 33 = .ok (.getfield 292, 3) := by decide +kernel
theorem dX12_findSteps_36 : decode cX12_findSteps 36 = .ok (.istore_n 3, 1) := by decide +kernel
theorem dX12_findSteps_37 : decode cX12_findSteps 37 = .ok (.iload_n 3, 1) := by decide +kernel
theorem dX12_findSteps_38 : decode cX12_findSteps 38 = .ok (.ifCond .le 40, 3) := by decide +kernel
theorem dX12_findSteps_41 : decode cX12_findSteps 41 = .ok (.aload_n 0, 1) := by decide +kernel
theorem dX12_findSteps_42 : decode cX12_findSteps 42 = .ok (.getfield 173, 3) := by decide +kernel
theorem dX12_findSteps_45 : decode cX12_findSteps 45 = .ok (.iload_n 3, 1) := by decide +kernel
theorem dX12_findSteps_46 : decode cX12_findSteps 46 = .ok (.iconst 1, 1) := by decide +kernel
theorem dX12_findSteps_47 : decode cX12_findSteps 47 = .ok (.isub, 1) := by decide +kernel
theorem dX12_findSteps_48 : decode cX12_findSteps 48 = .ok (.iaload, 1) := by decide +kernel
theorem dX12_findSteps_49 : decode cX12_findSteps 49 = .ok (.aload_n 0, 1) := by decide +kernel
theorem dX12_findSteps_50 : decode cX12_findSteps 50 = .ok (.getfield 38, 3) := by decide +kernel
theorem dX12_findSteps_53 : decode cX12_findSteps 53 = .ok (.iload_n 2, 1) := by decide +kernel
theorem dX12_findSteps_54 : decode cX12_findSteps 54 = .ok (.iaload, 1) := by decide +kernel
theorem dX12_findSteps_55 : decode cX12_findSteps 55 = .ok (.if_icmp .le 23, 3) := by decide +kernel
theorem dX12_findSteps_58 : decode cX12_findSteps 58 = .ok (.aload_n 0, 1) := by decide +kernel
theorem dX12_findSteps_59 : decode cX12_findSteps 59 = .ok (.getfield 173, 3) := by decide +kernel
theorem dX12_findSteps_62 : decode cX12_findSteps 62 = .ok (.iload_n 3, 1) := by decide +kernel
theorem dX12_findSteps_63 : decode cX12_findSteps 63 = .ok (.aload_n 0, 1) := by decide +kernel
theorem dX12_findSteps_64 : decode cX12_findSteps 64 = .ok (.getfield 173, 3) := by decide +kernel
theorem dX12_findSteps_67 : decode cX12_findSteps 67 = .ok (.iload_n 3, 1) := by decide +kernel
theorem dX12_findSteps_68 : decode cX12_findSteps 68 = .ok (.iconst 1, 1) := by decide +kernel
theorem dX12_findSteps_69 : decode cX12_findSteps 69 = .ok (.isub, 1) := by decide +kernel
theorem dX12_findSteps_70 : decode cX12_findSteps 70 = .ok (.iaload, 1) := by decide +kernel
theorem dX12_findSteps_71 : decode cX12_findSteps 71 = .ok (.iastore, 1) := by decide +kernel
theorem dX12_findSteps_72 : decode cX12_findSteps 72 = .ok (.iinc 3 (-1), 3) := by decide +kernel
theorem dX12_findSteps_75 : decode cX12_findSteps 75 = .ok (.goto (-38), 3) := by decide +kernel
theorem dX12_findSteps_78 : decode cX12_findSteps 78 = .ok (.aload_n 0, 1) := by decide +kernel
theorem dX12_findSteps_79 : decode cX12_findSteps 79 = .ok (.getfield 173, 3) := by decide +kernel
theorem dX12_findSteps_82 : decode cX12_findSteps 82 = .ok (.iload_n 3, 1) := by decide +kernel
theorem dX12_findSteps_83 : decode cX12_findSteps 83 = .ok (.aload_n 0, 1) := by decide +kernel
theorem dX12_findSteps_84 : decode cX12_findSteps 84 = .ok (.getfield 38, 3) := by decide +kernel
theorem dX12_findSteps_87 : decode cX12_findSteps 87 = .ok (.iload_n 2, 1) := by decide +kernel
theorem dX12_findSteps_88 : decode cX12_findSteps 88 = .ok (.iaload, 1) := by decide +kernel
theorem dX12_findSteps_89 : decode cX12_findSteps 89 = .ok (.iastore, 1) := by decide +kernel
theorem dX12_findSteps_90 : decode cX12_findSteps 90 = .ok (.aload_n 0, 1) := by decide +kernel
theorem dX12_findSteps_91 : decode cX12_findSteps 91 = .ok (.dup, 1) := by decide +kernel
theorem dX12_findSteps_92 : decode cX12_findSteps 92 = .ok (.getfield 292, 3) := by decide +kernel
theorem dX12_findSteps_95 : decode cX12_findSteps 95 = .ok (.iconst 1, 1) := by decide +kernel
theorem dX12_findSteps_96 : decode cX12_findSteps 96 = .ok (.iadd, 1) := by decide +kernel
theorem dX12_findSteps_97 : decode cX12_findSteps 97 = .ok (.putfield 292, 3) := by decide +kernel
theorem dX12_findSteps_100 : decode cX12_findSteps 100 = .ok (.iinc 2 1, 3) := by decide +kernel
theorem dX12_findSteps_103 : decode cX12_findSteps 103 = .ok (.goto (-92), 3) := by decide +kernel
theorem dX12_findSteps_106 : decode cX12_findSteps 106 = .ok (.iconst 0, 1) := by decide +kernel
theorem dX12_findSteps_107 : decode cX12_findSteps 107 = .ok (.istore_n 2, 1) := by decide +kernel
theorem dX12_findSteps_108 : decode cX12_findSteps 108 = .ok (.iload_n 2, 1) := by decide +kernel
theorem dX12_findSteps_109 : decode cX12_findSteps 109 = .ok (.aload_n 0, 1) := by decide +kernel
theorem dX12_findSteps_110 : decode cX12_findSteps 110 = .ok (.getfield 292, 3) := by decide +kernel
theorem dX12_findSteps_113 : decode cX12_findSteps 113 = .ok (.if_icmp .ge 40, 3) := by decide +kernel
theorem dX12_findSteps_116 : decode cX12_findSteps 116 = .ok (.aload_n 0, 1) := by decide +kernel
theorem dX12_findSteps_117 : decode cX12_findSteps 117 = .ok (.aload_n 0, 1) := by decide +kernel
theorem dX12_findSteps_118 : decode cX12_findSteps 118 = .ok (.getfield 173, 3) := by decide +kernel
theorem dX12_findSteps_121 : decode cX12_findSteps 121 = .ok (.iload_n 2, 1) := by decide +kernel
theorem dX12_findSteps_122 : decode cX12_findSteps 122 = .ok (.iaload, 1) := by decide +kernel
theorem dX12_findSteps_123 : decode cX12_findSteps 123 = .ok (.i2l, 1) := by decide +kernel
theorem dX12_findSteps_124 : decode cX12_findSteps 124 = .ok (.invokevirtual 267, 3) := by decide +kernel
theorem dX12_findSteps_127 : decode cX12_findSteps 127 = .ok (.aload_n 0, 1) := by decide +kernel
theorem dX12_findSteps_128 : decode cX12_findSteps 128 = .ok (.getfield 179, 3) := by decide +kernel
theorem dX12_findSteps_131 : decode cX12_findSteps 131 = .ok (.iload_n 2, 1) := by decide +kernel
theorem dX12_findSteps_132 : decode cX12_findSteps 132 = .ok (.aload_n 0, 1) := by decide +kernel
theorem dX12_findSteps_133 : decode cX12_findSteps 133 = .ok (.getfield 244, 3) := by decide +kernel
theorem dX12_findSteps_136 : decode cX12_findSteps 136 = .ok (.iastore, 1) := by decide +kernel
theorem dX12_findSteps_137 : decode cX12_findSteps 137 = .ok (.aload_n 0, 1) := by decide +kernel
theorem dX12_findSteps_138 : decode cX12_findSteps 138 = .ok (.getfield 182, 3) := by decide +kernel
theorem dX12_findSteps_141 : decode cX12_findSteps 141 = .ok (.iload_n 2, 1) := by decide +kernel
theorem dX12_findSteps_142 : decode cX12_findSteps 142 = .ok (.aload_n 0, 1) := by decide +kernel
theorem dX12_findSteps_143 : decode cX12_findSteps 143 = .ok (.getfield 247, 3) := by decide +kernel
theorem dX12_findSteps_146 : decode cX12_findSteps 146 = .ok (.iastore, 1) := by decide +kernel
theorem dX12_findSteps_147 : decode cX12_findSteps 147 = .ok (.iinc 2 1, 3) := by decide +kernel
theorem dX12_findSteps_150 : decode cX12_findSteps 150 = .ok (.goto (-42), 3) := by decide +kernel
theorem dX12_findSteps_153 : decode cX12_findSteps 153 = .ok (.aload_n 0, 1) := by decide +kernel
theorem dX12_findSteps_154 : decode cX12_findSteps 154 = .ok (.iload_n 1, 1) := by decide +kernel
theorem dX12_findSteps_155 : decode cX12_findSteps 155 = .ok (.invokevirtual 295, 3) := by decide +kernel
theorem dX12_findSteps_158 : decode cX12_findSteps 158 = .ok (.iconst 0, 1) := by decide +kernel
theorem dX12_findSteps_159 : decode cX12_findSteps 159 = .ok (.istore_n 2, 1) := by decide +kernel
theorem dX12_findSteps_160 : decode cX12_findSteps 160 = .ok (.iload_n 2, 1) := by decide +kernel
theorem dX12_findSteps_161 : decode cX12_findSteps 161 = .ok (.aload_n 0, 1) := by decide +kernel
theorem dX12_findSteps_162 : decode cX12_findSteps 162 = .ok (.getfield 292, 3) := by decide +kernel
theorem dX12_findSteps_165 : decode cX12_findSteps 165 = .ok (.if_icmp .ge 94, 3) := by decide +kernel
theorem dX12_findSteps_168 : decode cX12_findSteps 168 = .ok (.aload_n 0, 1) := by decide +kernel
theorem dX12_findSteps_169 : decode cX12_findSteps 169 = .ok (.getfield 182, 3) := by decide +kernel
theorem dX12_findSteps_172 : decode cX12_findSteps 172 = .ok (.iload_n 2, 1) := by decide +kernel
theorem dX12_findSteps_173 : decode cX12_findSteps 173 = .ok (.iaload, 1) := by decide +kernel
theorem dX12_findSteps_174 : decode cX12_findSteps 174 = .ok (.ldc_w 271, 3) := by decide +kernel
theorem dX12_findSteps_177 : decode cX12_findSteps 177 = .ok (.aload_n 0, 1) := by decide +kernel
theorem dX12_findSteps_178 : decode cX12_findSteps 178 = .ok (.aload_n 0, 1) := by decide +kernel
theorem dX12_findSteps_179 : decode cX12_findSteps 179 = .ok (.getfield 179, 3) := by decide +kernel
theorem dX12_findSteps_182 : decode cX12_findSteps 182 = .ok (.iload_n 2, 1) := by decide +kernel
theorem dX12_findSteps_183 : decode cX12_findSteps 183 = .ok (.iaload, 1) := by decide +kernel
theorem dX12_findSteps_184 : decode cX12_findSteps 184 = .ok (.invokevirtual 299, 3) := by decide +kernel
theorem dX12_findSteps_187 : decode cX12_findSteps 187 = .ok (.iadd, 1) := by decide +kernel
theorem dX12_findSteps_188 : decode cX12_findSteps 188 = .ok (.if_icmp .ge 7, 3) := by decide +kernel
theorem dX12_findSteps_191 : decode cX12_findSteps 191 = .ok (.iconst 1, 1) := by decide +kernel
theorem dX12_findSteps_192 : decode cX12_findSteps 192 = .ok (.goto 4, 3) := by decide +kernel
theorem dX12_findSteps_195 : decode cX12_findSteps 195 = .ok (.iconst 0, 1) := by decide +kernel
theorem dX12_findSteps_196 : decode cX12_findSteps 196 = .ok (.istore_n 3, 1) := by decide +kernel
theorem dX12_findSteps_197 : decode cX12_findSteps 197 = .ok (.iload_n 3, 1) := by decide +kernel
theorem dX12_findSteps_198 : decode cX12_findSteps 198 = .ok (.ifCond .eq 24, 3) := by decide +kernel
theorem dX12_findSteps_201 : decode cX12_findSteps 201 = .ok (.aload_n 0, 1) := by decide +kernel
theorem dX12_findSteps_202 : decode cX12_findSteps 202 = .ok (.aload_n 0, 1) := by decide +kernel
theorem dX12_findSteps_203 : decode cX12_findSteps 203 = .ok (.getfield 179, 3) := by decide +kernel
theorem dX12_findSteps_206 : decode cX12_findSteps 206 = .ok (.iload_n 2, 1) := by decide +kernel
theorem dX12_findSteps_207 : decode cX12_findSteps 207 = .ok (.iaload, 1) := by decide +kernel
theorem dX12_findSteps_208 : decode cX12_findSteps 208 = .ok (.invokevirtual 240, 3) := by decide +kernel
theorem dX12_findSteps_211 : decode cX12_findSteps 211 = .ok (.aload_n 0, 1) := by decide +kernel
theorem dX12_findSteps_212 : decode cX12_findSteps 212 = .ok (.getfield 182, 3) := by decide +kernel
theorem dX12_findSteps_215 : decode cX12_findSteps 215 = .ok (.iload_n 2, 1) := by decide +kernel
theorem dX12_findSteps_216 : decode cX12_findSteps 216 = .ok (.iaload, 1) := by decide +kernel
theorem dX12_findSteps_217 : decode cX12_findSteps 217 = .ok (.i2l, 1) := by decide +kernel
theorem dX12_findSteps_218 : decode cX12_findSteps 218 = .ok (.ladd, 1) := by decide +kernel
theorem dX12_findSteps_219 : decode cX12_findSteps 219 = .ok (.goto 15, 3) := by decide +kernel
theorem dX12_findSteps_222 : decode cX12_findSteps 222 = .ok (.aload_n 0, 1) := by decide +kernel
theorem dX12_findSteps_223 : decode cX12_findSteps 223 = .ok (.aload_n 0, 1) := by decide +kernel
theorem dX12_findSteps_224 : decode cX12_findSteps 224 = .ok (.getfield 179, 3) := by decide +kernel
theorem dX12_findSteps_227 : decode cX12_findSteps 227 = .ok (.iload_n 2, 1) := by decide +kernel
theorem dX12_findSteps_228 : decode cX12_findSteps 228 = .ok (.iaload, 1) := by decide +kernel
theorem dX12_findSteps_229 : decode cX12_findSteps 229 = .ok (.iconst 1, 1) := by decide +kernel
theorem dX12_findSteps_230 : decode cX12_findSteps 230 = .ok (.iadd, 1) := by decide +kernel
theorem dX12_findSteps_231 : decode cX12_findSteps 231 = .ok (.invokevirtual 240, 3) := by decide +kernel
theorem dX12_findSteps_234 : decode cX12_findSteps 234 = .ok (.lstore 4, 2) := by decide +kernel
theorem dX12_findSteps_236 : decode cX12_findSteps 236 = .ok (.aload_n 0, 1) := by decide +kernel
theorem dX12_findSteps_237 : decode cX12_findSteps 237 = .ok (.getfield 176, 3) := by decide +kernel
theorem dX12_findSteps_240 : decode cX12_findSteps 240 = .ok (.iload_n 2, 1) := by decide +kernel
theorem dX12_findSteps_241 : decode cX12_findSteps 241 = .ok (.lload 4, 2) := by decide +kernel
theorem dX12_findSteps_243 : decode cX12_findSteps 243 = .ok (.aload_n 0, 1) := by decide +kernel
theorem dX12_findSteps_244 : decode cX12_findSteps 244 = .ok (.getfield 173, 3) := by decide +kernel
theorem dX12_findSteps_247 : decode cX12_findSteps 247 = .ok (.iload_n 2, 1) := by decide +kernel
theorem dX12_findSteps_248 : decode cX12_findSteps 248 = .ok (.iaload, 1) := by decide +kernel
theorem dX12_findSteps_249 : decode cX12_findSteps 249 = .ok (.i2l, 1) := by decide +kernel
theorem dX12_findSteps_250 : decode cX12_findSteps 250 = .ok (.lsub, 1) := by decide +kernel
theorem dX12_findSteps_251 : decode cX12_findSteps 251 = .ok (.l2i, 1) := by decide +kernel
theorem dX12_findSteps_252 : decode cX12_findSteps 252 = .ok (.iastore, 1) := by decide +kernel
theorem dX12_findSteps_253 : decode cX12_findSteps 253 = .ok (.iinc 2 1, 3) := by decide +kernel
theorem dX12_findSteps_256 : decode cX12_findSteps 256 = .ok (.goto (-96), 3) := by decide +kernel
theorem dX12_findSteps_259 : decode cX12_findSteps 259 = .ok (.return_, 1) := by decide +kernel
theorem dX12_aheadAt_0 : decode cX12_aheadAt 0 = .ok (.iconst 0, 1) := by decide +kernel
theorem dX12_aheadAt_1 : decode cX12_aheadAt 1 = .ok (.istore_n 2, 1) := by decide +kernel
theorem dX12_aheadAt_2 : decode cX12_aheadAt 2 = .ok (.iconst 0, 1) := by decide +kernel
theorem dX12_aheadAt_3 : decode cX12_aheadAt 3 = .ok (.istore_n 3, 1) := by decide +kernel
theorem dX12_aheadAt_4 : decode cX12_aheadAt 4 = .ok (.iload_n 3, 1) := by decide +kernel
theorem dX12_aheadAt_5 : decode cX12_aheadAt 5 = .ok (.aload_n 0, 1) := by decide +kernel
theorem dX12_aheadAt_6 : decode cX12_aheadAt 6 = .ok (.getfield 292, 3) := by decide +kernel
theorem dX12_aheadAt_9 : decode cX12_aheadAt 9 = .ok (.if_icmp .ge 30, 3) := by decide +kernel
theorem dX12_aheadAt_12 : decode cX12_aheadAt 12 = .ok (.aload_n 0, 1) := by decide +kernel
theorem dX12_aheadAt_13 : decode cX12_aheadAt 13 = .ok (.getfield 173, 3) := by decide +kernel
theorem dX12_aheadAt_16 : decode cX12_aheadAt 16 = .ok (.iload_n 3, 1) := by decide +kernel
theorem dX12_aheadAt_17 : decode cX12_aheadAt 17 = .ok (.iaload, 1) := by decide +kernel
theorem dX12_aheadAt_18 : decode cX12_aheadAt 18 = .ok (.iload_n 1, 1) := by decide +kernel
theorem dX12_aheadAt_19 : decode cX12_aheadAt 19 = .ok (.if_icmp .gt 12, 3) := by decide +kernel
theorem dX12_aheadAt_22 : decode cX12_aheadAt 22 = .ok (.aload_n 0, 1) := by decide +kernel
theorem dX12_aheadAt_23 : decode cX12_aheadAt 23 = .ok (.getfield 176, 3) := by decide +kernel
theorem dX12_aheadAt_26 : decode cX12_aheadAt 26 = .ok (.iload_n 3, 1) := by decide +kernel
theorem dX12_aheadAt_27 : decode cX12_aheadAt 27 = .ok (.iaload, 1) := by decide +kernel
theorem dX12_aheadAt_28 : decode cX12_aheadAt 28 = .ok (.goto 4, 3) := by decide +kernel
theorem dX12_aheadAt_31 : decode cX12_aheadAt 31 = .ok (.iload_n 2, 1) := by decide +kernel
theorem dX12_aheadAt_32 : decode cX12_aheadAt 32 = .ok (.istore_n 2, 1) := by decide +kernel
theorem dX12_aheadAt_33 : decode cX12_aheadAt 33 = .ok (.iinc 3 1, 3) := by decide +kernel
theorem dX12_aheadAt_36 : decode cX12_aheadAt 36 = .ok (.goto (-32), 3) := by decide +kernel
theorem dX12_aheadAt_39 : decode cX12_aheadAt 39 = .ok (.iload_n 2, 1) := by decide +kernel
theorem dX12_aheadAt_40 : decode cX12_aheadAt 40 = .ok (.ireturn, 1) := by decide +kernel
theorem dX12_showsOf_0 : decode cX12_showsOf 0 = .ok (.aload_n 0, 1) := by decide +kernel
theorem dX12_showsOf_1 : decode cX12_showsOf 1 = .ok (.lconst 0, 1) := by decide +kernel
theorem dX12_showsOf_2 : decode cX12_showsOf 2 = .ok (.iload_n 2, 1) := by decide +kernel
theorem dX12_showsOf_3 : decode cX12_showsOf 3 = .ok (.i2l, 1) := by decide +kernel
theorem dX12_showsOf_4 : decode cX12_showsOf 4 = .ok (.aload_n 0, 1) := by decide +kernel
theorem dX12_showsOf_5 : decode cX12_showsOf 5 = .ok (.iload_n 2, 1) := by decide +kernel
theorem dX12_showsOf_6 : decode cX12_showsOf 6 = .ok (.invokevirtual 302, 3) := by decide +kernel
theorem dX12_showsOf_9 : decode cX12_showsOf 9 = .ok (.i2l, 1) := by decide +kernel
theorem dX12_showsOf_10 : decode cX12_showsOf 10 = .ok (.ladd, 1) := by decide +kernel
theorem dX12_showsOf_11 : decode cX12_showsOf 11 = .ok (.invokestatic 305, 3) := by decide +kernel
theorem dX12_showsOf_14 : decode cX12_showsOf 14 = .ok (.invokevirtual 267, 3) := by decide +kernel
theorem dX12_showsOf_17 : decode cX12_showsOf 17 = .ok (.ldc2_w 308, 3) := by decide +kernel
theorem dX12_showsOf_20 : decode cX12_showsOf 20 = .ok (.aload_n 0, 1) := by decide +kernel
theorem dX12_showsOf_21 : decode cX12_showsOf 21 = .ok (.getfield 244, 3) := by decide +kernel
theorem dX12_showsOf_24 : decode cX12_showsOf 24 = .ok (.i2l, 1) := by decide +kernel
theorem dX12_showsOf_25 : decode cX12_showsOf 25 = .ok (.lmul, 1) := by decide +kernel
theorem dX12_showsOf_26 : decode cX12_showsOf 26 = .ok (.iload_n 1, 1) := by decide +kernel
theorem dX12_showsOf_27 : decode cX12_showsOf 27 = .ok (.aload_n 0, 1) := by decide +kernel
theorem dX12_showsOf_28 : decode cX12_showsOf 28 = .ok (.aload_n 0, 1) := by decide +kernel
theorem dX12_showsOf_29 : decode cX12_showsOf 29 = .ok (.getfield 244, 3) := by decide +kernel
theorem dX12_showsOf_32 : decode cX12_showsOf 32 = .ok (.invokevirtual 299, 3) := by decide +kernel
theorem dX12_showsOf_35 : decode cX12_showsOf 35 = .ok (.aload_n 0, 1) := by decide +kernel
theorem dX12_showsOf_36 : decode cX12_showsOf 36 = .ok (.getfield 247, 3) := by decide +kernel
theorem dX12_showsOf_39 : decode cX12_showsOf 39 = .ok (.invokestatic 310, 3) := by decide +kernel
theorem dX12_showsOf_42 : decode cX12_showsOf 42 = .ok (.ladd, 1) := by decide +kernel
theorem dX12_showsOf_43 : decode cX12_showsOf 43 = .ok (.lreturn, 1) := by decide +kernel
theorem dX12_thousandths_0 : decode cX12_thousandths 0 = .ok (.iload_n 0, 1) := by decide +kernel
theorem dX12_thousandths_1 : decode cX12_thousandths 1 = .ok (.iconst 3, 1) := by decide +kernel
theorem dX12_thousandths_2 : decode cX12_thousandths 2 = .ok (.if_icmp .ne 30, 3) := by decide +kernel
theorem dX12_thousandths_5 : decode cX12_thousandths 5 = .ok (.iload_n 1, 1) := by decide +kernel
theorem dX12_thousandths_6 : decode cX12_thousandths 6 = .ok (.ifCond .ne 12, 3) := by decide +kernel
theorem dX12_thousandths_9 : decode cX12_thousandths 9 = .ok (.ldc2_w 314, 3) := by decide +kernel
theorem dX12_thousandths_12 : decode cX12_thousandths 12 = .ok (.iload_n 2, 1) := by decide +kernel
theorem dX12_thousandths_13 : decode cX12_thousandths 13 = .ok (.i2l, 1) := by decide +kernel
theorem dX12_thousandths_14 : decode cX12_thousandths 14 = .ok (.lmul, 1) := by decide +kernel
theorem dX12_thousandths_15 : decode cX12_thousandths 15 = .ok (.goto 16, 3) := by decide +kernel
theorem dX12_thousandths_18 : decode cX12_thousandths 18 = .ok (.ldc2_w 316, 3) := by decide +kernel
theorem dX12_thousandths_21 : decode cX12_thousandths 21 = .ok (.iload_n 2, 1) := by decide +kernel
theorem dX12_thousandths_22 : decode cX12_thousandths 22 = .ok (.i2l, 1) := by decide +kernel
theorem dX12_thousandths_23 : decode cX12_thousandths 23 = .ok (.lmul, 1) := by decide +kernel
theorem dX12_thousandths_24 : decode cX12_thousandths 24 = .ok (.ldc_w 271, 3) := by decide +kernel
theorem dX12_thousandths_27 : decode cX12_thousandths 27 = .ok (.iload_n 1, 1) := by decide +kernel
theorem dX12_thousandths_28 : decode cX12_thousandths 28 = .ok (.iadd, 1) := by decide +kernel
theorem dX12_thousandths_29 : decode cX12_thousandths 29 = .ok (.i2l, 1) := by decide +kernel
theorem dX12_thousandths_30 : decode cX12_thousandths 30 = .ok (.ldiv, 1) := by decide +kernel
theorem dX12_thousandths_31 : decode cX12_thousandths 31 = .ok (.lreturn, 1) := by decide +kernel
theorem dX12_thousandths_32 : decode cX12_thousandths 32 = .ok (.iload_n 2, 1) := by decide +kernel
theorem dX12_thousandths_33 : decode cX12_thousandths 33 = .ok (.ldc_w 271, 3) := by decide +kernel
theorem dX12_thousandths_36 : decode cX12_thousandths 36 = .ok (.if_icmp .lt 7, 3) := by decide +kernel
theorem dX12_thousandths_39 : decode cX12_thousandths 39 = .ok (.iload_n 0, 1) := by decide +kernel
theorem dX12_thousandths_40 : decode cX12_thousandths 40 = .ok (.ifCond .ne 10, 3) := by decide +kernel
theorem dX12_thousandths_43 : decode cX12_thousandths 43 = .ok (.ldc2_w 314, 3) := by decide +kernel
theorem dX12_thousandths_46 : decode cX12_thousandths 46 = .ok (.iload_n 2, 1) := by decide +kernel
theorem dX12_thousandths_47 : decode cX12_thousandths 47 = .ok (.i2l, 1) := by decide +kernel
theorem dX12_thousandths_48 : decode cX12_thousandths 48 = .ok (.lmul, 1) := by decide +kernel
theorem dX12_thousandths_49 : decode cX12_thousandths 49 = .ok (.lreturn, 1) := by decide +kernel
theorem dX12_thousandths_50 : decode cX12_thousandths 50 = .ok (.iload_n 0, 1) := by decide +kernel
theorem dX12_thousandths_51 : decode cX12_thousandths 51 = .ok (.iconst 1, 1) := by decide +kernel
theorem dX12_thousandths_52 : decode cX12_thousandths 52 = .ok (.if_icmp .ne 9, 3) := by decide +kernel
theorem dX12_thousandths_55 : decode cX12_thousandths 55 = .ok (.ldc2_w 318, 3) := by decide +kernel
theorem dX12_thousandths_58 : decode cX12_thousandths 58 = .ok (.goto 6, 3) := by decide +kernel
theorem dX12_thousandths_61 : decode cX12_thousandths 61 = .ok (.ldc2_w 320, 3) := by decide +kernel
theorem dX12_thousandths_64 : decode cX12_thousandths 64 = .ok (.lreturn, 1) := by decide +kernel
theorem dX12_shows_0 : decode cX12_shows 0 = .ok (.aload_n 0, 1) := by decide +kernel
theorem dX12_shows_1 : decode cX12_shows 1 = .ok (.iconst 0, 1) := by decide +kernel
theorem dX12_shows_2 : decode cX12_shows 2 = .ok (.putfield 200, 3) := by decide +kernel
theorem dX12_shows_5 : decode cX12_shows 5 = .ok (.aload_n 0, 1) := by decide +kernel
theorem dX12_shows_6 : decode cX12_shows 6 = .ok (.iconst 0, 1) := by decide +kernel
theorem dX12_shows_7 : decode cX12_shows 7 = .ok (.putfield 203, 3) := by decide +kernel
theorem dX12_shows_10 : decode cX12_shows 10 = .ok (.aload_n 0, 1) := by decide +kernel
theorem dX12_shows_11 : decode cX12_shows 11 = .ok (.iload_n 1, 1) := by decide +kernel
theorem dX12_shows_12 : decode cX12_shows 12 = .ok (.invokevirtual 280, 3) := by decide +kernel
theorem dX12_shows_15 : decode cX12_shows 15 = .ok (.ifCond .ne 10, 3) := by decide +kernel
theorem dX12_shows_18 : decode cX12_shows 18 = .ok (.aload_n 0, 1) := by decide +kernel
theorem dX12_shows_19 : decode cX12_shows 19 = .ok (.iconst 2, 1) := by decide +kernel
theorem dX12_shows_20 : decode cX12_shows 20 = .ok (.invokevirtual 261, 3) := by decide +kernel
theorem dX12_shows_23 : decode cX12_shows 23 = .ok (.i2l, 1) := by decide +kernel
theorem dX12_shows_24 : decode cX12_shows 24 = .ok (.lreturn, 1) := by decide +kernel
theorem dX12_shows_25 : decode cX12_shows 25 = .ok (.iload_n 2, 1) := by decide +kernel
theorem dX12_shows_26 : decode cX12_shows 26 = .ok (.invokestatic 258, 3) := by decide +kernel
theorem dX12_shows_29 : decode cX12_shows 29 = .ok (.ifCond .ne 10, 3) := by decide +kernel
theorem dX12_shows_32 : decode cX12_shows 32 = .ok (.aload_n 0, 1) := by decide +kernel
theorem dX12_shows_33 : decode cX12_shows 33 = .ok (.iconst 5, 1) := by decide +kernel
theorem dX12_shows_34 : decode cX12_shows 34 = .ok (.invokevirtual 261, 3) := by decide +kernel
theorem dX12_shows_37 : decode cX12_shows 37 = .ok (.i2l, 1) := by decide +kernel
theorem dX12_shows_38 : decode cX12_shows 38 = .ok (.lreturn, 1) := by decide +kernel
theorem dX12_shows_39 : decode cX12_shows 39 = .ok (.aload_n 0, 1) := by decide +kernel
theorem dX12_shows_40 : decode cX12_shows 40 = .ok (.iload_n 1, 1) := by decide +kernel
theorem dX12_shows_41 : decode cX12_shows 41 = .ok (.invokevirtual 322, 3) := by decide +kernel
theorem dX12_shows_44 : decode cX12_shows 44 = .ok (.aload_n 0, 1) := by decide +kernel
theorem dX12_shows_45 : decode cX12_shows 45 = .ok (.aload_n 0, 1) := by decide +kernel
theorem dX12_shows_46 : decode cX12_shows 46 = .ok (.getfield 32, 3) := by decide +kernel
theorem dX12_shows_49 : decode cX12_shows 49 = .ok (.iload_n 1, 1) := by decide +kernel
theorem dX12_shows_50 : decode cX12_shows 50 = .ok (.iaload, 1) := by decide +kernel
theorem dX12_shows_51 : decode cX12_shows 51 = .ok (.iload_n 2, 1) := by decide +kernel
theorem dX12_shows_52 : decode cX12_shows 52 = .ok (.invokevirtual 325, 3) := by decide +kernel
theorem dX12_shows_55 : decode cX12_shows 55 = .ok (.lreturn, 1) := by decide +kernel
theorem dX12_ahead_0 : decode cX12_ahead 0 = .ok (.aload_n 0, 1) := by decide +kernel
theorem dX12_ahead_1 : decode cX12_ahead 1 = .ok (.iconst 0, 1) := by decide +kernel
theorem dX12_ahead_2 : decode cX12_ahead 2 = .ok (.putfield 200, 3) := by decide +kernel
theorem dX12_ahead_5 : decode cX12_ahead 5 = .ok (.aload_n 0, 1) := by decide +kernel
theorem dX12_ahead_6 : decode cX12_ahead 6 = .ok (.iconst 0, 1) := by decide +kernel
theorem dX12_ahead_7 : decode cX12_ahead 7 = .ok (.putfield 203, 3) := by decide +kernel
theorem dX12_ahead_10 : decode cX12_ahead 10 = .ok (.aload_n 0, 1) := by decide +kernel
theorem dX12_ahead_11 : decode cX12_ahead 11 = .ok (.iload_n 1, 1) := by decide +kernel
theorem dX12_ahead_12 : decode cX12_ahead 12 = .ok (.invokevirtual 280, 3) := by decide +kernel
theorem dX12_ahead_15 : decode cX12_ahead 15 = .ok (.ifCond .ne 9, 3) := by decide +kernel
theorem dX12_ahead_18 : decode cX12_ahead 18 = .ok (.aload_n 0, 1) := by decide +kernel
theorem dX12_ahead_19 : decode cX12_ahead 19 = .ok (.iconst 2, 1) := by decide +kernel
theorem dX12_ahead_20 : decode cX12_ahead 20 = .ok (.invokevirtual 261, 3) := by decide +kernel
theorem dX12_ahead_23 : decode cX12_ahead 23 = .ok (.ireturn, 1) := by decide +kernel
theorem dX12_ahead_24 : decode cX12_ahead 24 = .ok (.iload_n 2, 1) := by decide +kernel
theorem dX12_ahead_25 : decode cX12_ahead 25 = .ok (.invokestatic 258, 3) := by decide +kernel
theorem dX12_ahead_28 : decode cX12_ahead 28 = .ok (.ifCond .ne 9, 3) := by decide +kernel
theorem dX12_ahead_31 : decode cX12_ahead 31 = .ok (.aload_n 0, 1) := by decide +kernel
theorem dX12_ahead_32 : decode cX12_ahead 32 = .ok (.iconst 5, 1) := by decide +kernel
theorem dX12_ahead_33 : decode cX12_ahead 33 = .ok (.invokevirtual 261, 3) := by decide +kernel
theorem dX12_ahead_36 : decode cX12_ahead 36 = .ok (.ireturn, 1) := by decide +kernel
theorem dX12_ahead_37 : decode cX12_ahead 37 = .ok (.aload_n 0, 1) := by decide +kernel
theorem dX12_ahead_38 : decode cX12_ahead 38 = .ok (.iload_n 1, 1) := by decide +kernel
theorem dX12_ahead_39 : decode cX12_ahead 39 = .ok (.invokevirtual 322, 3) := by decide +kernel
theorem dX12_ahead_42 : decode cX12_ahead 42 = .ok (.aload_n 0, 1) := by decide +kernel
theorem dX12_ahead_43 : decode cX12_ahead 43 = .ok (.iload_n 2, 1) := by decide +kernel
theorem dX12_ahead_44 : decode cX12_ahead 44 = .ok (.invokevirtual 302, 3) := by decide +kernel
theorem dX12_ahead_47 : decode cX12_ahead 47 = .ok (.ireturn, 1) := by decide +kernel
theorem dX12_plain_0 : decode cX12_plain 0 = .ok (.lload_n 0, 1) := by decide +kernel
theorem dX12_plain_1 : decode cX12_plain 1 = .ok (.ldc2_w 308, 3) := by decide +kernel
theorem dX12_plain_4 : decode cX12_plain 4 = .ok (.ldiv, 1) := by decide +kernel
theorem dX12_plain_5 : decode cX12_plain 5 = .ok (.ldc2_w 316, 3) := by decide +kernel
theorem dX12_plain_8 : decode cX12_plain 8 = .ok (.lmul, 1) := by decide +kernel
theorem dX12_plain_9 : decode cX12_plain 9 = .ok (.lload_n 0, 1) := by decide +kernel
theorem dX12_plain_10 : decode cX12_plain 10 = .ok (.ldc2_w 308, 3) := by decide +kernel
theorem dX12_plain_13 : decode cX12_plain 13 = .ok (.lrem, 1) := by decide +kernel
theorem dX12_plain_14 : decode cX12_plain 14 = .ok (.ladd, 1) := by decide +kernel
theorem dX12_plain_15 : decode cX12_plain 15 = .ok (.lreturn, 1) := by decide +kernel
theorem dX12_off_0 : decode cX12_off 0 = .ok (.aload_n 0, 1) := by decide +kernel
theorem dX12_off_1 : decode cX12_off 1 = .ok (.iconst 0, 1) := by decide +kernel
theorem dX12_off_2 : decode cX12_off 2 = .ok (.putfield 200, 3) := by decide +kernel
theorem dX12_off_5 : decode cX12_off 5 = .ok (.aload_n 0, 1) := by decide +kernel
theorem dX12_off_6 : decode cX12_off 6 = .ok (.iconst 0, 1) := by decide +kernel
theorem dX12_off_7 : decode cX12_off 7 = .ok (.putfield 203, 3) := by decide +kernel
theorem dX12_off_10 : decode cX12_off 10 = .ok (.aload_n 0, 1) := by decide +kernel
theorem dX12_off_11 : decode cX12_off 11 = .ok (.iload_n 1, 1) := by decide +kernel
theorem dX12_off_12 : decode cX12_off 12 = .ok (.invokevirtual 280, 3) := by decide +kernel
theorem dX12_off_15 : decode cX12_off 15 = .ok (.ifCond .eq 11, 3) := by decide +kernel
theorem dX12_off_18 : decode cX12_off 18 = .ok (.aload_n 0, 1) := by decide +kernel
theorem dX12_off_19 : decode cX12_off 19 = .ok (.iload_n 2, 1) := by decide +kernel
theorem dX12_off_20 : decode cX12_off 20 = .ok (.invokevirtual 280, 3) := by decide +kernel
theorem dX12_off_23 : decode cX12_off 23 = .ok (.ifCond .ne 10, 3) := by decide +kernel
theorem dX12_off_26 : decode cX12_off 26 = .ok (.aload_n 0, 1) := by decide +kernel
theorem dX12_off_27 : decode cX12_off 27 = .ok (.iconst 2, 1) := by decide +kernel
theorem dX12_off_28 : decode cX12_off 28 = .ok (.invokevirtual 261, 3) := by decide +kernel
theorem dX12_off_31 : decode cX12_off 31 = .ok (.i2l, 1) := by decide +kernel
theorem dX12_off_32 : decode cX12_off 32 = .ok (.lreturn, 1) := by decide +kernel
theorem dX12_off_33 : decode cX12_off 33 = .ok (.iload_n 3, 1) := by decide +kernel
theorem dX12_off_34 : decode cX12_off 34 = .ok (.invokestatic 258, 3) := by decide +kernel
theorem dX12_off_37 : decode cX12_off 37 = .ok (.ifCond .ne 10, 3) := by decide +kernel
theorem dX12_off_40 : decode cX12_off 40 = .ok (.aload_n 0, 1) := by decide +kernel
theorem dX12_off_41 : decode cX12_off 41 = .ok (.iconst 5, 1) := by decide +kernel
theorem dX12_off_42 : decode cX12_off 42 = .ok (.invokevirtual 261, 3) := by decide +kernel
theorem dX12_off_45 : decode cX12_off 45 = .ok (.i2l, 1) := by decide +kernel
theorem dX12_off_46 : decode cX12_off 46 = .ok (.lreturn, 1) := by decide +kernel
theorem dX12_off_47 : decode cX12_off 47 = .ok (.aload_n 0, 1) := by decide +kernel
theorem dX12_off_48 : decode cX12_off 48 = .ok (.iload_n 1, 1) := by decide +kernel
theorem dX12_off_49 : decode cX12_off 49 = .ok (.invokevirtual 322, 3) := by decide +kernel
theorem dX12_off_52 : decode cX12_off 52 = .ok (.aload_n 0, 1) := by decide +kernel
theorem dX12_off_53 : decode cX12_off 53 = .ok (.aload_n 0, 1) := by decide +kernel
theorem dX12_off_54 : decode cX12_off 54 = .ok (.getfield 32, 3) := by decide +kernel
theorem dX12_off_57 : decode cX12_off 57 = .ok (.iload_n 1, 1) := by decide +kernel
theorem dX12_off_58 : decode cX12_off 58 = .ok (.iaload, 1) := by decide +kernel
theorem dX12_off_59 : decode cX12_off 59 = .ok (.iload_n 3, 1) := by decide +kernel
theorem dX12_off_60 : decode cX12_off 60 = .ok (.invokevirtual 325, 3) := by decide +kernel
theorem dX12_off_63 : decode cX12_off 63 = .ok (.invokestatic 329, 3) := by decide +kernel
theorem dX12_off_66 : decode cX12_off 66 = .ok (.lstore 4, 2) := by decide +kernel
theorem dX12_off_68 : decode cX12_off 68 = .ok (.aload_n 0, 1) := by decide +kernel
theorem dX12_off_69 : decode cX12_off 69 = .ok (.iload_n 2, 1) := by decide +kernel
theorem dX12_off_70 : decode cX12_off 70 = .ok (.invokevirtual 322, 3) := by decide +kernel
theorem dX12_off_73 : decode cX12_off 73 = .ok (.lload 4, 2) := by decide +kernel
theorem dX12_off_75 : decode cX12_off 75 = .ok (.aload_n 0, 1) := by decide +kernel
theorem dX12_off_76 : decode cX12_off 76 = .ok (.aload_n 0, 1) := by decide +kernel
theorem dX12_off_77 : decode cX12_off 77 = .ok (.getfield 32, 3) := by decide +kernel
theorem dX12_off_80 : decode cX12_off 80 = .ok (.iload_n 2, 1) := by decide +kernel
theorem dX12_off_81 : decode cX12_off 81 = .ok (.iaload, 1) := by decide +kernel
theorem dX12_off_82 : decode cX12_off 82 = .ok (.iload_n 3, 1) := by decide +kernel
theorem dX12_off_83 : decode cX12_off 83 = .ok (.invokevirtual 325, 3) := by decide +kernel
theorem dX12_off_86 : decode cX12_off 86 = .ok (.invokestatic 329, 3) := by decide +kernel
theorem dX12_off_89 : decode cX12_off 89 = .ok (.lsub, 1) := by decide +kernel
theorem dX12_off_90 : decode cX12_off 90 = .ok (.lreturn, 1) := by decide +kernel
theorem dX12_worst_0 : decode cX12_worst 0 = .ok (.aload_n 0, 1) := by decide +kernel
theorem dX12_worst_1 : decode cX12_worst 1 = .ok (.iconst 0, 1) := by decide +kernel
theorem dX12_worst_2 : decode cX12_worst 2 = .ok (.putfield 200, 3) := by decide +kernel
theorem dX12_worst_5 : decode cX12_worst 5 = .ok (.aload_n 0, 1) := by decide +kernel
theorem dX12_worst_6 : decode cX12_worst 6 = .ok (.iconst 0, 1) := by decide +kernel
theorem dX12_worst_7 : decode cX12_worst 7 = .ok (.putfield 203, 3) := by decide +kernel
theorem dX12_worst_10 : decode cX12_worst 10 = .ok (.iload_n 1, 1) := by decide +kernel
theorem dX12_worst_11 : decode cX12_worst 11 = .ok (.invokestatic 258, 3) := by decide +kernel
theorem dX12_worst_14 : decode cX12_worst 14 = .ok (.ifCond .eq 35, 3) := by decide +kernel
theorem dX12_worst_17 : decode cX12_worst 17 = .ok (.iload_n 2, 1) := by decide +kernel
theorem dX12_worst_18 : decode cX12_worst 18 = .ok (.i2l, 1) := by decide +kernel
theorem dX12_worst_19 : decode cX12_worst 19 = .ok (.iload_n 1, 1) := by decide +kernel
theorem dX12_worst_20 : decode cX12_worst 20 = .ok (.i2l, 1) := by decide +kernel
theorem dX12_worst_21 : decode cX12_worst 21 = .ok (.ldc2_w 212, 3) := by decide +kernel
theorem dX12_worst_24 : decode cX12_worst 24 = .ok (.invokestatic 208, 3) := by decide +kernel
theorem dX12_worst_27 : decode cX12_worst 27 = .ok (.ifCond .eq 22, 3) := by decide +kernel
theorem dX12_worst_30 : decode cX12_worst 30 = .ok (.iload_n 2, 1) := by decide +kernel
theorem dX12_worst_31 : decode cX12_worst 31 = .ok (.iload_n 1, 1) := by decide +kernel
theorem dX12_worst_32 : decode cX12_worst 32 = .ok (.isub, 1) := by decide +kernel
theorem dX12_worst_33 : decode cX12_worst 33 = .ok (.sipush 2000, 3) := by decide +kernel
theorem dX12_worst_36 : decode cX12_worst 36 = .ok (.if_icmp .gt 13, 3) := by decide +kernel
theorem dX12_worst_39 : decode cX12_worst 39 = .ok (.iload_n 3, 1) := by decide +kernel
theorem dX12_worst_40 : decode cX12_worst 40 = .ok (.i2l, 1) := by decide +kernel
theorem dX12_worst_41 : decode cX12_worst 41 = .ok (.lconst 0, 1) := by decide +kernel
theorem dX12_worst_42 : decode cX12_worst 42 = .ok (.lconst 1, 1) := by decide +kernel
theorem dX12_worst_43 : decode cX12_worst 43 = .ok (.invokestatic 208, 3) := by decide +kernel
theorem dX12_worst_46 : decode cX12_worst 46 = .ok (.ifCond .ne 10, 3) := by decide +kernel
theorem dX12_worst_49 : decode cX12_worst 49 = .ok (.aload_n 0, 1) := by decide +kernel
theorem dX12_worst_50 : decode cX12_worst 50 = .ok (.iconst 5, 1) := by decide +kernel
theorem dX12_worst_51 : decode cX12_worst 51 = .ok (.invokevirtual 261, 3) := by decide +kernel
theorem dX12_worst_54 : decode cX12_worst 54 = .ok (.i2l, 1) := by decide +kernel
theorem dX12_worst_55 : decode cX12_worst 55 = .ok (.lreturn, 1) := by decide +kernel
theorem dX12_worst_56 : decode cX12_worst 56 = .ok (.aload_n 0, 1) := by decide +kernel
theorem dX12_worst_57 : decode cX12_worst 57 = .ok (.getfield 275, 3) := by decide +kernel
theorem dX12_worst_60 : decode cX12_worst 60 = .ok (.iconst 2, 1) := by decide +kernel
theorem dX12_worst_61 : decode cX12_worst 61 = .ok (.if_icmp .ge 11, 3) := by decide +kernel
theorem dX12_worst_64 : decode cX12_worst 64 = .ok (.aload_n 0, 1) := by decide +kernel
theorem dX12_worst_65 : decode cX12_worst 65 = .ok (.bipush 8, 2) := by decide +kernel
theorem dX12_worst_67 : decode cX12_worst 67 = .ok (.invokevirtual 261, 3) := by decide +kernel
theorem dX12_worst_70 : decode cX12_worst 70 = .ok (.i2l, 1) := by decide +kernel
theorem dX12_worst_71 : decode cX12_worst 71 = .ok (.lreturn, 1) := by decide +kernel
theorem dX12_worst_72 : decode cX12_worst 72 = .ok (.iconst 0, 1) := by decide +kernel
theorem dX12_worst_73 : decode cX12_worst 73 = .ok (.istore 4, 2) := by decide +kernel
theorem dX12_worst_75 : decode cX12_worst 75 = .ok (.iload 4, 2) := by decide +kernel
theorem dX12_worst_77 : decode cX12_worst 77 = .ok (.aload_n 0, 1) := by decide +kernel
theorem dX12_worst_78 : decode cX12_worst 78 = .ok (.getfield 275, 3) := by decide +kernel
theorem dX12_worst_81 : decode cX12_worst 81 = .ok (.if_icmp .ge 114, 3) := by decide +kernel
theorem dX12_worst_84 : decode cX12_worst 84 = .ok (.aload_n 0, 1) := by decide +kernel
theorem dX12_worst_85 : decode cX12_worst 85 = .ok (.iload 4, 2) := by decide +kernel
theorem dX12_worst_87 : decode cX12_worst 87 = .ok (.invokevirtual 322, 3) := by decide +kernel
theorem dX12_worst_90 : decode cX12_worst 90 = .ok (.iload_n 1, 1) := by decide +kernel
theorem dX12_worst_91 : decode cX12_worst 91 = .ok (.istore 5, 2) := by decide +kernel
theorem dX12_worst_93 : decode cX12_worst 93 = .ok (.iload 5, 2) := by decide +kernel
theorem dX12_worst_95 : decode cX12_worst 95 = .ok (.iload_n 2, 1) := by decide +kernel
theorem dX12_worst_96 : decode cX12_worst 96 = .ok (.if_icmp .gt 93, 3) := by decide +kernel
theorem dX12_worst_99 : decode cX12_worst 99 = .ok (.aload_n 0, 1) := by decide +kernel
theorem dX12_worst_100 : decode cX12_worst 100 = .ok (.aload_n 0, 1) := by decide +kernel
theorem dX12_worst_101 : decode cX12_worst 101 = .ok (.getfield 32, 3) := by decide +kernel
theorem dX12_worst_104 : decode cX12_worst 104 = .ok (.iload 4, 2) := by decide +kernel
theorem dX12_worst_106 : decode cX12_worst 106 = .ok (.iaload, 1) := by decide +kernel
theorem dX12_worst_107 : decode cX12_worst 107 = .ok (.iload 5, 2) := by decide +kernel
theorem dX12_worst_109 : decode cX12_worst 109 = .ok (.invokevirtual 325, 3) := by decide +kernel
theorem dX12_worst_112 : decode cX12_worst 112 = .ok (.invokestatic 329, 3) := by decide +kernel
theorem dX12_worst_115 : decode cX12_worst 115 = .ok (.lstore 6, 2) := by decide +kernel
theorem dX12_worst_117 : decode cX12_worst 117 = .ok (.aload_n 0, 1) := by decide +kernel
theorem dX12_worst_118 : decode cX12_worst 118 = .ok (.getfield 185, 3) := by decide +kernel
theorem dX12_worst_121 : decode cX12_worst 121 = .ok (.iload 5, 2) := by decide +kernel
theorem dX12_worst_123 : decode cX12_worst 123 = .ok (.iload_n 1, 1) := by decide +kernel
theorem dX12_worst_124 : decode cX12_worst 124 = .ok (.isub, 1) := by decide +kernel
theorem dX12_worst_125 : decode cX12_worst 125 = .ok (.iload 4, 2) := by decide +kernel
theorem dX12_worst_127 : decode cX12_worst 127 = .ok (.ifCond .ne 8, 3) := by decide +kernel
theorem dX12_worst_130 : decode cX12_worst 130 = .ok (.lload 6, 2) := by decide +kernel
theorem dX12_worst_132 : decode cX12_worst 132 = .ok (.goto 17, 3) := by decide +kernel
theorem dX12_worst_135 : decode cX12_worst 135 = .ok (.aload_n 0, 1) := by decide +kernel
theorem dX12_worst_136 : decode cX12_worst 136 = .ok (.getfield 185, 3) := by decide +kernel
theorem dX12_worst_139 : decode cX12_worst 139 = .ok (.iload 5, 2) := by decide +kernel
theorem dX12_worst_141 : decode cX12_worst 141 = .ok (.iload_n 1, 1) := by decide +kernel
theorem dX12_worst_142 : decode cX12_worst 142 = .ok (.isub, 1) := by decide +kernel
theorem dX12_worst_143 : decode cX12_worst 143 = .ok (.laload, 1) := by decide +kernel
theorem dX12_worst_144 : decode cX12_worst 144 = .ok (.lload 6, 2) := by decide +kernel
theorem dX12_worst_146 : decode cX12_worst 146 = .ok (.invokestatic 333, 3) := by decide +kernel
theorem dX12_worst_149 : decode cX12_worst 149 = .ok (.lastore, 1) := by decide +kernel
theorem dX12_worst_150 : decode cX12_worst 150 = .ok (.aload_n 0, 1) := by decide +kernel
theorem dX12_worst_151 : decode cX12_worst 151 = .ok (.getfield 188, 3) := by decide +kernel
theorem dX12_worst_154 : decode cX12_worst 154 = .ok (.iload 5, 2) := by decide +kernel
theorem dX12_worst_156 : decode cX12_worst 156 = .ok (.iload_n 1, 1) := by decide +kernel
theorem dX12_worst_157 : decode cX12_worst 157 = .ok (.isub, 1) := by decide +kernel
theorem dX12_worst_158 : decode cX12_worst 158 = .ok (.iload 4, 2) := by decide +kernel
theorem dX12_worst_160 : decode cX12_worst 160 = .ok (.ifCond .ne 8, 3) := by decide +kernel
theorem dX12_worst_163 : decode cX12_worst 163 = .ok (.lload 6, 2) := by decide +kernel
theorem dX12_worst_165 : decode cX12_worst 165 = .ok (.goto 17, 3) := by decide +kernel
theorem dX12_worst_168 : decode cX12_worst 168 = .ok (.aload_n 0, 1) := by decide +kernel
theorem dX12_worst_169 : decode cX12_worst 169 = .ok (.getfield 188, 3) := by decide +kernel
theorem dX12_worst_172 : decode cX12_worst 172 = .ok (.iload 5, 2) := by decide +kernel
theorem dX12_worst_174 : decode cX12_worst 174 = .ok (.iload_n 1, 1) := by decide +kernel
theorem dX12_worst_175 : decode cX12_worst 175 = .ok (.isub, 1) := by decide +kernel
theorem dX12_worst_176 : decode cX12_worst 176 = .ok (.laload, 1) := by decide +kernel
theorem dX12_worst_177 : decode cX12_worst 177 = .ok (.lload 6, 2) := by decide +kernel
theorem dX12_worst_179 : decode cX12_worst 179 = .ok (.invokestatic 305, 3) := by decide +kernel
theorem dX12_worst_182 : decode cX12_worst 182 = .ok (.lastore, 1) := by decide +kernel
theorem dX12_worst_183 : decode cX12_worst 183 = .ok (.iinc 5 1, 3) := by decide +kernel
theorem dX12_worst_186 : decode cX12_worst 186 = .ok (.goto (-93), 3) := by decide +kernel
theorem dX12_worst_189 : decode cX12_worst 189 = .ok (.iinc 4 1, 3) := by decide +kernel
theorem dX12_worst_192 : decode cX12_worst 192 = .ok (.goto (-117), 3) := by decide +kernel
theorem dX12_worst_195 : decode cX12_worst 195 = .ok (.iconst 0, 1) := by decide +kernel
theorem dX12_worst_196 : decode cX12_worst 196 = .ok (.istore 4, 2) := by decide +kernel
theorem dX12_worst_198 : decode cX12_worst 198 = .ok (.iconst 1, 1) := by decide +kernel
theorem dX12_worst_199 : decode cX12_worst 199 = .ok (.istore 5, 2) := by decide +kernel
theorem dX12_worst_201 : decode cX12_worst 201 = .ok (.iload 5, 2) := by decide +kernel
theorem dX12_worst_203 : decode cX12_worst 203 = .ok (.iload_n 2, 1) := by decide +kernel
theorem dX12_worst_204 : decode cX12_worst 204 = .ok (.iload_n 1, 1) := by decide +kernel
theorem dX12_worst_205 : decode cX12_worst 205 = .ok (.isub, 1) := by decide +kernel
theorem dX12_worst_206 : decode cX12_worst 206 = .ok (.if_icmp .gt 52, 3) := by decide +kernel
theorem dX12_worst_209 : decode cX12_worst 209 = .ok (.aload_n 0, 1) := by decide +kernel
theorem dX12_worst_210 : decode cX12_worst 210 = .ok (.getfield 188, 3) := by decide +kernel
theorem dX12_worst_213 : decode cX12_worst 213 = .ok (.iload 5, 2) := by decide +kernel
theorem dX12_worst_215 : decode cX12_worst 215 = .ok (.laload, 1) := by decide +kernel
theorem dX12_worst_216 : decode cX12_worst 216 = .ok (.aload_n 0, 1) := by decide +kernel
theorem dX12_worst_217 : decode cX12_worst 217 = .ok (.getfield 185, 3) := by decide +kernel
theorem dX12_worst_220 : decode cX12_worst 220 = .ok (.iload 5, 2) := by decide +kernel
theorem dX12_worst_222 : decode cX12_worst 222 = .ok (.laload, 1) := by decide +kernel
theorem dX12_worst_223 : decode cX12_worst 223 = .ok (.lsub, 1) := by decide +kernel
theorem dX12_worst_224 : decode cX12_worst 224 = .ok (.aload_n 0, 1) := by decide +kernel
theorem dX12_worst_225 : decode cX12_worst 225 = .ok (.getfield 188, 3) := by decide +kernel
theorem dX12_worst_228 : decode cX12_worst 228 = .ok (.iload 4, 2) := by decide +kernel
theorem dX12_worst_230 : decode cX12_worst 230 = .ok (.laload, 1) := by decide +kernel
theorem dX12_worst_231 : decode cX12_worst 231 = .ok (.aload_n 0, 1) := by decide +kernel
theorem dX12_worst_232 : decode cX12_worst 232 = .ok (.getfield 185, 3) := by decide +kernel
theorem dX12_worst_235 : decode cX12_worst 235 = .ok (.iload 4, 2) := by decide +kernel
theorem dX12_worst_237 : decode cX12_worst 237 = .ok (.laload, 1) := by decide +kernel
theorem dX12_worst_238 : decode cX12_worst 238 = .ok (.lsub, 1) := by decide +kernel
theorem dX12_worst_239 : decode cX12_worst 239 = .ok (.lcmp, 1) := by decide +kernel
theorem dX12_worst_240 : decode cX12_worst 240 = .ok (.ifCond .le 8, 3) := by decide +kernel
theorem dX12_worst_243 : decode cX12_worst 243 = .ok (.iload 5, 2) := by decide +kernel
theorem dX12_worst_245 : decode cX12_worst 245 = .ok (.goto 5, 3) := by decide +kernel
theorem dX12_worst_248 : decode cX12_worst 248 = .ok (.iload 4, 2) := by decide +kernel
theorem dX12_worst_250 : decode cX12_worst 250 = .ok (.istore 4, 2) := by decide +kernel
theorem dX12_worst_252 : decode cX12_worst 252 = .ok (.iinc 5 1, 3) := by decide +kernel
theorem dX12_worst_255 : decode cX12_worst 255 = .ok (.goto (-54), 3) := by decide +kernel
theorem dX12_worst_258 : decode cX12_worst 258 = .ok (.iload_n 3, 1) := by decide +kernel
theorem dX12_worst_259 : decode cX12_worst 259 = .ok (.ifCond .ne 21, 3) := by decide +kernel
theorem dX12_worst_262 : decode cX12_worst 262 = .ok (.aload_n 0, 1) := by decide +kernel
theorem dX12_worst_263 : decode cX12_worst 263 = .ok (.getfield 188, 3) := by decide +kernel
theorem dX12_worst_266 : decode cX12_worst 266 = .ok (.iload 4, 2) := by decide +kernel
theorem dX12_worst_268 : decode cX12_worst 268 = .ok (.laload, 1) := by decide +kernel
theorem dX12_worst_269 : decode cX12_worst 269 = .ok (.aload_n 0, 1) := by decide +kernel
theorem dX12_worst_270 : decode cX12_worst 270 = .ok (.getfield 185, 3) := by decide +kernel
theorem dX12_worst_273 : decode cX12_worst 273 = .ok (.iload 4, 2) := by decide +kernel
theorem dX12_worst_275 : decode cX12_worst 275 = .ok (.laload, 1) := by decide +kernel
theorem dX12_worst_276 : decode cX12_worst 276 = .ok (.lsub, 1) := by decide +kernel
theorem dX12_worst_277 : decode cX12_worst 277 = .ok (.goto 8, 3) := by decide +kernel
theorem dX12_worst_280 : decode cX12_worst 280 = .ok (.iload_n 1, 1) := by decide +kernel
theorem dX12_worst_281 : decode cX12_worst 281 = .ok (.iload 4, 2) := by decide +kernel
theorem dX12_worst_283 : decode cX12_worst 283 = .ok (.iadd, 1) := by decide +kernel
theorem dX12_worst_284 : decode cX12_worst 284 = .ok (.i2l, 1) := by decide +kernel
theorem dX12_worst_285 : decode cX12_worst 285 = .ok (.lreturn, 1) := by decide +kernel
theorem dX12_look_0 : decode cX12_look 0 = .ok (.iload_n 1, 1) := by decide +kernel
theorem dX12_look_1 : decode cX12_look 1 = .ok (.aload_n 0, 1) := by decide +kernel
theorem dX12_look_2 : decode cX12_look 2 = .ok (.getfield 336, 3) := by decide +kernel
theorem dX12_look_5 : decode cX12_look 5 = .ok (.if_icmp .ge 16, 3) := by decide +kernel
theorem dX12_look_8 : decode cX12_look 8 = .ok (.aload_n 0, 1) := by decide +kernel
theorem dX12_look_9 : decode cX12_look 9 = .ok (.getfield 41, 3) := by decide +kernel
theorem dX12_look_12 : decode cX12_look 12 = .ok (.iload_n 1, 1) := by decide +kernel
theorem dX12_look_13 : decode cX12_look 13 = .ok (.baload, 1) := by decide +kernel
theorem dX12_look_14 : decode cX12_look 14 = .ok (.sipush 255, 3) := by decide +kernel
theorem dX12_look_17 : decode cX12_look 17 = .ok (.iand, 1) := by decide +kernel
theorem dX12_look_18 : decode cX12_look 18 = .ok (.goto 4, 3) := by decide +kernel
theorem dX12_look_21 : decode cX12_look 21 = .ok (.iconst 0, 1) := by decide +kernel
theorem dX12_look_22 : decode cX12_look 22 = .ok (.ireturn, 1) := by decide +kernel
theorem dX12_isLetter_0 : decode cX12_isLetter 0 = .ok (.iload_n 0, 1) := by decide +kernel
theorem dX12_isLetter_1 : decode cX12_isLetter 1 = .ok (.bipush 97, 2) := by decide +kernel
theorem dX12_isLetter_3 : decode cX12_isLetter 3 = .ok (.if_icmp .lt 13, 3) := by decide +kernel
theorem dX12_isLetter_6 : decode cX12_isLetter 6 = .ok (.iload_n 0, 1) := by decide +kernel
theorem dX12_isLetter_7 : decode cX12_isLetter 7 = .ok (.bipush 122, 2) := by decide +kernel
theorem dX12_isLetter_9 : decode cX12_isLetter 9 = .ok (.if_icmp .gt 7, 3) := by decide +kernel
theorem dX12_isLetter_12 : decode cX12_isLetter 12 = .ok (.iconst 1, 1) := by decide +kernel
theorem dX12_isLetter_13 : decode cX12_isLetter 13 = .ok (.goto 4, 3) := by decide +kernel
theorem dX12_isLetter_16 : decode cX12_isLetter 16 = .ok (.iconst 0, 1) := by decide +kernel
theorem dX12_isLetter_17 : decode cX12_isLetter 17 = .ok (.ireturn, 1) := by decide +kernel
theorem dX12_isDigit_0 : decode cX12_isDigit 0 = .ok (.iload_n 0, 1) := by decide +kernel
theorem dX12_isDigit_1 : decode cX12_isDigit 1 = .ok (.bipush 48, 2) := by decide +kernel
theorem dX12_isDigit_3 : decode cX12_isDigit 3 = .ok (.if_icmp .lt 13, 3) := by decide +kernel
theorem dX12_isDigit_6 : decode cX12_isDigit 6 = .ok (.iload_n 0, 1) := by decide +kernel
theorem dX12_isDigit_7 : decode cX12_isDigit 7 = .ok (.bipush 57, 2) := by decide +kernel
theorem dX12_isDigit_9 : decode cX12_isDigit 9 = .ok (.if_icmp .gt 7, 3) := by decide +kernel
theorem dX12_isDigit_12 : decode cX12_isDigit 12 = .ok (.iconst 1, 1) := by decide +kernel
theorem dX12_isDigit_13 : decode cX12_isDigit 13 = .ok (.goto 4, 3) := by decide +kernel
theorem dX12_isDigit_16 : decode cX12_isDigit 16 = .ok (.iconst 0, 1) := by decide +kernel
theorem dX12_isDigit_17 : decode cX12_isDigit 17 = .ok (.ireturn, 1) := by decide +kernel
theorem dX12_next_0 : decode cX12_next 0 = .ok (.aload_n 0, 1) := by decide +kernel
theorem dX12_next_1 : decode cX12_next 1 = .ok (.aload_n 0, 1) := by decide +kernel
theorem dX12_next_2 : decode cX12_next 2 = .ok (.getfield 339, 3) := by decide +kernel
theorem dX12_next_5 : decode cX12_next 5 = .ok (.putfield 342, 3) := by decide +kernel
theorem dX12_next_8 : decode cX12_next 8 = .ok (.aload_n 0, 1) := by decide +kernel
theorem dX12_next_9 : decode cX12_next 9 = .ok (.getfield 342, 3) := by decide +kernel
theorem dX12_next_12 : decode cX12_next 12 = .ok (.aload_n 0, 1) := by decide +kernel
theorem dX12_next_13 : decode cX12_next 13 = .ok (.getfield 336, 3) := by decide +kernel
theorem dX12_next_16 : decode cX12_next 16 = .ok (.if_icmp .ge 42, 3) := by decide +kernel
theorem dX12_next_19 : decode cX12_next 19 = .ok (.aload_n 0, 1) := by decide +kernel
theorem dX12_next_20 : decode cX12_next 20 = .ok (.aload_n 0, 1) := by decide +kernel
theorem dX12_next_21 : decode cX12_next 21 = .ok (.getfield 342, 3) := by decide +kernel
theorem dX12_next_24 : decode cX12_next 24 = .ok (.invokevirtual 345, 3) := by decide +kernel
theorem dX12_next_27 : decode cX12_next 27 = .ok (.bipush 10, 2) := by decide +kernel
theorem dX12_next_29 : decode cX12_next 29 = .ok (.if_icmp .eq 16, 3) := by decide +kernel
theorem dX12_next_32 : decode cX12_next 32 = .ok (.aload_n 0, 1) := by decide +kernel
theorem dX12_next_33 : decode cX12_next 33 = .ok (.aload_n 0, 1) := by decide +kernel
theorem dX12_next_34 : decode cX12_next 34 = .ok (.getfield 342, 3) := by decide +kernel
theorem dX12_next_37 : decode cX12_next 37 = .ok (.invokevirtual 345, 3) := by decide +kernel
theorem dX12_next_40 : decode cX12_next 40 = .ok (.bipush 32, 2) := by decide +kernel
theorem dX12_next_42 : decode cX12_next 42 = .ok (.if_icmp .ne 16, 3) := by decide +kernel
theorem dX12_next_45 : decode cX12_next 45 = .ok (.aload_n 0, 1) := by decide +kernel
theorem dX12_next_46 : decode cX12_next 46 = .ok (.dup, 1) := by decide +kernel
theorem dX12_next_47 : decode cX12_next 47 = .ok (.getfield 342, 3) := by decide +kernel
theorem dX12_next_50 : decode cX12_next 50 = .ok (.iconst 1, 1) := by decide +kernel
theorem dX12_next_51 : decode cX12_next 51 = .ok (.iadd, 1) := by decide +kernel
theorem dX12_next_52 : decode cX12_next 52 = .ok (.putfield 342, 3) := by decide +kernel
theorem dX12_next_55 : decode cX12_next 55 = .ok (.goto (-47), 3) := by decide +kernel
theorem dX12_next_58 : decode cX12_next 58 = .ok (.aload_n 0, 1) := by decide +kernel
theorem dX12_next_59 : decode cX12_next 59 = .ok (.aload_n 0, 1) := by decide +kernel
theorem dX12_next_60 : decode cX12_next 60 = .ok (.getfield 342, 3) := by decide +kernel
theorem dX12_next_63 : decode cX12_next 63 = .ok (.putfield 339, 3) := by decide +kernel
theorem dX12_next_66 : decode cX12_next 66 = .ok (.aload_n 0, 1) := by decide +kernel
theorem dX12_next_67 : decode cX12_next 67 = .ok (.getfield 342, 3) := by decide +kernel
theorem dX12_next_70 : decode cX12_next 70 = .ok (.aload_n 0, 1) := by decide +kernel
theorem dX12_next_71 : decode cX12_next 71 = .ok (.getfield 336, 3) := by decide +kernel
theorem dX12_next_74 : decode cX12_next 74 = .ok (.if_icmp .lt 9, 3) := by decide +kernel
theorem dX12_next_77 : decode cX12_next 77 = .ok (.aload_n 0, 1) := by decide +kernel
theorem dX12_next_78 : decode cX12_next 78 = .ok (.iconst 0, 1) := by decide +kernel
theorem dX12_next_79 : decode cX12_next 79 = .ok (.putfield 348, 3) := by decide +kernel
theorem dX12_next_82 : decode cX12_next 82 = .ok (.return_, 1) := by decide +kernel
theorem dX12_next_83 : decode cX12_next 83 = .ok (.aload_n 0, 1) := by decide +kernel
theorem dX12_next_84 : decode cX12_next 84 = .ok (.aload_n 0, 1) := by decide +kernel
theorem dX12_next_85 : decode cX12_next 85 = .ok (.getfield 342, 3) := by decide +kernel
theorem dX12_next_88 : decode cX12_next 88 = .ok (.invokevirtual 345, 3) := by decide +kernel
theorem dX12_next_91 : decode cX12_next 91 = .ok (.istore_n 1, 1) := by decide +kernel
theorem dX12_next_92 : decode cX12_next 92 = .ok (.iload_n 1, 1) := by decide +kernel
theorem dX12_next_93 : decode cX12_next 93 = .ok (.invokestatic 351, 3) := by decide +kernel
theorem dX12_next_96 : decode cX12_next 96 = .ok (.ifCond .eq 102, 3) := by decide +kernel
theorem dX12_next_99 : decode cX12_next 99 = .ok (.aload_n 0, 1) := by decide +kernel
theorem dX12_next_100 : decode cX12_next 100 = .ok (.iconst 1, 1) := by decide +kernel
theorem dX12_next_101 : decode cX12_next 101 = .ok (.putfield 348, 3) := by decide +kernel
theorem dX12_next_104 : decode cX12_next 104 = .ok (.aload_n 0, 1) := by decide +kernel
theorem dX12_next_105 : decode cX12_next 105 = .ok (.lconst 0, 1) := by decide +kernel
theorem dX12_next_106 : decode cX12_next 106 = .ok (.putfield 354, 3) := by decide +kernel
theorem dX12_next_109 : decode cX12_next 109 = .ok (.aload_n 0, 1) := by decide +kernel
theorem dX12_next_110 : decode cX12_next 110 = .ok (.aload_n 0, 1) := by decide +kernel
theorem dX12_next_111 : decode cX12_next 111 = .ok (.getfield 339, 3) := by decide +kernel
theorem dX12_next_114 : decode cX12_next 114 = .ok (.invokevirtual 345, 3) := by decide +kernel
theorem dX12_next_117 : decode cX12_next 117 = .ok (.invokestatic 351, 3) := by decide +kernel
theorem dX12_next_120 : decode cX12_next 120 = .ok (.ifCond .eq 62, 3) := by decide +kernel
theorem dX12_next_123 : decode cX12_next 123 = .ok (.aload_n 0, 1) := by decide +kernel
theorem dX12_next_124 : decode cX12_next 124 = .ok (.aload_n 0, 1) := by decide +kernel
theorem dX12_next_125 : decode cX12_next 125 = .ok (.getfield 339, 3) := by decide +kernel
theorem dX12_next_128 : decode cX12_next 128 = .ok (.aload_n 0, 1) := by decide +kernel
theorem dX12_next_129 : decode cX12_next 129 = .ok (.getfield 342, 3) := by decide +kernel
theorem dX12_next_132 : decode cX12_next 132 = .ok (.isub, 1) := by decide +kernel
theorem dX12_next_133 : decode cX12_next 133 = .ok (.bipush 12, 2) := by decide +kernel
theorem dX12_next_135 : decode cX12_next 135 = .ok (.if_icmp .ge 28, 3) := by decide +kernel
theorem dX12_next_138 : decode cX12_next 138 = .ok (.aload_n 0, 1) := by decide +kernel
theorem dX12_next_139 : decode cX12_next 139 = .ok (.getfield 354, 3) := by decide +kernel
theorem dX12_next_142 : decode cX12_next 142 = .ok (.ldc2_w 358, 3) := by decide +kernel
theorem dX12_next_145 : decode cX12_next 145 = .ok (.lmul, 1) := by decide +kernel
theorem dX12_next_146 : decode cX12_next 146 = .ok (.aload_n 0, 1) := by decide +kernel
theorem dX12_next_147 : decode cX12_next 147 = .ok (.aload_n 0, 1) := by decide +kernel
theorem dX12_next_148 : decode cX12_next 148 = .ok (.getfield 339, 3) := by decide +kernel
theorem dX12_next_151 : decode cX12_next 151 = .ok (.invokevirtual 345, 3) := by decide +kernel
theorem dX12_next_154 : decode cX12_next 154 = .ok (.i2l, 1) := by decide +kernel
theorem dX12_next_155 : decode cX12_next 155 = .ok (.ladd, 1) := by decide +kernel
theorem dX12_next_156 : decode cX12_next 156 = .ok (.ldc2_w 360, 3) := by decide +kernel
theorem dX12_next_159 : decode cX12_next 159 = .ok (.lsub, 1) := by decide +kernel
theorem dX12_next_160 : decode cX12_next 160 = .ok (.goto 6, 3) := by decide +kernel
theorem dX12_next_163 : decode cX12_next 163 = .ok (.ldc2_w 230, 3) := by decide +kernel
theorem dX12_next_166 : decode cX12_next 166 = .ok (.putfield 354, 3) := by decide +kernel
theorem dX12_next_169 : decode cX12_next 169 = .ok (.aload_n 0, 1) := by decide +kernel
theorem dX12_next_170 : decode cX12_next 170 = .ok (.dup, 1) := by decide +kernel
theorem dX12_next_171 : decode cX12_next 171 = .ok (.getfield 339, 3) := by decide +kernel
theorem dX12_next_174 : decode cX12_next 174 = .ok (.iconst 1, 1) := by decide +kernel
theorem dX12_next_175 : decode cX12_next 175 = .ok (.iadd, 1) := by decide +kernel
theorem dX12_next_176 : decode cX12_next 176 = .ok (.putfield 339, 3) := by decide +kernel
theorem dX12_next_179 : decode cX12_next 179 = .ok (.goto (-70), 3) := by decide +kernel
theorem dX12_next_182 : decode cX12_next 182 = .ok (.aload_n 0, 1) := by decide +kernel
theorem dX12_next_183 : decode cX12_next 183 = .ok (.aload_n 0, 1) := by decide +kernel
theorem dX12_next_184 : decode cX12_next 184 = .ok (.getfield 339, 3) := by decide +kernel
theorem dX12_next_187 : decode cX12_next 187 = .ok (.aload_n 0, 1) := by decide +kernel
theorem dX12_next_188 : decode cX12_next 188 = .ok (.getfield 342, 3) := by decide +kernel
theorem dX12_next_191 : decode cX12_next 191 = .ok (.isub, 1) := by decide +kernel
theorem dX12_next_192 : decode cX12_next 192 = .ok (.putfield 362, 3) := by decide +kernel
theorem dX12_next_195 : decode cX12_next 195 = .ok (.goto 188, 3) := by decide +kernel
theorem dX12_next_198 : decode cX12_next 198 = .ok (.iload_n 1, 1) := by decide +kernel
theorem dX12_next_199 : decode cX12_next 199 = .ok (.invokestatic 365, 3) := by decide +kernel
theorem dX12_next_202 : decode cX12_next 202 = .ok (.ifCond .eq 98, 3) := by decide +kernel
theorem dX12_next_205 : decode cX12_next 205 = .ok (.aload_n 0, 1) := by decide +kernel
theorem dX12_next_206 : decode cX12_next 206 = .ok (.iconst 0, 1) := by decide +kernel
theorem dX12_next_207 : decode cX12_next 207 = .ok (.putfield 368, 3) := by decide +kernel
theorem dX12_next_210 : decode cX12_next 210 = .ok (.aload_n 0, 1) := by decide +kernel
theorem dX12_next_211 : decode cX12_next 211 = .ok (.aload_n 0, 1) := by decide +kernel
theorem dX12_next_212 : decode cX12_next 212 = .ok (.getfield 339, 3) := by decide +kernel
theorem dX12_next_215 : decode cX12_next 215 = .ok (.invokevirtual 345, 3) := by decide +kernel
theorem dX12_next_218 : decode cX12_next 218 = .ok (.invokestatic 365, 3) := by decide +kernel
theorem dX12_next_221 : decode cX12_next 221 = .ok (.ifCond .eq 53, 3) := by decide +kernel
theorem dX12_next_224 : decode cX12_next 224 = .ok (.aload_n 0, 1) := by decide +kernel
theorem dX12_next_225 : decode cX12_next 225 = .ok (.getfield 339, 3) := by decide +kernel
theorem dX12_next_228 : decode cX12_next 228 = .ok (.aload_n 0, 1) := by decide +kernel
theorem dX12_next_229 : decode cX12_next 229 = .ok (.getfield 342, 3) := by decide +kernel
theorem dX12_next_232 : decode cX12_next 232 = .ok (.isub, 1) := by decide +kernel
theorem dX12_next_233 : decode cX12_next 233 = .ok (.bipush 6, 2) := by decide +kernel
theorem dX12_next_235 : decode cX12_next 235 = .ok (.if_icmp .ge 26, 3) := by decide +kernel
theorem dX12_next_238 : decode cX12_next 238 = .ok (.aload_n 0, 1) := by decide +kernel
theorem dX12_next_239 : decode cX12_next 239 = .ok (.bipush 10, 2) := by decide +kernel
theorem dX12_next_241 : decode cX12_next 241 = .ok (.aload_n 0, 1) := by decide +kernel
theorem dX12_next_242 : decode cX12_next 242 = .ok (.getfield 368, 3) := by decide +kernel
theorem dX12_next_245 : decode cX12_next 245 = .ok (.imul, 1) := by decide +kernel
theorem dX12_next_246 : decode cX12_next 246 = .ok (.aload_n 0, 1) := by decide +kernel
theorem dX12_next_247 : decode cX12_next 247 = .ok (.aload_n 0, 1) := by decide +kernel
theorem dX12_next_248 : decode cX12_next 248 = .ok (.getfield 339, 3) := by decide +kernel
theorem dX12_next_251 : decode cX12_next 251 = .ok (.invokevirtual 345, 3) := by decide +kernel
theorem dX12_next_254 : decode cX12_next 254 = .ok (.iadd, 1) := by decide +kernel
theorem dX12_next_255 : decode cX12_next 255 = .ok (.bipush 48, 2) := by decide +kernel
theorem dX12_next_257 : decode cX12_next 257 = .ok (.isub, 1) := by decide +kernel
theorem dX12_next_258 : decode cX12_next 258 = .ok (.putfield 368, 3) := by decide +kernel
theorem dX12_next_261 : decode cX12_next 261 = .ok (.aload_n 0, 1) := by decide +kernel
theorem dX12_next_262 : decode cX12_next 262 = .ok (.dup, 1) := by decide +kernel
theorem dX12_next_263 : decode cX12_next 263 = .ok (.getfield 339, 3) := by decide +kernel
theorem dX12_next_266 : decode cX12_next 266 = .ok (.iconst 1, 1) := by decide +kernel
theorem dX12_next_267 : decode cX12_next 267 = .ok (.iadd, 1) := by decide +kernel
theorem dX12_next_268 : decode cX12_next 268 = .ok (.putfield 339, 3) := by decide +kernel
theorem dX12_next_271 : decode cX12_next 271 = .ok (.goto (-61), 3) := by decide +kernel
theorem dX12_next_274 : decode cX12_next 274 = .ok (.aload_n 0, 1) := by decide +kernel
theorem dX12_next_275 : decode cX12_next 275 = .ok (.aload_n 0, 1) := by decide +kernel
theorem dX12_next_276 : decode cX12_next 276 = .ok (.getfield 339, 3) := by decide +kernel
theorem dX12_next_279 : decode cX12_next 279 = .ok (.aload_n 0, 1) := by decide +kernel
theorem dX12_next_280 : decode cX12_next 280 = .ok (.getfield 342, 3) := by decide +kernel
theorem dX12_next_283 : decode cX12_next 283 = .ok (.isub, 1) := by decide +kernel
theorem dX12_next_284 : decode cX12_next 284 = .ok (.bipush 6, 2) := by decide +kernel
theorem dX12_next_286 : decode cX12_next 286 = .ok (.if_icmp .le 7, 3) := by decide +kernel
theorem dX12_next_289 : decode cX12_next 289 = .ok (.iconst 4, 1) := by decide +kernel
theorem dX12_next_290 : decode cX12_next 290 = .ok (.goto 4, 3) := by decide +kernel
theorem dX12_next_293 : decode cX12_next 293 = .ok (.iconst 2, 1) := by decide +kernel
theorem dX12_next_294 : decode cX12_next 294 = .ok (.putfield 348, 3) := by decide +kernel
theorem dX12_next_297 : decode cX12_next 297 = .ok (.goto 86, 3) := by decide +kernel
theorem dX12_next_300 : decode cX12_next 300 = .ok (.aload_n 0, 1) := by decide +kernel
theorem dX12_next_301 : decode cX12_next 301 = .ok (.aload_n 0, 1) := by decide +kernel
theorem dX12_next_302 : decode cX12_next 302 = .ok (.getfield 342, 3) := by decide +kernel
theorem dX12_next_305 : decode cX12_next 305 = .ok (.iconst 1, 1) := by decide +kernel
theorem dX12_next_306 : decode cX12_next 306 = .ok (.iadd, 1) := by decide +kernel
theorem dX12_next_307 : decode cX12_next 307 = .ok (.putfield 339, 3) := by decide +kernel
theorem dX12_next_310 : decode cX12_next 310 = .ok (.aload_n 0, 1) := by decide +kernel
theorem dX12_next_311 : decode cX12_next 311 = .ok (.iload_n 1, 1) := by decide +kernel
theorem dX12_next_312 : decode cX12_next 312 = .ok (.putfield 368, 3) := by decide +kernel
theorem dX12_next_315 : decode cX12_next 315 = .ok (.aload_n 0, 1) := by decide +kernel
theorem dX12_next_316 : decode cX12_next 316 = .ok (.iload_n 1, 1) := by decide +kernel
theorem dX12_next_317 : decode cX12_next 317 = .ok (.i2l, 1) := by decide +kernel
theorem dX12_next_318 : decode cX12_next 318 = .ok (.ldc2_w 371, 3) := by decide +kernel
theorem dX12_next_321 : decode cX12_next 321 = .ok (.ldc2_w 373, 3) := by decide +kernel
theorem dX12_next_324 : decode cX12_next 324 = .ok (.invokestatic 208, 3) := by decide +kernel
theorem dX12_next_327 : decode cX12_next 327 = .ok (.ifCond .ne 48, 3) := by decide +kernel
theorem dX12_next_330 : decode cX12_next 330 = .ok (.iload_n 1, 1) := by decide +kernel
theorem dX12_next_331 : decode cX12_next 331 = .ok (.i2l, 1) := by decide +kernel
theorem dX12_next_332 : decode cX12_next 332 = .ok (.ldc2_w 375, 3) := by decide +kernel
theorem dX12_next_335 : decode cX12_next 335 = .ok (.ldc2_w 377, 3) := by decide +kernel
theorem dX12_next_338 : decode cX12_next 338 = .ok (.invokestatic 208, 3) := by decide +kernel
theorem dX12_next_341 : decode cX12_next 341 = .ok (.ifCond .ne 34, 3) := by decide +kernel
theorem dX12_next_344 : decode cX12_next 344 = .ok (.iload_n 1, 1) := by decide +kernel
theorem dX12_next_345 : decode cX12_next 345 = .ok (.bipush 47, 2) := by decide +kernel
theorem dX12_next_347 : decode cX12_next 347 = .ok (.if_icmp .eq 28, 3) := by decide +kernel
theorem dX12_next_350 : decode cX12_next 350 = .ok (.iload_n 1, 1) := by decide +kernel
theorem dX12_next_351 : decode cX12_next 351 = .ok (.bipush 37, 2) := by decide +kernel
theorem dX12_next_353 : decode cX12_next 353 = .ok (.if_icmp .eq 22, 3) := by decide +kernel
theorem dX12_next_356 : decode cX12_next 356 = .ok (.aload_n 0, 1) := by decide +kernel
theorem dX12_next_357 : decode cX12_next 357 = .ok (.getfield 379, 3) := by decide +kernel
theorem dX12_next_360 : decode cX12_next 360 = .ok (.ifCond .eq 19, 3) := by decide +kernel
theorem dX12_next_363 : decode cX12_next 363 = .ok (.iload_n 1, 1) := by decide +kernel
theorem dX12_next_364 : decode cX12_next 364 = .ok (.bipush 123, 2) := by decide +kernel
theorem dX12_next_366 : decode cX12_next 366 = .ok (.if_icmp .eq 9, 3) := by decide +kernel
theorem dX12_next_369 : decode cX12_next 369 = .ok (.iload_n 1, 1) := by decide +kernel
theorem dX12_next_370 : decode cX12_next 370 = .ok (.bipush 125, 2) := by decide +kernel
theorem dX12_next_372 : decode cX12_next 372 = .ok (.if_icmp .ne 7, 3) := by decide +kernel
theorem dX12_next_375 : decode cX12_next 375 = .ok (.iconst 3, 1) := by decide +kernel
theorem dX12_next_376 : decode cX12_next 376 = .ok (.goto 4, 3) := by decide +kernel
theorem dX12_next_379 : decode cX12_next 379 = .ok (.iconst 4, 1) := by decide +kernel
theorem dX12_next_380 : decode cX12_next 380 = .ok (.putfield 348, 3) := by decide +kernel
theorem dX12_next_383 : decode cX12_next 383 = .ok (.return_, 1) := by decide +kernel
theorem dX12_spelled_0 : decode cX12_spelled 0 = .ok (.iload_n 0, 1) := by decide +kernel
theorem dX12_spelled_1 : decode cX12_spelled 1 = .ok (.i2l, 1) := by decide +kernel
theorem dX12_spelled_2 : decode cX12_spelled 2 = .ok (.ldc2_w 360, 3) := by decide +kernel
theorem dX12_spelled_5 : decode cX12_spelled 5 = .ok (.lsub, 1) := by decide +kernel
theorem dX12_spelled_6 : decode cX12_spelled 6 = .ok (.lstore 6, 2) := by decide +kernel
theorem dX12_spelled_8 : decode cX12_spelled 8 = .ok (.lload 6, 2) := by decide +kernel
theorem dX12_spelled_10 : decode cX12_spelled 10 = .ok (.ldc2_w 358, 3) := by decide +kernel
theorem dX12_spelled_13 : decode cX12_spelled 13 = .ok (.lmul, 1) := by decide +kernel
theorem dX12_spelled_14 : decode cX12_spelled 14 = .ok (.iload_n 1, 1) := by decide +kernel
theorem dX12_spelled_15 : decode cX12_spelled 15 = .ok (.i2l, 1) := by decide +kernel
theorem dX12_spelled_16 : decode cX12_spelled 16 = .ok (.ladd, 1) := by decide +kernel
theorem dX12_spelled_17 : decode cX12_spelled 17 = .ok (.ldc2_w 360, 3) := by decide +kernel
theorem dX12_spelled_20 : decode cX12_spelled 20 = .ok (.lsub, 1) := by decide +kernel
theorem dX12_spelled_21 : decode cX12_spelled 21 = .ok (.lstore 6, 2) := by decide +kernel
theorem dX12_spelled_23 : decode cX12_spelled 23 = .ok (.iload_n 2, 1) := by decide +kernel
theorem dX12_spelled_24 : decode cX12_spelled 24 = .ok (.ifCond .le 19, 3) := by decide +kernel
theorem dX12_spelled_27 : decode cX12_spelled 27 = .ok (.lload 6, 2) := by decide +kernel
theorem dX12_spelled_29 : decode cX12_spelled 29 = .ok (.ldc2_w 358, 3) := by decide +kernel
theorem dX12_spelled_32 : decode cX12_spelled 32 = .ok (.lmul, 1) := by decide +kernel
theorem dX12_spelled_33 : decode cX12_spelled 33 = .ok (.iload_n 2, 1) := by decide +kernel
theorem dX12_spelled_34 : decode cX12_spelled 34 = .ok (.i2l, 1) := by decide +kernel
theorem dX12_spelled_35 : decode cX12_spelled 35 = .ok (.ladd, 1) := by decide +kernel
theorem dX12_spelled_36 : decode cX12_spelled 36 = .ok (.ldc2_w 360, 3) := by decide +kernel
theorem dX12_spelled_39 : decode cX12_spelled 39 = .ok (.lsub, 1) := by decide +kernel
theorem dX12_spelled_40 : decode cX12_spelled 40 = .ok (.goto 5, 3) := by decide +kernel
theorem dX12_spelled_43 : decode cX12_spelled 43 = .ok (.lload 6, 2) := by decide +kernel
theorem dX12_spelled_45 : decode cX12_spelled 45 = .ok (.lstore 6, 2) := by decide +kernel
theorem dX12_spelled_47 : decode cX12_spelled 47 = .ok (.iload_n 3, 1) := by decide +kernel
theorem dX12_spelled_48 : decode cX12_spelled 48 = .ok (.ifCond .le 19, 3) := by decide +kernel
theorem dX12_spelled_51 : decode cX12_spelled 51 = .ok (.lload 6, 2) := by decide +kernel
theorem dX12_spelled_53 : decode cX12_spelled 53 = .ok (.ldc2_w 358, 3) := by decide +kernel
theorem dX12_spelled_56 : decode cX12_spelled 56 = .ok (.lmul, 1) := by decide +kernel
theorem dX12_spelled_57 : decode cX12_spelled 57 = .ok (.iload_n 3, 1) := by decide +kernel
theorem dX12_spelled_58 : decode cX12_spelled 58 = .ok (.i2l, 1) := by decide +kernel
theorem dX12_spelled_59 : decode cX12_spelled 59 = .ok (.ladd, 1) := by decide +kernel
theorem dX12_spelled_60 : decode cX12_spelled 60 = .ok (.ldc2_w 360, 3) := by decide +kernel
theorem dX12_spelled_63 : decode cX12_spelled 63 = .ok (.lsub, 1) := by decide +kernel
theorem dX12_spelled_64 : decode cX12_spelled 64 = .ok (.goto 5, 3) := by decide +kernel
theorem dX12_spelled_67 : decode cX12_spelled 67 = .ok (.lload 6, 2) := by decide +kernel
theorem dX12_spelled_69 : decode cX12_spelled 69 = .ok (.lstore 6, 2) := by decide +kernel
theorem dX12_spelled_71 : decode cX12_spelled 71 = .ok (.iload 4, 2) := by decide +kernel
theorem dX12_spelled_73 : decode cX12_spelled 73 = .ok (.ifCond .le 20, 3) := by decide +kernel
theorem dX12_spelled_76 : decode cX12_spelled 76 = .ok (.lload 6, 2) := by decide +kernel
theorem dX12_spelled_78 : decode cX12_spelled 78 = .ok (.ldc2_w 358, 3) := by decide +kernel
theorem dX12_spelled_81 : decode cX12_spelled 81 = .ok (.lmul, 1) := by decide +kernel
theorem dX12_spelled_82 : decode cX12_spelled 82 = .ok (.iload 4, 2) := by decide +kernel
theorem dX12_spelled_84 : decode cX12_spelled 84 = .ok (.i2l, 1) := by decide +kernel
theorem dX12_spelled_85 : decode cX12_spelled 85 = .ok (.ladd, 1) := by decide +kernel
theorem dX12_spelled_86 : decode cX12_spelled 86 = .ok (.ldc2_w 360, 3) := by decide +kernel
theorem dX12_spelled_89 : decode cX12_spelled 89 = .ok (.lsub, 1) := by decide +kernel
theorem dX12_spelled_90 : decode cX12_spelled 90 = .ok (.goto 5, 3) := by decide +kernel
theorem dX12_spelled_93 : decode cX12_spelled 93 = .ok (.lload 6, 2) := by decide +kernel
theorem dX12_spelled_95 : decode cX12_spelled 95 = .ok (.lstore 6, 2) := by decide +kernel
theorem dX12_spelled_97 : decode cX12_spelled 97 = .ok (.iload 5, 2) := by decide +kernel
theorem dX12_spelled_99 : decode cX12_spelled 99 = .ok (.ifCond .le 20, 3) := by decide +kernel
theorem dX12_spelled_102 : decode cX12_spelled 102 = .ok (.lload 6, 2) := by decide +kernel
theorem dX12_spelled_104 : decode cX12_spelled 104 = .ok (.ldc2_w 358, 3) := by decide +kernel
theorem dX12_spelled_107 : decode cX12_spelled 107 = .ok (.lmul, 1) := by decide +kernel
theorem dX12_spelled_108 : decode cX12_spelled 108 = .ok (.iload 5, 2) := by decide +kernel
theorem dX12_spelled_110 : decode cX12_spelled 110 = .ok (.i2l, 1) := by decide +kernel
theorem dX12_spelled_111 : decode cX12_spelled 111 = .ok (.ladd, 1) := by decide +kernel
theorem dX12_spelled_112 : decode cX12_spelled 112 = .ok (.ldc2_w 360, 3) := by decide +kernel
theorem dX12_spelled_115 : decode cX12_spelled 115 = .ok (.lsub, 1) := by decide +kernel
theorem dX12_spelled_116 : decode cX12_spelled 116 = .ok (.goto 5, 3) := by decide +kernel
theorem dX12_spelled_119 : decode cX12_spelled 119 = .ok (.lload 6, 2) := by decide +kernel
theorem dX12_spelled_121 : decode cX12_spelled 121 = .ok (.lreturn, 1) := by decide +kernel
theorem dX12_isWord_0 : decode cX12_isWord 0 = .ok (.aload_n 0, 1) := by decide +kernel
theorem dX12_isWord_1 : decode cX12_isWord 1 = .ok (.getfield 348, 3) := by decide +kernel
theorem dX12_isWord_4 : decode cX12_isWord 4 = .ok (.iconst 1, 1) := by decide +kernel
theorem dX12_isWord_5 : decode cX12_isWord 5 = .ok (.if_icmp .ne 16, 3) := by decide +kernel
theorem dX12_isWord_8 : decode cX12_isWord 8 = .ok (.aload_n 0, 1) := by decide +kernel
theorem dX12_isWord_9 : decode cX12_isWord 9 = .ok (.getfield 354, 3) := by decide +kernel
theorem dX12_isWord_12 : decode cX12_isWord 12 = .ok (.lload_n 1, 1) := by decide +kernel
theorem dX12_isWord_13 : decode cX12_isWord 13 = .ok (.lcmp, 1) := by decide +kernel
theorem dX12_isWord_14 : decode cX12_isWord 14 = .ok (.ifCond .ne 7, 3) := by decide +kernel
theorem dX12_isWord_17 : decode cX12_isWord 17 = .ok (.iconst 1, 1) := by decide +kernel
theorem dX12_isWord_18 : decode cX12_isWord 18 = .ok (.goto 4, 3) := by decide +kernel
theorem dX12_isWord_21 : decode cX12_isWord 21 = .ok (.iconst 0, 1) := by decide +kernel
theorem dX12_isWord_22 : decode cX12_isWord 22 = .ok (.ireturn, 1) := by decide +kernel
theorem dX12_isSign_0 : decode cX12_isSign 0 = .ok (.aload_n 0, 1) := by decide +kernel
theorem dX12_isSign_1 : decode cX12_isSign 1 = .ok (.getfield 348, 3) := by decide +kernel
theorem dX12_isSign_4 : decode cX12_isSign 4 = .ok (.iconst 3, 1) := by decide +kernel
theorem dX12_isSign_5 : decode cX12_isSign 5 = .ok (.if_icmp .ne 15, 3) := by decide +kernel
theorem dX12_isSign_8 : decode cX12_isSign 8 = .ok (.aload_n 0, 1) := by decide +kernel
theorem dX12_isSign_9 : decode cX12_isSign 9 = .ok (.getfield 368, 3) := by decide +kernel
theorem dX12_isSign_12 : decode cX12_isSign 12 = .ok (.iload_n 1, 1) := by decide +kernel
theorem dX12_isSign_13 : decode cX12_isSign 13 = .ok (.if_icmp .ne 7, 3) := by decide +kernel
theorem dX12_isSign_16 : decode cX12_isSign 16 = .ok (.iconst 1, 1) := by decide +kernel
theorem dX12_isSign_17 : decode cX12_isSign 17 = .ok (.goto 4, 3) := by decide +kernel
theorem dX12_isSign_20 : decode cX12_isSign 20 = .ok (.iconst 0, 1) := by decide +kernel
theorem dX12_isSign_21 : decode cX12_isSign 21 = .ok (.ireturn, 1) := by decide +kernel
theorem dX12_fail_0 : decode cX12_fail 0 = .ok (.aload_n 0, 1) := by decide +kernel
theorem dX12_fail_1 : decode cX12_fail 1 = .ok (.getfield 383, 3) := by decide +kernel
theorem dX12_fail_4 : decode cX12_fail 4 = .ok (.ifCond .le 4, 3) := by decide +kernel
theorem dX12_fail_7 : decode cX12_fail 7 = .ok (.return_, 1) := by decide +kernel
theorem dX12_fail_8 : decode cX12_fail 8 = .ok (.aload_n 0, 1) := by decide +kernel
theorem dX12_fail_9 : decode cX12_fail 9 = .ok (.iload_n 1, 1) := by decide +kernel
theorem dX12_fail_10 : decode cX12_fail 10 = .ok (.putfield 383, 3) := by decide +kernel
theorem dX12_fail_13 : decode cX12_fail 13 = .ok (.aload_n 0, 1) := by decide +kernel
theorem dX12_fail_14 : decode cX12_fail 14 = .ok (.iload_n 2, 1) := by decide +kernel
theorem dX12_fail_15 : decode cX12_fail 15 = .ok (.putfield 386, 3) := by decide +kernel
theorem dX12_fail_18 : decode cX12_fail 18 = .ok (.return_, 1) := by decide +kernel
theorem dX12_wrongToken_0 : decode cX12_wrongToken 0 = .ok (.aload_n 0, 1) := by decide +kernel
theorem dX12_wrongToken_1 : decode cX12_wrongToken 1 = .ok (.aload_n 0, 1) := by decide +kernel
theorem dX12_wrongToken_2 : decode cX12_wrongToken 2 = .ok (.getfield 348, 3) := by decide +kernel
theorem dX12_wrongToken_5 : decode cX12_wrongToken 5 = .ok (.iconst 4, 1) := by decide +kernel
theorem dX12_wrongToken_6 : decode cX12_wrongToken 6 = .ok (.if_icmp .ne 7, 3) := by decide +kernel
theorem dX12_wrongToken_9 : decode cX12_wrongToken 9 = .ok (.iconst 1, 1) := by decide +kernel
theorem dX12_wrongToken_10 : decode cX12_wrongToken 10 = .ok (.goto 4, 3) := by decide +kernel
theorem dX12_wrongToken_13 : decode cX12_wrongToken 13 = .ok (.iconst 2, 1) := by decide +kernel
theorem dX12_wrongToken_14 : decode cX12_wrongToken 14 = .ok (.aload_n 0, 1) := by decide +kernel
theorem dX12_wrongToken_15 : decode cX12_wrongToken 15 = .ok (.getfield 342, 3) := by decide +kernel
theorem dX12_wrongToken_18 : decode cX12_wrongToken 18 = .ok (.invokevirtual 389, 3) := by decide +kernel
theorem dX12_wrongToken_21 : decode cX12_wrongToken 21 = .ok (.return_, 1) := by decide +kernel
theorem dX12_variable_0 : decode cX12_variable 0 = .ok (.aload_n 0, 1) := by decide +kernel
theorem dX12_variable_1 : decode cX12_variable 1 = .ok (.bipush 115, 2) := by decide +kernel
theorem dX12_variable_3 : decode cX12_variable 3 = .ok (.bipush 101, 2) := by decide +kernel
theorem dX12_variable_5 : decode cX12_variable 5 = .ok (.bipush 114, 2) := by decide +kernel
theorem dX12_variable_7 : decode cX12_variable 7 = .ok (.bipush 118, 2) := by decide +kernel
theorem dX12_variable_9 : decode cX12_variable 9 = .ok (.bipush 101, 2) := by decide +kernel
theorem dX12_variable_11 : decode cX12_variable 11 = .ok (.bipush 114, 2) := by decide +kernel
theorem dX12_variable_13 : decode cX12_variable 13 = .ok (.invokestatic 393, 3) := by decide +kernel
theorem dX12_variable_16 : decode cX12_variable 16 = .ok (.invokevirtual 397, 3) := by decide +kernel
theorem dX12_variable_19 : decode cX12_variable 19 = .ok (.ifCond .eq 5, 3) := by decide +kernel
theorem dX12_variable_22 : decode cX12_variable 22 = .ok (.iconst 0, 1) := by decide +kernel
theorem dX12_variable_23 : decode cX12_variable 23 = .ok (.ireturn, 1) := by decide +kernel
theorem dX12_variable_24 : decode cX12_variable 24 = .ok (.aload_n 0, 1) := by decide +kernel
theorem dX12_variable_25 : decode cX12_variable 25 = .ok (.ldc2_w 401, 3) := by decide +kernel
theorem dX12_variable_28 : decode cX12_variable 28 = .ok (.invokevirtual 397, 3) := by decide +kernel
theorem dX12_variable_31 : decode cX12_variable 31 = .ok (.ifCond .eq 5, 3) := by decide +kernel
theorem dX12_variable_34 : decode cX12_variable 34 = .ok (.iconst 1, 1) := by decide +kernel
theorem dX12_variable_35 : decode cX12_variable 35 = .ok (.ireturn, 1) := by decide +kernel
theorem dX12_variable_36 : decode cX12_variable 36 = .ok (.aload_n 0, 1) := by decide +kernel
theorem dX12_variable_37 : decode cX12_variable 37 = .ok (.bipush 97, 2) := by decide +kernel
theorem dX12_variable_39 : decode cX12_variable 39 = .ok (.bipush 104, 2) := by decide +kernel
theorem dX12_variable_41 : decode cX12_variable 41 = .ok (.bipush 101, 2) := by decide +kernel
theorem dX12_variable_43 : decode cX12_variable 43 = .ok (.bipush 97, 2) := by decide +kernel
theorem dX12_variable_45 : decode cX12_variable 45 = .ok (.bipush 100, 2) := by decide +kernel
theorem dX12_variable_47 : decode cX12_variable 47 = .ok (.iconst 0, 1) := by decide +kernel
theorem dX12_variable_48 : decode cX12_variable 48 = .ok (.invokestatic 393, 3) := by decide +kernel
theorem dX12_variable_51 : decode cX12_variable 51 = .ok (.invokevirtual 397, 3) := by decide +kernel
theorem dX12_variable_54 : decode cX12_variable 54 = .ok (.ifCond .eq 5, 3) := by decide +kernel
theorem dX12_variable_57 : decode cX12_variable 57 = .ok (.iconst 2, 1) := by decide +kernel
theorem dX12_variable_58 : decode cX12_variable 58 = .ok (.ireturn, 1) := by decide +kernel
theorem dX12_variable_59 : decode cX12_variable 59 = .ok (.aload_n 0, 1) := by decide +kernel
theorem dX12_variable_60 : decode cX12_variable 60 = .ok (.bipush 107, 2) := by decide +kernel
theorem dX12_variable_62 : decode cX12_variable 62 = .ok (.bipush 105, 2) := by decide +kernel
theorem dX12_variable_64 : decode cX12_variable 64 = .ok (.bipush 110, 2) := by decide +kernel
theorem dX12_variable_66 : decode cX12_variable 66 = .ok (.bipush 100, 2) := by decide +kernel
theorem dX12_variable_68 : decode cX12_variable 68 = .ok (.iconst 0, 1) := by decide +kernel
theorem dX12_variable_69 : decode cX12_variable 69 = .ok (.iconst 0, 1) := by decide +kernel
theorem dX12_variable_70 : decode cX12_variable 70 = .ok (.invokestatic 393, 3) := by decide +kernel
theorem dX12_variable_73 : decode cX12_variable 73 = .ok (.invokevirtual 397, 3) := by decide +kernel
theorem dX12_variable_76 : decode cX12_variable 76 = .ok (.ifCond .eq 5, 3) := by decide +kernel
theorem dX12_variable_79 : decode cX12_variable 79 = .ok (.iconst 3, 1) := by decide +kernel
theorem dX12_variable_80 : decode cX12_variable 80 = .ok (.ireturn, 1) := by decide +kernel
theorem dX12_variable_81 : decode cX12_variable 81 = .ok (.aload_n 0, 1) := by decide +kernel
theorem dX12_variable_82 : decode cX12_variable 82 = .ok (.bipush 97, 2) := by decide +kernel
theorem dX12_variable_84 : decode cX12_variable 84 = .ok (.bipush 108, 2) := by decide +kernel
theorem dX12_variable_86 : decode cX12_variable 86 = .ok (.bipush 105, 2) := by decide +kernel
theorem dX12_variable_88 : decode cX12_variable 88 = .ok (.bipush 107, 2) := by decide +kernel
theorem dX12_variable_90 : decode cX12_variable 90 = .ok (.bipush 101, 2) := by decide +kernel
theorem dX12_variable_92 : decode cX12_variable 92 = .ok (.iconst 0, 1) := by decide +kernel
theorem dX12_variable_93 : decode cX12_variable 93 = .ok (.invokestatic 393, 3) := by decide +kernel
theorem dX12_variable_96 : decode cX12_variable 96 = .ok (.invokevirtual 397, 3) := by decide +kernel
theorem dX12_variable_99 : decode cX12_variable 99 = .ok (.ifCond .eq 5, 3) := by decide +kernel
theorem dX12_variable_102 : decode cX12_variable 102 = .ok (.iconst 4, 1) := by decide +kernel
theorem dX12_variable_103 : decode cX12_variable 103 = .ok (.ireturn, 1) := by decide +kernel
theorem dX12_variable_104 : decode cX12_variable 104 = .ok (.aload_n 0, 1) := by decide +kernel
theorem dX12_variable_105 : decode cX12_variable 105 = .ok (.ldc2_w 403, 3) := by decide +kernel
theorem dX12_variable_108 : decode cX12_variable 108 = .ok (.invokevirtual 397, 3) := by decide +kernel
theorem dX12_variable_111 : decode cX12_variable 111 = .ok (.ifCond .eq 5, 3) := by decide +kernel
theorem dX12_variable_114 : decode cX12_variable 114 = .ok (.iconst 5, 1) := by decide +kernel
theorem dX12_variable_115 : decode cX12_variable 115 = .ok (.ireturn, 1) := by decide +kernel
theorem dX12_variable_116 : decode cX12_variable 116 = .ok (.aload_n 0, 1) := by decide +kernel
theorem dX12_variable_117 : decode cX12_variable 117 = .ok (.bipush 119, 2) := by decide +kernel
theorem dX12_variable_119 : decode cX12_variable 119 = .ok (.bipush 97, 2) := by decide +kernel
theorem dX12_variable_121 : decode cX12_variable 121 = .ok (.bipush 121, 2) := by decide +kernel
theorem dX12_variable_123 : decode cX12_variable 123 = .ok (.iconst 0, 1) := by decide +kernel
theorem dX12_variable_124 : decode cX12_variable 124 = .ok (.iconst 0, 1) := by decide +kernel
theorem dX12_variable_125 : decode cX12_variable 125 = .ok (.iconst 0, 1) := by decide +kernel
theorem dX12_variable_126 : decode cX12_variable 126 = .ok (.invokestatic 393, 3) := by decide +kernel
theorem dX12_variable_129 : decode cX12_variable 129 = .ok (.invokevirtual 397, 3) := by decide +kernel
theorem dX12_variable_132 : decode cX12_variable 132 = .ok (.ifCond .eq 6, 3) := by decide +kernel
theorem dX12_variable_135 : decode cX12_variable 135 = .ok (.bipush 6, 2) := by decide +kernel
theorem dX12_variable_137 : decode cX12_variable 137 = .ok (.ireturn, 1) := by decide +kernel
theorem dX12_variable_138 : decode cX12_variable 138 = .ok (.aload_n 0, 1) := by decide +kernel
theorem dX12_variable_139 : decode cX12_variable 139 = .ok (.bipush 99, 2) := by decide +kernel
theorem dX12_variable_141 : decode cX12_variable 141 = .ok (.bipush 108, 2) := by decide +kernel
theorem dX12_variable_143 : decode cX12_variable 143 = .ok (.bipush 111, 2) := by decide +kernel
theorem dX12_variable_145 : decode cX12_variable 145 = .ok (.bipush 99, 2) := by decide +kernel
theorem dX12_variable_147 : decode cX12_variable 147 = .ok (.bipush 107, 2) := by decide +kernel
theorem dX12_variable_149 : decode cX12_variable 149 = .ok (.iconst 0, 1) := by decide +kernel
theorem dX12_variable_150 : decode cX12_variable 150 = .ok (.invokestatic 393, 3) := by decide +kernel
theorem dX12_variable_153 : decode cX12_variable 153 = .ok (.invokevirtual 397, 3) := by decide +kernel
theorem dX12_variable_156 : decode cX12_variable 156 = .ok (.ifCond .eq 6, 3) := by decide +kernel
theorem dX12_variable_159 : decode cX12_variable 159 = .ok (.bipush 7, 2) := by decide +kernel
theorem dX12_variable_161 : decode cX12_variable 161 = .ok (.ireturn, 1) := by decide +kernel
theorem dX12_variable_162 : decode cX12_variable 162 = .ok (.aload_n 0, 1) := by decide +kernel
theorem dX12_variable_163 : decode cX12_variable 163 = .ok (.bipush 100, 2) := by decide +kernel
theorem dX12_variable_165 : decode cX12_variable 165 = .ok (.bipush 97, 2) := by decide +kernel
theorem dX12_variable_167 : decode cX12_variable 167 = .ok (.bipush 121, 2) := by decide +kernel
theorem dX12_variable_169 : decode cX12_variable 169 = .ok (.iconst 0, 1) := by decide +kernel
theorem dX12_variable_170 : decode cX12_variable 170 = .ok (.iconst 0, 1) := by decide +kernel
theorem dX12_variable_171 : decode cX12_variable 171 = .ok (.iconst 0, 1) := by decide +kernel
theorem dX12_variable_172 : decode cX12_variable 172 = .ok (.invokestatic 393, 3) := by decide +kernel
theorem dX12_variable_175 : decode cX12_variable 175 = .ok (.invokevirtual 397, 3) := by decide +kernel
theorem dX12_variable_178 : decode cX12_variable 178 = .ok (.ifCond .eq 6, 3) := by decide +kernel
theorem dX12_variable_181 : decode cX12_variable 181 = .ok (.bipush 8, 2) := by decide +kernel
theorem dX12_variable_183 : decode cX12_variable 183 = .ok (.ireturn, 1) := by decide +kernel
theorem dX12_variable_184 : decode cX12_variable 184 = .ok (.aload_n 0, 1) := by decide +kernel
theorem dX12_variable_185 : decode cX12_variable 185 = .ok (.bipush 109, 2) := by decide +kernel
theorem dX12_variable_187 : decode cX12_variable 187 = .ok (.bipush 111, 2) := by decide +kernel
theorem dX12_variable_189 : decode cX12_variable 189 = .ok (.bipush 110, 2) := by decide +kernel
theorem dX12_variable_191 : decode cX12_variable 191 = .ok (.bipush 116, 2) := by decide +kernel
theorem dX12_variable_193 : decode cX12_variable 193 = .ok (.bipush 104, 2) := by decide +kernel
theorem dX12_variable_195 : decode cX12_variable 195 = .ok (.iconst 0, 1) := by decide +kernel
theorem dX12_variable_196 : decode cX12_variable 196 = .ok (.invokestatic 393, 3) := by decide +kernel
theorem dX12_variable_199 : decode cX12_variable 199 = .ok (.invokevirtual 397, 3) := by decide +kernel
theorem dX12_variable_202 : decode cX12_variable 202 = .ok (.ifCond .eq 6, 3) := by decide +kernel
theorem dX12_variable_205 : decode cX12_variable 205 = .ok (.bipush 9, 2) := by decide +kernel
theorem dX12_variable_207 : decode cX12_variable 207 = .ok (.ireturn, 1) := by decide +kernel
theorem dX12_variable_208 : decode cX12_variable 208 = .ok (.aload_n 0, 1) := by decide +kernel
theorem dX12_variable_209 : decode cX12_variable 209 = .ok (.bipush 121, 2) := by decide +kernel
theorem dX12_variable_211 : decode cX12_variable 211 = .ok (.bipush 101, 2) := by decide +kernel
theorem dX12_variable_213 : decode cX12_variable 213 = .ok (.bipush 97, 2) := by decide +kernel
theorem dX12_variable_215 : decode cX12_variable 215 = .ok (.bipush 114, 2) := by decide +kernel
theorem dX12_variable_217 : decode cX12_variable 217 = .ok (.iconst 0, 1) := by decide +kernel
theorem dX12_variable_218 : decode cX12_variable 218 = .ok (.iconst 0, 1) := by decide +kernel
theorem dX12_variable_219 : decode cX12_variable 219 = .ok (.invokestatic 393, 3) := by decide +kernel
theorem dX12_variable_222 : decode cX12_variable 222 = .ok (.invokevirtual 397, 3) := by decide +kernel
theorem dX12_variable_225 : decode cX12_variable 225 = .ok (.ifCond .eq 8, 3) := by decide +kernel
theorem dX12_variable_228 : decode cX12_variable 228 = .ok (.bipush 10, 2) := by decide +kernel
theorem dX12_variable_230 : decode cX12_variable 230 = .ok (.goto 4, 3) := by decide +kernel
theorem dX12_variable_233 : decode cX12_variable 233 = .ok (.iconst (-1), 1) := by decide +kernel
theorem dX12_variable_234 : decode cX12_variable 234 = .ok (.ireturn, 1) := by decide +kernel
theorem dX12_isIf_0 : decode cX12_isIf 0 = .ok (.aload_n 0, 1) := by decide +kernel
theorem dX12_isIf_1 : decode cX12_isIf 1 = .ok (.bipush 105, 2) := by decide +kernel
theorem dX12_isIf_3 : decode cX12_isIf 3 = .ok (.bipush 102, 2) := by decide +kernel
theorem dX12_isIf_5 : decode cX12_isIf 5 = .ok (.iconst 0, 1) := by decide +kernel
theorem dX12_isIf_6 : decode cX12_isIf 6 = .ok (.iconst 0, 1) := by decide +kernel
theorem dX12_isIf_7 : decode cX12_isIf 7 = .ok (.iconst 0, 1) := by decide +kernel
theorem dX12_isIf_8 : decode cX12_isIf 8 = .ok (.iconst 0, 1) := by decide +kernel
theorem dX12_isIf_9 : decode cX12_isIf 9 = .ok (.invokestatic 393, 3) := by decide +kernel
theorem dX12_isIf_12 : decode cX12_isIf 12 = .ok (.invokevirtual 397, 3) := by decide +kernel
theorem dX12_isIf_15 : decode cX12_isIf 15 = .ok (.ireturn, 1) := by decide +kernel
theorem dX12_isThen_0 : decode cX12_isThen 0 = .ok (.aload_n 0, 1) := by decide +kernel
theorem dX12_isThen_1 : decode cX12_isThen 1 = .ok (.bipush 116, 2) := by decide +kernel
theorem dX12_isThen_3 : decode cX12_isThen 3 = .ok (.bipush 104, 2) := by decide +kernel
theorem dX12_isThen_5 : decode cX12_isThen 5 = .ok (.bipush 101, 2) := by decide +kernel
theorem dX12_isThen_7 : decode cX12_isThen 7 = .ok (.bipush 110, 2) := by decide +kernel
theorem dX12_isThen_9 : decode cX12_isThen 9 = .ok (.iconst 0, 1) := by decide +kernel
theorem dX12_isThen_10 : decode cX12_isThen 10 = .ok (.iconst 0, 1) := by decide +kernel
theorem dX12_isThen_11 : decode cX12_isThen 11 = .ok (.invokestatic 393, 3) := by decide +kernel
theorem dX12_isThen_14 : decode cX12_isThen 14 = .ok (.invokevirtual 397, 3) := by decide +kernel
theorem dX12_isThen_17 : decode cX12_isThen 17 = .ok (.ireturn, 1) := by decide +kernel
theorem dX12_isElse_0 : decode cX12_isElse 0 = .ok (.aload_n 0, 1) := by decide +kernel
theorem dX12_isElse_1 : decode cX12_isElse 1 = .ok (.bipush 101, 2) := by decide +kernel
theorem dX12_isElse_3 : decode cX12_isElse 3 = .ok (.bipush 108, 2) := by decide +kernel
theorem dX12_isElse_5 : decode cX12_isElse 5 = .ok (.bipush 115, 2) := by decide +kernel
theorem dX12_isElse_7 : decode cX12_isElse 7 = .ok (.bipush 101, 2) := by decide +kernel
theorem dX12_isElse_9 : decode cX12_isElse 9 = .ok (.iconst 0, 1) := by decide +kernel
theorem dX12_isElse_10 : decode cX12_isElse 10 = .ok (.iconst 0, 1) := by decide +kernel
theorem dX12_isElse_11 : decode cX12_isElse 11 = .ok (.invokestatic 393, 3) := by decide +kernel
theorem dX12_isElse_14 : decode cX12_isElse 14 = .ok (.invokevirtual 397, 3) := by decide +kernel
theorem dX12_isElse_17 : decode cX12_isElse 17 = .ok (.ireturn, 1) := by decide +kernel
theorem dX12_isAnd_0 : decode cX12_isAnd 0 = .ok (.aload_n 0, 1) := by decide +kernel
theorem dX12_isAnd_1 : decode cX12_isAnd 1 = .ok (.bipush 97, 2) := by decide +kernel
theorem dX12_isAnd_3 : decode cX12_isAnd 3 = .ok (.bipush 110, 2) := by decide +kernel
theorem dX12_isAnd_5 : decode cX12_isAnd 5 = .ok (.bipush 100, 2) := by decide +kernel
theorem dX12_isAnd_7 : decode cX12_isAnd 7 = .ok (.iconst 0, 1) := by decide +kernel
theorem dX12_isAnd_8 : decode cX12_isAnd 8 = .ok (.iconst 0, 1) := by decide +kernel
theorem dX12_isAnd_9 : decode cX12_isAnd 9 = .ok (.iconst 0, 1) := by decide +kernel
