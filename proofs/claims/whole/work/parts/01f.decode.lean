theorem dX12_readHow_64 : decode cX12_readHow 64 = .ok (.invokevirtual 397, 3) := by decide +kernel
theorem dX12_readHow_67 : decode cX12_readHow 67 = .ok (.ifCond .eq 7, 3) := by decide +kernel
theorem dX12_readHow_70 : decode cX12_readHow 70 = .ok (.iconst 2, 1) := by decide +kernel
theorem dX12_readHow_71 : decode cX12_readHow 71 = .ok (.goto 4, 3) := by decide +kernel
theorem dX12_readHow_74 : decode cX12_readHow 74 = .ok (.iconst (-1), 1) := by decide +kernel
theorem dX12_readHow_75 : decode cX12_readHow 75 = .ok (.istore_n 2, 1) := by decide +kernel
theorem dX12_readHow_76 : decode cX12_readHow 76 = .ok (.iload_n 2, 1) := by decide +kernel
theorem dX12_readHow_77 : decode cX12_readHow 77 = .ok (.ifCond .ge 7, 3) := by decide +kernel
theorem dX12_readHow_80 : decode cX12_readHow 80 = .ok (.aload_n 0, 1) := by decide +kernel
theorem dX12_readHow_81 : decode cX12_readHow 81 = .ok (.invokevirtual 449, 3) := by decide +kernel
theorem dX12_readHow_84 : decode cX12_readHow 84 = .ok (.aload_n 0, 1) := by decide +kernel
theorem dX12_readHow_85 : decode cX12_readHow 85 = .ok (.getfield 383, 3) := by decide +kernel
theorem dX12_readHow_88 : decode cX12_readHow 88 = .ok (.ifCond .le 4, 3) := by decide +kernel
theorem dX12_readHow_91 : decode cX12_readHow 91 = .ok (.return_, 1) := by decide +kernel
theorem dX12_readHow_92 : decode cX12_readHow 92 = .ok (.aload_n 0, 1) := by decide +kernel
theorem dX12_readHow_93 : decode cX12_readHow 93 = .ok (.getfield 137, 3) := by decide +kernel
theorem dX12_readHow_96 : decode cX12_readHow 96 = .ok (.iload_n 1, 1) := by decide +kernel
theorem dX12_readHow_97 : decode cX12_readHow 97 = .ok (.iload_n 2, 1) := by decide +kernel
theorem dX12_readHow_98 : decode cX12_readHow 98 = .ok (.iastore, 1) := by decide +kernel
theorem dX12_readHow_99 : decode cX12_readHow 99 = .ok (.aload_n 0, 1) := by decide +kernel
theorem dX12_readHow_100 : decode cX12_readHow 100 = .ok (.invokevirtual 455, 3) := by decide +kernel
theorem dX12_readHow_103 : decode cX12_readHow 103 = .ok (.return_, 1) := by decide +kernel
theorem dX12_program_0 : decode cX12_program 0 = .ok (.aload_n 0, 1) := by decide +kernel
theorem dX12_program_1 : decode cX12_program 1 = .ok (.iconst 0, 1) := by decide +kernel
theorem dX12_program_2 : decode cX12_program 2 = .ok (.putfield 200, 3) := by decide +kernel
theorem dX12_program_5 : decode cX12_program 5 = .ok (.aload_n 0, 1) := by decide +kernel
theorem dX12_program_6 : decode cX12_program 6 = .ok (.iconst 0, 1) := by decide +kernel
theorem dX12_program_7 : decode cX12_program 7 = .ok (.putfield 203, 3) := by decide +kernel
theorem dX12_program_10 : decode cX12_program 10 = .ok (.iload_n 1, 1) := by decide +kernel
theorem dX12_program_11 : decode cX12_program 11 = .ok (.ifCond .lt 11, 3) := by decide +kernel
theorem dX12_program_14 : decode cX12_program 14 = .ok (.iload_n 1, 1) := by decide +kernel
theorem dX12_program_15 : decode cX12_program 15 = .ok (.aload_n 0, 1) := by decide +kernel
theorem dX12_program_16 : decode cX12_program 16 = .ok (.getfield 489, 3) := by decide +kernel
theorem dX12_program_19 : decode cX12_program 19 = .ok (.if_icmp .le 9, 3) := by decide +kernel
theorem dX12_program_22 : decode cX12_program 22 = .ok (.aload_n 0, 1) := by decide +kernel
theorem dX12_program_23 : decode cX12_program 23 = .ok (.iconst 5, 1) := by decide +kernel
theorem dX12_program_24 : decode cX12_program 24 = .ok (.invokevirtual 261, 3) := by decide +kernel
theorem dX12_program_27 : decode cX12_program 27 = .ok (.ireturn, 1) := by decide +kernel
theorem dX12_program_28 : decode cX12_program 28 = .ok (.aload_n 0, 1) := by decide +kernel
theorem dX12_program_29 : decode cX12_program 29 = .ok (.iload_n 1, 1) := by decide +kernel
theorem dX12_program_30 : decode cX12_program 30 = .ok (.putfield 336, 3) := by decide +kernel
theorem dX12_program_33 : decode cX12_program 33 = .ok (.aload_n 0, 1) := by decide +kernel
theorem dX12_program_34 : decode cX12_program 34 = .ok (.iconst 1, 1) := by decide +kernel
theorem dX12_program_35 : decode cX12_program 35 = .ok (.putfield 379, 3) := by decide +kernel
theorem dX12_program_38 : decode cX12_program 38 = .ok (.aload_n 0, 1) := by decide +kernel
theorem dX12_program_39 : decode cX12_program 39 = .ok (.iconst 0, 1) := by decide +kernel
theorem dX12_program_40 : decode cX12_program 40 = .ok (.putfield 489, 3) := by decide +kernel
theorem dX12_program_43 : decode cX12_program 43 = .ok (.aload_n 0, 1) := by decide +kernel
theorem dX12_program_44 : decode cX12_program 44 = .ok (.iconst 0, 1) := by decide +kernel
theorem dX12_program_45 : decode cX12_program 45 = .ok (.putfield 339, 3) := by decide +kernel
theorem dX12_program_48 : decode cX12_program 48 = .ok (.aload_n 0, 1) := by decide +kernel
theorem dX12_program_49 : decode cX12_program 49 = .ok (.iconst 0, 1) := by decide +kernel
theorem dX12_program_50 : decode cX12_program 50 = .ok (.putfield 383, 3) := by decide +kernel
theorem dX12_program_53 : decode cX12_program 53 = .ok (.aload_n 0, 1) := by decide +kernel
theorem dX12_program_54 : decode cX12_program 54 = .ok (.iconst 0, 1) := by decide +kernel
theorem dX12_program_55 : decode cX12_program 55 = .ok (.putfield 571, 3) := by decide +kernel
theorem dX12_program_58 : decode cX12_program 58 = .ok (.aload_n 0, 1) := by decide +kernel
theorem dX12_program_59 : decode cX12_program 59 = .ok (.invokevirtual 455, 3) := by decide +kernel
theorem dX12_program_62 : decode cX12_program 62 = .ok (.aload_n 0, 1) := by decide +kernel
theorem dX12_program_63 : decode cX12_program 63 = .ok (.getfield 383, 3) := by decide +kernel
theorem dX12_program_66 : decode cX12_program 66 = .ok (.ifCond .ne 18, 3) := by decide +kernel
theorem dX12_program_69 : decode cX12_program 69 = .ok (.aload_n 0, 1) := by decide +kernel
theorem dX12_program_70 : decode cX12_program 70 = .ok (.getfield 348, 3) := by decide +kernel
theorem dX12_program_73 : decode cX12_program 73 = .ok (.ifCond .eq 11, 3) := by decide +kernel
theorem dX12_program_76 : decode cX12_program 76 = .ok (.aload_n 0, 1) := by decide +kernel
theorem dX12_program_77 : decode cX12_program 77 = .ok (.iconst 0, 1) := by decide +kernel
theorem dX12_program_78 : decode cX12_program 78 = .ok (.invokevirtual 580, 3) := by decide +kernel
theorem dX12_program_81 : decode cX12_program 81 = .ok (.goto (-19), 3) := by decide +kernel
theorem dX12_program_84 : decode cX12_program 84 = .ok (.aload_n 0, 1) := by decide +kernel
theorem dX12_program_85 : decode cX12_program 85 = .ok (.aload_n 0, 1) := by decide +kernel
theorem dX12_program_86 : decode cX12_program 86 = .ok (.getfield 383, 3) := by decide +kernel
theorem dX12_program_89 : decode cX12_program 89 = .ok (.putfield 45, 3) := by decide +kernel
theorem dX12_program_92 : decode cX12_program 92 = .ok (.aload_n 0, 1) := by decide +kernel
theorem dX12_program_93 : decode cX12_program 93 = .ok (.aload_n 0, 1) := by decide +kernel
theorem dX12_program_94 : decode cX12_program 94 = .ok (.getfield 383, 3) := by decide +kernel
theorem dX12_program_97 : decode cX12_program 97 = .ok (.ifCond .ne 7, 3) := by decide +kernel
theorem dX12_program_100 : decode cX12_program 100 = .ok (.iconst (-1), 1) := by decide +kernel
theorem dX12_program_101 : decode cX12_program 101 = .ok (.goto 7, 3) := by decide +kernel
theorem dX12_program_104 : decode cX12_program 104 = .ok (.aload_n 0, 1) := by decide +kernel
theorem dX12_program_105 : decode cX12_program 105 = .ok (.getfield 386, 3) := by decide +kernel
theorem dX12_program_108 : decode cX12_program 108 = .ok (.putfield 49, 3) := by decide +kernel
theorem dX12_program_111 : decode cX12_program 111 = .ok (.aload_n 0, 1) := by decide +kernel
theorem dX12_program_112 : decode cX12_program 112 = .ok (.getfield 383, 3) := by decide +kernel
theorem dX12_program_115 : decode cX12_program 115 = .ok (.ifCond .le 10, 3) := by decide +kernel
theorem dX12_program_118 : decode cX12_program 118 = .ok (.aload_n 0, 1) := by decide +kernel
theorem dX12_program_119 : decode cX12_program 119 = .ok (.bipush 10, 2) := by decide +kernel
theorem dX12_program_121 : decode cX12_program 121 = .ok (.invokevirtual 261, 3) := by decide +kernel
theorem dX12_program_124 : decode cX12_program 124 = .ok (.ireturn, 1) := by decide +kernel
theorem dX12_program_125 : decode cX12_program 125 = .ok (.aload_n 0, 1) := by decide +kernel
theorem dX12_program_126 : decode cX12_program 126 = .ok (.aload_n 0, 1) := by decide +kernel
theorem dX12_program_127 : decode cX12_program 127 = .ok (.getfield 571, 3) := by decide +kernel
theorem dX12_program_130 : decode cX12_program 130 = .ok (.putfield 119, 3) := by decide +kernel
theorem dX12_program_133 : decode cX12_program 133 = .ok (.iconst 0, 1) := by decide +kernel
theorem dX12_program_134 : decode cX12_program 134 = .ok (.istore_n 2, 1) := by decide +kernel
theorem dX12_program_135 : decode cX12_program 135 = .ok (.iload_n 2, 1) := by decide +kernel
theorem dX12_program_136 : decode cX12_program 136 = .ok (.aload_n 0, 1) := by decide +kernel
theorem dX12_program_137 : decode cX12_program 137 = .ok (.getfield 571, 3) := by decide +kernel
theorem dX12_program_140 : decode cX12_program 140 = .ok (.if_icmp .ge 45, 3) := by decide +kernel
theorem dX12_program_143 : decode cX12_program 143 = .ok (.aload_n 0, 1) := by decide +kernel
theorem dX12_program_144 : decode cX12_program 144 = .ok (.getfield 125, 3) := by decide +kernel
theorem dX12_program_147 : decode cX12_program 147 = .ok (.iload_n 2, 1) := by decide +kernel
theorem dX12_program_148 : decode cX12_program 148 = .ok (.aload_n 0, 1) := by decide +kernel
theorem dX12_program_149 : decode cX12_program 149 = .ok (.getfield 134, 3) := by decide +kernel
theorem dX12_program_152 : decode cX12_program 152 = .ok (.iload_n 2, 1) := by decide +kernel
theorem dX12_program_153 : decode cX12_program 153 = .ok (.iaload, 1) := by decide +kernel
theorem dX12_program_154 : decode cX12_program 154 = .ok (.iastore, 1) := by decide +kernel
theorem dX12_program_155 : decode cX12_program 155 = .ok (.aload_n 0, 1) := by decide +kernel
theorem dX12_program_156 : decode cX12_program 156 = .ok (.getfield 128, 3) := by decide +kernel
theorem dX12_program_159 : decode cX12_program 159 = .ok (.iload_n 2, 1) := by decide +kernel
theorem dX12_program_160 : decode cX12_program 160 = .ok (.aload_n 0, 1) := by decide +kernel
theorem dX12_program_161 : decode cX12_program 161 = .ok (.getfield 137, 3) := by decide +kernel
theorem dX12_program_164 : decode cX12_program 164 = .ok (.iload_n 2, 1) := by decide +kernel
theorem dX12_program_165 : decode cX12_program 165 = .ok (.iaload, 1) := by decide +kernel
theorem dX12_program_166 : decode cX12_program 166 = .ok (.iastore, 1) := by decide +kernel
theorem dX12_program_167 : decode cX12_program 167 = .ok (.aload_n 0, 1) := by decide +kernel
theorem dX12_program_168 : decode cX12_program 168 = .ok (.getfield 131, 3) := by decide +kernel
theorem dX12_program_171 : decode cX12_program 171 = .ok (.iload_n 2, 1) := by decide +kernel
theorem dX12_program_172 : decode cX12_program 172 = .ok (.aload_n 0, 1) := by decide +kernel
theorem dX12_program_173 : decode cX12_program 173 = .ok (.getfield 140, 3) := by decide +kernel
theorem dX12_program_176 : decode cX12_program 176 = .ok (.iload_n 2, 1) := by decide +kernel
theorem dX12_program_177 : decode cX12_program 177 = .ok (.iaload, 1) := by decide +kernel
theorem dX12_program_178 : decode cX12_program 178 = .ok (.iastore, 1) := by decide +kernel
theorem dX12_program_179 : decode cX12_program 179 = .ok (.iinc 2 1, 3) := by decide +kernel
theorem dX12_program_182 : decode cX12_program 182 = .ok (.goto (-47), 3) := by decide +kernel
theorem dX12_program_185 : decode cX12_program 185 = .ok (.aload_n 0, 1) := by decide +kernel
theorem dX12_program_186 : decode cX12_program 186 = .ok (.getfield 119, 3) := by decide +kernel
theorem dX12_program_189 : decode cX12_program 189 = .ok (.ireturn, 1) := by decide +kernel
theorem dX12_keep_0 : decode cX12_keep 0 = .ok (.aload_n 0, 1) := by decide +kernel
theorem dX12_keep_1 : decode cX12_keep 1 = .ok (.getfield 589, 3) := by decide +kernel
theorem dX12_keep_4 : decode cX12_keep 4 = .ok (.bipush 40, 2) := by decide +kernel
theorem dX12_keep_6 : decode cX12_keep 6 = .ok (.if_icmp .ge 13, 3) := by decide +kernel
theorem dX12_keep_9 : decode cX12_keep 9 = .ok (.aload_n 0, 1) := by decide +kernel
theorem dX12_keep_10 : decode cX12_keep 10 = .ok (.getfield 143, 3) := by decide +kernel
theorem dX12_keep_13 : decode cX12_keep 13 = .ok (.aload_n 0, 1) := by decide +kernel
theorem dX12_keep_14 : decode cX12_keep 14 = .ok (.getfield 589, 3) := by decide +kernel
theorem dX12_keep_17 : decode cX12_keep 17 = .ok (.lload_n 1, 1) := by decide +kernel
theorem dX12_keep_18 : decode cX12_keep 18 = .ok (.lastore, 1) := by decide +kernel
theorem dX12_keep_19 : decode cX12_keep 19 = .ok (.aload_n 0, 1) := by decide +kernel
theorem dX12_keep_20 : decode cX12_keep 20 = .ok (.dup, 1) := by decide +kernel
theorem dX12_keep_21 : decode cX12_keep 21 = .ok (.getfield 589, 3) := by decide +kernel
theorem dX12_keep_24 : decode cX12_keep 24 = .ok (.iconst 1, 1) := by decide +kernel
theorem dX12_keep_25 : decode cX12_keep 25 = .ok (.iadd, 1) := by decide +kernel
theorem dX12_keep_26 : decode cX12_keep 26 = .ok (.putfield 589, 3) := by decide +kernel
theorem dX12_keep_29 : decode cX12_keep 29 = .ok (.return_, 1) := by decide +kernel
theorem dX12_runLines_0 : decode cX12_runLines 0 = .ok (.iload_n 1, 1) := by decide +kernel
theorem dX12_runLines_1 : decode cX12_runLines 1 = .ok (.istore_n 3, 1) := by decide +kernel
theorem dX12_runLines_2 : decode cX12_runLines 2 = .ok (.iload_n 3, 1) := by decide +kernel
theorem dX12_runLines_3 : decode cX12_runLines 3 = .ok (.iload_n 2, 1) := by decide +kernel
theorem dX12_runLines_4 : decode cX12_runLines 4 = .ok (.if_icmp .ge 80, 3) := by decide +kernel
theorem dX12_runLines_7 : decode cX12_runLines 7 = .ok (.aload_n 0, 1) := by decide +kernel
theorem dX12_runLines_8 : decode cX12_runLines 8 = .ok (.getfield 592, 3) := by decide +kernel
theorem dX12_runLines_11 : decode cX12_runLines 11 = .ok (.iconst (-1), 1) := by decide +kernel
theorem dX12_runLines_12 : decode cX12_runLines 12 = .ok (.if_icmp .ne 72, 3) := by decide +kernel
theorem dX12_runLines_15 : decode cX12_runLines 15 = .ok (.aload_n 0, 1) := by decide +kernel
theorem dX12_runLines_16 : decode cX12_runLines 16 = .ok (.getfield 125, 3) := by decide +kernel
theorem dX12_runLines_19 : decode cX12_runLines 19 = .ok (.iload_n 3, 1) := by decide +kernel
theorem dX12_runLines_20 : decode cX12_runLines 20 = .ok (.iaload, 1) := by decide +kernel
theorem dX12_runLines_21 : decode cX12_runLines 21 = .ok (.iconst 4, 1) := by decide +kernel
theorem dX12_runLines_22 : decode cX12_runLines 22 = .ok (.if_icmp .ne 47, 3) := by decide +kernel
theorem dX12_runLines_25 : decode cX12_runLines 25 = .ok (.iconst 0, 1) := by decide +kernel
theorem dX12_runLines_26 : decode cX12_runLines 26 = .ok (.istore 4, 2) := by decide +kernel
theorem dX12_runLines_28 : decode cX12_runLines 28 = .ok (.iload 4, 2) := by decide +kernel
theorem dX12_runLines_30 : decode cX12_runLines 30 = .ok (.aload_n 0, 1) := by decide +kernel
theorem dX12_runLines_31 : decode cX12_runLines 31 = .ok (.getfield 128, 3) := by decide +kernel
theorem dX12_runLines_34 : decode cX12_runLines 34 = .ok (.iload_n 3, 1) := by decide +kernel
theorem dX12_runLines_35 : decode cX12_runLines 35 = .ok (.iaload, 1) := by decide +kernel
theorem dX12_runLines_36 : decode cX12_runLines 36 = .ok (.if_icmp .ge 30, 3) := by decide +kernel
theorem dX12_runLines_39 : decode cX12_runLines 39 = .ok (.aload_n 0, 1) := by decide +kernel
theorem dX12_runLines_40 : decode cX12_runLines 40 = .ok (.getfield 592, 3) := by decide +kernel
theorem dX12_runLines_43 : decode cX12_runLines 43 = .ok (.iconst (-1), 1) := by decide +kernel
theorem dX12_runLines_44 : decode cX12_runLines 44 = .ok (.if_icmp .ne 22, 3) := by decide +kernel
theorem dX12_runLines_47 : decode cX12_runLines 47 = .ok (.aload_n 0, 1) := by decide +kernel
theorem dX12_runLines_48 : decode cX12_runLines 48 = .ok (.iload_n 3, 1) := by decide +kernel
theorem dX12_runLines_49 : decode cX12_runLines 49 = .ok (.iconst 1, 1) := by decide +kernel
theorem dX12_runLines_50 : decode cX12_runLines 50 = .ok (.iadd, 1) := by decide +kernel
theorem dX12_runLines_51 : decode cX12_runLines 51 = .ok (.aload_n 0, 1) := by decide +kernel
theorem dX12_runLines_52 : decode cX12_runLines 52 = .ok (.getfield 131, 3) := by decide +kernel
theorem dX12_runLines_55 : decode cX12_runLines 55 = .ok (.iload_n 3, 1) := by decide +kernel
theorem dX12_runLines_56 : decode cX12_runLines 56 = .ok (.iaload, 1) := by decide +kernel
theorem dX12_runLines_57 : decode cX12_runLines 57 = .ok (.invokevirtual 595, 3) := by decide +kernel
theorem dX12_runLines_60 : decode cX12_runLines 60 = .ok (.iinc 4 1, 3) := by decide +kernel
theorem dX12_runLines_63 : decode cX12_runLines 63 = .ok (.goto (-35), 3) := by decide +kernel
theorem dX12_runLines_66 : decode cX12_runLines 66 = .ok (.goto 8, 3) := by decide +kernel
theorem dX12_runLines_69 : decode cX12_runLines 69 = .ok (.aload_n 0, 1) := by decide +kernel
theorem dX12_runLines_70 : decode cX12_runLines 70 = .ok (.iload_n 3, 1) := by decide +kernel
theorem dX12_runLines_71 : decode cX12_runLines 71 = .ok (.invokevirtual 598, 3) := by decide +kernel
theorem dX12_runLines_74 : decode cX12_runLines 74 = .ok (.aload_n 0, 1) := by decide +kernel
theorem dX12_runLines_75 : decode cX12_runLines 75 = .ok (.getfield 131, 3) := by decide +kernel
theorem dX12_runLines_78 : decode cX12_runLines 78 = .ok (.iload_n 3, 1) := by decide +kernel
theorem dX12_runLines_79 : decode cX12_runLines 79 = .ok (.iaload, 1) := by decide +kernel
theorem dX12_runLines_80 : decode cX12_runLines 80 = .ok (.istore_n 3, 1) := by decide +kernel
theorem dX12_runLines_81 : decode cX12_runLines 81 = .ok (.goto (-79), 3) := by decide +kernel
theorem dX12_runLines_84 : decode cX12_runLines 84 = .ok (.return_, 1) := by decide +kernel
theorem dX12_runLine_0 : decode cX12_runLine 0 = .ok (.aload_n 0, 1) := by decide +kernel
theorem dX12_runLine_1 : decode cX12_runLine 1 = .ok (.aload_n 0, 1) := by decide +kernel
theorem dX12_runLine_2 : decode cX12_runLine 2 = .ok (.getfield 32, 3) := by decide +kernel
theorem dX12_runLine_5 : decode cX12_runLine 5 = .ok (.aload_n 0, 1) := by decide +kernel
theorem dX12_runLine_6 : decode cX12_runLine 6 = .ok (.getfield 601, 3) := by decide +kernel
theorem dX12_runLine_9 : decode cX12_runLine 9 = .ok (.iaload, 1) := by decide +kernel
theorem dX12_runLine_10 : decode cX12_runLine 10 = .ok (.aload_n 0, 1) := by decide +kernel
theorem dX12_runLine_11 : decode cX12_runLine 11 = .ok (.getfield 604, 3) := by decide +kernel
theorem dX12_runLine_14 : decode cX12_runLine 14 = .ok (.invokevirtual 325, 3) := by decide +kernel
theorem dX12_runLine_17 : decode cX12_runLine 17 = .ok (.lstore_n 2, 1) := by decide +kernel
theorem dX12_runLine_18 : decode cX12_runLine 18 = .ok (.aload_n 0, 1) := by decide +kernel
theorem dX12_runLine_19 : decode cX12_runLine 19 = .ok (.getfield 125, 3) := by decide +kernel
theorem dX12_runLine_22 : decode cX12_runLine 22 = .ok (.iload_n 1, 1) := by decide +kernel
theorem dX12_runLine_23 : decode cX12_runLine 23 = .ok (.iaload, 1) := by decide +kernel
theorem dX12_runLine_24 : decode cX12_runLine 24 = .ok (.ifCond .ne 106, 3) := by decide +kernel
theorem dX12_runLine_27 : decode cX12_runLine 27 = .ok (.lload_n 2, 1) := by decide +kernel
theorem dX12_runLine_28 : decode cX12_runLine 28 = .ok (.invokestatic 329, 3) := by decide +kernel
theorem dX12_runLine_31 : decode cX12_runLine 31 = .ok (.ldc2_w 314, 3) := by decide +kernel
theorem dX12_runLine_34 : decode cX12_runLine 34 = .ok (.aload_n 0, 1) := by decide +kernel
theorem dX12_runLine_35 : decode cX12_runLine 35 = .ok (.getfield 128, 3) := by decide +kernel
theorem dX12_runLine_38 : decode cX12_runLine 38 = .ok (.iload_n 1, 1) := by decide +kernel
theorem dX12_runLine_39 : decode cX12_runLine 39 = .ok (.iaload, 1) := by decide +kernel
theorem dX12_runLine_40 : decode cX12_runLine 40 = .ok (.i2l, 1) := by decide +kernel
theorem dX12_runLine_41 : decode cX12_runLine 41 = .ok (.lmul, 1) := by decide +kernel
theorem dX12_runLine_42 : decode cX12_runLine 42 = .ok (.ladd, 1) := by decide +kernel
theorem dX12_runLine_43 : decode cX12_runLine 43 = .ok (.lstore 4, 2) := by decide +kernel
theorem dX12_runLine_45 : decode cX12_runLine 45 = .ok (.aload_n 0, 1) := by decide +kernel
theorem dX12_runLine_46 : decode cX12_runLine 46 = .ok (.getfield 604, 3) := by decide +kernel
theorem dX12_runLine_49 : decode cX12_runLine 49 = .ok (.istore 6, 2) := by decide +kernel
theorem dX12_runLine_51 : decode cX12_runLine 51 = .ok (.aload_n 0, 1) := by decide +kernel
theorem dX12_runLine_52 : decode cX12_runLine 52 = .ok (.getfield 592, 3) := by decide +kernel
theorem dX12_runLine_55 : decode cX12_runLine 55 = .ok (.iconst (-1), 1) := by decide +kernel
theorem dX12_runLine_56 : decode cX12_runLine 56 = .ok (.if_icmp .ne 36, 3) := by decide +kernel
theorem dX12_runLine_59 : decode cX12_runLine 59 = .ok (.aload_n 0, 1) := by decide +kernel
theorem dX12_runLine_60 : decode cX12_runLine 60 = .ok (.aload_n 0, 1) := by decide +kernel
theorem dX12_runLine_61 : decode cX12_runLine 61 = .ok (.getfield 32, 3) := by decide +kernel
theorem dX12_runLine_64 : decode cX12_runLine 64 = .ok (.aload_n 0, 1) := by decide +kernel
theorem dX12_runLine_65 : decode cX12_runLine 65 = .ok (.getfield 601, 3) := by decide +kernel
theorem dX12_runLine_68 : decode cX12_runLine 68 = .ok (.iaload, 1) := by decide +kernel
theorem dX12_runLine_69 : decode cX12_runLine 69 = .ok (.aload_n 0, 1) := by decide +kernel
theorem dX12_runLine_70 : decode cX12_runLine 70 = .ok (.getfield 604, 3) := by decide +kernel
theorem dX12_runLine_73 : decode cX12_runLine 73 = .ok (.invokevirtual 325, 3) := by decide +kernel
theorem dX12_runLine_76 : decode cX12_runLine 76 = .ok (.invokestatic 329, 3) := by decide +kernel
theorem dX12_runLine_79 : decode cX12_runLine 79 = .ok (.lload 4, 2) := by decide +kernel
theorem dX12_runLine_81 : decode cX12_runLine 81 = .ok (.lcmp, 1) := by decide +kernel
theorem dX12_runLine_82 : decode cX12_runLine 82 = .ok (.ifCond .ge 10, 3) := by decide +kernel
theorem dX12_runLine_85 : decode cX12_runLine 85 = .ok (.aload_n 0, 1) := by decide +kernel
theorem dX12_runLine_86 : decode cX12_runLine 86 = .ok (.invokevirtual 607, 3) := by decide +kernel
theorem dX12_runLine_89 : decode cX12_runLine 89 = .ok (.goto (-38), 3) := by decide +kernel
theorem dX12_runLine_92 : decode cX12_runLine 92 = .ok (.aload_n 0, 1) := by decide +kernel
theorem dX12_runLine_93 : decode cX12_runLine 93 = .ok (.dup, 1) := by decide +kernel
theorem dX12_runLine_94 : decode cX12_runLine 94 = .ok (.getfield 610, 3) := by decide +kernel
theorem dX12_runLine_97 : decode cX12_runLine 97 = .ok (.aload_n 0, 1) := by decide +kernel
theorem dX12_runLine_98 : decode cX12_runLine 98 = .ok (.getfield 592, 3) := by decide +kernel
theorem dX12_runLine_101 : decode cX12_runLine 101 = .ok (.iconst (-1), 1) := by decide +kernel
theorem dX12_runLine_102 : decode cX12_runLine 102 = .ok (.if_icmp .ne 20, 3) := by decide +kernel
theorem dX12_runLine_105 : decode cX12_runLine 105 = .ok (.aload_n 0, 1) := by decide +kernel
theorem dX12_runLine_106 : decode cX12_runLine 106 = .ok (.getfield 604, 3) := by decide +kernel
theorem dX12_runLine_109 : decode cX12_runLine 109 = .ok (.iload 6, 2) := by decide +kernel
theorem dX12_runLine_111 : decode cX12_runLine 111 = .ok (.isub, 1) := by decide +kernel
theorem dX12_runLine_112 : decode cX12_runLine 112 = .ok (.aload_n 0, 1) := by decide +kernel
theorem dX12_runLine_113 : decode cX12_runLine 113 = .ok (.getfield 128, 3) := by decide +kernel
theorem dX12_runLine_116 : decode cX12_runLine 116 = .ok (.iload_n 1, 1) := by decide +kernel
theorem dX12_runLine_117 : decode cX12_runLine 117 = .ok (.iaload, 1) := by decide +kernel
theorem dX12_runLine_118 : decode cX12_runLine 118 = .ok (.isub, 1) := by decide +kernel
theorem dX12_runLine_119 : decode cX12_runLine 119 = .ok (.goto 4, 3) := by decide +kernel
theorem dX12_runLine_122 : decode cX12_runLine 122 = .ok (.iconst 0, 1) := by decide +kernel
theorem dX12_runLine_123 : decode cX12_runLine 123 = .ok (.iadd, 1) := by decide +kernel
theorem dX12_runLine_124 : decode cX12_runLine 124 = .ok (.putfield 610, 3) := by decide +kernel
theorem dX12_runLine_127 : decode cX12_runLine 127 = .ok (.goto 137, 3) := by decide +kernel
theorem dX12_runLine_130 : decode cX12_runLine 130 = .ok (.aload_n 0, 1) := by decide +kernel
theorem dX12_runLine_131 : decode cX12_runLine 131 = .ok (.getfield 125, 3) := by decide +kernel
theorem dX12_runLine_134 : decode cX12_runLine 134 = .ok (.iload_n 1, 1) := by decide +kernel
theorem dX12_runLine_135 : decode cX12_runLine 135 = .ok (.iaload, 1) := by decide +kernel
theorem dX12_runLine_136 : decode cX12_runLine 136 = .ok (.iconst 1, 1) := by decide +kernel
theorem dX12_runLine_137 : decode cX12_runLine 137 = .ok (.if_icmp .ne 54, 3) := by decide +kernel
theorem dX12_runLine_140 : decode cX12_runLine 140 = .ok (.aload_n 0, 1) := by decide +kernel
theorem dX12_runLine_141 : decode cX12_runLine 141 = .ok (.getfield 592, 3) := by decide +kernel
theorem dX12_runLine_144 : decode cX12_runLine 144 = .ok (.iconst (-1), 1) := by decide +kernel
theorem dX12_runLine_145 : decode cX12_runLine 145 = .ok (.if_icmp .ne 119, 3) := by decide +kernel
theorem dX12_runLine_148 : decode cX12_runLine 148 = .ok (.aload_n 0, 1) := by decide +kernel
theorem dX12_runLine_149 : decode cX12_runLine 149 = .ok (.aload_n 0, 1) := by decide +kernel
theorem dX12_runLine_150 : decode cX12_runLine 150 = .ok (.getfield 32, 3) := by decide +kernel
theorem dX12_runLine_153 : decode cX12_runLine 153 = .ok (.aload_n 0, 1) := by decide +kernel
theorem dX12_runLine_154 : decode cX12_runLine 154 = .ok (.getfield 601, 3) := by decide +kernel
theorem dX12_runLine_157 : decode cX12_runLine 157 = .ok (.iaload, 1) := by decide +kernel
theorem dX12_runLine_158 : decode cX12_runLine 158 = .ok (.aload_n 0, 1) := by decide +kernel
theorem dX12_runLine_159 : decode cX12_runLine 159 = .ok (.getfield 604, 3) := by decide +kernel
theorem dX12_runLine_162 : decode cX12_runLine 162 = .ok (.invokevirtual 325, 3) := by decide +kernel
theorem dX12_runLine_165 : decode cX12_runLine 165 = .ok (.ldc2_w 308, 3) := by decide +kernel
theorem dX12_runLine_168 : decode cX12_runLine 168 = .ok (.lrem, 1) := by decide +kernel
theorem dX12_runLine_169 : decode cX12_runLine 169 = .ok (.ldc2_w 314, 3) := by decide +kernel
theorem dX12_runLine_172 : decode cX12_runLine 172 = .ok (.aload_n 0, 1) := by decide +kernel
theorem dX12_runLine_173 : decode cX12_runLine 173 = .ok (.getfield 128, 3) := by decide +kernel
theorem dX12_runLine_176 : decode cX12_runLine 176 = .ok (.iload_n 1, 1) := by decide +kernel
theorem dX12_runLine_177 : decode cX12_runLine 177 = .ok (.iaload, 1) := by decide +kernel
theorem dX12_runLine_178 : decode cX12_runLine 178 = .ok (.i2l, 1) := by decide +kernel
theorem dX12_runLine_179 : decode cX12_runLine 179 = .ok (.lmul, 1) := by decide +kernel
theorem dX12_runLine_180 : decode cX12_runLine 180 = .ok (.lcmp, 1) := by decide +kernel
theorem dX12_runLine_181 : decode cX12_runLine 181 = .ok (.ifCond .ge 83, 3) := by decide +kernel
theorem dX12_runLine_184 : decode cX12_runLine 184 = .ok (.aload_n 0, 1) := by decide +kernel
theorem dX12_runLine_185 : decode cX12_runLine 185 = .ok (.invokevirtual 607, 3) := by decide +kernel
theorem dX12_runLine_188 : decode cX12_runLine 188 = .ok (.goto (-48), 3) := by decide +kernel
theorem dX12_runLine_191 : decode cX12_runLine 191 = .ok (.aload_n 0, 1) := by decide +kernel
theorem dX12_runLine_192 : decode cX12_runLine 192 = .ok (.getfield 125, 3) := by decide +kernel
theorem dX12_runLine_195 : decode cX12_runLine 195 = .ok (.iload_n 1, 1) := by decide +kernel
theorem dX12_runLine_196 : decode cX12_runLine 196 = .ok (.iaload, 1) := by decide +kernel
theorem dX12_runLine_197 : decode cX12_runLine 197 = .ok (.iconst 2, 1) := by decide +kernel
theorem dX12_runLine_198 : decode cX12_runLine 198 = .ok (.if_icmp .eq 25, 3) := by decide +kernel
theorem dX12_runLine_201 : decode cX12_runLine 201 = .ok (.lload_n 2, 1) := by decide +kernel
theorem dX12_runLine_202 : decode cX12_runLine 202 = .ok (.ldc2_w 308, 3) := by decide +kernel
theorem dX12_runLine_205 : decode cX12_runLine 205 = .ok (.lrem, 1) := by decide +kernel
theorem dX12_runLine_206 : decode cX12_runLine 206 = .ok (.ldc2_w 316, 3) := by decide +kernel
theorem dX12_runLine_209 : decode cX12_runLine 209 = .ok (.lcmp, 1) := by decide +kernel
theorem dX12_runLine_210 : decode cX12_runLine 210 = .ok (.ifCond .ne 13, 3) := by decide +kernel
theorem dX12_runLine_213 : decode cX12_runLine 213 = .ok (.aload_n 0, 1) := by decide +kernel
theorem dX12_runLine_214 : decode cX12_runLine 214 = .ok (.getfield 128, 3) := by decide +kernel
theorem dX12_runLine_217 : decode cX12_runLine 217 = .ok (.iload_n 1, 1) := by decide +kernel
theorem dX12_runLine_218 : decode cX12_runLine 218 = .ok (.iaload, 1) := by decide +kernel
theorem dX12_runLine_219 : decode cX12_runLine 219 = .ok (.iconst 2, 1) := by decide +kernel
theorem dX12_runLine_220 : decode cX12_runLine 220 = .ok (.if_icmp .ne 11, 3) := by decide +kernel
theorem dX12_runLine_223 : decode cX12_runLine 223 = .ok (.aload_n 0, 1) := by decide +kernel
theorem dX12_runLine_224 : decode cX12_runLine 224 = .ok (.lload_n 2, 1) := by decide +kernel
theorem dX12_runLine_225 : decode cX12_runLine 225 = .ok (.invokevirtual 613, 3) := by decide +kernel
theorem dX12_runLine_228 : decode cX12_runLine 228 = .ok (.goto 36, 3) := by decide +kernel
theorem dX12_runLine_231 : decode cX12_runLine 231 = .ok (.aload_n 0, 1) := by decide +kernel
theorem dX12_runLine_232 : decode cX12_runLine 232 = .ok (.getfield 128, 3) := by decide +kernel
theorem dX12_runLine_235 : decode cX12_runLine 235 = .ok (.iload_n 1, 1) := by decide +kernel
theorem dX12_runLine_236 : decode cX12_runLine 236 = .ok (.iaload, 1) := by decide +kernel
theorem dX12_runLine_237 : decode cX12_runLine 237 = .ok (.iconst 1, 1) := by decide +kernel
theorem dX12_runLine_238 : decode cX12_runLine 238 = .ok (.if_icmp .ne 21, 3) := by decide +kernel
theorem dX12_runLine_241 : decode cX12_runLine 241 = .ok (.aload_n 0, 1) := by decide +kernel
theorem dX12_runLine_242 : decode cX12_runLine 242 = .ok (.lload_n 2, 1) := by decide +kernel
theorem dX12_runLine_243 : decode cX12_runLine 243 = .ok (.ldc2_w 308, 3) := by decide +kernel
theorem dX12_runLine_246 : decode cX12_runLine 246 = .ok (.ldiv, 1) := by decide +kernel
theorem dX12_runLine_247 : decode cX12_runLine 247 = .ok (.lconst 1, 1) := by decide +kernel
theorem dX12_runLine_248 : decode cX12_runLine 248 = .ok (.ladd, 1) := by decide +kernel
theorem dX12_runLine_249 : decode cX12_runLine 249 = .ok (.ldc2_w 308, 3) := by decide +kernel
theorem dX12_runLine_252 : decode cX12_runLine 252 = .ok (.lmul, 1) := by decide +kernel
theorem dX12_runLine_253 : decode cX12_runLine 253 = .ok (.invokevirtual 613, 3) := by decide +kernel
theorem dX12_runLine_256 : decode cX12_runLine 256 = .ok (.goto 8, 3) := by decide +kernel
theorem dX12_runLine_259 : decode cX12_runLine 259 = .ok (.aload_n 0, 1) := by decide +kernel
theorem dX12_runLine_260 : decode cX12_runLine 260 = .ok (.iconst 1, 1) := by decide +kernel
theorem dX12_runLine_261 : decode cX12_runLine 261 = .ok (.putfield 592, 3) := by decide +kernel
theorem dX12_runLine_264 : decode cX12_runLine 264 = .ok (.return_, 1) := by decide +kernel
theorem dX12_goesOn_0 : decode cX12_goesOn 0 = .ok (.aload_n 0, 1) := by decide +kernel
theorem dX12_goesOn_1 : decode cX12_goesOn 1 = .ok (.getfield 604, 3) := by decide +kernel
theorem dX12_goesOn_4 : decode cX12_goesOn 4 = .ok (.aload_n 0, 1) := by decide +kernel
theorem dX12_goesOn_5 : decode cX12_goesOn 5 = .ok (.getfield 616, 3) := by decide +kernel
theorem dX12_goesOn_8 : decode cX12_goesOn 8 = .ok (.sipush 5000, 3) := by decide +kernel
theorem dX12_goesOn_11 : decode cX12_goesOn 11 = .ok (.iadd, 1) := by decide +kernel
theorem dX12_goesOn_12 : decode cX12_goesOn 12 = .ok (.if_icmp .ne 11, 3) := by decide +kernel
theorem dX12_goesOn_15 : decode cX12_goesOn 15 = .ok (.aload_n 0, 1) := by decide +kernel
theorem dX12_goesOn_16 : decode cX12_goesOn 16 = .ok (.iconst 2, 1) := by decide +kernel
theorem dX12_goesOn_17 : decode cX12_goesOn 17 = .ok (.putfield 592, 3) := by decide +kernel
theorem dX12_goesOn_20 : decode cX12_goesOn 20 = .ok (.goto 13, 3) := by decide +kernel
theorem dX12_goesOn_23 : decode cX12_goesOn 23 = .ok (.aload_n 0, 1) := by decide +kernel
theorem dX12_goesOn_24 : decode cX12_goesOn 24 = .ok (.dup, 1) := by decide +kernel
theorem dX12_goesOn_25 : decode cX12_goesOn 25 = .ok (.getfield 604, 3) := by decide +kernel
theorem dX12_goesOn_28 : decode cX12_goesOn 28 = .ok (.iconst 1, 1) := by decide +kernel
theorem dX12_goesOn_29 : decode cX12_goesOn 29 = .ok (.iadd, 1) := by decide +kernel
theorem dX12_goesOn_30 : decode cX12_goesOn 30 = .ok (.putfield 604, 3) := by decide +kernel
theorem dX12_goesOn_33 : decode cX12_goesOn 33 = .ok (.return_, 1) := by decide +kernel
theorem dX12_run_0 : decode cX12_run 0 = .ok (.aload_n 0, 1) := by decide +kernel
theorem dX12_run_1 : decode cX12_run 1 = .ok (.iconst 0, 1) := by decide +kernel
theorem dX12_run_2 : decode cX12_run 2 = .ok (.putfield 200, 3) := by decide +kernel
theorem dX12_run_5 : decode cX12_run 5 = .ok (.aload_n 0, 1) := by decide +kernel
theorem dX12_run_6 : decode cX12_run 6 = .ok (.iconst 0, 1) := by decide +kernel
theorem dX12_run_7 : decode cX12_run 7 = .ok (.putfield 203, 3) := by decide +kernel
theorem dX12_run_10 : decode cX12_run 10 = .ok (.aload_n 0, 1) := by decide +kernel
theorem dX12_run_11 : decode cX12_run 11 = .ok (.iload_n 1, 1) := by decide +kernel
theorem dX12_run_12 : decode cX12_run 12 = .ok (.invokevirtual 280, 3) := by decide +kernel
theorem dX12_run_15 : decode cX12_run 15 = .ok (.ifCond .ne 9, 3) := by decide +kernel
theorem dX12_run_18 : decode cX12_run 18 = .ok (.aload_n 0, 1) := by decide +kernel
theorem dX12_run_19 : decode cX12_run 19 = .ok (.iconst 2, 1) := by decide +kernel
theorem dX12_run_20 : decode cX12_run 20 = .ok (.invokevirtual 261, 3) := by decide +kernel
theorem dX12_run_23 : decode cX12_run 23 = .ok (.ireturn, 1) := by decide +kernel
theorem dX12_run_24 : decode cX12_run 24 = .ok (.iload_n 2, 1) := by decide +kernel
theorem dX12_run_25 : decode cX12_run 25 = .ok (.i2l, 1) := by decide +kernel
theorem dX12_run_26 : decode cX12_run 26 = .ok (.lconst 0, 1) := by decide +kernel
theorem dX12_run_27 : decode cX12_run 27 = .ok (.ldc2_w 619, 3) := by decide +kernel
theorem dX12_run_30 : decode cX12_run 30 = .ok (.invokestatic 208, 3) := by decide +kernel
theorem dX12_run_33 : decode cX12_run 33 = .ok (.ifCond .ne 9, 3) := by decide +kernel
theorem dX12_run_36 : decode cX12_run 36 = .ok (.aload_n 0, 1) := by decide +kernel
theorem dX12_run_37 : decode cX12_run 37 = .ok (.iconst 5, 1) := by decide +kernel
theorem dX12_run_38 : decode cX12_run 38 = .ok (.invokevirtual 261, 3) := by decide +kernel
theorem dX12_run_41 : decode cX12_run 41 = .ok (.ireturn, 1) := by decide +kernel
theorem dX12_run_42 : decode cX12_run 42 = .ok (.aload_n 0, 1) := by decide +kernel
theorem dX12_run_43 : decode cX12_run 43 = .ok (.getfield 119, 3) := by decide +kernel
theorem dX12_run_46 : decode cX12_run 46 = .ok (.ifCond .ge 10, 3) := by decide +kernel
theorem dX12_run_49 : decode cX12_run 49 = .ok (.aload_n 0, 1) := by decide +kernel
theorem dX12_run_50 : decode cX12_run 50 = .ok (.bipush 8, 2) := by decide +kernel
theorem dX12_run_52 : decode cX12_run 52 = .ok (.invokevirtual 261, 3) := by decide +kernel
theorem dX12_run_55 : decode cX12_run 55 = .ok (.ireturn, 1) := by decide +kernel
theorem dX12_run_56 : decode cX12_run 56 = .ok (.aload_n 0, 1) := by decide +kernel
theorem dX12_run_57 : decode cX12_run 57 = .ok (.iload_n 1, 1) := by decide +kernel
theorem dX12_run_58 : decode cX12_run 58 = .ok (.invokevirtual 322, 3) := by decide +kernel
theorem dX12_run_61 : decode cX12_run 61 = .ok (.aload_n 0, 1) := by decide +kernel
theorem dX12_run_62 : decode cX12_run 62 = .ok (.iload_n 1, 1) := by decide +kernel
theorem dX12_run_63 : decode cX12_run 63 = .ok (.putfield 601, 3) := by decide +kernel
theorem dX12_run_66 : decode cX12_run 66 = .ok (.aload_n 0, 1) := by decide +kernel
theorem dX12_run_67 : decode cX12_run 67 = .ok (.iload_n 2, 1) := by decide +kernel
theorem dX12_run_68 : decode cX12_run 68 = .ok (.putfield 616, 3) := by decide +kernel
theorem dX12_run_71 : decode cX12_run 71 = .ok (.aload_n 0, 1) := by decide +kernel
theorem dX12_run_72 : decode cX12_run 72 = .ok (.iload_n 2, 1) := by decide +kernel
theorem dX12_run_73 : decode cX12_run 73 = .ok (.putfield 604, 3) := by decide +kernel
theorem dX12_run_76 : decode cX12_run 76 = .ok (.aload_n 0, 1) := by decide +kernel
theorem dX12_run_77 : decode cX12_run 77 = .ok (.iconst 0, 1) := by decide +kernel
theorem dX12_run_78 : decode cX12_run 78 = .ok (.putfield 610, 3) := by decide +kernel
theorem dX12_run_81 : decode cX12_run 81 = .ok (.aload_n 0, 1) := by decide +kernel
theorem dX12_run_82 : decode cX12_run 82 = .ok (.iconst 0, 1) := by decide +kernel
theorem dX12_run_83 : decode cX12_run 83 = .ok (.putfield 589, 3) := by decide +kernel
theorem dX12_run_86 : decode cX12_run 86 = .ok (.aload_n 0, 1) := by decide +kernel
theorem dX12_run_87 : decode cX12_run 87 = .ok (.iconst (-1), 1) := by decide +kernel
theorem dX12_run_88 : decode cX12_run 88 = .ok (.putfield 592, 3) := by decide +kernel
theorem dX12_run_91 : decode cX12_run 91 = .ok (.aload_n 0, 1) := by decide +kernel
theorem dX12_run_92 : decode cX12_run 92 = .ok (.iconst 0, 1) := by decide +kernel
theorem dX12_run_93 : decode cX12_run 93 = .ok (.aload_n 0, 1) := by decide +kernel
theorem dX12_run_94 : decode cX12_run 94 = .ok (.getfield 119, 3) := by decide +kernel
theorem dX12_run_97 : decode cX12_run 97 = .ok (.invokevirtual 595, 3) := by decide +kernel
theorem dX12_run_100 : decode cX12_run 100 = .ok (.aload_n 0, 1) := by decide +kernel
theorem dX12_run_101 : decode cX12_run 101 = .ok (.aload_n 0, 1) := by decide +kernel
theorem dX12_run_102 : decode cX12_run 102 = .ok (.getfield 592, 3) := by decide +kernel
theorem dX12_run_105 : decode cX12_run 105 = .ok (.iconst (-1), 1) := by decide +kernel
theorem dX12_run_106 : decode cX12_run 106 = .ok (.if_icmp .ne 7, 3) := by decide +kernel
theorem dX12_run_109 : decode cX12_run 109 = .ok (.iconst 0, 1) := by decide +kernel
theorem dX12_run_110 : decode cX12_run 110 = .ok (.goto 7, 3) := by decide +kernel
theorem dX12_run_113 : decode cX12_run 113 = .ok (.aload_n 0, 1) := by decide +kernel
theorem dX12_run_114 : decode cX12_run 114 = .ok (.getfield 592, 3) := by decide +kernel
theorem dX12_run_117 : decode cX12_run 117 = .ok (.putfield 122, 3) := by decide +kernel
theorem dX12_run_120 : decode cX12_run 120 = .ok (.aload_n 0, 1) := by decide +kernel
theorem dX12_run_121 : decode cX12_run 121 = .ok (.aload_n 0, 1) := by decide +kernel
theorem dX12_run_122 : decode cX12_run 122 = .ok (.getfield 604, 3) := by decide +kernel
theorem dX12_run_125 : decode cX12_run 125 = .ok (.putfield 621, 3) := by decide +kernel
theorem dX12_run_128 : decode cX12_run 128 = .ok (.aload_n 0, 1) := by decide +kernel
theorem dX12_run_129 : decode cX12_run 129 = .ok (.aload_n 0, 1) := by decide +kernel
theorem dX12_run_130 : decode cX12_run 130 = .ok (.getfield 610, 3) := by decide +kernel
theorem dX12_run_133 : decode cX12_run 133 = .ok (.putfield 624, 3) := by decide +kernel
theorem dX12_run_136 : decode cX12_run 136 = .ok (.aload_n 0, 1) := by decide +kernel
theorem dX12_run_137 : decode cX12_run 137 = .ok (.aload_n 0, 1) := by decide +kernel
theorem dX12_run_138 : decode cX12_run 138 = .ok (.getfield 589, 3) := by decide +kernel
theorem dX12_run_141 : decode cX12_run 141 = .ok (.putfield 627, 3) := by decide +kernel
theorem dX12_run_144 : decode cX12_run 144 = .ok (.iconst 0, 1) := by decide +kernel
theorem dX12_run_145 : decode cX12_run 145 = .ok (.istore_n 3, 1) := by decide +kernel
theorem dX12_run_146 : decode cX12_run 146 = .ok (.iload_n 3, 1) := by decide +kernel
theorem dX12_run_147 : decode cX12_run 147 = .ok (.bipush 40, 2) := by decide +kernel
theorem dX12_run_149 : decode cX12_run 149 = .ok (.if_icmp .ge 29, 3) := by decide +kernel
theorem dX12_run_152 : decode cX12_run 152 = .ok (.iload_n 3, 1) := by decide +kernel
theorem dX12_run_153 : decode cX12_run 153 = .ok (.aload_n 0, 1) := by decide +kernel
theorem dX12_run_154 : decode cX12_run 154 = .ok (.getfield 589, 3) := by decide +kernel
theorem dX12_run_157 : decode cX12_run 157 = .ok (.if_icmp .ge 21, 3) := by decide +kernel
theorem dX12_run_160 : decode cX12_run 160 = .ok (.aload_n 0, 1) := by decide +kernel
theorem dX12_run_161 : decode cX12_run 161 = .ok (.getfield 146, 3) := by decide +kernel
theorem dX12_run_164 : decode cX12_run 164 = .ok (.iload_n 3, 1) := by decide +kernel
theorem dX12_run_165 : decode cX12_run 165 = .ok (.aload_n 0, 1) := by decide +kernel
theorem dX12_run_166 : decode cX12_run 166 = .ok (.getfield 143, 3) := by decide +kernel
theorem dX12_run_169 : decode cX12_run 169 = .ok (.iload_n 3, 1) := by decide +kernel
theorem dX12_run_170 : decode cX12_run 170 = .ok (.laload, 1) := by decide +kernel
theorem dX12_run_171 : decode cX12_run 171 = .ok (.lastore, 1) := by decide +kernel
theorem dX12_run_172 : decode cX12_run 172 = .ok (.iinc 3 1, 3) := by decide +kernel
theorem dX12_run_175 : decode cX12_run 175 = .ok (.goto (-29), 3) := by decide +kernel
theorem dX12_run_178 : decode cX12_run 178 = .ok (.aload_n 0, 1) := by decide +kernel
theorem dX12_run_179 : decode cX12_run 179 = .ok (.getfield 122, 3) := by decide +kernel
theorem dX12_run_182 : decode cX12_run 182 = .ok (.ireturn, 1) := by decide +kernel
theorem dX12_ran_0 : decode cX12_ran 0 = .ok (.aload_n 0, 1) := by decide +kernel
theorem dX12_ran_1 : decode cX12_ran 1 = .ok (.iconst 0, 1) := by decide +kernel
theorem dX12_ran_2 : decode cX12_ran 2 = .ok (.putfield 200, 3) := by decide +kernel
theorem dX12_ran_5 : decode cX12_ran 5 = .ok (.aload_n 0, 1) := by decide +kernel
theorem dX12_ran_6 : decode cX12_ran 6 = .ok (.iconst 0, 1) := by decide +kernel
theorem dX12_ran_7 : decode cX12_ran 7 = .ok (.putfield 203, 3) := by decide +kernel
theorem dX12_ran_10 : decode cX12_ran 10 = .ok (.iload_n 1, 1) := by decide +kernel
theorem dX12_ran_11 : decode cX12_ran 11 = .ok (.i2l, 1) := by decide +kernel
theorem dX12_ran_12 : decode cX12_ran 12 = .ok (.lconst 0, 1) := by decide +kernel
theorem dX12_ran_13 : decode cX12_ran 13 = .ok (.ldc2_w 564, 3) := by decide +kernel
theorem dX12_ran_16 : decode cX12_ran 16 = .ok (.invokestatic 208, 3) := by decide +kernel
theorem dX12_ran_19 : decode cX12_ran 19 = .ok (.ifCond .ne 9, 3) := by decide +kernel
theorem dX12_ran_22 : decode cX12_ran 22 = .ok (.aload_n 0, 1) := by decide +kernel
theorem dX12_ran_23 : decode cX12_ran 23 = .ok (.iconst 5, 1) := by decide +kernel
theorem dX12_ran_24 : decode cX12_ran 24 = .ok (.invokevirtual 261, 3) := by decide +kernel
theorem dX12_ran_27 : decode cX12_ran 27 = .ok (.ireturn, 1) := by decide +kernel
theorem dX12_ran_28 : decode cX12_ran 28 = .ok (.aload_n 0, 1) := by decide +kernel
theorem dX12_ran_29 : decode cX12_ran 29 = .ok (.getfield 122, 3) := by decide +kernel
theorem dX12_ran_32 : decode cX12_ran 32 = .ok (.ifCond .ge 10, 3) := by decide +kernel
theorem dX12_ran_35 : decode cX12_ran 35 = .ok (.aload_n 0, 1) := by decide +kernel
theorem dX12_ran_36 : decode cX12_ran 36 = .ok (.bipush 8, 2) := by decide +kernel
theorem dX12_ran_38 : decode cX12_ran 38 = .ok (.invokevirtual 261, 3) := by decide +kernel
theorem dX12_ran_41 : decode cX12_ran 41 = .ok (.ireturn, 1) := by decide +kernel
theorem dX12_ran_42 : decode cX12_ran 42 = .ok (.iload_n 1, 1) := by decide +kernel
theorem dX12_ran_43 : decode cX12_ran 43 = .ok (.ifCond .ne 10, 3) := by decide +kernel
theorem dX12_ran_46 : decode cX12_ran 46 = .ok (.aload_n 0, 1) := by decide +kernel
theorem dX12_ran_47 : decode cX12_ran 47 = .ok (.getfield 621, 3) := by decide +kernel
theorem dX12_ran_50 : decode cX12_ran 50 = .ok (.goto 19, 3) := by decide +kernel
theorem dX12_ran_53 : decode cX12_ran 53 = .ok (.iload_n 1, 1) := by decide +kernel
theorem dX12_ran_54 : decode cX12_ran 54 = .ok (.iconst 1, 1) := by decide +kernel
theorem dX12_ran_55 : decode cX12_ran 55 = .ok (.if_icmp .ne 10, 3) := by decide +kernel
theorem dX12_ran_58 : decode cX12_ran 58 = .ok (.aload_n 0, 1) := by decide +kernel
theorem dX12_ran_59 : decode cX12_ran 59 = .ok (.getfield 624, 3) := by decide +kernel
theorem dX12_ran_62 : decode cX12_ran 62 = .ok (.goto 7, 3) := by decide +kernel
theorem dX12_ran_65 : decode cX12_ran 65 = .ok (.aload_n 0, 1) := by decide +kernel
theorem dX12_ran_66 : decode cX12_ran 66 = .ok (.getfield 627, 3) := by decide +kernel
theorem dX12_ran_69 : decode cX12_ran 69 = .ok (.ireturn, 1) := by decide +kernel
theorem dX12_kept_0 : decode cX12_kept 0 = .ok (.aload_n 0, 1) := by decide +kernel
theorem dX12_kept_1 : decode cX12_kept 1 = .ok (.iconst 0, 1) := by decide +kernel
theorem dX12_kept_2 : decode cX12_kept 2 = .ok (.putfield 200, 3) := by decide +kernel
theorem dX12_kept_5 : decode cX12_kept 5 = .ok (.aload_n 0, 1) := by decide +kernel
theorem dX12_kept_6 : decode cX12_kept 6 = .ok (.iconst 0, 1) := by decide +kernel
theorem dX12_kept_7 : decode cX12_kept 7 = .ok (.putfield 203, 3) := by decide +kernel
theorem dX12_kept_10 : decode cX12_kept 10 = .ok (.aload_n 0, 1) := by decide +kernel
theorem dX12_kept_11 : decode cX12_kept 11 = .ok (.getfield 122, 3) := by decide +kernel
theorem dX12_kept_14 : decode cX12_kept 14 = .ok (.ifCond .lt 33, 3) := by decide +kernel
theorem dX12_kept_17 : decode cX12_kept 17 = .ok (.iload_n 1, 1) := by decide +kernel
theorem dX12_kept_18 : decode cX12_kept 18 = .ok (.i2l, 1) := by decide +kernel
theorem dX12_kept_19 : decode cX12_kept 19 = .ok (.lconst 0, 1) := by decide +kernel
theorem dX12_kept_20 : decode cX12_kept 20 = .ok (.bipush 40, 2) := by decide +kernel
theorem dX12_kept_22 : decode cX12_kept 22 = .ok (.aload_n 0, 1) := by decide +kernel
theorem dX12_kept_23 : decode cX12_kept 23 = .ok (.getfield 627, 3) := by decide +kernel
theorem dX12_kept_26 : decode cX12_kept 26 = .ok (.invokestatic 534, 3) := by decide +kernel
theorem dX12_kept_29 : decode cX12_kept 29 = .ok (.iconst 1, 1) := by decide +kernel
theorem dX12_kept_30 : decode cX12_kept 30 = .ok (.isub, 1) := by decide +kernel
theorem dX12_kept_31 : decode cX12_kept 31 = .ok (.i2l, 1) := by decide +kernel
theorem dX12_kept_32 : decode cX12_kept 32 = .ok (.invokestatic 208, 3) := by decide +kernel
theorem dX12_kept_35 : decode cX12_kept 35 = .ok (.ifCond .eq 12, 3) := by decide +kernel
theorem dX12_kept_38 : decode cX12_kept 38 = .ok (.aload_n 0, 1) := by decide +kernel
theorem dX12_kept_39 : decode cX12_kept 39 = .ok (.getfield 146, 3) := by decide +kernel
theorem dX12_kept_42 : decode cX12_kept 42 = .ok (.iload_n 1, 1) := by decide +kernel
theorem dX12_kept_43 : decode cX12_kept 43 = .ok (.laload, 1) := by decide +kernel
theorem dX12_kept_44 : decode cX12_kept 44 = .ok (.goto 10, 3) := by decide +kernel
theorem dX12_kept_47 : decode cX12_kept 47 = .ok (.aload_n 0, 1) := by decide +kernel
theorem dX12_kept_48 : decode cX12_kept 48 = .ok (.bipush 8, 2) := by decide +kernel
theorem dX12_kept_50 : decode cX12_kept 50 = .ok (.invokevirtual 261, 3) := by decide +kernel
theorem dX12_kept_53 : decode cX12_kept 53 = .ok (.i2l, 1) := by decide +kernel
theorem dX12_kept_54 : decode cX12_kept 54 = .ok (.lreturn, 1) := by decide +kernel
theorem dX12_having_0 : decode cX12_having 0 = .ok (.iconst 0, 1) := by decide +kernel
theorem dX12_having_1 : decode cX12_having 1 = .ok (.istore_n 2, 1) := by decide +kernel
theorem dX12_having_2 : decode cX12_having 2 = .ok (.iconst 0, 1) := by decide +kernel
theorem dX12_having_3 : decode cX12_having 3 = .ok (.istore_n 3, 1) := by decide +kernel
theorem dX12_having_4 : decode cX12_having 4 = .ok (.iload_n 3, 1) := by decide +kernel
theorem dX12_having_5 : decode cX12_having 5 = .ok (.aload_n 0, 1) := by decide +kernel
theorem dX12_having_6 : decode cX12_having 6 = .ok (.getfield 630, 3) := by decide +kernel
theorem dX12_having_9 : decode cX12_having 9 = .ok (.if_icmp .ge 37, 3) := by decide +kernel
theorem dX12_having_12 : decode cX12_having 12 = .ok (.iload_n 2, 1) := by decide +kernel
theorem dX12_having_13 : decode cX12_having 13 = .ok (.iload_n 1, 1) := by decide +kernel
theorem dX12_having_14 : decode cX12_having 14 = .ok (.aload_n 0, 1) := by decide +kernel
theorem dX12_having_15 : decode cX12_having 15 = .ok (.getfield 149, 3) := by decide +kernel
theorem dX12_having_18 : decode cX12_having 18 = .ok (.iload_n 3, 1) := by decide +kernel
theorem dX12_having_19 : decode cX12_having 19 = .ok (.iaload, 1) := by decide +kernel
theorem dX12_having_20 : decode cX12_having 20 = .ok (.if_icmp .lt 17, 3) := by decide +kernel
theorem dX12_having_23 : decode cX12_having 23 = .ok (.iload_n 1, 1) := by decide +kernel
theorem dX12_having_24 : decode cX12_having 24 = .ok (.aload_n 0, 1) := by decide +kernel
theorem dX12_having_25 : decode cX12_having 25 = .ok (.getfield 152, 3) := by decide +kernel
theorem dX12_having_28 : decode cX12_having 28 = .ok (.iload_n 3, 1) := by decide +kernel
theorem dX12_having_29 : decode cX12_having 29 = .ok (.iaload, 1) := by decide +kernel
theorem dX12_having_30 : decode cX12_having 30 = .ok (.if_icmp .gt 7, 3) := by decide +kernel
theorem dX12_having_33 : decode cX12_having 33 = .ok (.iconst 1, 1) := by decide +kernel
theorem dX12_having_34 : decode cX12_having 34 = .ok (.goto 4, 3) := by decide +kernel
theorem dX12_having_37 : decode cX12_having 37 = .ok (.iconst 0, 1) := by decide +kernel
theorem dX12_having_38 : decode cX12_having 38 = .ok (.iadd, 1) := by decide +kernel
theorem dX12_having_39 : decode cX12_having 39 = .ok (.istore_n 2, 1) := by decide +kernel
theorem dX12_having_40 : decode cX12_having 40 = .ok (.iinc 3 1, 3) := by decide +kernel
theorem dX12_having_43 : decode cX12_having 43 = .ok (.goto (-39), 3) := by decide +kernel
theorem dX12_having_46 : decode cX12_having 46 = .ok (.iload_n 2, 1) := by decide +kernel
theorem dX12_having_47 : decode cX12_having 47 = .ok (.ireturn, 1) := by decide +kernel
theorem dX12_answers_0 : decode cX12_answers 0 = .ok (.aload_n 0, 1) := by decide +kernel
theorem dX12_answers_1 : decode cX12_answers 1 = .ok (.iconst 0, 1) := by decide +kernel
theorem dX12_answers_2 : decode cX12_answers 2 = .ok (.putfield 200, 3) := by decide +kernel
theorem dX12_answers_5 : decode cX12_answers 5 = .ok (.aload_n 0, 1) := by decide +kernel
theorem dX12_answers_6 : decode cX12_answers 6 = .ok (.iconst 0, 1) := by decide +kernel
theorem dX12_answers_7 : decode cX12_answers 7 = .ok (.putfield 203, 3) := by decide +kernel
theorem dX12_answers_10 : decode cX12_answers 10 = .ok (.iload_n 1, 1) := by decide +kernel
theorem dX12_answers_11 : decode cX12_answers 11 = .ok (.i2l, 1) := by decide +kernel
theorem dX12_answers_12 : decode cX12_answers 12 = .ok (.lconst 0, 1) := by decide +kernel
theorem dX12_answers_13 : decode cX12_answers 13 = .ok (.ldc2_w 278, 3) := by decide +kernel
theorem dX12_answers_16 : decode cX12_answers 16 = .ok (.invokestatic 208, 3) := by decide +kernel
theorem dX12_answers_19 : decode cX12_answers 19 = .ok (.ifCond .eq 15, 3) := by decide +kernel
theorem dX12_answers_22 : decode cX12_answers 22 = .ok (.iload_n 2, 1) := by decide +kernel
theorem dX12_answers_23 : decode cX12_answers 23 = .ok (.i2l, 1) := by decide +kernel
theorem dX12_answers_24 : decode cX12_answers 24 = .ok (.lconst 0, 1) := by decide +kernel
theorem dX12_answers_25 : decode cX12_answers 25 = .ok (.ldc2_w 278, 3) := by decide +kernel
theorem dX12_answers_28 : decode cX12_answers 28 = .ok (.invokestatic 208, 3) := by decide +kernel
theorem dX12_answers_31 : decode cX12_answers 31 = .ok (.ifCond .ne 9, 3) := by decide +kernel
theorem dX12_answers_34 : decode cX12_answers 34 = .ok (.aload_n 0, 1) := by decide +kernel
theorem dX12_answers_35 : decode cX12_answers 35 = .ok (.iconst 1, 1) := by decide +kernel
theorem dX12_answers_36 : decode cX12_answers 36 = .ok (.invokevirtual 261, 3) := by decide +kernel
theorem dX12_answers_39 : decode cX12_answers 39 = .ok (.ireturn, 1) := by decide +kernel
theorem dX12_answers_40 : decode cX12_answers 40 = .ok (.aload_n 0, 1) := by decide +kernel
theorem dX12_answers_41 : decode cX12_answers 41 = .ok (.getfield 13, 3) := by decide +kernel
theorem dX12_answers_44 : decode cX12_answers 44 = .ok (.iload_n 1, 1) := by decide +kernel
theorem dX12_answers_45 : decode cX12_answers 45 = .ok (.iaload, 1) := by decide +kernel
theorem dX12_answers_46 : decode cX12_answers 46 = .ok (.ifCond .lt 12, 3) := by decide +kernel
theorem dX12_answers_49 : decode cX12_answers 49 = .ok (.aload_n 0, 1) := by decide +kernel
theorem dX12_answers_50 : decode cX12_answers 50 = .ok (.getfield 13, 3) := by decide +kernel
theorem dX12_answers_53 : decode cX12_answers 53 = .ok (.iload_n 2, 1) := by decide +kernel
theorem dX12_answers_54 : decode cX12_answers 54 = .ok (.iaload, 1) := by decide +kernel
theorem dX12_answers_55 : decode cX12_answers 55 = .ok (.ifCond .ge 9, 3) := by decide +kernel
theorem dX12_answers_58 : decode cX12_answers 58 = .ok (.aload_n 0, 1) := by decide +kernel
theorem dX12_answers_59 : decode cX12_answers 59 = .ok (.iconst 3, 1) := by decide +kernel
theorem dX12_answers_60 : decode cX12_answers 60 = .ok (.invokevirtual 261, 3) := by decide +kernel
theorem dX12_answers_63 : decode cX12_answers 63 = .ok (.ireturn, 1) := by decide +kernel
theorem dX12_answers_64 : decode cX12_answers 64 = .ok (.iload_n 3, 1) := by decide +kernel
theorem dX12_answers_65 : decode cX12_answers 65 = .ok (.i2l, 1) := by decide +kernel
theorem dX12_answers_66 : decode cX12_answers 66 = .ok (.lconst 1, 1) := by decide +kernel
theorem dX12_answers_67 : decode cX12_answers 67 = .ok (.ldc2_w 633, 3) := by decide +kernel
theorem dX12_answers_70 : decode cX12_answers 70 = .ok (.invokestatic 208, 3) := by decide +kernel
theorem dX12_answers_73 : decode cX12_answers 73 = .ok (.ifCond .ne 9, 3) := by decide +kernel
theorem dX12_answers_76 : decode cX12_answers 76 = .ok (.aload_n 0, 1) := by decide +kernel
theorem dX12_answers_77 : decode cX12_answers 77 = .ok (.iconst 5, 1) := by decide +kernel
theorem dX12_answers_78 : decode cX12_answers 78 = .ok (.invokevirtual 261, 3) := by decide +kernel
theorem dX12_answers_81 : decode cX12_answers 81 = .ok (.ireturn, 1) := by decide +kernel
theorem dX12_answers_82 : decode cX12_answers 82 = .ok (.aload_n 0, 1) := by decide +kernel
theorem dX12_answers_83 : decode cX12_answers 83 = .ok (.getfield 13, 3) := by decide +kernel
theorem dX12_answers_86 : decode cX12_answers 86 = .ok (.iload_n 1, 1) := by decide +kernel
theorem dX12_answers_87 : decode cX12_answers 87 = .ok (.iaload, 1) := by decide +kernel
theorem dX12_answers_88 : decode cX12_answers 88 = .ok (.iload_n 3, 1) := by decide +kernel
theorem dX12_answers_89 : decode cX12_answers 89 = .ok (.if_icmp .lt 13, 3) := by decide +kernel
theorem dX12_answers_92 : decode cX12_answers 92 = .ok (.aload_n 0, 1) := by decide +kernel
theorem dX12_answers_93 : decode cX12_answers 93 = .ok (.getfield 13, 3) := by decide +kernel
theorem dX12_answers_96 : decode cX12_answers 96 = .ok (.iload_n 2, 1) := by decide +kernel
theorem dX12_answers_97 : decode cX12_answers 97 = .ok (.iaload, 1) := by decide +kernel
theorem dX12_answers_98 : decode cX12_answers 98 = .ok (.iload_n 3, 1) := by decide +kernel
theorem dX12_answers_99 : decode cX12_answers 99 = .ok (.if_icmp .ge 9, 3) := by decide +kernel
theorem dX12_answers_102 : decode cX12_answers 102 = .ok (.aload_n 0, 1) := by decide +kernel
theorem dX12_answers_103 : decode cX12_answers 103 = .ok (.iconst 4, 1) := by decide +kernel
theorem dX12_answers_104 : decode cX12_answers 104 = .ok (.invokevirtual 261, 3) := by decide +kernel
theorem dX12_answers_107 : decode cX12_answers 107 = .ok (.ireturn, 1) := by decide +kernel
theorem dX12_answers_108 : decode cX12_answers 108 = .ok (.iconst 0, 1) := by decide +kernel
theorem dX12_answers_109 : decode cX12_answers 109 = .ok (.istore 4, 2) := by decide +kernel
theorem dX12_answers_111 : decode cX12_answers 111 = .ok (.iload 4, 2) := by decide +kernel
theorem dX12_answers_113 : decode cX12_answers 113 = .ok (.iload_n 3, 1) := by decide +kernel
theorem dX12_answers_114 : decode cX12_answers 114 = .ok (.if_icmp .ge 57, 3) := by decide +kernel
theorem dX12_answers_117 : decode cX12_answers 117 = .ok (.aload_n 0, 1) := by decide +kernel
theorem dX12_answers_118 : decode cX12_answers 118 = .ok (.iload_n 1, 1) := by decide +kernel
theorem dX12_answers_119 : decode cX12_answers 119 = .ok (.iload 4, 2) := by decide +kernel
theorem dX12_answers_121 : decode cX12_answers 121 = .ok (.invokevirtual 635, 3) := by decide +kernel
theorem dX12_answers_124 : decode cX12_answers 124 = .ok (.ldc2_w 638, 3) := by decide +kernel
theorem dX12_answers_127 : decode cX12_answers 127 = .ok (.ldc2_w 640, 3) := by decide +kernel
theorem dX12_answers_130 : decode cX12_answers 130 = .ok (.invokestatic 208, 3) := by decide +kernel
theorem dX12_answers_133 : decode cX12_answers 133 = .ok (.ifCond .eq 26, 3) := by decide +kernel
theorem dX12_answers_136 : decode cX12_answers 136 = .ok (.aload_n 0, 1) := by decide +kernel
theorem dX12_answers_137 : decode cX12_answers 137 = .ok (.iload_n 2, 1) := by decide +kernel
theorem dX12_answers_138 : decode cX12_answers 138 = .ok (.iload 4, 2) := by decide +kernel
theorem dX12_answers_140 : decode cX12_answers 140 = .ok (.invokevirtual 635, 3) := by decide +kernel
theorem dX12_answers_143 : decode cX12_answers 143 = .ok (.aload_n 0, 1) := by decide +kernel
theorem dX12_answers_144 : decode cX12_answers 144 = .ok (.iload_n 1, 1) := by decide +kernel
theorem dX12_answers_145 : decode cX12_answers 145 = .ok (.iload 4, 2) := by decide +kernel
theorem dX12_answers_147 : decode cX12_answers 147 = .ok (.invokevirtual 635, 3) := by decide +kernel
theorem dX12_answers_150 : decode cX12_answers 150 = .ok (.ldc2_w 640, 3) := by decide +kernel
theorem dX12_answers_153 : decode cX12_answers 153 = .ok (.invokestatic 208, 3) := by decide +kernel
theorem dX12_answers_156 : decode cX12_answers 156 = .ok (.ifCond .ne 9, 3) := by decide +kernel
theorem dX12_answers_159 : decode cX12_answers 159 = .ok (.aload_n 0, 1) := by decide +kernel
theorem dX12_answers_160 : decode cX12_answers 160 = .ok (.iconst 5, 1) := by decide +kernel
theorem dX12_answers_161 : decode cX12_answers 161 = .ok (.invokevirtual 261, 3) := by decide +kernel
theorem dX12_answers_164 : decode cX12_answers 164 = .ok (.ireturn, 1) := by decide +kernel
theorem dX12_answers_165 : decode cX12_answers 165 = .ok (.iinc 4 1, 3) := by decide +kernel
theorem dX12_answers_168 : decode cX12_answers 168 = .ok (.goto (-57), 3) := by decide +kernel
theorem dX12_answers_171 : decode cX12_answers 171 = .ok (.aload_n 0, 1) := by decide +kernel
theorem dX12_answers_172 : decode cX12_answers 172 = .ok (.iload_n 3, 1) := by decide +kernel
theorem dX12_answers_173 : decode cX12_answers 173 = .ok (.putfield 630, 3) := by decide +kernel
theorem dX12_answers_176 : decode cX12_answers 176 = .ok (.iconst 0, 1) := by decide +kernel
theorem dX12_answers_177 : decode cX12_answers 177 = .ok (.istore 4, 2) := by decide +kernel
theorem dX12_answers_179 : decode cX12_answers 179 = .ok (.iload 4, 2) := by decide +kernel
theorem dX12_answers_181 : decode cX12_answers 181 = .ok (.iload_n 3, 1) := by decide +kernel
theorem dX12_answers_182 : decode cX12_answers 182 = .ok (.if_icmp .ge 39, 3) := by decide +kernel
theorem dX12_answers_185 : decode cX12_answers 185 = .ok (.aload_n 0, 1) := by decide +kernel
theorem dX12_answers_186 : decode cX12_answers 186 = .ok (.getfield 149, 3) := by decide +kernel
theorem dX12_answers_189 : decode cX12_answers 189 = .ok (.iload 4, 2) := by decide +kernel
theorem dX12_answers_191 : decode cX12_answers 191 = .ok (.aload_n 0, 1) := by decide +kernel
theorem dX12_answers_192 : decode cX12_answers 192 = .ok (.iload_n 1, 1) := by decide +kernel
theorem dX12_answers_193 : decode cX12_answers 193 = .ok (.iload 4, 2) := by decide +kernel
theorem dX12_answers_195 : decode cX12_answers 195 = .ok (.invokevirtual 635, 3) := by decide +kernel
theorem dX12_answers_198 : decode cX12_answers 198 = .ok (.l2i, 1) := by decide +kernel
theorem dX12_answers_199 : decode cX12_answers 199 = .ok (.iastore, 1) := by decide +kernel
theorem dX12_answers_200 : decode cX12_answers 200 = .ok (.aload_n 0, 1) := by decide +kernel
theorem dX12_answers_201 : decode cX12_answers 201 = .ok (.getfield 152, 3) := by decide +kernel
theorem dX12_answers_204 : decode cX12_answers 204 = .ok (.iload 4, 2) := by decide +kernel
theorem dX12_answers_206 : decode cX12_answers 206 = .ok (.aload_n 0, 1) := by decide +kernel
theorem dX12_answers_207 : decode cX12_answers 207 = .ok (.iload_n 2, 1) := by decide +kernel
theorem dX12_answers_208 : decode cX12_answers 208 = .ok (.iload 4, 2) := by decide +kernel
theorem dX12_answers_210 : decode cX12_answers 210 = .ok (.invokevirtual 635, 3) := by decide +kernel
theorem dX12_answers_213 : decode cX12_answers 213 = .ok (.l2i, 1) := by decide +kernel
theorem dX12_answers_214 : decode cX12_answers 214 = .ok (.iastore, 1) := by decide +kernel
theorem dX12_answers_215 : decode cX12_answers 215 = .ok (.iinc 4 1, 3) := by decide +kernel
theorem dX12_answers_218 : decode cX12_answers 218 = .ok (.goto (-39), 3) := by decide +kernel
theorem dX12_answers_221 : decode cX12_answers 221 = .ok (.aload_n 0, 1) := by decide +kernel
theorem dX12_answers_222 : decode cX12_answers 222 = .ok (.iconst 0, 1) := by decide +kernel
theorem dX12_answers_223 : decode cX12_answers 223 = .ok (.putfield 642, 3) := by decide +kernel
theorem dX12_answers_226 : decode cX12_answers 226 = .ok (.iconst 0, 1) := by decide +kernel
theorem dX12_answers_227 : decode cX12_answers 227 = .ok (.istore 4, 2) := by decide +kernel
theorem dX12_answers_229 : decode cX12_answers 229 = .ok (.iload 4, 2) := by decide +kernel
theorem dX12_answers_231 : decode cX12_answers 231 = .ok (.iload_n 3, 1) := by decide +kernel
theorem dX12_answers_232 : decode cX12_answers 232 = .ok (.if_icmp .ge 31, 3) := by decide +kernel
theorem dX12_answers_235 : decode cX12_answers 235 = .ok (.aload_n 0, 1) := by decide +kernel
theorem dX12_answers_236 : decode cX12_answers 236 = .ok (.aload_n 0, 1) := by decide +kernel
theorem dX12_answers_237 : decode cX12_answers 237 = .ok (.getfield 642, 3) := by decide +kernel
theorem dX12_answers_240 : decode cX12_answers 240 = .ok (.aload_n 0, 1) := by decide +kernel
theorem dX12_answers_241 : decode cX12_answers 241 = .ok (.aload_n 0, 1) := by decide +kernel
theorem dX12_answers_242 : decode cX12_answers 242 = .ok (.getfield 149, 3) := by decide +kernel
theorem dX12_answers_245 : decode cX12_answers 245 = .ok (.iload 4, 2) := by decide +kernel
theorem dX12_answers_247 : decode cX12_answers 247 = .ok (.iaload, 1) := by decide +kernel
theorem dX12_answers_248 : decode cX12_answers 248 = .ok (.invokevirtual 645, 3) := by decide +kernel
theorem dX12_answers_251 : decode cX12_answers 251 = .ok (.invokestatic 253, 3) := by decide +kernel
theorem dX12_answers_254 : decode cX12_answers 254 = .ok (.putfield 642, 3) := by decide +kernel
theorem dX12_answers_257 : decode cX12_answers 257 = .ok (.iinc 4 1, 3) := by decide +kernel
theorem dX12_answers_260 : decode cX12_answers 260 = .ok (.goto (-31), 3) := by decide +kernel
theorem dX12_answers_263 : decode cX12_answers 263 = .ok (.iconst 0, 1) := by decide +kernel
theorem dX12_answers_264 : decode cX12_answers 264 = .ok (.istore 4, 2) := by decide +kernel
theorem dX12_answers_266 : decode cX12_answers 266 = .ok (.iconst 0, 1) := by decide +kernel
theorem dX12_answers_267 : decode cX12_answers 267 = .ok (.istore 5, 2) := by decide +kernel
theorem dX12_answers_269 : decode cX12_answers 269 = .ok (.iload 5, 2) := by decide +kernel
theorem dX12_answers_271 : decode cX12_answers 271 = .ok (.iload_n 3, 1) := by decide +kernel
theorem dX12_answers_272 : decode cX12_answers 272 = .ok (.if_icmp .ge 63, 3) := by decide +kernel
theorem dX12_answers_275 : decode cX12_answers 275 = .ok (.aload_n 0, 1) := by decide +kernel
theorem dX12_answers_276 : decode cX12_answers 276 = .ok (.aload_n 0, 1) := by decide +kernel
theorem dX12_answers_277 : decode cX12_answers 277 = .ok (.getfield 149, 3) := by decide +kernel
theorem dX12_answers_280 : decode cX12_answers 280 = .ok (.iload 5, 2) := by decide +kernel
theorem dX12_answers_282 : decode cX12_answers 282 = .ok (.iaload, 1) := by decide +kernel
theorem dX12_answers_283 : decode cX12_answers 283 = .ok (.invokevirtual 645, 3) := by decide +kernel
theorem dX12_answers_286 : decode cX12_answers 286 = .ok (.aload_n 0, 1) := by decide +kernel
theorem dX12_answers_287 : decode cX12_answers 287 = .ok (.getfield 642, 3) := by decide +kernel
theorem dX12_answers_290 : decode cX12_answers 290 = .ok (.if_icmp .ne 39, 3) := by decide +kernel
theorem dX12_answers_293 : decode cX12_answers 293 = .ok (.aload_n 0, 1) := by decide +kernel
theorem dX12_answers_294 : decode cX12_answers 294 = .ok (.iload 4, 2) := by decide +kernel
theorem dX12_answers_296 : decode cX12_answers 296 = .ok (.ifCond .eq 20, 3) := by decide +kernel
theorem dX12_answers_299 : decode cX12_answers 299 = .ok (.aload_n 0, 1) := by decide +kernel
theorem dX12_answers_300 : decode cX12_answers 300 = .ok (.getfield 648, 3) := by decide +kernel
theorem dX12_answers_303 : decode cX12_answers 303 = .ok (.aload_n 0, 1) := by decide +kernel
theorem dX12_answers_304 : decode cX12_answers 304 = .ok (.getfield 149, 3) := by decide +kernel
theorem dX12_answers_307 : decode cX12_answers 307 = .ok (.iload 5, 2) := by decide +kernel
theorem dX12_answers_309 : decode cX12_answers 309 = .ok (.iaload, 1) := by decide +kernel
theorem dX12_answers_310 : decode cX12_answers 310 = .ok (.invokestatic 534, 3) := by decide +kernel
theorem dX12_answers_313 : decode cX12_answers 313 = .ok (.goto 10, 3) := by decide +kernel
theorem dX12_answers_316 : decode cX12_answers 316 = .ok (.aload_n 0, 1) := by decide +kernel
theorem dX12_answers_317 : decode cX12_answers 317 = .ok (.getfield 149, 3) := by decide +kernel
theorem dX12_answers_320 : decode cX12_answers 320 = .ok (.iload 5, 2) := by decide +kernel
theorem dX12_answers_322 : decode cX12_answers 322 = .ok (.iaload, 1) := by decide +kernel
theorem dX12_answers_323 : decode cX12_answers 323 = .ok (.putfield 648, 3) := by decide +kernel
theorem dX12_answers_326 : decode cX12_answers 326 = .ok (.iconst 1, 1) := by decide +kernel
theorem dX12_answers_327 : decode cX12_answers 327 = .ok (.istore 4, 2) := by decide +kernel
theorem dX12_answers_329 : decode cX12_answers 329 = .ok (.iinc 5 1, 3) := by decide +kernel
theorem dX12_answers_332 : decode cX12_answers 332 = .ok (.goto (-63), 3) := by decide +kernel
theorem dX12_answers_335 : decode cX12_answers 335 = .ok (.aload_n 0, 1) := by decide +kernel
theorem dX12_answers_336 : decode cX12_answers 336 = .ok (.aload_n 0, 1) := by decide +kernel
theorem dX12_answers_337 : decode cX12_answers 337 = .ok (.getfield 648, 3) := by decide +kernel
theorem dX12_answers_340 : decode cX12_answers 340 = .ok (.putfield 651, 3) := by decide +kernel
theorem dX12_answers_343 : decode cX12_answers 343 = .ok (.iconst 0, 1) := by decide +kernel
theorem dX12_answers_344 : decode cX12_answers 344 = .ok (.istore 5, 2) := by decide +kernel
theorem dX12_answers_346 : decode cX12_answers 346 = .ok (.iload 5, 2) := by decide +kernel
theorem dX12_answers_348 : decode cX12_answers 348 = .ok (.iload_n 3, 1) := by decide +kernel
theorem dX12_answers_349 : decode cX12_answers 349 = .ok (.if_icmp .ge 45, 3) := by decide +kernel
theorem dX12_answers_352 : decode cX12_answers 352 = .ok (.aload_n 0, 1) := by decide +kernel
theorem dX12_answers_353 : decode cX12_answers 353 = .ok (.aload_n 0, 1) := by decide +kernel
theorem dX12_answers_354 : decode cX12_answers 354 = .ok (.getfield 152, 3) := by decide +kernel
theorem dX12_answers_357 : decode cX12_answers 357 = .ok (.iload 5, 2) := by decide +kernel
theorem dX12_answers_359 : decode cX12_answers 359 = .ok (.iaload, 1) := by decide +kernel
theorem dX12_answers_360 : decode cX12_answers 360 = .ok (.invokevirtual 645, 3) := by decide +kernel
theorem dX12_answers_363 : decode cX12_answers 363 = .ok (.aload_n 0, 1) := by decide +kernel
theorem dX12_answers_364 : decode cX12_answers 364 = .ok (.getfield 642, 3) := by decide +kernel
theorem dX12_answers_367 : decode cX12_answers 367 = .ok (.if_icmp .ne 21, 3) := by decide +kernel
theorem dX12_answers_370 : decode cX12_answers 370 = .ok (.aload_n 0, 1) := by decide +kernel
theorem dX12_answers_371 : decode cX12_answers 371 = .ok (.aload_n 0, 1) := by decide +kernel
theorem dX12_answers_372 : decode cX12_answers 372 = .ok (.getfield 651, 3) := by decide +kernel
theorem dX12_answers_375 : decode cX12_answers 375 = .ok (.aload_n 0, 1) := by decide +kernel
theorem dX12_answers_376 : decode cX12_answers 376 = .ok (.getfield 152, 3) := by decide +kernel
theorem dX12_answers_379 : decode cX12_answers 379 = .ok (.iload 5, 2) := by decide +kernel
theorem dX12_answers_381 : decode cX12_answers 381 = .ok (.iaload, 1) := by decide +kernel
theorem dX12_answers_382 : decode cX12_answers 382 = .ok (.invokestatic 253, 3) := by decide +kernel
theorem dX12_answers_385 : decode cX12_answers 385 = .ok (.putfield 651, 3) := by decide +kernel
theorem dX12_answers_388 : decode cX12_answers 388 = .ok (.iinc 5 1, 3) := by decide +kernel
theorem dX12_answers_391 : decode cX12_answers 391 = .ok (.goto (-45), 3) := by decide +kernel
theorem dX12_answers_394 : decode cX12_answers 394 = .ok (.iload_n 3, 1) := by decide +kernel
theorem dX12_answers_395 : decode cX12_answers 395 = .ok (.aload_n 0, 1) := by decide +kernel
theorem dX12_answers_396 : decode cX12_answers 396 = .ok (.getfield 642, 3) := by decide +kernel
theorem dX12_answers_399 : decode cX12_answers 399 = .ok (.isub, 1) := by decide +kernel
theorem dX12_answers_400 : decode cX12_answers 400 = .ok (.ireturn, 1) := by decide +kernel
theorem dX12_span_0 : decode cX12_span 0 = .ok (.aload_n 0, 1) := by decide +kernel
theorem dX12_span_1 : decode cX12_span 1 = .ok (.iconst 0, 1) := by decide +kernel
theorem dX12_span_2 : decode cX12_span 2 = .ok (.putfield 200, 3) := by decide +kernel
theorem dX12_span_5 : decode cX12_span 5 = .ok (.aload_n 0, 1) := by decide +kernel
theorem dX12_span_6 : decode cX12_span 6 = .ok (.iconst 0, 1) := by decide +kernel
theorem dX12_span_7 : decode cX12_span 7 = .ok (.putfield 203, 3) := by decide +kernel
theorem dX12_span_10 : decode cX12_span 10 = .ok (.iload_n 1, 1) := by decide +kernel
theorem dX12_span_11 : decode cX12_span 11 = .ok (.i2l, 1) := by decide +kernel
theorem dX12_span_12 : decode cX12_span 12 = .ok (.lconst 0, 1) := by decide +kernel
theorem dX12_span_13 : decode cX12_span 13 = .ok (.lconst 1, 1) := by decide +kernel
theorem dX12_span_14 : decode cX12_span 14 = .ok (.invokestatic 208, 3) := by decide +kernel
theorem dX12_span_17 : decode cX12_span 17 = .ok (.ifCond .ne 9, 3) := by decide +kernel
theorem dX12_span_20 : decode cX12_span 20 = .ok (.aload_n 0, 1) := by decide +kernel
theorem dX12_span_21 : decode cX12_span 21 = .ok (.iconst 5, 1) := by decide +kernel
theorem dX12_span_22 : decode cX12_span 22 = .ok (.invokevirtual 261, 3) := by decide +kernel
theorem dX12_span_25 : decode cX12_span 25 = .ok (.ireturn, 1) := by decide +kernel
theorem dX12_span_26 : decode cX12_span 26 = .ok (.aload_n 0, 1) := by decide +kernel
theorem dX12_span_27 : decode cX12_span 27 = .ok (.getfield 630, 3) := by decide +kernel
theorem dX12_span_30 : decode cX12_span 30 = .ok (.ifCond .ne 12, 3) := by decide +kernel
theorem dX12_span_33 : decode cX12_span 33 = .ok (.aload_n 0, 1) := by decide +kernel
theorem dX12_span_34 : decode cX12_span 34 = .ok (.bipush 8, 2) := by decide +kernel
theorem dX12_span_36 : decode cX12_span 36 = .ok (.invokevirtual 261, 3) := by decide +kernel
theorem dX12_span_39 : decode cX12_span 39 = .ok (.goto 18, 3) := by decide +kernel
theorem dX12_span_42 : decode cX12_span 42 = .ok (.iload_n 1, 1) := by decide +kernel
theorem dX12_span_43 : decode cX12_span 43 = .ok (.ifCond .ne 10, 3) := by decide +kernel
theorem dX12_span_46 : decode cX12_span 46 = .ok (.aload_n 0, 1) := by decide +kernel
theorem dX12_span_47 : decode cX12_span 47 = .ok (.getfield 648, 3) := by decide +kernel
theorem dX12_span_50 : decode cX12_span 50 = .ok (.goto 7, 3) := by decide +kernel
theorem dX12_span_53 : decode cX12_span 53 = .ok (.aload_n 0, 1) := by decide +kernel
theorem dX12_span_54 : decode cX12_span 54 = .ok (.getfield 651, 3) := by decide +kernel
theorem dX12_span_57 : decode cX12_span 57 = .ok (.ireturn, 1) := by decide +kernel
theorem dX12_lies_0 : decode cX12_lies 0 = .ok (.aload_n 0, 1) := by decide +kernel
theorem dX12_lies_1 : decode cX12_lies 1 = .ok (.iconst 0, 1) := by decide +kernel
theorem dX12_lies_2 : decode cX12_lies 2 = .ok (.putfield 200, 3) := by decide +kernel
theorem dX12_lies_5 : decode cX12_lies 5 = .ok (.aload_n 0, 1) := by decide +kernel
theorem dX12_lies_6 : decode cX12_lies 6 = .ok (.iconst 0, 1) := by decide +kernel
theorem dX12_lies_7 : decode cX12_lies 7 = .ok (.putfield 203, 3) := by decide +kernel
theorem dX12_lies_10 : decode cX12_lies 10 = .ok (.iload_n 1, 1) := by decide +kernel
theorem dX12_lies_11 : decode cX12_lies 11 = .ok (.i2l, 1) := by decide +kernel
theorem dX12_lies_12 : decode cX12_lies 12 = .ok (.lconst 0, 1) := by decide +kernel
theorem dX12_lies_13 : decode cX12_lies 13 = .ok (.aload_n 0, 1) := by decide +kernel
theorem dX12_lies_14 : decode cX12_lies 14 = .ok (.getfield 630, 3) := by decide +kernel
theorem dX12_lies_17 : decode cX12_lies 17 = .ok (.iconst 1, 1) := by decide +kernel
theorem dX12_lies_18 : decode cX12_lies 18 = .ok (.isub, 1) := by decide +kernel
theorem dX12_lies_19 : decode cX12_lies 19 = .ok (.i2l, 1) := by decide +kernel
theorem dX12_lies_20 : decode cX12_lies 20 = .ok (.invokestatic 208, 3) := by decide +kernel
theorem dX12_lies_23 : decode cX12_lies 23 = .ok (.ifCond .ne 10, 3) := by decide +kernel
theorem dX12_lies_26 : decode cX12_lies 26 = .ok (.aload_n 0, 1) := by decide +kernel
theorem dX12_lies_27 : decode cX12_lies 27 = .ok (.bipush 8, 2) := by decide +kernel
theorem dX12_lies_29 : decode cX12_lies 29 = .ok (.invokevirtual 261, 3) := by decide +kernel
theorem dX12_lies_32 : decode cX12_lies 32 = .ok (.ireturn, 1) := by decide +kernel
theorem dX12_lies_33 : decode cX12_lies 33 = .ok (.iconst 0, 1) := by decide +kernel
theorem dX12_lies_34 : decode cX12_lies 34 = .ok (.istore_n 2, 1) := by decide +kernel
theorem dX12_lies_35 : decode cX12_lies 35 = .ok (.iconst 0, 1) := by decide +kernel
theorem dX12_lies_36 : decode cX12_lies 36 = .ok (.istore_n 3, 1) := by decide +kernel
theorem dX12_lies_37 : decode cX12_lies 37 = .ok (.iload_n 3, 1) := by decide +kernel
theorem dX12_lies_38 : decode cX12_lies 38 = .ok (.aload_n 0, 1) := by decide +kernel
theorem dX12_lies_39 : decode cX12_lies 39 = .ok (.getfield 630, 3) := by decide +kernel
theorem dX12_lies_42 : decode cX12_lies 42 = .ok (.if_icmp .ge 54, 3) := by decide +kernel
theorem dX12_lies_45 : decode cX12_lies 45 = .ok (.aload_n 0, 1) := by decide +kernel
theorem dX12_lies_46 : decode cX12_lies 46 = .ok (.getfield 149, 3) := by decide +kernel
theorem dX12_lies_49 : decode cX12_lies 49 = .ok (.iload_n 3, 1) := by decide +kernel
theorem dX12_lies_50 : decode cX12_lies 50 = .ok (.iaload, 1) := by decide +kernel
theorem dX12_lies_51 : decode cX12_lies 51 = .ok (.aload_n 0, 1) := by decide +kernel
theorem dX12_lies_52 : decode cX12_lies 52 = .ok (.getfield 149, 3) := by decide +kernel
theorem dX12_lies_55 : decode cX12_lies 55 = .ok (.iload_n 1, 1) := by decide +kernel
theorem dX12_lies_56 : decode cX12_lies 56 = .ok (.iaload, 1) := by decide +kernel
theorem dX12_lies_57 : decode cX12_lies 57 = .ok (.if_icmp .lt 33, 3) := by decide +kernel
theorem dX12_lies_60 : decode cX12_lies 60 = .ok (.aload_n 0, 1) := by decide +kernel
theorem dX12_lies_61 : decode cX12_lies 61 = .ok (.getfield 149, 3) := by decide +kernel
theorem dX12_lies_64 : decode cX12_lies 64 = .ok (.iload_n 3, 1) := by decide +kernel
theorem dX12_lies_65 : decode cX12_lies 65 = .ok (.iaload, 1) := by decide +kernel
theorem dX12_lies_66 : decode cX12_lies 66 = .ok (.aload_n 0, 1) := by decide +kernel
theorem dX12_lies_67 : decode cX12_lies 67 = .ok (.getfield 152, 3) := by decide +kernel
theorem dX12_lies_70 : decode cX12_lies 70 = .ok (.iload_n 1, 1) := by decide +kernel
theorem dX12_lies_71 : decode cX12_lies 71 = .ok (.iaload, 1) := by decide +kernel
theorem dX12_lies_72 : decode cX12_lies 72 = .ok (.if_icmp .gt 18, 3) := by decide +kernel
theorem dX12_lies_75 : decode cX12_lies 75 = .ok (.iload_n 2, 1) := by decide +kernel
theorem dX12_lies_76 : decode cX12_lies 76 = .ok (.aload_n 0, 1) := by decide +kernel
theorem dX12_lies_77 : decode cX12_lies 77 = .ok (.aload_n 0, 1) := by decide +kernel
theorem dX12_lies_78 : decode cX12_lies 78 = .ok (.getfield 149, 3) := by decide +kernel
theorem dX12_lies_81 : decode cX12_lies 81 = .ok (.iload_n 3, 1) := by decide +kernel
theorem dX12_lies_82 : decode cX12_lies 82 = .ok (.iaload, 1) := by decide +kernel
theorem dX12_lies_83 : decode cX12_lies 83 = .ok (.invokevirtual 645, 3) := by decide +kernel
theorem dX12_lies_86 : decode cX12_lies 86 = .ok (.invokestatic 253, 3) := by decide +kernel
theorem dX12_lies_89 : decode cX12_lies 89 = .ok (.istore_n 2, 1) := by decide +kernel
theorem dX12_lies_90 : decode cX12_lies 90 = .ok (.iinc 3 1, 3) := by decide +kernel
theorem dX12_lies_93 : decode cX12_lies 93 = .ok (.goto (-56), 3) := by decide +kernel
theorem dX12_lies_96 : decode cX12_lies 96 = .ok (.iload_n 2, 1) := by decide +kernel
theorem dX12_lies_97 : decode cX12_lies 97 = .ok (.aload_n 0, 1) := by decide +kernel
theorem dX12_lies_98 : decode cX12_lies 98 = .ok (.getfield 642, 3) := by decide +kernel
theorem dX12_lies_101 : decode cX12_lies 101 = .ok (.if_icmp .ge 7, 3) := by decide +kernel
theorem dX12_lies_104 : decode cX12_lies 104 = .ok (.iconst 1, 1) := by decide +kernel
theorem dX12_lies_105 : decode cX12_lies 105 = .ok (.goto 4, 3) := by decide +kernel
theorem dX12_lies_108 : decode cX12_lies 108 = .ok (.iconst 0, 1) := by decide +kernel
theorem dX12_lies_109 : decode cX12_lies 109 = .ok (.ireturn, 1) := by decide +kernel
theorem dX12_showsSo_0 : decode cX12_showsSo 0 = .ok (.iload_n 0, 1) := by decide +kernel
theorem dX12_showsSo_1 : decode cX12_showsSo 1 = .ok (.iconst 4, 1) := by decide +kernel
theorem dX12_showsSo_2 : decode cX12_showsSo 2 = .ok (.if_icmp .ne 23, 3) := by decide +kernel
theorem dX12_showsSo_5 : decode cX12_showsSo 5 = .ok (.iload_n 1, 1) := by decide +kernel
theorem dX12_showsSo_6 : decode cX12_showsSo 6 = .ok (.ldc_w 271, 3) := by decide +kernel
theorem dX12_showsSo_9 : decode cX12_showsSo 9 = .ok (.if_icmp .ne 7, 3) := by decide +kernel
theorem dX12_showsSo_12 : decode cX12_showsSo 12 = .ok (.lconst 0, 1) := by decide +kernel
theorem dX12_showsSo_13 : decode cX12_showsSo 13 = .ok (.goto 18, 3) := by decide +kernel
theorem dX12_showsSo_16 : decode cX12_showsSo 16 = .ok (.ldc2_w 314, 3) := by decide +kernel
theorem dX12_showsSo_19 : decode cX12_showsSo 19 = .ok (.iload_n 1, 1) := by decide +kernel
theorem dX12_showsSo_20 : decode cX12_showsSo 20 = .ok (.i2l, 1) := by decide +kernel
theorem dX12_showsSo_21 : decode cX12_showsSo 21 = .ok (.lmul, 1) := by decide +kernel
theorem dX12_showsSo_22 : decode cX12_showsSo 22 = .ok (.goto 9, 3) := by decide +kernel
theorem dX12_showsSo_25 : decode cX12_showsSo 25 = .ok (.iload_n 0, 1) := by decide +kernel
theorem dX12_showsSo_26 : decode cX12_showsSo 26 = .ok (.iconst 1, 1) := by decide +kernel
theorem dX12_showsSo_27 : decode cX12_showsSo 27 = .ok (.iload_n 1, 1) := by decide +kernel
theorem dX12_showsSo_28 : decode cX12_showsSo 28 = .ok (.invokestatic 310, 3) := by decide +kernel
theorem dX12_showsSo_31 : decode cX12_showsSo 31 = .ok (.lreturn, 1) := by decide +kernel
theorem dX12_find_0 : decode cX12_find 0 = .ok (.aload_n 0, 1) := by decide +kernel
theorem dX12_find_1 : decode cX12_find 1 = .ok (.iconst 0, 1) := by decide +kernel
theorem dX12_find_2 : decode cX12_find 2 = .ok (.putfield 200, 3) := by decide +kernel
theorem dX12_find_5 : decode cX12_find 5 = .ok (.aload_n 0, 1) := by decide +kernel
theorem dX12_find_6 : decode cX12_find 6 = .ok (.iconst 0, 1) := by decide +kernel
theorem dX12_find_7 : decode cX12_find 7 = .ok (.putfield 203, 3) := by decide +kernel
theorem dX12_find_10 : decode cX12_find 10 = .ok (.iload_n 1, 1) := by decide +kernel
theorem dX12_find_11 : decode cX12_find 11 = .ok (.i2l, 1) := by decide +kernel
theorem dX12_find_12 : decode cX12_find 12 = .ok (.lconst 0, 1) := by decide +kernel
theorem dX12_find_13 : decode cX12_find 13 = .ok (.ldc2_w 278, 3) := by decide +kernel
theorem dX12_find_16 : decode cX12_find 16 = .ok (.invokestatic 208, 3) := by decide +kernel
theorem dX12_find_19 : decode cX12_find 19 = .ok (.ifCond .eq 15, 3) := by decide +kernel
theorem dX12_find_22 : decode cX12_find 22 = .ok (.iload_n 2, 1) := by decide +kernel
theorem dX12_find_23 : decode cX12_find 23 = .ok (.i2l, 1) := by decide +kernel
theorem dX12_find_24 : decode cX12_find 24 = .ok (.lconst 0, 1) := by decide +kernel
theorem dX12_find_25 : decode cX12_find 25 = .ok (.ldc2_w 278, 3) := by decide +kernel
theorem dX12_find_28 : decode cX12_find 28 = .ok (.invokestatic 208, 3) := by decide +kernel
theorem dX12_find_31 : decode cX12_find 31 = .ok (.ifCond .ne 9, 3) := by decide +kernel
theorem dX12_find_34 : decode cX12_find 34 = .ok (.aload_n 0, 1) := by decide +kernel
theorem dX12_find_35 : decode cX12_find 35 = .ok (.iconst 1, 1) := by decide +kernel
theorem dX12_find_36 : decode cX12_find 36 = .ok (.invokevirtual 261, 3) := by decide +kernel
theorem dX12_find_39 : decode cX12_find 39 = .ok (.ireturn, 1) := by decide +kernel
theorem dX12_find_40 : decode cX12_find 40 = .ok (.aload_n 0, 1) := by decide +kernel
theorem dX12_find_41 : decode cX12_find 41 = .ok (.getfield 13, 3) := by decide +kernel
theorem dX12_find_44 : decode cX12_find 44 = .ok (.iload_n 1, 1) := by decide +kernel
theorem dX12_find_45 : decode cX12_find 45 = .ok (.iaload, 1) := by decide +kernel
theorem dX12_find_46 : decode cX12_find 46 = .ok (.ifCond .lt 12, 3) := by decide +kernel
theorem dX12_find_49 : decode cX12_find 49 = .ok (.aload_n 0, 1) := by decide +kernel
theorem dX12_find_50 : decode cX12_find 50 = .ok (.getfield 13, 3) := by decide +kernel
theorem dX12_find_53 : decode cX12_find 53 = .ok (.iload_n 2, 1) := by decide +kernel
theorem dX12_find_54 : decode cX12_find 54 = .ok (.iaload, 1) := by decide +kernel
theorem dX12_find_55 : decode cX12_find 55 = .ok (.ifCond .ge 9, 3) := by decide +kernel
theorem dX12_find_58 : decode cX12_find 58 = .ok (.aload_n 0, 1) := by decide +kernel
theorem dX12_find_59 : decode cX12_find 59 = .ok (.iconst 3, 1) := by decide +kernel
theorem dX12_find_60 : decode cX12_find 60 = .ok (.invokevirtual 261, 3) := by decide +kernel
theorem dX12_find_63 : decode cX12_find 63 = .ok (.ireturn, 1) := by decide +kernel
theorem dX12_find_64 : decode cX12_find 64 = .ok (.iload_n 3, 1) := by decide +kernel
theorem dX12_find_65 : decode cX12_find 65 = .ok (.i2l, 1) := by decide +kernel
theorem dX12_find_66 : decode cX12_find 66 = .ok (.lconst 1, 1) := by decide +kernel
theorem dX12_find_67 : decode cX12_find 67 = .ok (.ldc2_w 654, 3) := by decide +kernel
theorem dX12_find_70 : decode cX12_find 70 = .ok (.invokestatic 208, 3) := by decide +kernel
theorem dX12_find_73 : decode cX12_find 73 = .ok (.ifCond .ne 9, 3) := by decide +kernel
theorem dX12_find_76 : decode cX12_find 76 = .ok (.aload_n 0, 1) := by decide +kernel
theorem dX12_find_77 : decode cX12_find 77 = .ok (.iconst 5, 1) := by decide +kernel
theorem dX12_find_78 : decode cX12_find 78 = .ok (.invokevirtual 261, 3) := by decide +kernel
theorem dX12_find_81 : decode cX12_find 81 = .ok (.ireturn, 1) := by decide +kernel
theorem dX12_find_82 : decode cX12_find 82 = .ok (.aload_n 0, 1) := by decide +kernel
theorem dX12_find_83 : decode cX12_find 83 = .ok (.getfield 13, 3) := by decide +kernel
theorem dX12_find_86 : decode cX12_find 86 = .ok (.iload_n 1, 1) := by decide +kernel
theorem dX12_find_87 : decode cX12_find 87 = .ok (.iaload, 1) := by decide +kernel
theorem dX12_find_88 : decode cX12_find 88 = .ok (.iload_n 3, 1) := by decide +kernel
theorem dX12_find_89 : decode cX12_find 89 = .ok (.if_icmp .lt 13, 3) := by decide +kernel
theorem dX12_find_92 : decode cX12_find 92 = .ok (.aload_n 0, 1) := by decide +kernel
theorem dX12_find_93 : decode cX12_find 93 = .ok (.getfield 13, 3) := by decide +kernel
theorem dX12_find_96 : decode cX12_find 96 = .ok (.iload_n 2, 1) := by decide +kernel
theorem dX12_find_97 : decode cX12_find 97 = .ok (.iaload, 1) := by decide +kernel
theorem dX12_find_98 : decode cX12_find 98 = .ok (.iload_n 3, 1) := by decide +kernel
theorem dX12_find_99 : decode cX12_find 99 = .ok (.if_icmp .ge 9, 3) := by decide +kernel
theorem dX12_find_102 : decode cX12_find 102 = .ok (.aload_n 0, 1) := by decide +kernel
theorem dX12_find_103 : decode cX12_find 103 = .ok (.iconst 4, 1) := by decide +kernel
theorem dX12_find_104 : decode cX12_find 104 = .ok (.invokevirtual 261, 3) := by decide +kernel
theorem dX12_find_107 : decode cX12_find 107 = .ok (.ireturn, 1) := by decide +kernel
theorem dX12_find_108 : decode cX12_find 108 = .ok (.iconst 0, 1) := by decide +kernel
theorem dX12_find_109 : decode cX12_find 109 = .ok (.istore 4, 2) := by decide +kernel
theorem dX12_find_111 : decode cX12_find 111 = .ok (.iload 4, 2) := by decide +kernel
theorem dX12_find_113 : decode cX12_find 113 = .ok (.iload_n 3, 1) := by decide +kernel
theorem dX12_find_114 : decode cX12_find 114 = .ok (.if_icmp .ge 49, 3) := by decide +kernel
theorem dX12_find_117 : decode cX12_find 117 = .ok (.aload_n 0, 1) := by decide +kernel
theorem dX12_find_118 : decode cX12_find 118 = .ok (.iload_n 1, 1) := by decide +kernel
theorem dX12_find_119 : decode cX12_find 119 = .ok (.iload 4, 2) := by decide +kernel
theorem dX12_find_121 : decode cX12_find 121 = .ok (.invokevirtual 635, 3) := by decide +kernel
theorem dX12_find_124 : decode cX12_find 124 = .ok (.lconst 0, 1) := by decide +kernel
theorem dX12_find_125 : decode cX12_find 125 = .ok (.ldc2_w 238, 3) := by decide +kernel
theorem dX12_find_128 : decode cX12_find 128 = .ok (.invokestatic 208, 3) := by decide +kernel
theorem dX12_find_131 : decode cX12_find 131 = .ok (.ifCond .eq 20, 3) := by decide +kernel
theorem dX12_find_134 : decode cX12_find 134 = .ok (.aload_n 0, 1) := by decide +kernel
theorem dX12_find_135 : decode cX12_find 135 = .ok (.iload_n 2, 1) := by decide +kernel
theorem dX12_find_136 : decode cX12_find 136 = .ok (.iload 4, 2) := by decide +kernel
theorem dX12_find_138 : decode cX12_find 138 = .ok (.invokevirtual 635, 3) := by decide +kernel
theorem dX12_find_141 : decode cX12_find 141 = .ok (.lconst 0, 1) := by decide +kernel
theorem dX12_find_142 : decode cX12_find 142 = .ok (.ldc2_w 316, 3) := by decide +kernel
theorem dX12_find_145 : decode cX12_find 145 = .ok (.invokestatic 208, 3) := by decide +kernel
theorem dX12_find_148 : decode cX12_find 148 = .ok (.ifCond .ne 9, 3) := by decide +kernel
theorem dX12_find_151 : decode cX12_find 151 = .ok (.aload_n 0, 1) := by decide +kernel
theorem dX12_find_152 : decode cX12_find 152 = .ok (.iconst 5, 1) := by decide +kernel
theorem dX12_find_153 : decode cX12_find 153 = .ok (.invokevirtual 261, 3) := by decide +kernel
theorem dX12_find_156 : decode cX12_find 156 = .ok (.ireturn, 1) := by decide +kernel
theorem dX12_find_157 : decode cX12_find 157 = .ok (.iinc 4 1, 3) := by decide +kernel
theorem dX12_find_160 : decode cX12_find 160 = .ok (.goto (-49), 3) := by decide +kernel
theorem dX12_find_163 : decode cX12_find 163 = .ok (.iconst 0, 1) := by decide +kernel
theorem dX12_find_164 : decode cX12_find 164 = .ok (.istore 4, 2) := by decide +kernel
theorem dX12_find_166 : decode cX12_find 166 = .ok (.iconst 0, 1) := by decide +kernel
theorem dX12_find_167 : decode cX12_find 167 = .ok (.istore 5, 2) := by decide +kernel
theorem dX12_find_169 : decode cX12_find 169 = .ok (.iload 5, 2) := by decide +kernel
theorem dX12_find_171 : decode cX12_find 171 = .ok (.iconst 5, 1) := by decide +kernel
theorem dX12_find_172 : decode cX12_find 172 = .ok (.if_icmp .ge 81, 3) := by decide +kernel
theorem dX12_find_175 : decode cX12_find 175 = .ok (.iconst 1, 1) := by decide +kernel
theorem dX12_find_176 : decode cX12_find 176 = .ok (.istore 6, 2) := by decide +kernel
theorem dX12_find_178 : decode cX12_find 178 = .ok (.iconst 0, 1) := by decide +kernel
theorem dX12_find_179 : decode cX12_find 179 = .ok (.istore 7, 2) := by decide +kernel
theorem dX12_find_181 : decode cX12_find 181 = .ok (.iload 7, 2) := by decide +kernel
theorem dX12_find_183 : decode cX12_find 183 = .ok (.iload_n 3, 1) := by decide +kernel
theorem dX12_find_184 : decode cX12_find 184 = .ok (.if_icmp .ge 45, 3) := by decide +kernel
theorem dX12_find_187 : decode cX12_find 187 = .ok (.iload 6, 2) := by decide +kernel
theorem dX12_find_189 : decode cX12_find 189 = .ok (.ifCond .eq 31, 3) := by decide +kernel
theorem dX12_find_192 : decode cX12_find 192 = .ok (.iload 5, 2) := by decide +kernel
theorem dX12_find_194 : decode cX12_find 194 = .ok (.aload_n 0, 1) := by decide +kernel
theorem dX12_find_195 : decode cX12_find 195 = .ok (.iload_n 1, 1) := by decide +kernel
theorem dX12_find_196 : decode cX12_find 196 = .ok (.iload 7, 2) := by decide +kernel
theorem dX12_find_198 : decode cX12_find 198 = .ok (.invokevirtual 635, 3) := by decide +kernel
theorem dX12_find_201 : decode cX12_find 201 = .ok (.l2i, 1) := by decide +kernel
theorem dX12_find_202 : decode cX12_find 202 = .ok (.invokestatic 656, 3) := by decide +kernel
theorem dX12_find_205 : decode cX12_find 205 = .ok (.aload_n 0, 1) := by decide +kernel
theorem dX12_find_206 : decode cX12_find 206 = .ok (.iload_n 2, 1) := by decide +kernel
theorem dX12_find_207 : decode cX12_find 207 = .ok (.iload 7, 2) := by decide +kernel
theorem dX12_find_209 : decode cX12_find 209 = .ok (.invokevirtual 635, 3) := by decide +kernel
theorem dX12_find_212 : decode cX12_find 212 = .ok (.lcmp, 1) := by decide +kernel
theorem dX12_find_213 : decode cX12_find 213 = .ok (.ifCond .ne 7, 3) := by decide +kernel
theorem dX12_find_216 : decode cX12_find 216 = .ok (.iconst 1, 1) := by decide +kernel
theorem dX12_find_217 : decode cX12_find 217 = .ok (.goto 4, 3) := by decide +kernel
theorem dX12_find_220 : decode cX12_find 220 = .ok (.iconst 0, 1) := by decide +kernel
theorem dX12_find_221 : decode cX12_find 221 = .ok (.istore 6, 2) := by decide +kernel
theorem dX12_find_223 : decode cX12_find 223 = .ok (.iinc 7 1, 3) := by decide +kernel
theorem dX12_find_226 : decode cX12_find 226 = .ok (.goto (-45), 3) := by decide +kernel
theorem dX12_find_229 : decode cX12_find 229 = .ok (.iload 4, 2) := by decide +kernel
theorem dX12_find_231 : decode cX12_find 231 = .ok (.iload 6, 2) := by decide +kernel
theorem dX12_find_233 : decode cX12_find 233 = .ok (.ifCond .eq 10, 3) := by decide +kernel
theorem dX12_find_236 : decode cX12_find 236 = .ok (.iconst 1, 1) := by decide +kernel
theorem dX12_find_237 : decode cX12_find 237 = .ok (.iload 5, 2) := by decide +kernel
theorem dX12_find_239 : decode cX12_find 239 = .ok (.ishl, 1) := by decide +kernel
theorem dX12_find_240 : decode cX12_find 240 = .ok (.goto 4, 3) := by decide +kernel
theorem dX12_find_243 : decode cX12_find 243 = .ok (.iconst 0, 1) := by decide +kernel
theorem dX12_find_244 : decode cX12_find 244 = .ok (.ior, 1) := by decide +kernel
theorem dX12_find_245 : decode cX12_find 245 = .ok (.istore 4, 2) := by decide +kernel
theorem dX12_find_247 : decode cX12_find 247 = .ok (.iinc 5 1, 3) := by decide +kernel
theorem dX12_find_250 : decode cX12_find 250 = .ok (.goto (-81), 3) := by decide +kernel
theorem dX12_find_253 : decode cX12_find 253 = .ok (.aload_n 0, 1) := by decide +kernel
theorem dX12_find_254 : decode cX12_find 254 = .ok (.iload 4, 2) := by decide +kernel
theorem dX12_find_256 : decode cX12_find 256 = .ok (.putfield 170, 3) := by decide +kernel
theorem dX12_find_259 : decode cX12_find 259 = .ok (.iload 4, 2) := by decide +kernel
theorem dX12_find_261 : decode cX12_find 261 = .ok (.ireturn, 1) := by decide +kernel
theorem dX12_unlike_0 : decode cX12_unlike 0 = .ok (.iconst 0, 1) := by decide +kernel
theorem dX12_unlike_1 : decode cX12_unlike 1 = .ok (.istore_n 2, 1) := by decide +kernel
theorem dX12_unlike_2 : decode cX12_unlike 2 = .ok (.iconst 0, 1) := by decide +kernel
theorem dX12_unlike_3 : decode cX12_unlike 3 = .ok (.istore_n 3, 1) := by decide +kernel
theorem dX12_unlike_4 : decode cX12_unlike 4 = .ok (.iload_n 3, 1) := by decide +kernel
theorem dX12_unlike_5 : decode cX12_unlike 5 = .ok (.iconst 5, 1) := by decide +kernel
theorem dX12_unlike_6 : decode cX12_unlike 6 = .ok (.if_icmp .ge 93, 3) := by decide +kernel
theorem dX12_unlike_9 : decode cX12_unlike 9 = .ok (.aload_n 0, 1) := by decide +kernel
theorem dX12_unlike_10 : decode cX12_unlike 10 = .ok (.getfield 170, 3) := by decide +kernel
theorem dX12_unlike_13 : decode cX12_unlike 13 = .ok (.iload_n 3, 1) := by decide +kernel
theorem dX12_unlike_14 : decode cX12_unlike 14 = .ok (.ishr, 1) := by decide +kernel
theorem dX12_unlike_15 : decode cX12_unlike 15 = .ok (.iconst 1, 1) := by decide +kernel
theorem dX12_unlike_16 : decode cX12_unlike 16 = .ok (.iand, 1) := by decide +kernel
theorem dX12_unlike_17 : decode cX12_unlike 17 = .ok (.ifCond .ne 6, 3) := by decide +kernel
theorem dX12_unlike_20 : decode cX12_unlike 20 = .ok (.goto 73, 3) := by decide +kernel
theorem dX12_unlike_23 : decode cX12_unlike 23 = .ok (.iconst 1, 1) := by decide +kernel
theorem dX12_unlike_24 : decode cX12_unlike 24 = .ok (.istore 4, 2) := by decide +kernel
theorem dX12_unlike_26 : decode cX12_unlike 26 = .ok (.iconst 0, 1) := by decide +kernel
theorem dX12_unlike_27 : decode cX12_unlike 27 = .ok (.istore 5, 2) := by decide +kernel
theorem dX12_unlike_29 : decode cX12_unlike 29 = .ok (.iload 5, 2) := by decide +kernel
theorem dX12_unlike_31 : decode cX12_unlike 31 = .ok (.iload_n 3, 1) := by decide +kernel
theorem dX12_unlike_32 : decode cX12_unlike 32 = .ok (.if_icmp .ge 48, 3) := by decide +kernel
theorem dX12_unlike_35 : decode cX12_unlike 35 = .ok (.iload 4, 2) := by decide +kernel
theorem dX12_unlike_37 : decode cX12_unlike 37 = .ok (.ifCond .eq 34, 3) := by decide +kernel
theorem dX12_unlike_40 : decode cX12_unlike 40 = .ok (.aload_n 0, 1) := by decide +kernel
theorem dX12_unlike_41 : decode cX12_unlike 41 = .ok (.getfield 170, 3) := by decide +kernel
theorem dX12_unlike_44 : decode cX12_unlike 44 = .ok (.iload 5, 2) := by decide +kernel
theorem dX12_unlike_46 : decode cX12_unlike 46 = .ok (.ishr, 1) := by decide +kernel
theorem dX12_unlike_47 : decode cX12_unlike 47 = .ok (.iconst 1, 1) := by decide +kernel
theorem dX12_unlike_48 : decode cX12_unlike 48 = .ok (.iand, 1) := by decide +kernel
theorem dX12_unlike_49 : decode cX12_unlike 49 = .ok (.ifCond .eq 18, 3) := by decide +kernel
theorem dX12_unlike_52 : decode cX12_unlike 52 = .ok (.iload 5, 2) := by decide +kernel
theorem dX12_unlike_54 : decode cX12_unlike 54 = .ok (.iload_n 1, 1) := by decide +kernel
theorem dX12_unlike_55 : decode cX12_unlike 55 = .ok (.invokestatic 656, 3) := by decide +kernel
theorem dX12_unlike_58 : decode cX12_unlike 58 = .ok (.iload_n 3, 1) := by decide +kernel
theorem dX12_unlike_59 : decode cX12_unlike 59 = .ok (.iload_n 1, 1) := by decide +kernel
theorem dX12_unlike_60 : decode cX12_unlike 60 = .ok (.invokestatic 656, 3) := by decide +kernel
theorem dX12_unlike_63 : decode cX12_unlike 63 = .ok (.lcmp, 1) := by decide +kernel
theorem dX12_unlike_64 : decode cX12_unlike 64 = .ok (.ifCond .eq 7, 3) := by decide +kernel
theorem dX12_unlike_67 : decode cX12_unlike 67 = .ok (.iconst 1, 1) := by decide +kernel
theorem dX12_unlike_68 : decode cX12_unlike 68 = .ok (.goto 4, 3) := by decide +kernel
theorem dX12_unlike_71 : decode cX12_unlike 71 = .ok (.iconst 0, 1) := by decide +kernel
theorem dX12_unlike_72 : decode cX12_unlike 72 = .ok (.istore 4, 2) := by decide +kernel
theorem dX12_unlike_74 : decode cX12_unlike 74 = .ok (.iinc 5 1, 3) := by decide +kernel
theorem dX12_unlike_77 : decode cX12_unlike 77 = .ok (.goto (-48), 3) := by decide +kernel
theorem dX12_unlike_80 : decode cX12_unlike 80 = .ok (.iload_n 2, 1) := by decide +kernel
theorem dX12_unlike_81 : decode cX12_unlike 81 = .ok (.iload 4, 2) := by decide +kernel
theorem dX12_unlike_83 : decode cX12_unlike 83 = .ok (.ifCond .eq 7, 3) := by decide +kernel
theorem dX12_unlike_86 : decode cX12_unlike 86 = .ok (.iconst 1, 1) := by decide +kernel
theorem dX12_unlike_87 : decode cX12_unlike 87 = .ok (.goto 4, 3) := by decide +kernel
theorem dX12_unlike_90 : decode cX12_unlike 90 = .ok (.iconst 0, 1) := by decide +kernel
theorem dX12_unlike_91 : decode cX12_unlike 91 = .ok (.iadd, 1) := by decide +kernel
theorem dX12_unlike_92 : decode cX12_unlike 92 = .ok (.istore_n 2, 1) := by decide +kernel
theorem dX12_unlike_93 : decode cX12_unlike 93 = .ok (.iinc 3 1, 3) := by decide +kernel
theorem dX12_unlike_96 : decode cX12_unlike 96 = .ok (.goto (-92), 3) := by decide +kernel
theorem dX12_unlike_99 : decode cX12_unlike 99 = .ok (.iload_n 2, 1) := by decide +kernel
theorem dX12_unlike_100 : decode cX12_unlike 100 = .ok (.ireturn, 1) := by decide +kernel
theorem dX12_ask_0 : decode cX12_ask 0 = .ok (.aload_n 0, 1) := by decide +kernel
theorem dX12_ask_1 : decode cX12_ask 1 = .ok (.iconst 0, 1) := by decide +kernel
theorem dX12_ask_2 : decode cX12_ask 2 = .ok (.putfield 200, 3) := by decide +kernel
theorem dX12_ask_5 : decode cX12_ask 5 = .ok (.aload_n 0, 1) := by decide +kernel
theorem dX12_ask_6 : decode cX12_ask 6 = .ok (.iconst 0, 1) := by decide +kernel
theorem dX12_ask_7 : decode cX12_ask 7 = .ok (.putfield 203, 3) := by decide +kernel
theorem dX12_ask_10 : decode cX12_ask 10 = .ok (.aload_n 0, 1) := by decide +kernel
theorem dX12_ask_11 : decode cX12_ask 11 = .ok (.getfield 170, 3) := by decide +kernel
theorem dX12_ask_14 : decode cX12_ask 14 = .ok (.ifCond .ge 10, 3) := by decide +kernel
theorem dX12_ask_17 : decode cX12_ask 17 = .ok (.aload_n 0, 1) := by decide +kernel
theorem dX12_ask_18 : decode cX12_ask 18 = .ok (.bipush 8, 2) := by decide +kernel
theorem dX12_ask_20 : decode cX12_ask 20 = .ok (.invokevirtual 261, 3) := by decide +kernel
theorem dX12_ask_23 : decode cX12_ask 23 = .ok (.ireturn, 1) := by decide +kernel
theorem dX12_ask_24 : decode cX12_ask 24 = .ok (.iconst 0, 1) := by decide +kernel
theorem dX12_ask_25 : decode cX12_ask 25 = .ok (.istore_n 1, 1) := by decide +kernel
theorem dX12_ask_26 : decode cX12_ask 26 = .ok (.aload_n 0, 1) := by decide +kernel
theorem dX12_ask_27 : decode cX12_ask 27 = .ok (.iconst 0, 1) := by decide +kernel
theorem dX12_ask_28 : decode cX12_ask 28 = .ok (.invokevirtual 659, 3) := by decide +kernel
theorem dX12_ask_31 : decode cX12_ask 31 = .ok (.istore_n 2, 1) := by decide +kernel
theorem dX12_ask_32 : decode cX12_ask 32 = .ok (.iconst 1, 1) := by decide +kernel
theorem dX12_ask_33 : decode cX12_ask 33 = .ok (.istore_n 3, 1) := by decide +kernel
theorem dX12_ask_34 : decode cX12_ask 34 = .ok (.iload_n 3, 1) := by decide +kernel
theorem dX12_ask_35 : decode cX12_ask 35 = .ok (.ldc_w 271, 3) := by decide +kernel
theorem dX12_ask_38 : decode cX12_ask 38 = .ok (.if_icmp .gt 30, 3) := by decide +kernel
theorem dX12_ask_41 : decode cX12_ask 41 = .ok (.aload_n 0, 1) := by decide +kernel
theorem dX12_ask_42 : decode cX12_ask 42 = .ok (.iload_n 3, 1) := by decide +kernel
theorem dX12_ask_43 : decode cX12_ask 43 = .ok (.invokevirtual 659, 3) := by decide +kernel
theorem dX12_ask_46 : decode cX12_ask 46 = .ok (.istore 4, 2) := by decide +kernel
theorem dX12_ask_48 : decode cX12_ask 48 = .ok (.iload 4, 2) := by decide +kernel
theorem dX12_ask_50 : decode cX12_ask 50 = .ok (.iload_n 2, 1) := by decide +kernel
theorem dX12_ask_51 : decode cX12_ask 51 = .ok (.if_icmp .gt 6, 3) := by decide +kernel
theorem dX12_ask_54 : decode cX12_ask 54 = .ok (.goto 8, 3) := by decide +kernel
theorem dX12_ask_57 : decode cX12_ask 57 = .ok (.iload 4, 2) := by decide +kernel
theorem dX12_ask_59 : decode cX12_ask 59 = .ok (.istore_n 2, 1) := by decide +kernel
theorem dX12_ask_60 : decode cX12_ask 60 = .ok (.iload_n 3, 1) := by decide +kernel
theorem dX12_ask_61 : decode cX12_ask 61 = .ok (.istore_n 1, 1) := by decide +kernel
theorem dX12_ask_62 : decode cX12_ask 62 = .ok (.iinc 3 1, 3) := by decide +kernel
theorem dX12_ask_65 : decode cX12_ask 65 = .ok (.goto (-31), 3) := by decide +kernel
theorem dX12_ask_68 : decode cX12_ask 68 = .ok (.iload_n 2, 1) := by decide +kernel
theorem dX12_ask_69 : decode cX12_ask 69 = .ok (.iconst 2, 1) := by decide +kernel
theorem dX12_ask_70 : decode cX12_ask 70 = .ok (.if_icmp .ge 12, 3) := by decide +kernel
theorem dX12_ask_73 : decode cX12_ask 73 = .ok (.aload_n 0, 1) := by decide +kernel
theorem dX12_ask_74 : decode cX12_ask 74 = .ok (.bipush 8, 2) := by decide +kernel
theorem dX12_ask_76 : decode cX12_ask 76 = .ok (.invokevirtual 261, 3) := by decide +kernel
theorem dX12_ask_79 : decode cX12_ask 79 = .ok (.goto 4, 3) := by decide +kernel
theorem dX12_ask_82 : decode cX12_ask 82 = .ok (.iload_n 1, 1) := by decide +kernel
theorem dX12_ask_83 : decode cX12_ask 83 = .ok (.ireturn, 1) := by decide +kernel
theorem dX12_isLand_0 : decode cX12_isLand 0 = .ok (.iload_n 0, 1) := by decide +kernel
theorem dX12_isLand_1 : decode cX12_isLand 1 = .ok (.i2l, 1) := by decide +kernel
theorem dX12_isLand_2 : decode cX12_isLand 2 = .ok (.lconst 0, 1) := by decide +kernel
theorem dX12_isLand_3 : decode cX12_isLand 3 = .ok (.ldc2_w 278, 3) := by decide +kernel
theorem dX12_isLand_6 : decode cX12_isLand 6 = .ok (.invokestatic 208, 3) := by decide +kernel
theorem dX12_isLand_9 : decode cX12_isLand 9 = .ok (.ireturn, 1) := by decide +kernel
theorem dX12_land_0 : decode cX12_land 0 = .ok (.aload_n 0, 1) := by decide +kernel
theorem dX12_land_1 : decode cX12_land 1 = .ok (.iconst 0, 1) := by decide +kernel
theorem dX12_land_2 : decode cX12_land 2 = .ok (.putfield 200, 3) := by decide +kernel
theorem dX12_land_5 : decode cX12_land 5 = .ok (.aload_n 0, 1) := by decide +kernel
theorem dX12_land_6 : decode cX12_land 6 = .ok (.iconst 0, 1) := by decide +kernel
theorem dX12_land_7 : decode cX12_land 7 = .ok (.putfield 203, 3) := by decide +kernel
theorem dX12_land_10 : decode cX12_land 10 = .ok (.iload_n 1, 1) := by decide +kernel
theorem dX12_land_11 : decode cX12_land 11 = .ok (.invokestatic 662, 3) := by decide +kernel
theorem dX12_land_14 : decode cX12_land 14 = .ok (.ifCond .ne 9, 3) := by decide +kernel
theorem dX12_land_17 : decode cX12_land 17 = .ok (.aload_n 0, 1) := by decide +kernel
theorem dX12_land_18 : decode cX12_land 18 = .ok (.iconst 2, 1) := by decide +kernel
theorem dX12_land_19 : decode cX12_land 19 = .ok (.invokevirtual 214, 3) := by decide +kernel
theorem dX12_land_22 : decode cX12_land 22 = .ok (.ireturn, 1) := by decide +kernel
theorem dX12_land_23 : decode cX12_land 23 = .ok (.iload_n 2, 1) := by decide +kernel
theorem dX12_land_24 : decode cX12_land 24 = .ok (.i2l, 1) := by decide +kernel
theorem dX12_land_25 : decode cX12_land 25 = .ok (.ldc2_w 665, 3) := by decide +kernel
theorem dX12_land_28 : decode cX12_land 28 = .ok (.ldc2_w 667, 3) := by decide +kernel
theorem dX12_land_31 : decode cX12_land 31 = .ok (.invokestatic 208, 3) := by decide +kernel
theorem dX12_land_34 : decode cX12_land 34 = .ok (.ifCond .eq 29, 3) := by decide +kernel
theorem dX12_land_37 : decode cX12_land 37 = .ok (.iload_n 3, 1) := by decide +kernel
theorem dX12_land_38 : decode cX12_land 38 = .ok (.i2l, 1) := by decide +kernel
theorem dX12_land_39 : decode cX12_land 39 = .ok (.lconst 0, 1) := by decide +kernel
theorem dX12_land_40 : decode cX12_land 40 = .ok (.ldc2_w 669, 3) := by decide +kernel
theorem dX12_land_43 : decode cX12_land 43 = .ok (.invokestatic 208, 3) := by decide +kernel
theorem dX12_land_46 : decode cX12_land 46 = .ok (.ifCond .eq 17, 3) := by decide +kernel
theorem dX12_land_49 : decode cX12_land 49 = .ok (.iload 4, 2) := by decide +kernel
theorem dX12_land_51 : decode cX12_land 51 = .ok (.i2l, 1) := by decide +kernel
theorem dX12_land_52 : decode cX12_land 52 = .ok (.iload_n 3, 1) := by decide +kernel
theorem dX12_land_53 : decode cX12_land 53 = .ok (.i2l, 1) := by decide +kernel
theorem dX12_land_54 : decode cX12_land 54 = .ok (.ldc2_w 669, 3) := by decide +kernel
theorem dX12_land_57 : decode cX12_land 57 = .ok (.invokestatic 208, 3) := by decide +kernel
theorem dX12_land_60 : decode cX12_land 60 = .ok (.ifCond .ne 9, 3) := by decide +kernel
theorem dX12_land_63 : decode cX12_land 63 = .ok (.aload_n 0, 1) := by decide +kernel
theorem dX12_land_64 : decode cX12_land 64 = .ok (.iconst 5, 1) := by decide +kernel
theorem dX12_land_65 : decode cX12_land 65 = .ok (.invokevirtual 214, 3) := by decide +kernel
theorem dX12_land_68 : decode cX12_land 68 = .ok (.ireturn, 1) := by decide +kernel
theorem dX12_land_69 : decode cX12_land 69 = .ok (.aload_n 0, 1) := by decide +kernel
theorem dX12_land_70 : decode cX12_land 70 = .ok (.getfield 161, 3) := by decide +kernel
theorem dX12_land_73 : decode cX12_land 73 = .ok (.iload_n 1, 1) := by decide +kernel
theorem dX12_land_74 : decode cX12_land 74 = .ok (.iload_n 2, 1) := by decide +kernel
theorem dX12_land_75 : decode cX12_land 75 = .ok (.iastore, 1) := by decide +kernel
theorem dX12_land_76 : decode cX12_land 76 = .ok (.aload_n 0, 1) := by decide +kernel
theorem dX12_land_77 : decode cX12_land 77 = .ok (.getfield 164, 3) := by decide +kernel
theorem dX12_land_80 : decode cX12_land 80 = .ok (.iload_n 1, 1) := by decide +kernel
theorem dX12_land_81 : decode cX12_land 81 = .ok (.iload_n 3, 1) := by decide +kernel
theorem dX12_land_82 : decode cX12_land 82 = .ok (.iastore, 1) := by decide +kernel
theorem dX12_land_83 : decode cX12_land 83 = .ok (.aload_n 0, 1) := by decide +kernel
theorem dX12_land_84 : decode cX12_land 84 = .ok (.getfield 167, 3) := by decide +kernel
theorem dX12_land_87 : decode cX12_land 87 = .ok (.iload_n 1, 1) := by decide +kernel
theorem dX12_land_88 : decode cX12_land 88 = .ok (.iload 4, 2) := by decide +kernel
theorem dX12_land_90 : decode cX12_land 90 = .ok (.iastore, 1) := by decide +kernel
theorem dX12_land_91 : decode cX12_land 91 = .ok (.iconst 1, 1) := by decide +kernel
theorem dX12_land_92 : decode cX12_land 92 = .ok (.ireturn, 1) := by decide +kernel
theorem dX12_localOf_0 : decode cX12_localOf 0 = .ok (.iload_n 2, 1) := by decide +kernel
theorem dX12_localOf_1 : decode cX12_localOf 1 = .ok (.sipush 1440, 3) := by decide +kernel
theorem dX12_localOf_4 : decode cX12_localOf 4 = .ok (.invokestatic 671, 3) := by decide +kernel
theorem dX12_localOf_7 : decode cX12_localOf 7 = .ok (.istore_n 3, 1) := by decide +kernel
theorem dX12_localOf_8 : decode cX12_localOf 8 = .ok (.iload_n 3, 1) := by decide +kernel
theorem dX12_localOf_9 : decode cX12_localOf 9 = .ok (.sipush 365, 3) := by decide +kernel
theorem dX12_localOf_12 : decode cX12_localOf 12 = .ok (.invokestatic 674, 3) := by decide +kernel
theorem dX12_localOf_15 : decode cX12_localOf 15 = .ok (.istore 4, 2) := by decide +kernel
theorem dX12_localOf_17 : decode cX12_localOf 17 = .ok (.iload_n 2, 1) := by decide +kernel
theorem dX12_localOf_18 : decode cX12_localOf 18 = .ok (.sipush 1440, 3) := by decide +kernel
theorem dX12_localOf_21 : decode cX12_localOf 21 = .ok (.invokestatic 674, 3) := by decide +kernel
theorem dX12_localOf_24 : decode cX12_localOf 24 = .ok (.istore 5, 2) := by decide +kernel
theorem dX12_localOf_26 : decode cX12_localOf 26 = .ok (.sipush 1440, 3) := by decide +kernel
theorem dX12_localOf_29 : decode cX12_localOf 29 = .ok (.aload_n 0, 1) := by decide +kernel
theorem dX12_localOf_30 : decode cX12_localOf 30 = .ok (.getfield 164, 3) := by decide +kernel
theorem dX12_localOf_33 : decode cX12_localOf 33 = .ok (.iload_n 1, 1) := by decide +kernel
theorem dX12_localOf_34 : decode cX12_localOf 34 = .ok (.iaload, 1) := by decide +kernel
theorem dX12_localOf_35 : decode cX12_localOf 35 = .ok (.imul, 1) := by decide +kernel
theorem dX12_localOf_36 : decode cX12_localOf 36 = .ok (.bipush 60, 2) := by decide +kernel
theorem dX12_localOf_38 : decode cX12_localOf 38 = .ok (.iadd, 1) := by decide +kernel
theorem dX12_localOf_39 : decode cX12_localOf 39 = .ok (.istore 6, 2) := by decide +kernel
theorem dX12_localOf_41 : decode cX12_localOf 41 = .ok (.sipush 1440, 3) := by decide +kernel
theorem dX12_localOf_44 : decode cX12_localOf 44 = .ok (.aload_n 0, 1) := by decide +kernel
theorem dX12_localOf_45 : decode cX12_localOf 45 = .ok (.getfield 167, 3) := by decide +kernel
theorem dX12_localOf_48 : decode cX12_localOf 48 = .ok (.iload_n 1, 1) := by decide +kernel
theorem dX12_localOf_49 : decode cX12_localOf 49 = .ok (.iaload, 1) := by decide +kernel
theorem dX12_localOf_50 : decode cX12_localOf 50 = .ok (.imul, 1) := by decide +kernel
theorem dX12_localOf_51 : decode cX12_localOf 51 = .ok (.bipush 120, 2) := by decide +kernel
theorem dX12_localOf_53 : decode cX12_localOf 53 = .ok (.iadd, 1) := by decide +kernel
theorem dX12_localOf_54 : decode cX12_localOf 54 = .ok (.istore 7, 2) := by decide +kernel
theorem dX12_localOf_56 : decode cX12_localOf 56 = .ok (.aload_n 0, 1) := by decide +kernel
theorem dX12_localOf_57 : decode cX12_localOf 57 = .ok (.getfield 164, 3) := by decide +kernel
theorem dX12_localOf_60 : decode cX12_localOf 60 = .ok (.iload_n 1, 1) := by decide +kernel
theorem dX12_localOf_61 : decode cX12_localOf 61 = .ok (.iaload, 1) := by decide +kernel
theorem dX12_localOf_62 : decode cX12_localOf 62 = .ok (.aload_n 0, 1) := by decide +kernel
theorem dX12_localOf_63 : decode cX12_localOf 63 = .ok (.getfield 167, 3) := by decide +kernel
theorem dX12_localOf_66 : decode cX12_localOf 66 = .ok (.iload_n 1, 1) := by decide +kernel
theorem dX12_localOf_67 : decode cX12_localOf 67 = .ok (.iaload, 1) := by decide +kernel
theorem dX12_localOf_68 : decode cX12_localOf 68 = .ok (.if_icmp .eq 35, 3) := by decide +kernel
theorem dX12_localOf_71 : decode cX12_localOf 71 = .ok (.sipush 1440, 3) := by decide +kernel
theorem dX12_localOf_74 : decode cX12_localOf 74 = .ok (.iload 4, 2) := by decide +kernel
theorem dX12_localOf_76 : decode cX12_localOf 76 = .ok (.imul, 1) := by decide +kernel
theorem dX12_localOf_77 : decode cX12_localOf 77 = .ok (.iload 5, 2) := by decide +kernel
theorem dX12_localOf_79 : decode cX12_localOf 79 = .ok (.iadd, 1) := by decide +kernel
theorem dX12_localOf_80 : decode cX12_localOf 80 = .ok (.iload 6, 2) := by decide +kernel
theorem dX12_localOf_82 : decode cX12_localOf 82 = .ok (.if_icmp .lt 21, 3) := by decide +kernel
theorem dX12_localOf_85 : decode cX12_localOf 85 = .ok (.sipush 1440, 3) := by decide +kernel
theorem dX12_localOf_88 : decode cX12_localOf 88 = .ok (.iload 4, 2) := by decide +kernel
theorem dX12_localOf_90 : decode cX12_localOf 90 = .ok (.imul, 1) := by decide +kernel
theorem dX12_localOf_91 : decode cX12_localOf 91 = .ok (.iload 5, 2) := by decide +kernel
theorem dX12_localOf_93 : decode cX12_localOf 93 = .ok (.iadd, 1) := by decide +kernel
theorem dX12_localOf_94 : decode cX12_localOf 94 = .ok (.iload 7, 2) := by decide +kernel
theorem dX12_localOf_96 : decode cX12_localOf 96 = .ok (.if_icmp .ge 7, 3) := by decide +kernel
theorem dX12_localOf_99 : decode cX12_localOf 99 = .ok (.iconst 1, 1) := by decide +kernel
theorem dX12_localOf_100 : decode cX12_localOf 100 = .ok (.goto 4, 3) := by decide +kernel
theorem dX12_localOf_103 : decode cX12_localOf 103 = .ok (.iconst 0, 1) := by decide +kernel
theorem dX12_localOf_104 : decode cX12_localOf 104 = .ok (.istore 8, 2) := by decide +kernel
theorem dX12_localOf_106 : decode cX12_localOf 106 = .ok (.iload 8, 2) := by decide +kernel
theorem dX12_localOf_108 : decode cX12_localOf 108 = .ok (.ifCond .eq 10, 3) := by decide +kernel
theorem dX12_localOf_111 : decode cX12_localOf 111 = .ok (.iload_n 2, 1) := by decide +kernel
theorem dX12_localOf_112 : decode cX12_localOf 112 = .ok (.bipush 60, 2) := by decide +kernel
theorem dX12_localOf_114 : decode cX12_localOf 114 = .ok (.iadd, 1) := by decide +kernel
theorem dX12_localOf_115 : decode cX12_localOf 115 = .ok (.goto 4, 3) := by decide +kernel
theorem dX12_localOf_118 : decode cX12_localOf 118 = .ok (.iload_n 2, 1) := by decide +kernel
theorem dX12_localOf_119 : decode cX12_localOf 119 = .ok (.ireturn, 1) := by decide +kernel
theorem dX12_local_0 : decode cX12_local 0 = .ok (.aload_n 0, 1) := by decide +kernel
theorem dX12_local_1 : decode cX12_local 1 = .ok (.iconst 0, 1) := by decide +kernel
theorem dX12_local_2 : decode cX12_local 2 = .ok (.putfield 200, 3) := by decide +kernel
theorem dX12_local_5 : decode cX12_local 5 = .ok (.aload_n 0, 1) := by decide +kernel
theorem dX12_local_6 : decode cX12_local 6 = .ok (.iconst 0, 1) := by decide +kernel
theorem dX12_local_7 : decode cX12_local 7 = .ok (.putfield 203, 3) := by decide +kernel
theorem dX12_local_10 : decode cX12_local 10 = .ok (.iload_n 1, 1) := by decide +kernel
theorem dX12_local_11 : decode cX12_local 11 = .ok (.invokestatic 662, 3) := by decide +kernel
theorem dX12_local_14 : decode cX12_local 14 = .ok (.ifCond .ne 9, 3) := by decide +kernel
theorem dX12_local_17 : decode cX12_local 17 = .ok (.aload_n 0, 1) := by decide +kernel
theorem dX12_local_18 : decode cX12_local 18 = .ok (.iconst 2, 1) := by decide +kernel
theorem dX12_local_19 : decode cX12_local 19 = .ok (.invokevirtual 261, 3) := by decide +kernel
theorem dX12_local_22 : decode cX12_local 22 = .ok (.ireturn, 1) := by decide +kernel
theorem dX12_local_23 : decode cX12_local 23 = .ok (.iload_n 2, 1) := by decide +kernel
theorem dX12_local_24 : decode cX12_local 24 = .ok (.invokestatic 258, 3) := by decide +kernel
theorem dX12_local_27 : decode cX12_local 27 = .ok (.ifCond .ne 9, 3) := by decide +kernel
theorem dX12_local_30 : decode cX12_local 30 = .ok (.aload_n 0, 1) := by decide +kernel
theorem dX12_local_31 : decode cX12_local 31 = .ok (.iconst 5, 1) := by decide +kernel
theorem dX12_local_32 : decode cX12_local 32 = .ok (.invokevirtual 261, 3) := by decide +kernel
theorem dX12_local_35 : decode cX12_local 35 = .ok (.ireturn, 1) := by decide +kernel
theorem dX12_local_36 : decode cX12_local 36 = .ok (.aload_n 0, 1) := by decide +kernel
theorem dX12_local_37 : decode cX12_local 37 = .ok (.invokevirtual 264, 3) := by decide +kernel
theorem dX12_local_40 : decode cX12_local 40 = .ok (.aload_n 0, 1) := by decide +kernel
theorem dX12_local_41 : decode cX12_local 41 = .ok (.iload_n 2, 1) := by decide +kernel
theorem dX12_local_42 : decode cX12_local 42 = .ok (.i2l, 1) := by decide +kernel
theorem dX12_local_43 : decode cX12_local 43 = .ok (.invokevirtual 267, 3) := by decide +kernel
theorem dX12_local_46 : decode cX12_local 46 = .ok (.aload_n 0, 1) := by decide +kernel
theorem dX12_local_47 : decode cX12_local 47 = .ok (.iload_n 1, 1) := by decide +kernel
theorem dX12_local_48 : decode cX12_local 48 = .ok (.sipush 1440, 3) := by decide +kernel
theorem dX12_local_51 : decode cX12_local 51 = .ok (.aload_n 0, 1) := by decide +kernel
theorem dX12_local_52 : decode cX12_local 52 = .ok (.getfield 244, 3) := by decide +kernel
theorem dX12_local_55 : decode cX12_local 55 = .ok (.imul, 1) := by decide +kernel
theorem dX12_local_56 : decode cX12_local 56 = .ok (.sipush 1439, 3) := by decide +kernel
theorem dX12_local_59 : decode cX12_local 59 = .ok (.aload_n 0, 1) := by decide +kernel
theorem dX12_local_60 : decode cX12_local 60 = .ok (.getfield 247, 3) := by decide +kernel
theorem dX12_local_63 : decode cX12_local 63 = .ok (.bipush 60, 2) := by decide +kernel
theorem dX12_local_65 : decode cX12_local 65 = .ok (.idiv, 1) := by decide +kernel
theorem dX12_local_66 : decode cX12_local 66 = .ok (.invokestatic 534, 3) := by decide +kernel
theorem dX12_local_69 : decode cX12_local 69 = .ok (.iadd, 1) := by decide +kernel
theorem dX12_local_70 : decode cX12_local 70 = .ok (.aload_n 0, 1) := by decide +kernel
theorem dX12_local_71 : decode cX12_local 71 = .ok (.getfield 161, 3) := by decide +kernel
theorem dX12_local_74 : decode cX12_local 74 = .ok (.iload_n 1, 1) := by decide +kernel
theorem dX12_local_75 : decode cX12_local 75 = .ok (.iaload, 1) := by decide +kernel
theorem dX12_local_76 : decode cX12_local 76 = .ok (.iadd, 1) := by decide +kernel
theorem dX12_local_77 : decode cX12_local 77 = .ok (.invokevirtual 677, 3) := by decide +kernel
theorem dX12_local_80 : decode cX12_local 80 = .ok (.ireturn, 1) := by decide +kernel
theorem dX12_oft_0 : decode cX12_oft 0 = .ok (.aload_n 0, 1) := by decide +kernel
theorem dX12_oft_1 : decode cX12_oft 1 = .ok (.iconst 0, 1) := by decide +kernel
theorem dX12_oft_2 : decode cX12_oft 2 = .ok (.putfield 200, 3) := by decide +kernel
theorem dX12_oft_5 : decode cX12_oft 5 = .ok (.aload_n 0, 1) := by decide +kernel
theorem dX12_oft_6 : decode cX12_oft 6 = .ok (.iconst 0, 1) := by decide +kernel
theorem dX12_oft_7 : decode cX12_oft 7 = .ok (.putfield 203, 3) := by decide +kernel
theorem dX12_oft_10 : decode cX12_oft 10 = .ok (.iload_n 1, 1) := by decide +kernel
theorem dX12_oft_11 : decode cX12_oft 11 = .ok (.invokestatic 662, 3) := by decide +kernel
theorem dX12_oft_14 : decode cX12_oft 14 = .ok (.ifCond .ne 9, 3) := by decide +kernel
theorem dX12_oft_17 : decode cX12_oft 17 = .ok (.aload_n 0, 1) := by decide +kernel
theorem dX12_oft_18 : decode cX12_oft 18 = .ok (.iconst 2, 1) := by decide +kernel
theorem dX12_oft_19 : decode cX12_oft 19 = .ok (.invokevirtual 261, 3) := by decide +kernel
theorem dX12_oft_22 : decode cX12_oft 22 = .ok (.ireturn, 1) := by decide +kernel
theorem dX12_oft_23 : decode cX12_oft 23 = .ok (.iload_n 2, 1) := by decide +kernel
theorem dX12_oft_24 : decode cX12_oft 24 = .ok (.i2l, 1) := by decide +kernel
theorem dX12_oft_25 : decode cX12_oft 25 = .ok (.lconst 1, 1) := by decide +kernel
theorem dX12_oft_26 : decode cX12_oft 26 = .ok (.ldc2_w 680, 3) := by decide +kernel
theorem dX12_oft_29 : decode cX12_oft 29 = .ok (.invokestatic 208, 3) := by decide +kernel
theorem dX12_oft_32 : decode cX12_oft 32 = .ok (.ifCond .eq 15, 3) := by decide +kernel
theorem dX12_oft_35 : decode cX12_oft 35 = .ok (.iload_n 3, 1) := by decide +kernel
theorem dX12_oft_36 : decode cX12_oft 36 = .ok (.i2l, 1) := by decide +kernel
theorem dX12_oft_37 : decode cX12_oft 37 = .ok (.lconst 0, 1) := by decide +kernel
theorem dX12_oft_38 : decode cX12_oft 38 = .ok (.ldc2_w 682, 3) := by decide +kernel
theorem dX12_oft_41 : decode cX12_oft 41 = .ok (.invokestatic 208, 3) := by decide +kernel
theorem dX12_oft_44 : decode cX12_oft 44 = .ok (.ifCond .ne 9, 3) := by decide +kernel
theorem dX12_oft_47 : decode cX12_oft 47 = .ok (.aload_n 0, 1) := by decide +kernel
theorem dX12_oft_48 : decode cX12_oft 48 = .ok (.iconst 5, 1) := by decide +kernel
theorem dX12_oft_49 : decode cX12_oft 49 = .ok (.invokevirtual 261, 3) := by decide +kernel
theorem dX12_oft_52 : decode cX12_oft 52 = .ok (.ireturn, 1) := by decide +kernel
theorem dX12_oft_53 : decode cX12_oft 53 = .ok (.sipush 1440, 3) := by decide +kernel
theorem dX12_oft_56 : decode cX12_oft 56 = .ok (.iload_n 2, 1) := by decide +kernel
theorem dX12_oft_57 : decode cX12_oft 57 = .ok (.imul, 1) := by decide +kernel
theorem dX12_oft_58 : decode cX12_oft 58 = .ok (.iload_n 3, 1) := by decide +kernel
theorem dX12_oft_59 : decode cX12_oft 59 = .ok (.iadd, 1) := by decide +kernel
theorem dX12_oft_60 : decode cX12_oft 60 = .ok (.istore 4, 2) := by decide +kernel
theorem dX12_oft_62 : decode cX12_oft 62 = .ok (.aload_n 0, 1) := by decide +kernel
theorem dX12_oft_63 : decode cX12_oft 63 = .ok (.iload_n 1, 1) := by decide +kernel
theorem dX12_oft_64 : decode cX12_oft 64 = .ok (.iload 4, 2) := by decide +kernel
theorem dX12_oft_66 : decode cX12_oft 66 = .ok (.invokevirtual 677, 3) := by decide +kernel
theorem dX12_oft_69 : decode cX12_oft 69 = .ok (.iload 4, 2) := by decide +kernel
theorem dX12_oft_71 : decode cX12_oft 71 = .ok (.if_icmp .ne 7, 3) := by decide +kernel
theorem dX12_oft_74 : decode cX12_oft 74 = .ok (.iconst 1, 1) := by decide +kernel
theorem dX12_oft_75 : decode cX12_oft 75 = .ok (.goto 4, 3) := by decide +kernel
theorem dX12_oft_78 : decode cX12_oft 78 = .ok (.iconst 0, 1) := by decide +kernel
theorem dX12_oft_79 : decode cX12_oft 79 = .ok (.aload_n 0, 1) := by decide +kernel
theorem dX12_oft_80 : decode cX12_oft 80 = .ok (.iload_n 1, 1) := by decide +kernel
theorem dX12_oft_81 : decode cX12_oft 81 = .ok (.iload 4, 2) := by decide +kernel
theorem dX12_oft_83 : decode cX12_oft 83 = .ok (.bipush 60, 2) := by decide +kernel
theorem dX12_oft_85 : decode cX12_oft 85 = .ok (.isub, 1) := by decide +kernel
theorem dX12_oft_86 : decode cX12_oft 86 = .ok (.invokevirtual 677, 3) := by decide +kernel
theorem dX12_oft_89 : decode cX12_oft 89 = .ok (.iload 4, 2) := by decide +kernel
theorem dX12_oft_91 : decode cX12_oft 91 = .ok (.if_icmp .ne 7, 3) := by decide +kernel
theorem dX12_oft_94 : decode cX12_oft 94 = .ok (.iconst 1, 1) := by decide +kernel
theorem dX12_oft_95 : decode cX12_oft 95 = .ok (.goto 4, 3) := by decide +kernel
theorem dX12_oft_98 : decode cX12_oft 98 = .ok (.iconst 0, 1) := by decide +kernel
theorem dX12_oft_99 : decode cX12_oft 99 = .ok (.iadd, 1) := by decide +kernel
theorem dX12_oft_100 : decode cX12_oft 100 = .ok (.ireturn, 1) := by decide +kernel
theorem dJ11_isValidCodePoint_9a6ad_0 : decode cJ11_isValidCodePoint_9a6ad 0 = .ok (.iload_n 0, 1) := by decide +kernel
theorem dJ11_isValidCodePoint_9a6ad_1 : decode cJ11_isValidCodePoint_9a6ad 1 = .ok (.bipush 16, 2) := by decide +kernel
theorem dJ11_isValidCodePoint_9a6ad_3 : decode cJ11_isValidCodePoint_9a6ad 3 = .ok (.iushr, 1) := by decide +kernel
theorem dJ11_isValidCodePoint_9a6ad_4 : decode cJ11_isValidCodePoint_9a6ad 4 = .ok (.istore_n 1, 1) := by decide +kernel
theorem dJ11_isValidCodePoint_9a6ad_5 : decode cJ11_isValidCodePoint_9a6ad 5 = .ok (.iload_n 1, 1) := by decide +kernel
theorem dJ11_isValidCodePoint_9a6ad_6 : decode cJ11_isValidCodePoint_9a6ad 6 = .ok (.bipush 17, 2) := by decide +kernel
theorem dJ11_isValidCodePoint_9a6ad_8 : decode cJ11_isValidCodePoint_9a6ad 8 = .ok (.if_icmp .ge 7, 3) := by decide +kernel
theorem dJ11_isValidCodePoint_9a6ad_11 : decode cJ11_isValidCodePoint_9a6ad 11 = .ok (.iconst 1, 1) := by decide +kernel
theorem dJ11_isValidCodePoint_9a6ad_12 : decode cJ11_isValidCodePoint_9a6ad 12 = .ok (.goto 4, 3) := by decide +kernel
theorem dJ11_isValidCodePoint_9a6ad_15 : decode cJ11_isValidCodePoint_9a6ad 15 = .ok (.iconst 0, 1) := by decide +kernel
theorem dJ11_isValidCodePoint_9a6ad_16 : decode cJ11_isValidCodePoint_9a6ad 16 = .ok (.ireturn, 1) := by decide +kernel
theorem dJ11_highSurrogate_5068e_0 : decode cJ11_highSurrogate_5068e 0 = .ok (.iload_n 0, 1) := by decide +kernel
theorem dJ11_highSurrogate_5068e_1 : decode cJ11_highSurrogate_5068e 1 = .ok (.bipush 10, 2) := by decide +kernel
theorem dJ11_highSurrogate_5068e_3 : decode cJ11_highSurrogate_5068e 3 = .ok (.iushr, 1) := by decide +kernel
theorem dJ11_highSurrogate_5068e_4 : decode cJ11_highSurrogate_5068e 4 = .ok (.ldc 110, 2) := by decide +kernel
theorem dJ11_highSurrogate_5068e_6 : decode cJ11_highSurrogate_5068e 6 = .ok (.iadd, 1) := by decide +kernel
theorem dJ11_highSurrogate_5068e_7 : decode cJ11_highSurrogate_5068e 7 = .ok (.i2c, 1) := by decide +kernel
theorem dJ11_highSurrogate_5068e_8 : decode cJ11_highSurrogate_5068e 8 = .ok (.ireturn, 1) := by decide +kernel
theorem dJ11_lowSurrogate_5068e_0 : decode cJ11_lowSurrogate_5068e 0 = .ok (.iload_n 0, 1) := by decide +kernel
theorem dJ11_lowSurrogate_5068e_1 : decode cJ11_lowSurrogate_5068e 1 = .ok (.sipush 1023, 3) := by decide +kernel
theorem dJ11_lowSurrogate_5068e_4 : decode cJ11_lowSurrogate_5068e 4 = .ok (.iand, 1) := by decide +kernel
theorem dJ11_lowSurrogate_5068e_5 : decode cJ11_lowSurrogate_5068e 5 = .ok (.ldc 76, 2) := by decide +kernel
theorem dJ11_lowSurrogate_5068e_7 : decode cJ11_lowSurrogate_5068e 7 = .ok (.iadd, 1) := by decide +kernel
theorem dJ11_lowSurrogate_5068e_8 : decode cJ11_lowSurrogate_5068e 8 = .ok (.i2c, 1) := by decide +kernel
theorem dJ11_lowSurrogate_5068e_9 : decode cJ11_lowSurrogate_5068e 9 = .ok (.ireturn, 1) := by decide +kernel
theorem dJ6_valueOf_2dffe_0 : decode cJ6_valueOf_2dffe 0 = .ok (.iload_n 0, 1) := by decide +kernel
theorem dJ6_valueOf_2dffe_1 : decode cJ6_valueOf_2dffe 1 = .ok (.bipush (-128), 2) := by decide +kernel
theorem dJ6_valueOf_2dffe_3 : decode cJ6_valueOf_2dffe 3 = .ok (.if_icmp .lt 20, 3) := by decide +kernel
theorem dJ6_valueOf_2dffe_6 : decode cJ6_valueOf_2dffe 6 = .ok (.iload_n 0, 1) := by decide +kernel
theorem dJ6_valueOf_2dffe_7 : decode cJ6_valueOf_2dffe 7 = .ok (.getstatic 191, 3) := by decide +kernel
theorem dJ6_valueOf_2dffe_10 : decode cJ6_valueOf_2dffe 10 = .ok (.if_icmp .gt 13, 3) := by decide +kernel
theorem dJ6_valueOf_2dffe_13 : decode cJ6_valueOf_2dffe 13 = .ok (.getstatic 195, 3) := by decide +kernel
theorem dJ6_valueOf_2dffe_16 : decode cJ6_valueOf_2dffe 16 = .ok (.iload_n 0, 1) := by decide +kernel
theorem dJ6_valueOf_2dffe_17 : decode cJ6_valueOf_2dffe 17 = .ok (.sipush 128, 3) := by decide +kernel
theorem dJ6_valueOf_2dffe_20 : decode cJ6_valueOf_2dffe 20 = .ok (.iadd, 1) := by decide +kernel
theorem dJ6_valueOf_2dffe_21 : decode cJ6_valueOf_2dffe 21 = .ok (.aaload, 1) := by decide +kernel
theorem dJ6_valueOf_2dffe_22 : decode cJ6_valueOf_2dffe 22 = .ok (.areturn, 1) := by decide +kernel
theorem dJ6_valueOf_2dffe_23 : decode cJ6_valueOf_2dffe 23 = .ok (.new 1, 3) := by decide +kernel
theorem dJ6_valueOf_2dffe_26 : decode cJ6_valueOf_2dffe 26 = .ok (.dup, 1) := by decide +kernel
theorem dJ6_valueOf_2dffe_27 : decode cJ6_valueOf_2dffe 27 = .ok (.iload_n 0, 1) := by decide +kernel
theorem dJ6_valueOf_2dffe_28 : decode cJ6_valueOf_2dffe 28 = .ok (.invokespecial 199, 3) := by decide +kernel
theorem dJ6_valueOf_2dffe_31 : decode cJ6_valueOf_2dffe 31 = .ok (.areturn, 1) := by decide +kernel
theorem dJ6_init_d00df_0 : decode cJ6_init_d00df 0 = .ok (.aload_n 0, 1) := by decide +kernel
theorem dJ6_init_d00df_1 : decode cJ6_init_d00df 1 = .ok (.invokespecial 202, 3) := by decide +kernel
theorem dJ6_init_d00df_4 : decode cJ6_init_d00df 4 = .ok (.aload_n 0, 1) := by decide +kernel
theorem dJ6_init_d00df_5 : decode cJ6_init_d00df 5 = .ok (.iload_n 1, 1) := by decide +kernel
theorem dJ6_init_d00df_6 : decode cJ6_init_d00df 6 = .ok (.putfield 205, 3) := by decide +kernel
theorem dJ6_init_d00df_9 : decode cJ6_init_d00df 9 = .ok (.return_, 1) := by decide +kernel
theorem dJ6_intValue_8abf5_0 : decode cJ6_intValue_8abf5 0 = .ok (.aload_n 0, 1) := by decide +kernel
theorem dJ6_intValue_8abf5_1 : decode cJ6_intValue_8abf5 1 = .ok (.getfield 205, 3) := by decide +kernel
theorem dJ6_intValue_8abf5_4 : decode cJ6_intValue_8abf5 4 = .ok (.ireturn, 1) := by decide +kernel
theorem dJ6_bitCount_0f7a4_0 : decode cJ6_bitCount_0f7a4 0 = .ok (.iload_n 0, 1) := by decide +kernel
theorem dJ6_bitCount_0f7a4_1 : decode cJ6_bitCount_0f7a4 1 = .ok (.iload_n 0, 1) := by decide +kernel
theorem dJ6_bitCount_0f7a4_2 : decode cJ6_bitCount_0f7a4 2 = .ok (.iconst 1, 1) := by decide +kernel
theorem dJ6_bitCount_0f7a4_3 : decode cJ6_bitCount_0f7a4 3 = .ok (.iushr, 1) := by decide +kernel
theorem dJ6_bitCount_0f7a4_4 : decode cJ6_bitCount_0f7a4 4 = .ok (.ldc_w 265, 3) := by decide +kernel
theorem dJ6_bitCount_0f7a4_7 : decode cJ6_bitCount_0f7a4 7 = .ok (.iand, 1) := by decide +kernel
theorem dJ6_bitCount_0f7a4_8 : decode cJ6_bitCount_0f7a4 8 = .ok (.isub, 1) := by decide +kernel
theorem dJ6_bitCount_0f7a4_9 : decode cJ6_bitCount_0f7a4 9 = .ok (.istore_n 0, 1) := by decide +kernel
theorem dJ6_bitCount_0f7a4_10 : decode cJ6_bitCount_0f7a4 10 = .ok (.iload_n 0, 1) := by decide +kernel
theorem dJ6_bitCount_0f7a4_11 : decode cJ6_bitCount_0f7a4 11 = .ok (.ldc_w 266, 3) := by decide +kernel
theorem dJ6_bitCount_0f7a4_14 : decode cJ6_bitCount_0f7a4 14 = .ok (.iand, 1) := by decide +kernel
theorem dJ6_bitCount_0f7a4_15 : decode cJ6_bitCount_0f7a4 15 = .ok (.iload_n 0, 1) := by decide +kernel
theorem dJ6_bitCount_0f7a4_16 : decode cJ6_bitCount_0f7a4 16 = .ok (.iconst 2, 1) := by decide +kernel
theorem dJ6_bitCount_0f7a4_17 : decode cJ6_bitCount_0f7a4 17 = .ok (.iushr, 1) := by decide +kernel
theorem dJ6_bitCount_0f7a4_18 : decode cJ6_bitCount_0f7a4 18 = .ok (.ldc_w 266, 3) := by decide +kernel
theorem dJ6_bitCount_0f7a4_21 : decode cJ6_bitCount_0f7a4 21 = .ok (.iand, 1) := by decide +kernel
theorem dJ6_bitCount_0f7a4_22 : decode cJ6_bitCount_0f7a4 22 = .ok (.iadd, 1) := by decide +kernel
theorem dJ6_bitCount_0f7a4_23 : decode cJ6_bitCount_0f7a4 23 = .ok (.istore_n 0, 1) := by decide +kernel
theorem dJ6_bitCount_0f7a4_24 : decode cJ6_bitCount_0f7a4 24 = .ok (.iload_n 0, 1) := by decide +kernel
theorem dJ6_bitCount_0f7a4_25 : decode cJ6_bitCount_0f7a4 25 = .ok (.iload_n 0, 1) := by decide +kernel
theorem dJ6_bitCount_0f7a4_26 : decode cJ6_bitCount_0f7a4 26 = .ok (.iconst 4, 1) := by decide +kernel
theorem dJ6_bitCount_0f7a4_27 : decode cJ6_bitCount_0f7a4 27 = .ok (.iushr, 1) := by decide +kernel
theorem dJ6_bitCount_0f7a4_28 : decode cJ6_bitCount_0f7a4 28 = .ok (.iadd, 1) := by decide +kernel
theorem dJ6_bitCount_0f7a4_29 : decode cJ6_bitCount_0f7a4 29 = .ok (.ldc_w 267, 3) := by decide +kernel
theorem dJ6_bitCount_0f7a4_32 : decode cJ6_bitCount_0f7a4 32 = .ok (.iand, 1) := by decide +kernel
theorem dJ6_bitCount_0f7a4_33 : decode cJ6_bitCount_0f7a4 33 = .ok (.istore_n 0, 1) := by decide +kernel
theorem dJ6_bitCount_0f7a4_34 : decode cJ6_bitCount_0f7a4 34 = .ok (.iload_n 0, 1) := by decide +kernel
theorem dJ6_bitCount_0f7a4_35 : decode cJ6_bitCount_0f7a4 35 = .ok (.iload_n 0, 1) := by decide +kernel
theorem dJ6_bitCount_0f7a4_36 : decode cJ6_bitCount_0f7a4 36 = .ok (.bipush 8, 2) := by decide +kernel
theorem dJ6_bitCount_0f7a4_38 : decode cJ6_bitCount_0f7a4 38 = .ok (.iushr, 1) := by decide +kernel
theorem dJ6_bitCount_0f7a4_39 : decode cJ6_bitCount_0f7a4 39 = .ok (.iadd, 1) := by decide +kernel
theorem dJ6_bitCount_0f7a4_40 : decode cJ6_bitCount_0f7a4 40 = .ok (.istore_n 0, 1) := by decide +kernel
theorem dJ6_bitCount_0f7a4_41 : decode cJ6_bitCount_0f7a4 41 = .ok (.iload_n 0, 1) := by decide +kernel
theorem dJ6_bitCount_0f7a4_42 : decode cJ6_bitCount_0f7a4 42 = .ok (.iload_n 0, 1) := by decide +kernel
theorem dJ6_bitCount_0f7a4_43 : decode cJ6_bitCount_0f7a4 43 = .ok (.bipush 16, 2) := by decide +kernel
theorem dJ6_bitCount_0f7a4_45 : decode cJ6_bitCount_0f7a4 45 = .ok (.iushr, 1) := by decide +kernel
theorem dJ6_bitCount_0f7a4_46 : decode cJ6_bitCount_0f7a4 46 = .ok (.iadd, 1) := by decide +kernel
theorem dJ6_bitCount_0f7a4_47 : decode cJ6_bitCount_0f7a4 47 = .ok (.istore_n 0, 1) := by decide +kernel
theorem dJ6_bitCount_0f7a4_48 : decode cJ6_bitCount_0f7a4 48 = .ok (.iload_n 0, 1) := by decide +kernel
theorem dJ6_bitCount_0f7a4_49 : decode cJ6_bitCount_0f7a4 49 = .ok (.bipush 63, 2) := by decide +kernel
theorem dJ6_bitCount_0f7a4_51 : decode cJ6_bitCount_0f7a4 51 = .ok (.iand, 1) := by decide +kernel
theorem dJ6_bitCount_0f7a4_52 : decode cJ6_bitCount_0f7a4 52 = .ok (.ireturn, 1) := by decide +kernel
theorem dJ9_floorDiv_7cf53_0 : decode cJ9_floorDiv_7cf53 0 = .ok (.iload_n 0, 1) := by decide +kernel
theorem dJ9_floorDiv_7cf53_1 : decode cJ9_floorDiv_7cf53 1 = .ok (.iload_n 1, 1) := by decide +kernel
theorem dJ9_floorDiv_7cf53_2 : decode cJ9_floorDiv_7cf53 2 = .ok (.idiv, 1) := by decide +kernel
theorem dJ9_floorDiv_7cf53_3 : decode cJ9_floorDiv_7cf53 3 = .ok (.istore_n 2, 1) := by decide +kernel
theorem dJ9_floorDiv_7cf53_4 : decode cJ9_floorDiv_7cf53 4 = .ok (.iload_n 0, 1) := by decide +kernel
theorem dJ9_floorDiv_7cf53_5 : decode cJ9_floorDiv_7cf53 5 = .ok (.iload_n 1, 1) := by decide +kernel
theorem dJ9_floorDiv_7cf53_6 : decode cJ9_floorDiv_7cf53 6 = .ok (.ixor, 1) := by decide +kernel
theorem dJ9_floorDiv_7cf53_7 : decode cJ9_floorDiv_7cf53 7 = .ok (.ifCond .ge 14, 3) := by decide +kernel
theorem dJ9_floorDiv_7cf53_10 : decode cJ9_floorDiv_7cf53 10 = .ok (.iload_n 2, 1) := by decide +kernel
theorem dJ9_floorDiv_7cf53_11 : decode cJ9_floorDiv_7cf53 11 = .ok (.iload_n 1, 1) := by decide +kernel
theorem dJ9_floorDiv_7cf53_12 : decode cJ9_floorDiv_7cf53 12 = .ok (.imul, 1) := by decide +kernel
theorem dJ9_floorDiv_7cf53_13 : decode cJ9_floorDiv_7cf53 13 = .ok (.iload_n 0, 1) := by decide +kernel
theorem dJ9_floorDiv_7cf53_14 : decode cJ9_floorDiv_7cf53 14 = .ok (.if_icmp .eq 7, 3) := by decide +kernel
theorem dJ9_floorDiv_7cf53_17 : decode cJ9_floorDiv_7cf53 17 = .ok (.iload_n 2, 1) := by decide +kernel
theorem dJ9_floorDiv_7cf53_18 : decode cJ9_floorDiv_7cf53 18 = .ok (.iconst 1, 1) := by decide +kernel
theorem dJ9_floorDiv_7cf53_19 : decode cJ9_floorDiv_7cf53 19 = .ok (.isub, 1) := by decide +kernel
theorem dJ9_floorDiv_7cf53_20 : decode cJ9_floorDiv_7cf53 20 = .ok (.ireturn, 1) := by decide +kernel
theorem dJ9_floorDiv_7cf53_21 : decode cJ9_floorDiv_7cf53 21 = .ok (.iload_n 2, 1) := by decide +kernel
theorem dJ9_floorDiv_7cf53_22 : decode cJ9_floorDiv_7cf53 22 = .ok (.ireturn, 1) := by decide +kernel
theorem dJ9_floorMod_7cf53_0 : decode cJ9_floorMod_7cf53 0 = .ok (.iload_n 0, 1) := by decide +kernel
theorem dJ9_floorMod_7cf53_1 : decode cJ9_floorMod_7cf53 1 = .ok (.iload_n 1, 1) := by decide +kernel
theorem dJ9_floorMod_7cf53_2 : decode cJ9_floorMod_7cf53 2 = .ok (.irem, 1) := by decide +kernel
theorem dJ9_floorMod_7cf53_3 : decode cJ9_floorMod_7cf53 3 = .ok (.istore_n 2, 1) := by decide +kernel
theorem dJ9_floorMod_7cf53_4 : decode cJ9_floorMod_7cf53 4 = .ok (.iload_n 0, 1) := by decide +kernel
theorem dJ9_floorMod_7cf53_5 : decode cJ9_floorMod_7cf53 5 = .ok (.iload_n 1, 1) := by decide +kernel
theorem dJ9_floorMod_7cf53_6 : decode cJ9_floorMod_7cf53 6 = .ok (.ixor, 1) := by decide +kernel
theorem dJ9_floorMod_7cf53_7 : decode cJ9_floorMod_7cf53 7 = .ok (.ifCond .ge 11, 3) := by decide +kernel
theorem dJ9_floorMod_7cf53_10 : decode cJ9_floorMod_7cf53 10 = .ok (.iload_n 2, 1) := by decide +kernel
theorem dJ9_floorMod_7cf53_11 : decode cJ9_floorMod_7cf53 11 = .ok (.ifCond .eq 7, 3) := by decide +kernel
theorem dJ9_floorMod_7cf53_14 : decode cJ9_floorMod_7cf53 14 = .ok (.iload_n 2, 1) := by decide +kernel
theorem dJ9_floorMod_7cf53_15 : decode cJ9_floorMod_7cf53 15 = .ok (.iload_n 1, 1) := by decide +kernel
theorem dJ9_floorMod_7cf53_16 : decode cJ9_floorMod_7cf53 16 = .ok (.iadd, 1) := by decide +kernel
theorem dJ9_floorMod_7cf53_17 : decode cJ9_floorMod_7cf53 17 = .ok (.ireturn, 1) := by decide +kernel
theorem dJ9_floorMod_7cf53_18 : decode cJ9_floorMod_7cf53 18 = .ok (.iload_n 2, 1) := by decide +kernel
theorem dJ9_floorMod_7cf53_19 : decode cJ9_floorMod_7cf53 19 = .ok (.ireturn, 1) := by decide +kernel
theorem dJ9_max_7cf53_0 : decode cJ9_max_7cf53 0 = .ok (.iload_n 0, 1) := by decide +kernel
theorem dJ9_max_7cf53_1 : decode cJ9_max_7cf53 1 = .ok (.iload_n 1, 1) := by decide +kernel
theorem dJ9_max_7cf53_2 : decode cJ9_max_7cf53 2 = .ok (.if_icmp .lt 7, 3) := by decide +kernel
theorem dJ9_max_7cf53_5 : decode cJ9_max_7cf53 5 = .ok (.iload_n 0, 1) := by decide +kernel
theorem dJ9_max_7cf53_6 : decode cJ9_max_7cf53 6 = .ok (.goto 4, 3) := by decide +kernel
theorem dJ9_max_7cf53_9 : decode cJ9_max_7cf53 9 = .ok (.iload_n 1, 1) := by decide +kernel
theorem dJ9_max_7cf53_10 : decode cJ9_max_7cf53 10 = .ok (.ireturn, 1) := by decide +kernel
theorem dJ9_max_f86c9_0 : decode cJ9_max_f86c9 0 = .ok (.lload_n 0, 1) := by decide +kernel
theorem dJ9_max_f86c9_1 : decode cJ9_max_f86c9 1 = .ok (.lload_n 2, 1) := by decide +kernel
theorem dJ9_max_f86c9_2 : decode cJ9_max_f86c9 2 = .ok (.lcmp, 1) := by decide +kernel
theorem dJ9_max_f86c9_3 : decode cJ9_max_f86c9 3 = .ok (.ifCond .lt 7, 3) := by decide +kernel
theorem dJ9_max_f86c9_6 : decode cJ9_max_f86c9 6 = .ok (.lload_n 0, 1) := by decide +kernel
theorem dJ9_max_f86c9_7 : decode cJ9_max_f86c9 7 = .ok (.goto 4, 3) := by decide +kernel
theorem dJ9_max_f86c9_10 : decode cJ9_max_f86c9 10 = .ok (.lload_n 2, 1) := by decide +kernel
theorem dJ9_max_f86c9_11 : decode cJ9_max_f86c9 11 = .ok (.lreturn, 1) := by decide +kernel
theorem dJ9_min_7cf53_0 : decode cJ9_min_7cf53 0 = .ok (.iload_n 0, 1) := by decide +kernel
theorem dJ9_min_7cf53_1 : decode cJ9_min_7cf53 1 = .ok (.iload_n 1, 1) := by decide +kernel
theorem dJ9_min_7cf53_2 : decode cJ9_min_7cf53 2 = .ok (.if_icmp .gt 7, 3) := by decide +kernel
theorem dJ9_min_7cf53_5 : decode cJ9_min_7cf53 5 = .ok (.iload_n 0, 1) := by decide +kernel
theorem dJ9_min_7cf53_6 : decode cJ9_min_7cf53 6 = .ok (.goto 4, 3) := by decide +kernel
theorem dJ9_min_7cf53_9 : decode cJ9_min_7cf53 9 = .ok (.iload_n 1, 1) := by decide +kernel
theorem dJ9_min_7cf53_10 : decode cJ9_min_7cf53 10 = .ok (.ireturn, 1) := by decide +kernel
theorem dJ9_min_f86c9_0 : decode cJ9_min_f86c9 0 = .ok (.lload_n 0, 1) := by decide +kernel
theorem dJ9_min_f86c9_1 : decode cJ9_min_f86c9 1 = .ok (.lload_n 2, 1) := by decide +kernel
theorem dJ9_min_f86c9_2 : decode cJ9_min_f86c9 2 = .ok (.lcmp, 1) := by decide +kernel
theorem dJ9_min_f86c9_3 : decode cJ9_min_f86c9 3 = .ok (.ifCond .gt 7, 3) := by decide +kernel
theorem dJ9_min_f86c9_6 : decode cJ9_min_f86c9 6 = .ok (.lload_n 0, 1) := by decide +kernel
theorem dJ9_min_f86c9_7 : decode cJ9_min_f86c9 7 = .ok (.goto 4, 3) := by decide +kernel
theorem dJ9_min_f86c9_10 : decode cJ9_min_f86c9 10 = .ok (.lload_n 2, 1) := by decide +kernel
theorem dJ9_min_f86c9_11 : decode cJ9_min_f86c9 11 = .ok (.lreturn, 1) := by decide +kernel
theorem dJxd2413_init_da8c8_0 : decode cJxd2413_init_da8c8 0 = .ok (.aload_n 0, 1) := by decide +kernel
theorem dJxd2413_init_da8c8_1 : decode cJxd2413_init_da8c8 1 = .ok (.invokespecial 1, 3) := by decide +kernel
theorem dJxd2413_init_da8c8_4 : decode cJxd2413_init_da8c8 4 = .ok (.return_, 1) := by decide +kernel
theorem dJ0_length_8abf5_0 : decode cJ0_length_8abf5 0 = .ok (.aload_n 0, 1) := by decide +kernel
theorem dJ0_length_8abf5_1 : decode cJ0_length_8abf5 1 = .ok (.getfield 9, 3) := by decide +kernel
theorem dJ0_length_8abf5_4 : decode cJ0_length_8abf5 4 = .ok (.arraylength, 1) := by decide +kernel
theorem dJ0_length_8abf5_5 : decode cJ0_length_8abf5 5 = .ok (.aload_n 0, 1) := by decide +kernel
theorem dJ0_length_8abf5_6 : decode cJ0_length_8abf5 6 = .ok (.invokevirtual 335, 3) := by decide +kernel
theorem dJ0_length_8abf5_9 : decode cJ0_length_8abf5 9 = .ok (.ishr, 1) := by decide +kernel
theorem dJ0_length_8abf5_10 : decode cJ0_length_8abf5 10 = .ok (.ireturn, 1) := by decide +kernel
theorem dJ0_charAt_5068e_0 : decode cJ0_charAt_5068e 0 = .ok (.aload_n 0, 1) := by decide +kernel
theorem dJ0_charAt_5068e_1 : decode cJ0_charAt_5068e 1 = .ok (.invokevirtual 492, 3) := by decide +kernel
theorem dJ0_charAt_5068e_4 : decode cJ0_charAt_5068e 4 = .ok (.ifCond .eq 12, 3) := by decide +kernel
theorem dJ0_charAt_5068e_7 : decode cJ0_charAt_5068e 7 = .ok (.aload_n 0, 1) := by decide +kernel
theorem dJ0_charAt_5068e_8 : decode cJ0_charAt_5068e 8 = .ok (.getfield 9, 3) := by decide +kernel
theorem dJ0_charAt_5068e_11 : decode cJ0_charAt_5068e 11 = .ok (.iload_n 1, 1) := by decide +kernel
theorem dJ0_charAt_5068e_12 : decode cJ0_charAt_5068e 12 = .ok (.invokestatic 495, 3) := by decide +kernel
theorem dJ0_charAt_5068e_15 : decode cJ0_charAt_5068e 15 = .ok (.ireturn, 1) := by decide +kernel
theorem dJ0_charAt_5068e_16 : decode cJ0_charAt_5068e 16 = .ok (.aload_n 0, 1) := by decide +kernel
theorem dJ0_charAt_5068e_17 : decode cJ0_charAt_5068e 17 = .ok (.getfield 9, 3) := by decide +kernel
theorem dJ0_charAt_5068e_20 : decode cJ0_charAt_5068e 20 = .ok (.iload_n 1, 1) := by decide +kernel
theorem dJ0_charAt_5068e_21 : decode cJ0_charAt_5068e 21 = .ok (.invokestatic 498, 3) := by decide +kernel
theorem dJ0_charAt_5068e_24 : decode cJ0_charAt_5068e 24 = .ok (.ireturn, 1) := by decide +kernel
theorem dJ0_indexOf_0f7a4_0 : decode cJ0_indexOf_0f7a4 0 = .ok (.aload_n 0, 1) := by decide +kernel
theorem dJ0_indexOf_0f7a4_1 : decode cJ0_indexOf_0f7a4 1 = .ok (.iload_n 1, 1) := by decide +kernel
theorem dJ0_indexOf_0f7a4_2 : decode cJ0_indexOf_0f7a4 2 = .ok (.iconst 0, 1) := by decide +kernel
theorem dJ0_indexOf_0f7a4_3 : decode cJ0_indexOf_0f7a4 3 = .ok (.invokevirtual 633, 3) := by decide +kernel
theorem dJ0_indexOf_0f7a4_6 : decode cJ0_indexOf_0f7a4 6 = .ok (.ireturn, 1) := by decide +kernel
theorem dJ0_indexOf_7cf53_0 : decode cJ0_indexOf_7cf53 0 = .ok (.aload_n 0, 1) := by decide +kernel
theorem dJ0_indexOf_7cf53_1 : decode cJ0_indexOf_7cf53 1 = .ok (.invokevirtual 492, 3) := by decide +kernel
theorem dJ0_indexOf_7cf53_4 : decode cJ0_indexOf_7cf53 4 = .ok (.ifCond .eq 19, 3) := by decide +kernel
theorem dJ0_indexOf_7cf53_7 : decode cJ0_indexOf_7cf53 7 = .ok (.aload_n 0, 1) := by decide +kernel
theorem dJ0_indexOf_7cf53_8 : decode cJ0_indexOf_7cf53 8 = .ok (.getfield 9, 3) := by decide +kernel
theorem dJ0_indexOf_7cf53_11 : decode cJ0_indexOf_7cf53 11 = .ok (.iload_n 1, 1) := by decide +kernel
theorem dJ0_indexOf_7cf53_12 : decode cJ0_indexOf_7cf53 12 = .ok (.iload_n 2, 1) := by decide +kernel
theorem dJ0_indexOf_7cf53_13 : decode cJ0_indexOf_7cf53 13 = .ok (.aload_n 0, 1) := by decide +kernel
theorem dJ0_indexOf_7cf53_14 : decode cJ0_indexOf_7cf53 14 = .ok (.invokevirtual 505, 3) := by decide +kernel
theorem dJ0_indexOf_7cf53_17 : decode cJ0_indexOf_7cf53 17 = .ok (.invokestatic 637, 3) := by decide +kernel
theorem dJ0_indexOf_7cf53_20 : decode cJ0_indexOf_7cf53 20 = .ok (.goto 16, 3) := by decide +kernel
theorem dJ0_indexOf_7cf53_23 : decode cJ0_indexOf_7cf53 23 = .ok (.aload_n 0, 1) := by decide +kernel
theorem dJ0_indexOf_7cf53_24 : decode cJ0_indexOf_7cf53 24 = .ok (.getfield 9, 3) := by decide +kernel
theorem dJ0_indexOf_7cf53_27 : decode cJ0_indexOf_7cf53 27 = .ok (.iload_n 1, 1) := by decide +kernel
theorem dJ0_indexOf_7cf53_28 : decode cJ0_indexOf_7cf53 28 = .ok (.iload_n 2, 1) := by decide +kernel
theorem dJ0_indexOf_7cf53_29 : decode cJ0_indexOf_7cf53 29 = .ok (.aload_n 0, 1) := by decide +kernel
theorem dJ0_indexOf_7cf53_30 : decode cJ0_indexOf_7cf53 30 = .ok (.invokevirtual 505, 3) := by decide +kernel
theorem dJ0_indexOf_7cf53_33 : decode cJ0_indexOf_7cf53 33 = .ok (.invokestatic 640, 3) := by decide +kernel
theorem dJ0_indexOf_7cf53_36 : decode cJ0_indexOf_7cf53 36 = .ok (.ireturn, 1) := by decide +kernel
theorem dJ0_coder_7d493_0 : decode cJ0_coder_7d493 0 = .ok (.getstatic 38, 3) := by decide +kernel
theorem dJ0_coder_7d493_3 : decode cJ0_coder_7d493 3 = .ok (.ifCond .eq 10, 3) := by decide +kernel
theorem dJ0_coder_7d493_6 : decode cJ0_coder_7d493 6 = .ok (.aload_n 0, 1) := by decide +kernel
theorem dJ0_coder_7d493_7 : decode cJ0_coder_7d493 7 = .ok (.getfield 15, 3) := by decide +kernel
theorem dJ0_coder_7d493_10 : decode cJ0_coder_7d493 10 = .ok (.goto 4, 3) := by decide +kernel
theorem dJ0_coder_7d493_13 : decode cJ0_coder_7d493 13 = .ok (.iconst 1, 1) := by decide +kernel
theorem dJ0_coder_7d493_14 : decode cJ0_coder_7d493 14 = .ok (.ireturn, 1) := by decide +kernel
theorem dJ0_isLatin1_aae02_0 : decode cJ0_isLatin1_aae02 0 = .ok (.getstatic 38, 3) := by decide +kernel
theorem dJ0_isLatin1_aae02_3 : decode cJ0_isLatin1_aae02 3 = .ok (.ifCond .eq 14, 3) := by decide +kernel
theorem dJ0_isLatin1_aae02_6 : decode cJ0_isLatin1_aae02 6 = .ok (.aload_n 0, 1) := by decide +kernel
theorem dJ0_isLatin1_aae02_7 : decode cJ0_isLatin1_aae02 7 = .ok (.getfield 15, 3) := by decide +kernel
theorem dJ0_isLatin1_aae02_10 : decode cJ0_isLatin1_aae02 10 = .ok (.ifCond .ne 7, 3) := by decide +kernel
theorem dJ0_isLatin1_aae02_13 : decode cJ0_isLatin1_aae02 13 = .ok (.iconst 1, 1) := by decide +kernel
theorem dJ0_isLatin1_aae02_14 : decode cJ0_isLatin1_aae02 14 = .ok (.goto 4, 3) := by decide +kernel
theorem dJ0_isLatin1_aae02_17 : decode cJ0_isLatin1_aae02 17 = .ok (.iconst 0, 1) := by decide +kernel
theorem dJ0_isLatin1_aae02_18 : decode cJ0_isLatin1_aae02 18 = .ok (.ireturn, 1) := by decide +kernel
theorem dJ0_checkIndex_df160_0 : decode cJ0_checkIndex_df160 0 = .ok (.iload_n 0, 1) := by decide +kernel
theorem dJ0_checkIndex_df160_1 : decode cJ0_checkIndex_df160 1 = .ok (.iload_n 1, 1) := by decide +kernel
theorem dJ0_checkIndex_df160_2 : decode cJ0_checkIndex_df160 2 = .ok (.getstatic 1053, 3) := by decide +kernel
theorem dJ0_checkIndex_df160_5 : decode cJ0_checkIndex_df160 5 = .ok (.invokestatic 1059, 3) := by decide +kernel
theorem dJ0_checkIndex_df160_8 : decode cJ0_checkIndex_df160 8 = .ok (.pop, 1) := by decide +kernel
theorem dJ0_checkIndex_df160_9 : decode cJ0_checkIndex_df160 9 = .ok (.return_, 1) := by decide +kernel
theorem dJ0_checkBoundsBeginEnd_23922_0 : decode cJ0_checkBoundsBeginEnd_23922 0 = .ok (.iload_n 0, 1) := by decide +kernel
theorem dJ0_checkBoundsBeginEnd_23922_1 : decode cJ0_checkBoundsBeginEnd_23922 1 = .ok (.iload_n 1, 1) := by decide +kernel
theorem dJ0_checkBoundsBeginEnd_23922_2 : decode cJ0_checkBoundsBeginEnd_23922 2 = .ok (.iload_n 2, 1) := by decide +kernel
theorem dJ0_checkBoundsBeginEnd_23922_3 : decode cJ0_checkBoundsBeginEnd_23922 3 = .ok (.getstatic 1053, 3) := by decide +kernel
theorem dJ0_checkBoundsBeginEnd_23922_6 : decode cJ0_checkBoundsBeginEnd_23922 6 = .ok (.invokestatic 1062, 3) := by decide +kernel
theorem dJ0_checkBoundsBeginEnd_23922_9 : decode cJ0_checkBoundsBeginEnd_23922 9 = .ok (.pop, 1) := by decide +kernel
theorem dJ0_checkBoundsBeginEnd_23922_10 : decode cJ0_checkBoundsBeginEnd_23922 10 = .ok (.return_, 1) := by decide +kernel
theorem dJ1_charAt_3b067_0 : decode cJ1_charAt_3b067 0 = .ok (.iload_n 1, 1) := by decide +kernel
theorem dJ1_charAt_3b067_1 : decode cJ1_charAt_3b067 1 = .ok (.aload_n 0, 1) := by decide +kernel
theorem dJ1_charAt_3b067_2 : decode cJ1_charAt_3b067 2 = .ok (.arraylength, 1) := by decide +kernel
theorem dJ1_charAt_3b067_3 : decode cJ1_charAt_3b067 3 = .ok (.invokestatic 9, 3) := by decide +kernel
theorem dJ1_charAt_3b067_6 : decode cJ1_charAt_3b067 6 = .ok (.aload_n 0, 1) := by decide +kernel
theorem dJ1_charAt_3b067_7 : decode cJ1_charAt_3b067 7 = .ok (.iload_n 1, 1) := by decide +kernel
theorem dJ1_charAt_3b067_8 : decode cJ1_charAt_3b067 8 = .ok (.baload, 1) := by decide +kernel
theorem dJ1_charAt_3b067_9 : decode cJ1_charAt_3b067 9 = .ok (.sipush 255, 3) := by decide +kernel
theorem dJ1_charAt_3b067_12 : decode cJ1_charAt_3b067 12 = .ok (.iand, 1) := by decide +kernel
theorem dJ1_charAt_3b067_13 : decode cJ1_charAt_3b067 13 = .ok (.i2c, 1) := by decide +kernel
theorem dJ1_charAt_3b067_14 : decode cJ1_charAt_3b067 14 = .ok (.ireturn, 1) := by decide +kernel
theorem dJ1_canEncode_9a6ad_0 : decode cJ1_canEncode_9a6ad 0 = .ok (.iload_n 0, 1) := by decide +kernel
theorem dJ1_canEncode_9a6ad_1 : decode cJ1_canEncode_9a6ad 1 = .ok (.ifCond .lt 14, 3) := by decide +kernel
theorem dJ1_canEncode_9a6ad_4 : decode cJ1_canEncode_9a6ad 4 = .ok (.iload_n 0, 1) := by decide +kernel
theorem dJ1_canEncode_9a6ad_5 : decode cJ1_canEncode_9a6ad 5 = .ok (.sipush 255, 3) := by decide +kernel
theorem dJ1_canEncode_9a6ad_8 : decode cJ1_canEncode_9a6ad 8 = .ok (.if_icmp .gt 7, 3) := by decide +kernel
theorem dJ1_canEncode_9a6ad_11 : decode cJ1_canEncode_9a6ad 11 = .ok (.iconst 1, 1) := by decide +kernel
theorem dJ1_canEncode_9a6ad_12 : decode cJ1_canEncode_9a6ad 12 = .ok (.goto 4, 3) := by decide +kernel
theorem dJ1_canEncode_9a6ad_15 : decode cJ1_canEncode_9a6ad 15 = .ok (.iconst 0, 1) := by decide +kernel
theorem dJ1_canEncode_9a6ad_16 : decode cJ1_canEncode_9a6ad 16 = .ok (.ireturn, 1) := by decide +kernel
theorem dJ1_indexOf_4cfef_0 : decode cJ1_indexOf_4cfef 0 = .ok (.iload_n 1, 1) := by decide +kernel
theorem dJ1_indexOf_4cfef_1 : decode cJ1_indexOf_4cfef 1 = .ok (.invokestatic 88, 3) := by decide +kernel
theorem dJ1_indexOf_4cfef_4 : decode cJ1_indexOf_4cfef 4 = .ok (.ifCond .ne 5, 3) := by decide +kernel
theorem dJ1_indexOf_4cfef_7 : decode cJ1_indexOf_4cfef 7 = .ok (.iconst (-1), 1) := by decide +kernel
theorem dJ1_indexOf_4cfef_8 : decode cJ1_indexOf_4cfef 8 = .ok (.ireturn, 1) := by decide +kernel
theorem dJ1_indexOf_4cfef_9 : decode cJ1_indexOf_4cfef 9 = .ok (.iload_n 2, 1) := by decide +kernel
theorem dJ1_indexOf_4cfef_10 : decode cJ1_indexOf_4cfef 10 = .ok (.iconst 0, 1) := by decide +kernel
theorem dJ1_indexOf_4cfef_11 : decode cJ1_indexOf_4cfef 11 = .ok (.invokestatic 92, 3) := by decide +kernel
theorem dJ1_indexOf_4cfef_14 : decode cJ1_indexOf_4cfef 14 = .ok (.istore_n 2, 1) := by decide +kernel
theorem dJ1_indexOf_4cfef_15 : decode cJ1_indexOf_4cfef 15 = .ok (.iload_n 3, 1) := by decide +kernel
theorem dJ1_indexOf_4cfef_16 : decode cJ1_indexOf_4cfef 16 = .ok (.aload_n 0, 1) := by decide +kernel
theorem dJ1_indexOf_4cfef_17 : decode cJ1_indexOf_4cfef 17 = .ok (.arraylength, 1) := by decide +kernel
theorem dJ1_indexOf_4cfef_18 : decode cJ1_indexOf_4cfef 18 = .ok (.invokestatic 38, 3) := by decide +kernel
theorem dJ1_indexOf_4cfef_21 : decode cJ1_indexOf_4cfef 21 = .ok (.istore_n 3, 1) := by decide +kernel
theorem dJ1_indexOf_4cfef_22 : decode cJ1_indexOf_4cfef 22 = .ok (.iload_n 2, 1) := by decide +kernel
theorem dJ1_indexOf_4cfef_23 : decode cJ1_indexOf_4cfef 23 = .ok (.iload_n 3, 1) := by decide +kernel
theorem dJ1_indexOf_4cfef_24 : decode cJ1_indexOf_4cfef 24 = .ok (.if_icmp .lt 5, 3) := by decide +kernel
theorem dJ1_indexOf_4cfef_27 : decode cJ1_indexOf_4cfef 27 = .ok (.iconst (-1), 1) := by decide +kernel
theorem dJ1_indexOf_4cfef_28 : decode cJ1_indexOf_4cfef 28 = .ok (.ireturn, 1) := by decide +kernel
theorem dJ1_indexOf_4cfef_29 : decode cJ1_indexOf_4cfef 29 = .ok (.aload_n 0, 1) := by decide +kernel
theorem dJ1_indexOf_4cfef_30 : decode cJ1_indexOf_4cfef 30 = .ok (.iload_n 1, 1) := by decide +kernel
theorem dJ1_indexOf_4cfef_31 : decode cJ1_indexOf_4cfef 31 = .ok (.iload_n 2, 1) := by decide +kernel
theorem dJ1_indexOf_4cfef_32 : decode cJ1_indexOf_4cfef 32 = .ok (.iload_n 3, 1) := by decide +kernel
theorem dJ1_indexOf_4cfef_33 : decode cJ1_indexOf_4cfef 33 = .ok (.invokestatic 95, 3) := by decide +kernel
theorem dJ1_indexOf_4cfef_36 : decode cJ1_indexOf_4cfef 36 = .ok (.ireturn, 1) := by decide +kernel
theorem dJ1_indexOfChar_4cfef_0 : decode cJ1_indexOfChar_4cfef 0 = .ok (.iload_n 1, 1) := by decide +kernel
theorem dJ1_indexOfChar_4cfef_1 : decode cJ1_indexOfChar_4cfef 1 = .ok (.i2b, 1) := by decide +kernel
theorem dJ1_indexOfChar_4cfef_2 : decode cJ1_indexOfChar_4cfef 2 = .ok (.istore 4, 2) := by decide +kernel
theorem dJ1_indexOfChar_4cfef_4 : decode cJ1_indexOfChar_4cfef 4 = .ok (.iload_n 2, 1) := by decide +kernel
theorem dJ1_indexOfChar_4cfef_5 : decode cJ1_indexOfChar_4cfef 5 = .ok (.istore 5, 2) := by decide +kernel
theorem dJ1_indexOfChar_4cfef_7 : decode cJ1_indexOfChar_4cfef 7 = .ok (.iload 5, 2) := by decide +kernel
theorem dJ1_indexOfChar_4cfef_9 : decode cJ1_indexOfChar_4cfef 9 = .ok (.iload_n 3, 1) := by decide +kernel
theorem dJ1_indexOfChar_4cfef_10 : decode cJ1_indexOfChar_4cfef 10 = .ok (.if_icmp .ge 21, 3) := by decide +kernel
theorem dJ1_indexOfChar_4cfef_13 : decode cJ1_indexOfChar_4cfef 13 = .ok (.aload_n 0, 1) := by decide +kernel
theorem dJ1_indexOfChar_4cfef_14 : decode cJ1_indexOfChar_4cfef 14 = .ok (.iload 5, 2) := by decide +kernel
theorem dJ1_indexOfChar_4cfef_16 : decode cJ1_indexOfChar_4cfef 16 = .ok (.baload, 1) := by decide +kernel
theorem dJ1_indexOfChar_4cfef_17 : decode cJ1_indexOfChar_4cfef 17 = .ok (.iload 4, 2) := by decide +kernel
theorem dJ1_indexOfChar_4cfef_19 : decode cJ1_indexOfChar_4cfef 19 = .ok (.if_icmp .ne 6, 3) := by decide +kernel
theorem dJ1_indexOfChar_4cfef_22 : decode cJ1_indexOfChar_4cfef 22 = .ok (.iload 5, 2) := by decide +kernel
theorem dJ1_indexOfChar_4cfef_24 : decode cJ1_indexOfChar_4cfef 24 = .ok (.ireturn, 1) := by decide +kernel
theorem dJ1_indexOfChar_4cfef_25 : decode cJ1_indexOfChar_4cfef 25 = .ok (.iinc 5 1, 3) := by decide +kernel
theorem dJ1_indexOfChar_4cfef_28 : decode cJ1_indexOfChar_4cfef 28 = .ok (.goto (-21), 3) := by decide +kernel
theorem dJ1_indexOfChar_4cfef_31 : decode cJ1_indexOfChar_4cfef 31 = .ok (.iconst (-1), 1) := by decide +kernel
theorem dJ1_indexOfChar_4cfef_32 : decode cJ1_indexOfChar_4cfef 32 = .ok (.ireturn, 1) := by decide +kernel
theorem dJ2_getChar_3b067_0 : decode cJ2_getChar_3b067 0 = .ok (.getstatic 44, 3) := by decide +kernel
theorem dJ2_getChar_3b067_3 : decode cJ2_getChar_3b067 3 = .ok (.ifCond .ne 25, 3) := by decide +kernel
theorem dJ2_getChar_3b067_6 : decode cJ2_getChar_3b067 6 = .ok (.iload_n 1, 1) := by decide +kernel
theorem dJ2_getChar_3b067_7 : decode cJ2_getChar_3b067 7 = .ok (.ifCond .lt 11, 3) := by decide +kernel
theorem dJ2_getChar_3b067_10 : decode cJ2_getChar_3b067 10 = .ok (.iload_n 1, 1) := by decide +kernel
theorem dJ2_getChar_3b067_11 : decode cJ2_getChar_3b067 11 = .ok (.aload_n 0, 1) := by decide +kernel
theorem dJ2_getChar_3b067_12 : decode cJ2_getChar_3b067 12 = .ok (.invokestatic 48, 3) := by decide +kernel
theorem dJ2_getChar_3b067_15 : decode cJ2_getChar_3b067 15 = .ok (.if_icmp .lt 13, 3) := by decide +kernel
theorem dJ2_getChar_3b067_18 : decode cJ2_getChar_3b067 18 = .ok (.new 52, 3) := by decide +kernel
theorem dJ2_getChar_3b067_21 : decode cJ2_getChar_3b067 21 = .ok (.dup, 1) := by decide +kernel
theorem dJ2_getChar_3b067_22 : decode cJ2_getChar_3b067 22 = .ok (.ldc 54, 2) := by decide +kernel
theorem dJ2_getChar_3b067_24 : decode cJ2_getChar_3b067 24 = .ok (.invokespecial 56, 3) := by decide +kernel
theorem dJ2_getChar_3b067_27 : decode cJ2_getChar_3b067 27 = .ok (.athrow, 1) := by decide +kernel
theorem dJ2_getChar_3b067_28 : decode cJ2_getChar_3b067 28 = .ok (.iload_n 1, 1) := by decide +kernel
theorem dJ2_getChar_3b067_29 : decode cJ2_getChar_3b067 29 = .ok (.iconst 1, 1) := by decide +kernel
theorem dJ2_getChar_3b067_30 : decode cJ2_getChar_3b067 30 = .ok (.ishl, 1) := by decide +kernel
theorem dJ2_getChar_3b067_31 : decode cJ2_getChar_3b067 31 = .ok (.istore_n 1, 1) := by decide +kernel
theorem dJ2_getChar_3b067_32 : decode cJ2_getChar_3b067 32 = .ok (.aload_n 0, 1) := by decide +kernel
theorem dJ2_getChar_3b067_33 : decode cJ2_getChar_3b067 33 = .ok (.iload_n 1, 1) := by decide +kernel
theorem dJ2_getChar_3b067_34 : decode cJ2_getChar_3b067 34 = .ok (.iinc 1 1, 3) := by decide +kernel
theorem dJ2_getChar_3b067_37 : decode cJ2_getChar_3b067 37 = .ok (.baload, 1) := by decide +kernel
theorem dJ2_getChar_3b067_38 : decode cJ2_getChar_3b067 38 = .ok (.sipush 255, 3) := by decide +kernel
theorem dJ2_getChar_3b067_41 : decode cJ2_getChar_3b067 41 = .ok (.iand, 1) := by decide +kernel
theorem dJ2_getChar_3b067_42 : decode cJ2_getChar_3b067 42 = .ok (.getstatic 59, 3) := by decide +kernel
theorem dJ2_getChar_3b067_45 : decode cJ2_getChar_3b067 45 = .ok (.ishl, 1) := by decide +kernel
theorem dJ2_getChar_3b067_46 : decode cJ2_getChar_3b067 46 = .ok (.aload_n 0, 1) := by decide +kernel
theorem dJ2_getChar_3b067_47 : decode cJ2_getChar_3b067 47 = .ok (.iload_n 1, 1) := by decide +kernel
theorem dJ2_getChar_3b067_48 : decode cJ2_getChar_3b067 48 = .ok (.baload, 1) := by decide +kernel
theorem dJ2_getChar_3b067_49 : decode cJ2_getChar_3b067 49 = .ok (.sipush 255, 3) := by decide +kernel
theorem dJ2_getChar_3b067_52 : decode cJ2_getChar_3b067 52 = .ok (.iand, 1) := by decide +kernel
theorem dJ2_getChar_3b067_53 : decode cJ2_getChar_3b067 53 = .ok (.getstatic 63, 3) := by decide +kernel
theorem dJ2_getChar_3b067_56 : decode cJ2_getChar_3b067 56 = .ok (.ishl, 1) := by decide +kernel
theorem dJ2_getChar_3b067_57 : decode cJ2_getChar_3b067 57 = .ok (.ior, 1) := by decide +kernel
theorem dJ2_getChar_3b067_58 : decode cJ2_getChar_3b067 58 = .ok (.i2c, 1) := by decide +kernel
theorem dJ2_getChar_3b067_59 : decode cJ2_getChar_3b067 59 = .ok (.ireturn, 1) := by decide +kernel
theorem dJ2_length_9d52b_0 : decode cJ2_length_9d52b 0 = .ok (.aload_n 0, 1) := by decide +kernel
theorem dJ2_length_9d52b_1 : decode cJ2_length_9d52b 1 = .ok (.arraylength, 1) := by decide +kernel
theorem dJ2_length_9d52b_2 : decode cJ2_length_9d52b 2 = .ok (.iconst 1, 1) := by decide +kernel
theorem dJ2_length_9d52b_3 : decode cJ2_length_9d52b 3 = .ok (.ishr, 1) := by decide +kernel
theorem dJ2_length_9d52b_4 : decode cJ2_length_9d52b 4 = .ok (.ireturn, 1) := by decide +kernel
theorem dJ2_indexOf_4cfef_0 : decode cJ2_indexOf_4cfef 0 = .ok (.iload_n 2, 1) := by decide +kernel
theorem dJ2_indexOf_4cfef_1 : decode cJ2_indexOf_4cfef 1 = .ok (.iconst 0, 1) := by decide +kernel
theorem dJ2_indexOf_4cfef_2 : decode cJ2_indexOf_4cfef 2 = .ok (.invokestatic 224, 3) := by decide +kernel
theorem dJ2_indexOf_4cfef_5 : decode cJ2_indexOf_4cfef 5 = .ok (.istore_n 2, 1) := by decide +kernel
theorem dJ2_indexOf_4cfef_6 : decode cJ2_indexOf_4cfef 6 = .ok (.iload_n 3, 1) := by decide +kernel
theorem dJ2_indexOf_4cfef_7 : decode cJ2_indexOf_4cfef 7 = .ok (.aload_n 0, 1) := by decide +kernel
theorem dJ2_indexOf_4cfef_8 : decode cJ2_indexOf_4cfef 8 = .ok (.arraylength, 1) := by decide +kernel
theorem dJ2_indexOf_4cfef_9 : decode cJ2_indexOf_4cfef 9 = .ok (.iconst 1, 1) := by decide +kernel
theorem dJ2_indexOf_4cfef_10 : decode cJ2_indexOf_4cfef 10 = .ok (.ishr, 1) := by decide +kernel
theorem dJ2_indexOf_4cfef_11 : decode cJ2_indexOf_4cfef 11 = .ok (.invokestatic 183, 3) := by decide +kernel
theorem dJ2_indexOf_4cfef_14 : decode cJ2_indexOf_4cfef 14 = .ok (.istore_n 3, 1) := by decide +kernel
theorem dJ2_indexOf_4cfef_15 : decode cJ2_indexOf_4cfef 15 = .ok (.iload_n 2, 1) := by decide +kernel
theorem dJ2_indexOf_4cfef_16 : decode cJ2_indexOf_4cfef 16 = .ok (.iload_n 3, 1) := by decide +kernel
theorem dJ2_indexOf_4cfef_17 : decode cJ2_indexOf_4cfef 17 = .ok (.if_icmp .lt 5, 3) := by decide +kernel
theorem dJ2_indexOf_4cfef_20 : decode cJ2_indexOf_4cfef 20 = .ok (.iconst (-1), 1) := by decide +kernel
theorem dJ2_indexOf_4cfef_21 : decode cJ2_indexOf_4cfef 21 = .ok (.ireturn, 1) := by decide +kernel
theorem dJ2_indexOf_4cfef_22 : decode cJ2_indexOf_4cfef 22 = .ok (.iload_n 1, 1) := by decide +kernel
theorem dJ2_indexOf_4cfef_23 : decode cJ2_indexOf_4cfef 23 = .ok (.ldc 227, 2) := by decide +kernel
theorem dJ2_indexOf_4cfef_25 : decode cJ2_indexOf_4cfef 25 = .ok (.if_icmp .ge 11, 3) := by decide +kernel
theorem dJ2_indexOf_4cfef_28 : decode cJ2_indexOf_4cfef 28 = .ok (.aload_n 0, 1) := by decide +kernel
theorem dJ2_indexOf_4cfef_29 : decode cJ2_indexOf_4cfef 29 = .ok (.iload_n 1, 1) := by decide +kernel
theorem dJ2_indexOf_4cfef_30 : decode cJ2_indexOf_4cfef 30 = .ok (.iload_n 2, 1) := by decide +kernel
theorem dJ2_indexOf_4cfef_31 : decode cJ2_indexOf_4cfef 31 = .ok (.iload_n 3, 1) := by decide +kernel
theorem dJ2_indexOf_4cfef_32 : decode cJ2_indexOf_4cfef 32 = .ok (.invokestatic 228, 3) := by decide +kernel
theorem dJ2_indexOf_4cfef_35 : decode cJ2_indexOf_4cfef 35 = .ok (.ireturn, 1) := by decide +kernel
theorem dJ2_indexOf_4cfef_36 : decode cJ2_indexOf_4cfef 36 = .ok (.aload_n 0, 1) := by decide +kernel
theorem dJ2_indexOf_4cfef_37 : decode cJ2_indexOf_4cfef 37 = .ok (.iload_n 1, 1) := by decide +kernel
theorem dJ2_indexOf_4cfef_38 : decode cJ2_indexOf_4cfef 38 = .ok (.iload_n 2, 1) := by decide +kernel
theorem dJ2_indexOf_4cfef_39 : decode cJ2_indexOf_4cfef 39 = .ok (.iload_n 3, 1) := by decide +kernel
theorem dJ2_indexOf_4cfef_40 : decode cJ2_indexOf_4cfef 40 = .ok (.invokestatic 232, 3) := by decide +kernel
theorem dJ2_indexOf_4cfef_43 : decode cJ2_indexOf_4cfef 43 = .ok (.ireturn, 1) := by decide +kernel
theorem dJ2_indexOfChar_4cfef_0 : decode cJ2_indexOfChar_4cfef 0 = .ok (.iload_n 2, 1) := by decide +kernel
theorem dJ2_indexOfChar_4cfef_1 : decode cJ2_indexOfChar_4cfef 1 = .ok (.iload_n 3, 1) := by decide +kernel
theorem dJ2_indexOfChar_4cfef_2 : decode cJ2_indexOfChar_4cfef 2 = .ok (.aload_n 0, 1) := by decide +kernel
theorem dJ2_indexOfChar_4cfef_3 : decode cJ2_indexOfChar_4cfef 3 = .ok (.invokestatic 96, 3) := by decide +kernel
theorem dJ2_indexOfChar_4cfef_6 : decode cJ2_indexOfChar_4cfef 6 = .ok (.aload_n 0, 1) := by decide +kernel
theorem dJ2_indexOfChar_4cfef_7 : decode cJ2_indexOfChar_4cfef 7 = .ok (.iload_n 1, 1) := by decide +kernel
theorem dJ2_indexOfChar_4cfef_8 : decode cJ2_indexOfChar_4cfef 8 = .ok (.iload_n 2, 1) := by decide +kernel
theorem dJ2_indexOfChar_4cfef_9 : decode cJ2_indexOfChar_4cfef 9 = .ok (.iload_n 3, 1) := by decide +kernel
theorem dJ2_indexOfChar_4cfef_10 : decode cJ2_indexOfChar_4cfef 10 = .ok (.invokestatic 244, 3) := by decide +kernel
theorem dJ2_indexOfChar_4cfef_13 : decode cJ2_indexOfChar_4cfef 13 = .ok (.ireturn, 1) := by decide +kernel
theorem dJ2_indexOfCharUnsafe_4cfef_0 : decode cJ2_indexOfCharUnsafe_4cfef 0 = .ok (.iload_n 2, 1) := by decide +kernel
theorem dJ2_indexOfCharUnsafe_4cfef_1 : decode cJ2_indexOfCharUnsafe_4cfef 1 = .ok (.istore 4, 2) := by decide +kernel
theorem dJ2_indexOfCharUnsafe_4cfef_3 : decode cJ2_indexOfCharUnsafe_4cfef 3 = .ok (.iload 4, 2) := by decide +kernel
theorem dJ2_indexOfCharUnsafe_4cfef_5 : decode cJ2_indexOfCharUnsafe_4cfef 5 = .ok (.iload_n 3, 1) := by decide +kernel
theorem dJ2_indexOfCharUnsafe_4cfef_6 : decode cJ2_indexOfCharUnsafe_4cfef 6 = .ok (.if_icmp .ge 22, 3) := by decide +kernel
theorem dJ2_indexOfCharUnsafe_4cfef_9 : decode cJ2_indexOfCharUnsafe_4cfef 9 = .ok (.aload_n 0, 1) := by decide +kernel
theorem dJ2_indexOfCharUnsafe_4cfef_10 : decode cJ2_indexOfCharUnsafe_4cfef 10 = .ok (.iload 4, 2) := by decide +kernel
theorem dJ2_indexOfCharUnsafe_4cfef_12 : decode cJ2_indexOfCharUnsafe_4cfef 12 = .ok (.invokestatic 71, 3) := by decide +kernel
theorem dJ2_indexOfCharUnsafe_4cfef_15 : decode cJ2_indexOfCharUnsafe_4cfef 15 = .ok (.iload_n 1, 1) := by decide +kernel
theorem dJ2_indexOfCharUnsafe_4cfef_16 : decode cJ2_indexOfCharUnsafe_4cfef 16 = .ok (.if_icmp .ne 6, 3) := by decide +kernel
theorem dJ2_indexOfCharUnsafe_4cfef_19 : decode cJ2_indexOfCharUnsafe_4cfef 19 = .ok (.iload 4, 2) := by decide +kernel
theorem dJ2_indexOfCharUnsafe_4cfef_21 : decode cJ2_indexOfCharUnsafe_4cfef 21 = .ok (.ireturn, 1) := by decide +kernel
theorem dJ2_indexOfCharUnsafe_4cfef_22 : decode cJ2_indexOfCharUnsafe_4cfef 22 = .ok (.iinc 4 1, 3) := by decide +kernel
theorem dJ2_indexOfCharUnsafe_4cfef_25 : decode cJ2_indexOfCharUnsafe_4cfef 25 = .ok (.goto (-22), 3) := by decide +kernel
theorem dJ2_indexOfCharUnsafe_4cfef_28 : decode cJ2_indexOfCharUnsafe_4cfef 28 = .ok (.iconst (-1), 1) := by decide +kernel
theorem dJ2_indexOfCharUnsafe_4cfef_29 : decode cJ2_indexOfCharUnsafe_4cfef 29 = .ok (.ireturn, 1) := by decide +kernel
theorem dJ2_indexOfSupplementary_4cfef_0 : decode cJ2_indexOfSupplementary_4cfef 0 = .ok (.iload_n 1, 1) := by decide +kernel
theorem dJ2_indexOfSupplementary_4cfef_1 : decode cJ2_indexOfSupplementary_4cfef 1 = .ok (.invokestatic 164, 3) := by decide +kernel
theorem dJ2_indexOfSupplementary_4cfef_4 : decode cJ2_indexOfSupplementary_4cfef 4 = .ok (.ifCond .eq 65, 3) := by decide +kernel
theorem dJ2_indexOfSupplementary_4cfef_7 : decode cJ2_indexOfSupplementary_4cfef 7 = .ok (.iload_n 1, 1) := by decide +kernel
theorem dJ2_indexOfSupplementary_4cfef_8 : decode cJ2_indexOfSupplementary_4cfef 8 = .ok (.invokestatic 157, 3) := by decide +kernel
theorem dJ2_indexOfSupplementary_4cfef_11 : decode cJ2_indexOfSupplementary_4cfef 11 = .ok (.istore 4, 2) := by decide +kernel
theorem dJ2_indexOfSupplementary_4cfef_13 : decode cJ2_indexOfSupplementary_4cfef 13 = .ok (.iload_n 1, 1) := by decide +kernel
theorem dJ2_indexOfSupplementary_4cfef_14 : decode cJ2_indexOfSupplementary_4cfef 14 = .ok (.invokestatic 161, 3) := by decide +kernel
theorem dJ2_indexOfSupplementary_4cfef_17 : decode cJ2_indexOfSupplementary_4cfef 17 = .ok (.istore 5, 2) := by decide +kernel
theorem dJ2_indexOfSupplementary_4cfef_19 : decode cJ2_indexOfSupplementary_4cfef 19 = .ok (.iload_n 2, 1) := by decide +kernel
theorem dJ2_indexOfSupplementary_4cfef_20 : decode cJ2_indexOfSupplementary_4cfef 20 = .ok (.iload_n 3, 1) := by decide +kernel
theorem dJ2_indexOfSupplementary_4cfef_21 : decode cJ2_indexOfSupplementary_4cfef 21 = .ok (.aload_n 0, 1) := by decide +kernel
theorem dJ2_indexOfSupplementary_4cfef_22 : decode cJ2_indexOfSupplementary_4cfef 22 = .ok (.invokestatic 96, 3) := by decide +kernel
theorem dJ2_indexOfSupplementary_4cfef_25 : decode cJ2_indexOfSupplementary_4cfef 25 = .ok (.iload_n 2, 1) := by decide +kernel
theorem dJ2_indexOfSupplementary_4cfef_26 : decode cJ2_indexOfSupplementary_4cfef 26 = .ok (.istore 6, 2) := by decide +kernel
theorem dJ2_indexOfSupplementary_4cfef_28 : decode cJ2_indexOfSupplementary_4cfef 28 = .ok (.iload 6, 2) := by decide +kernel
theorem dJ2_indexOfSupplementary_4cfef_30 : decode cJ2_indexOfSupplementary_4cfef 30 = .ok (.iload_n 3, 1) := by decide +kernel
theorem dJ2_indexOfSupplementary_4cfef_31 : decode cJ2_indexOfSupplementary_4cfef 31 = .ok (.iconst 1, 1) := by decide +kernel
theorem dJ2_indexOfSupplementary_4cfef_32 : decode cJ2_indexOfSupplementary_4cfef 32 = .ok (.isub, 1) := by decide +kernel
theorem dJ2_indexOfSupplementary_4cfef_33 : decode cJ2_indexOfSupplementary_4cfef 33 = .ok (.if_icmp .ge 36, 3) := by decide +kernel
theorem dJ2_indexOfSupplementary_4cfef_36 : decode cJ2_indexOfSupplementary_4cfef 36 = .ok (.aload_n 0, 1) := by decide +kernel
theorem dJ2_indexOfSupplementary_4cfef_37 : decode cJ2_indexOfSupplementary_4cfef 37 = .ok (.iload 6, 2) := by decide +kernel
theorem dJ2_indexOfSupplementary_4cfef_39 : decode cJ2_indexOfSupplementary_4cfef 39 = .ok (.invokestatic 71, 3) := by decide +kernel
theorem dJ2_indexOfSupplementary_4cfef_42 : decode cJ2_indexOfSupplementary_4cfef 42 = .ok (.iload 4, 2) := by decide +kernel
theorem dJ2_indexOfSupplementary_4cfef_44 : decode cJ2_indexOfSupplementary_4cfef 44 = .ok (.if_icmp .ne 19, 3) := by decide +kernel
theorem dJ2_indexOfSupplementary_4cfef_47 : decode cJ2_indexOfSupplementary_4cfef 47 = .ok (.aload_n 0, 1) := by decide +kernel
theorem dJ2_indexOfSupplementary_4cfef_48 : decode cJ2_indexOfSupplementary_4cfef 48 = .ok (.iload 6, 2) := by decide +kernel
theorem dJ2_indexOfSupplementary_4cfef_50 : decode cJ2_indexOfSupplementary_4cfef 50 = .ok (.iconst 1, 1) := by decide +kernel
theorem dJ2_indexOfSupplementary_4cfef_51 : decode cJ2_indexOfSupplementary_4cfef 51 = .ok (.iadd, 1) := by decide +kernel
theorem dJ2_indexOfSupplementary_4cfef_52 : decode cJ2_indexOfSupplementary_4cfef 52 = .ok (.invokestatic 71, 3) := by decide +kernel
theorem dJ2_indexOfSupplementary_4cfef_55 : decode cJ2_indexOfSupplementary_4cfef 55 = .ok (.iload 5, 2) := by decide +kernel
theorem dJ2_indexOfSupplementary_4cfef_57 : decode cJ2_indexOfSupplementary_4cfef 57 = .ok (.if_icmp .ne 6, 3) := by decide +kernel
theorem dJ2_indexOfSupplementary_4cfef_60 : decode cJ2_indexOfSupplementary_4cfef 60 = .ok (.iload 6, 2) := by decide +kernel
theorem dJ2_indexOfSupplementary_4cfef_62 : decode cJ2_indexOfSupplementary_4cfef 62 = .ok (.ireturn, 1) := by decide +kernel
theorem dJ2_indexOfSupplementary_4cfef_63 : decode cJ2_indexOfSupplementary_4cfef 63 = .ok (.iinc 6 1, 3) := by decide +kernel
theorem dJ2_indexOfSupplementary_4cfef_66 : decode cJ2_indexOfSupplementary_4cfef 66 = .ok (.goto (-38), 3) := by decide +kernel
theorem dJ2_indexOfSupplementary_4cfef_69 : decode cJ2_indexOfSupplementary_4cfef 69 = .ok (.iconst (-1), 1) := by decide +kernel
theorem dJ2_indexOfSupplementary_4cfef_70 : decode cJ2_indexOfSupplementary_4cfef 70 = .ok (.ireturn, 1) := by decide +kernel
theorem dJ2_charAt_3b067_0 : decode cJ2_charAt_3b067 0 = .ok (.iload_n 1, 1) := by decide +kernel
theorem dJ2_charAt_3b067_1 : decode cJ2_charAt_3b067 1 = .ok (.aload_n 0, 1) := by decide +kernel
theorem dJ2_charAt_3b067_2 : decode cJ2_charAt_3b067 2 = .ok (.invokestatic 67, 3) := by decide +kernel
theorem dJ2_charAt_3b067_5 : decode cJ2_charAt_3b067 5 = .ok (.aload_n 0, 1) := by decide +kernel
theorem dJ2_charAt_3b067_6 : decode cJ2_charAt_3b067 6 = .ok (.iload_n 1, 1) := by decide +kernel
theorem dJ2_charAt_3b067_7 : decode cJ2_charAt_3b067 7 = .ok (.invokestatic 71, 3) := by decide +kernel
theorem dJ2_charAt_3b067_10 : decode cJ2_charAt_3b067 10 = .ok (.ireturn, 1) := by decide +kernel
theorem dJ2_checkIndex_2214a_0 : decode cJ2_checkIndex_2214a 0 = .ok (.iload_n 0, 1) := by decide +kernel
theorem dJ2_checkIndex_2214a_1 : decode cJ2_checkIndex_2214a 1 = .ok (.aload_n 1, 1) := by decide +kernel
theorem dJ2_checkIndex_2214a_2 : decode cJ2_checkIndex_2214a 2 = .ok (.invokestatic 48, 3) := by decide +kernel
theorem dJ2_checkIndex_2214a_5 : decode cJ2_checkIndex_2214a 5 = .ok (.invokestatic 414, 3) := by decide +kernel
theorem dJ2_checkIndex_2214a_8 : decode cJ2_checkIndex_2214a 8 = .ok (.return_, 1) := by decide +kernel
theorem dJ2_checkBoundsBeginEnd_d044e_0 : decode cJ2_checkBoundsBeginEnd_d044e 0 = .ok (.iload_n 0, 1) := by decide +kernel
theorem dJ2_checkBoundsBeginEnd_d044e_1 : decode cJ2_checkBoundsBeginEnd_d044e 1 = .ok (.iload_n 1, 1) := by decide +kernel
theorem dJ2_checkBoundsBeginEnd_d044e_2 : decode cJ2_checkBoundsBeginEnd_d044e 2 = .ok (.aload_n 2, 1) := by decide +kernel
theorem dJ2_checkBoundsBeginEnd_d044e_3 : decode cJ2_checkBoundsBeginEnd_d044e 3 = .ok (.invokestatic 48, 3) := by decide +kernel
theorem dJ2_checkBoundsBeginEnd_d044e_6 : decode cJ2_checkBoundsBeginEnd_d044e 6 = .ok (.invokestatic 241, 3) := by decide +kernel
theorem dJ2_checkBoundsBeginEnd_d044e_9 : decode cJ2_checkBoundsBeginEnd_d044e 9 = .ok (.return_, 1) := by decide +kernel
theorem dJxa1e45_init_da8c8_0 : decode cJxa1e45_init_da8c8 0 = .ok (.aload_n 0, 1) := by decide +kernel
theorem dJxa1e45_init_da8c8_1 : decode cJxa1e45_init_da8c8 1 = .ok (.invokespecial 1, 3) := by decide +kernel
theorem dJxa1e45_init_da8c8_4 : decode cJxa1e45_init_da8c8 4 = .ok (.return_, 1) := by decide +kernel
theorem dJxc12de_init_da8c8_0 : decode cJxc12de_init_da8c8 0 = .ok (.aload_n 0, 1) := by decide +kernel
theorem dJxc12de_init_da8c8_1 : decode cJxc12de_init_da8c8 1 = .ok (.invokespecial 1, 3) := by decide +kernel
theorem dJxc12de_init_da8c8_4 : decode cJxc12de_init_da8c8 4 = .ok (.aload_n 0, 1) := by decide +kernel
theorem dJxc12de_init_da8c8_5 : decode cJxc12de_init_da8c8 5 = .ok (.iconst 0, 1) := by decide +kernel
theorem dJxc12de_init_da8c8_6 : decode cJxc12de_init_da8c8 6 = .ok (.putfield 7, 3) := by decide +kernel
theorem dJxc12de_init_da8c8_9 : decode cJxc12de_init_da8c8 9 = .ok (.return_, 1) := by decide +kernel
theorem dJx4a65c_init_da8c8_0 : decode cJx4a65c_init_da8c8 0 = .ok (.aload_n 0, 1) := by decide +kernel
theorem dJx4a65c_init_da8c8_1 : decode cJx4a65c_init_da8c8 1 = .ok (.invokespecial 1, 3) := by decide +kernel
theorem dJx4a65c_init_da8c8_4 : decode cJx4a65c_init_da8c8 4 = .ok (.aload_n 0, 1) := by decide +kernel
theorem dJx4a65c_init_da8c8_5 : decode cJx4a65c_init_da8c8 5 = .ok (.getstatic 39, 3) := by decide +kernel
theorem dJx4a65c_init_da8c8_8 : decode cJx4a65c_init_da8c8 8 = .ok (.putfield 9, 3) := by decide +kernel
theorem dJx4a65c_init_da8c8_11 : decode cJx4a65c_init_da8c8 11 = .ok (.return_, 1) := by decide +kernel
theorem dJx4a65c_grow_92f84_0 : decode cJx4a65c_grow_92f84 0 = .ok (.aload_n 0, 1) := by decide +kernel
theorem dJx4a65c_grow_92f84_1 : decode cJx4a65c_grow_92f84 1 = .ok (.getfield 9, 3) := by decide +kernel
theorem dJx4a65c_grow_92f84_4 : decode cJx4a65c_grow_92f84 4 = .ok (.arraylength, 1) := by decide +kernel
theorem dJx4a65c_grow_92f84_5 : decode cJx4a65c_grow_92f84 5 = .ok (.istore_n 2, 1) := by decide +kernel
theorem dJx4a65c_grow_92f84_6 : decode cJx4a65c_grow_92f84 6 = .ok (.iload_n 2, 1) := by decide +kernel
theorem dJx4a65c_grow_92f84_7 : decode cJx4a65c_grow_92f84 7 = .ok (.ifCond .gt 13, 3) := by decide +kernel
theorem dJx4a65c_grow_92f84_10 : decode cJx4a65c_grow_92f84 10 = .ok (.aload_n 0, 1) := by decide +kernel
theorem dJx4a65c_grow_92f84_11 : decode cJx4a65c_grow_92f84 11 = .ok (.getfield 9, 3) := by decide +kernel
theorem dJx4a65c_grow_92f84_14 : decode cJx4a65c_grow_92f84 14 = .ok (.getstatic 39, 3) := by decide +kernel
theorem dJx4a65c_grow_92f84_17 : decode cJx4a65c_grow_92f84 17 = .ok (.if_acmp .eq 28, 3) := by decide +kernel
theorem dJx4a65c_grow_92f84_20 : decode cJx4a65c_grow_92f84 20 = .ok (.iload_n 2, 1) := by decide +kernel
theorem dJx4a65c_grow_92f84_21 : decode cJx4a65c_grow_92f84 21 = .ok (.iload_n 1, 1) := by decide +kernel
theorem dJx4a65c_grow_92f84_22 : decode cJx4a65c_grow_92f84 22 = .ok (.iload_n 2, 1) := by decide +kernel
theorem dJx4a65c_grow_92f84_23 : decode cJx4a65c_grow_92f84 23 = .ok (.isub, 1) := by decide +kernel
theorem dJx4a65c_grow_92f84_24 : decode cJx4a65c_grow_92f84 24 = .ok (.iload_n 2, 1) := by decide +kernel
theorem dJx4a65c_grow_92f84_25 : decode cJx4a65c_grow_92f84 25 = .ok (.iconst 1, 1) := by decide +kernel
theorem dJx4a65c_grow_92f84_26 : decode cJx4a65c_grow_92f84 26 = .ok (.ishr, 1) := by decide +kernel
theorem dJx4a65c_grow_92f84_27 : decode cJx4a65c_grow_92f84 27 = .ok (.invokestatic 73, 3) := by decide +kernel
theorem dJx4a65c_grow_92f84_30 : decode cJx4a65c_grow_92f84 30 = .ok (.istore_n 3, 1) := by decide +kernel
theorem dJx4a65c_grow_92f84_31 : decode cJx4a65c_grow_92f84 31 = .ok (.aload_n 0, 1) := by decide +kernel
theorem dJx4a65c_grow_92f84_32 : decode cJx4a65c_grow_92f84 32 = .ok (.aload_n 0, 1) := by decide +kernel
theorem dJx4a65c_grow_92f84_33 : decode cJx4a65c_grow_92f84 33 = .ok (.getfield 9, 3) := by decide +kernel
theorem dJx4a65c_grow_92f84_36 : decode cJx4a65c_grow_92f84 36 = .ok (.iload_n 3, 1) := by decide +kernel
theorem dJx4a65c_grow_92f84_37 : decode cJx4a65c_grow_92f84 37 = .ok (.invokestatic 66, 3) := by decide +kernel
theorem dJx4a65c_grow_92f84_40 : decode cJx4a65c_grow_92f84 40 = .ok (.dup_x1, 1) := by decide +kernel
theorem dJx4a65c_grow_92f84_41 : decode cJx4a65c_grow_92f84 41 = .ok (.putfield 9, 3) := by decide +kernel
theorem dJx4a65c_grow_92f84_44 : decode cJx4a65c_grow_92f84 44 = .ok (.areturn, 1) := by decide +kernel
theorem dJx4a65c_grow_92f84_45 : decode cJx4a65c_grow_92f84 45 = .ok (.aload_n 0, 1) := by decide +kernel
theorem dJx4a65c_grow_92f84_46 : decode cJx4a65c_grow_92f84 46 = .ok (.bipush 10, 2) := by decide +kernel
theorem dJx4a65c_grow_92f84_48 : decode cJx4a65c_grow_92f84 48 = .ok (.iload_n 1, 1) := by decide +kernel
theorem dJx4a65c_grow_92f84_49 : decode cJx4a65c_grow_92f84 49 = .ok (.invokestatic 79, 3) := by decide +kernel
theorem dJx4a65c_grow_92f84_52 : decode cJx4a65c_grow_92f84 52 = .ok (.anewarray 7, 3) := by decide +kernel
theorem dJx4a65c_grow_92f84_55 : decode cJx4a65c_grow_92f84 55 = .ok (.dup_x1, 1) := by decide +kernel
theorem dJx4a65c_grow_92f84_56 : decode cJx4a65c_grow_92f84 56 = .ok (.putfield 9, 3) := by decide +kernel
theorem dJx4a65c_grow_92f84_59 : decode cJx4a65c_grow_92f84 59 = .ok (.areturn, 1) := by decide +kernel
theorem dJx4a65c_grow_d5877_0 : decode cJx4a65c_grow_d5877 0 = .ok (.aload_n 0, 1) := by decide +kernel
theorem dJx4a65c_grow_d5877_1 : decode cJx4a65c_grow_d5877 1 = .ok (.aload_n 0, 1) := by decide +kernel
theorem dJx4a65c_grow_d5877_2 : decode cJx4a65c_grow_d5877 2 = .ok (.getfield 48, 3) := by decide +kernel
theorem dJx4a65c_grow_d5877_5 : decode cJx4a65c_grow_d5877 5 = .ok (.iconst 1, 1) := by decide +kernel
theorem dJx4a65c_grow_d5877_6 : decode cJx4a65c_grow_d5877 6 = .ok (.iadd, 1) := by decide +kernel
theorem dJx4a65c_grow_d5877_7 : decode cJx4a65c_grow_d5877 7 = .ok (.invokevirtual 69, 3) := by decide +kernel
theorem dJx4a65c_grow_d5877_10 : decode cJx4a65c_grow_d5877 10 = .ok (.areturn, 1) := by decide +kernel
theorem dJx4a65c_size_8abf5_0 : decode cJx4a65c_size_8abf5 0 = .ok (.aload_n 0, 1) := by decide +kernel
theorem dJx4a65c_size_8abf5_1 : decode cJx4a65c_size_8abf5 1 = .ok (.getfield 48, 3) := by decide +kernel
theorem dJx4a65c_size_8abf5_4 : decode cJx4a65c_size_8abf5 4 = .ok (.ireturn, 1) := by decide +kernel
theorem dJx4a65c_elementData_915e3_0 : decode cJx4a65c_elementData_915e3 0 = .ok (.aload_n 0, 1) := by decide +kernel
theorem dJx4a65c_elementData_915e3_1 : decode cJx4a65c_elementData_915e3 1 = .ok (.getfield 9, 3) := by decide +kernel
theorem dJx4a65c_elementData_915e3_4 : decode cJx4a65c_elementData_915e3 4 = .ok (.iload_n 1, 1) := by decide +kernel
theorem dJx4a65c_elementData_915e3_5 : decode cJx4a65c_elementData_915e3 5 = .ok (.aaload, 1) := by decide +kernel
theorem dJx4a65c_elementData_915e3_6 : decode cJx4a65c_elementData_915e3 6 = .ok (.areturn, 1) := by decide +kernel
theorem dJx4a65c_get_915e3_0 : decode cJx4a65c_get_915e3 0 = .ok (.iload_n 1, 1) := by decide +kernel
theorem dJx4a65c_get_915e3_1 : decode cJx4a65c_get_915e3 1 = .ok (.aload_n 0, 1) := by decide +kernel
theorem dJx4a65c_get_915e3_2 : decode cJx4a65c_get_915e3 2 = .ok (.getfield 48, 3) := by decide +kernel
theorem dJx4a65c_get_915e3_5 : decode cJx4a65c_get_915e3 5 = .ok (.invokestatic 118, 3) := by decide +kernel
theorem dJx4a65c_get_915e3_8 : decode cJx4a65c_get_915e3 8 = .ok (.pop, 1) := by decide +kernel
theorem dJx4a65c_get_915e3_9 : decode cJx4a65c_get_915e3 9 = .ok (.aload_n 0, 1) := by decide +kernel
theorem dJx4a65c_get_915e3_10 : decode cJx4a65c_get_915e3 10 = .ok (.iload_n 1, 1) := by decide +kernel
theorem dJx4a65c_get_915e3_11 : decode cJx4a65c_get_915e3 11 = .ok (.invokevirtual 123, 3) := by decide +kernel
theorem dJx4a65c_get_915e3_14 : decode cJx4a65c_get_915e3 14 = .ok (.areturn, 1) := by decide +kernel
theorem dJx4a65c_add_72be8_0 : decode cJx4a65c_add_72be8 0 = .ok (.iload_n 3, 1) := by decide +kernel
theorem dJx4a65c_add_72be8_1 : decode cJx4a65c_add_72be8 1 = .ok (.aload_n 2, 1) := by decide +kernel
theorem dJx4a65c_add_72be8_2 : decode cJx4a65c_add_72be8 2 = .ok (.arraylength, 1) := by decide +kernel
theorem dJx4a65c_add_72be8_3 : decode cJx4a65c_add_72be8 3 = .ok (.if_icmp .ne 8, 3) := by decide +kernel
theorem dJx4a65c_add_72be8_6 : decode cJx4a65c_add_72be8 6 = .ok (.aload_n 0, 1) := by decide +kernel
theorem dJx4a65c_add_72be8_7 : decode cJx4a65c_add_72be8 7 = .ok (.invokevirtual 129, 3) := by decide +kernel
theorem dJx4a65c_add_72be8_10 : decode cJx4a65c_add_72be8 10 = .ok (.astore_n 2, 1) := by decide +kernel
theorem dJx4a65c_add_72be8_11 : decode cJx4a65c_add_72be8 11 = .ok (.aload_n 2, 1) := by decide +kernel
theorem dJx4a65c_add_72be8_12 : decode cJx4a65c_add_72be8 12 = .ok (.iload_n 3, 1) := by decide +kernel
theorem dJx4a65c_add_72be8_13 : decode cJx4a65c_add_72be8 13 = .ok (.aload_n 1, 1) := by decide +kernel
theorem dJx4a65c_add_72be8_14 : decode cJx4a65c_add_72be8 14 = .ok (.aastore, 1) := by decide +kernel
theorem dJx4a65c_add_72be8_15 : decode cJx4a65c_add_72be8 15 = .ok (.aload_n 0, 1) := by decide +kernel
theorem dJx4a65c_add_72be8_16 : decode cJx4a65c_add_72be8 16 = .ok (.iload_n 3, 1) := by decide +kernel
theorem dJx4a65c_add_72be8_17 : decode cJx4a65c_add_72be8 17 = .ok (.iconst 1, 1) := by decide +kernel
theorem dJx4a65c_add_72be8_18 : decode cJx4a65c_add_72be8 18 = .ok (.iadd, 1) := by decide +kernel
theorem dJx4a65c_add_72be8_19 : decode cJx4a65c_add_72be8 19 = .ok (.putfield 48, 3) := by decide +kernel
theorem dJx4a65c_add_72be8_22 : decode cJx4a65c_add_72be8 22 = .ok (.return_, 1) := by decide +kernel
theorem dJx4a65c_add_9ea2d_0 : decode cJx4a65c_add_9ea2d 0 = .ok (.aload_n 0, 1) := by decide +kernel
theorem dJx4a65c_add_9ea2d_1 : decode cJx4a65c_add_9ea2d 1 = .ok (.dup, 1) := by decide +kernel
theorem dJx4a65c_add_9ea2d_2 : decode cJx4a65c_add_9ea2d 2 = .ok (.getfield 63, 3) := by decide +kernel
theorem dJx4a65c_add_9ea2d_5 : decode cJx4a65c_add_9ea2d 5 = .ok (.iconst 1, 1) := by decide +kernel
theorem dJx4a65c_add_9ea2d_6 : decode cJx4a65c_add_9ea2d 6 = .ok (.iadd, 1) := by decide +kernel
theorem dJx4a65c_add_9ea2d_7 : decode cJx4a65c_add_9ea2d 7 = .ok (.putfield 63, 3) := by decide +kernel
theorem dJx4a65c_add_9ea2d_10 : decode cJx4a65c_add_9ea2d 10 = .ok (.aload_n 0, 1) := by decide +kernel
theorem dJx4a65c_add_9ea2d_11 : decode cJx4a65c_add_9ea2d 11 = .ok (.aload_n 1, 1) := by decide +kernel
theorem dJx4a65c_add_9ea2d_12 : decode cJx4a65c_add_9ea2d 12 = .ok (.aload_n 0, 1) := by decide +kernel
theorem dJx4a65c_add_9ea2d_13 : decode cJx4a65c_add_9ea2d 13 = .ok (.getfield 9, 3) := by decide +kernel
theorem dJx4a65c_add_9ea2d_16 : decode cJx4a65c_add_9ea2d 16 = .ok (.aload_n 0, 1) := by decide +kernel
theorem dJx4a65c_add_9ea2d_17 : decode cJx4a65c_add_9ea2d 17 = .ok (.getfield 48, 3) := by decide +kernel
theorem dJx4a65c_add_9ea2d_20 : decode cJx4a65c_add_9ea2d 20 = .ok (.invokevirtual 131, 3) := by decide +kernel
theorem dJx4a65c_add_9ea2d_23 : decode cJx4a65c_add_9ea2d 23 = .ok (.iconst 1, 1) := by decide +kernel
theorem dJx4a65c_add_9ea2d_24 : decode cJx4a65c_add_9ea2d 24 = .ok (.ireturn, 1) := by decide +kernel
theorem dJ7_copyOf_1904c_0 : decode cJ7_copyOf_1904c 0 = .ok (.aload_n 0, 1) := by decide +kernel
theorem dJ7_copyOf_1904c_1 : decode cJ7_copyOf_1904c 1 = .ok (.iload_n 1, 1) := by decide +kernel
theorem dJ7_copyOf_1904c_2 : decode cJ7_copyOf_1904c 2 = .ok (.aload_n 0, 1) := by decide +kernel
theorem dJ7_copyOf_1904c_3 : decode cJ7_copyOf_1904c 3 = .ok (.invokevirtual 86, 3) := by decide +kernel
theorem dJ7_copyOf_1904c_6 : decode cJ7_copyOf_1904c 6 = .ok (.invokestatic 300, 3) := by decide +kernel
theorem dJ7_copyOf_1904c_9 : decode cJ7_copyOf_1904c 9 = .ok (.areturn, 1) := by decide +kernel
theorem dJ7_copyOf_6403c_0 : decode cJ7_copyOf_6403c 0 = .ok (.aload_n 2, 1) := by decide +kernel
theorem dJ7_copyOf_6403c_1 : decode cJ7_copyOf_6403c 1 = .ok (.ldc 110, 2) := by decide +kernel
theorem dJ7_copyOf_6403c_3 : decode cJ7_copyOf_6403c 3 = .ok (.if_acmp .ne 10, 3) := by decide +kernel
theorem dJ7_copyOf_6403c_6 : decode cJ7_copyOf_6403c 6 = .ok (.iload_n 1, 1) := by decide +kernel
theorem dJ7_copyOf_6403c_7 : decode cJ7_copyOf_6403c 7 = .ok (.anewarray 2, 3) := by decide +kernel
theorem dJ7_copyOf_6403c_10 : decode cJ7_copyOf_6403c 10 = .ok (.goto 14, 3) := by decide +kernel
theorem dJ7_copyOf_6403c_13 : decode cJ7_copyOf_6403c 13 = .ok (.aload_n 2, 1) := by decide +kernel
theorem dJ7_copyOf_6403c_14 : decode cJ7_copyOf_6403c 14 = .ok (.invokevirtual 90, 3) := by decide +kernel
theorem dJ7_copyOf_6403c_17 : decode cJ7_copyOf_6403c 17 = .ok (.iload_n 1, 1) := by decide +kernel
theorem dJ7_copyOf_6403c_18 : decode cJ7_copyOf_6403c 18 = .ok (.invokestatic 95, 3) := by decide +kernel
theorem dJ7_copyOf_6403c_21 : decode cJ7_copyOf_6403c 21 = .ok (.checkcast 110, 3) := by decide +kernel
theorem dJ7_copyOf_6403c_24 : decode cJ7_copyOf_6403c 24 = .ok (.astore_n 3, 1) := by decide +kernel
theorem dJ7_copyOf_6403c_25 : decode cJ7_copyOf_6403c 25 = .ok (.aload_n 0, 1) := by decide +kernel
theorem dJ7_copyOf_6403c_26 : decode cJ7_copyOf_6403c 26 = .ok (.iconst 0, 1) := by decide +kernel
theorem dJ7_copyOf_6403c_27 : decode cJ7_copyOf_6403c 27 = .ok (.aload_n 3, 1) := by decide +kernel
theorem dJ7_copyOf_6403c_28 : decode cJ7_copyOf_6403c 28 = .ok (.iconst 0, 1) := by decide +kernel
theorem dJ7_copyOf_6403c_29 : decode cJ7_copyOf_6403c 29 = .ok (.aload_n 0, 1) := by decide +kernel
theorem dJ7_copyOf_6403c_30 : decode cJ7_copyOf_6403c 30 = .ok (.arraylength, 1) := by decide +kernel
theorem dJ7_copyOf_6403c_31 : decode cJ7_copyOf_6403c 31 = .ok (.iload_n 1, 1) := by decide +kernel
theorem dJ7_copyOf_6403c_32 : decode cJ7_copyOf_6403c 32 = .ok (.invokestatic 304, 3) := by decide +kernel
theorem dJ7_copyOf_6403c_35 : decode cJ7_copyOf_6403c 35 = .ok (.invokestatic 150, 3) := by decide +kernel
theorem dJ7_copyOf_6403c_38 : decode cJ7_copyOf_6403c 38 = .ok (.aload_n 3, 1) := by decide +kernel
theorem dJ7_copyOf_6403c_39 : decode cJ7_copyOf_6403c 39 = .ok (.areturn, 1) := by decide +kernel
theorem dJ15_checkIndex_7cf53_0 : decode cJ15_checkIndex_7cf53 0 = .ok (.iload_n 0, 1) := by decide +kernel
theorem dJ15_checkIndex_7cf53_1 : decode cJ15_checkIndex_7cf53 1 = .ok (.iload_n 1, 1) := by decide +kernel
theorem dJ15_checkIndex_7cf53_2 : decode cJ15_checkIndex_7cf53 2 = .ok (.aconst_null, 1) := by decide +kernel
theorem dJ15_checkIndex_7cf53_3 : decode cJ15_checkIndex_7cf53 3 = .ok (.invokestatic 105, 3) := by decide +kernel
theorem dJ15_checkIndex_7cf53_6 : decode cJ15_checkIndex_7cf53 6 = .ok (.ireturn, 1) := by decide +kernel
theorem dJ8_newLength_cabcc_0 : decode cJ8_newLength_cabcc 0 = .ok (.iload_n 0, 1) := by decide +kernel
theorem dJ8_newLength_cabcc_1 : decode cJ8_newLength_cabcc 1 = .ok (.iload_n 1, 1) := by decide +kernel
theorem dJ8_newLength_cabcc_2 : decode cJ8_newLength_cabcc 2 = .ok (.iload_n 2, 1) := by decide +kernel
theorem dJ8_newLength_cabcc_3 : decode cJ8_newLength_cabcc 3 = .ok (.invokestatic 194, 3) := by decide +kernel
theorem dJ8_newLength_cabcc_6 : decode cJ8_newLength_cabcc 6 = .ok (.iadd, 1) := by decide +kernel
theorem dJ8_newLength_cabcc_7 : decode cJ8_newLength_cabcc 7 = .ok (.istore_n 3, 1) := by decide +kernel
theorem dJ8_newLength_cabcc_8 : decode cJ8_newLength_cabcc 8 = .ok (.iconst 0, 1) := by decide +kernel
theorem dJ8_newLength_cabcc_9 : decode cJ8_newLength_cabcc 9 = .ok (.iload_n 3, 1) := by decide +kernel
theorem dJ8_newLength_cabcc_10 : decode cJ8_newLength_cabcc 10 = .ok (.if_icmp .ge 11, 3) := by decide +kernel
theorem dJ8_newLength_cabcc_13 : decode cJ8_newLength_cabcc 13 = .ok (.iload_n 3, 1) := by decide +kernel
theorem dJ8_newLength_cabcc_14 : decode cJ8_newLength_cabcc 14 = .ok (.ldc 200, 2) := by decide +kernel
theorem dJ8_newLength_cabcc_16 : decode cJ8_newLength_cabcc 16 = .ok (.if_icmp .gt 5, 3) := by decide +kernel
theorem dJ8_newLength_cabcc_19 : decode cJ8_newLength_cabcc 19 = .ok (.iload_n 3, 1) := by decide +kernel
theorem dJ8_newLength_cabcc_20 : decode cJ8_newLength_cabcc 20 = .ok (.ireturn, 1) := by decide +kernel
theorem dJ8_newLength_cabcc_21 : decode cJ8_newLength_cabcc 21 = .ok (.iload_n 0, 1) := by decide +kernel
theorem dJ8_newLength_cabcc_22 : decode cJ8_newLength_cabcc 22 = .ok (.iload_n 1, 1) := by decide +kernel
theorem dJ8_newLength_cabcc_23 : decode cJ8_newLength_cabcc 23 = .ok (.invokestatic 201, 3) := by decide +kernel
theorem dJ8_newLength_cabcc_26 : decode cJ8_newLength_cabcc 26 = .ok (.ireturn, 1) := by decide +kernel
theorem dJ8_hugeLength_7cf53_0 : decode cJ8_hugeLength_7cf53 0 = .ok (.iload_n 0, 1) := by decide +kernel
theorem dJ8_hugeLength_7cf53_1 : decode cJ8_hugeLength_7cf53 1 = .ok (.iload_n 1, 1) := by decide +kernel
theorem dJ8_hugeLength_7cf53_2 : decode cJ8_hugeLength_7cf53 2 = .ok (.iadd, 1) := by decide +kernel
theorem dJ8_hugeLength_7cf53_3 : decode cJ8_hugeLength_7cf53 3 = .ok (.istore_n 2, 1) := by decide +kernel
theorem dJ8_hugeLength_7cf53_4 : decode cJ8_hugeLength_7cf53 4 = .ok (.iload_n 2, 1) := by decide +kernel
theorem dJ8_hugeLength_7cf53_5 : decode cJ8_hugeLength_7cf53 5 = .ok (.ifCond .ge 44, 3) := by decide +kernel
theorem dJ8_hugeLength_7cf53_8 : decode cJ8_hugeLength_7cf53 8 = .ok (.new 204, 3) := by decide +kernel
theorem dJ8_hugeLength_7cf53_11 : decode cJ8_hugeLength_7cf53 11 = .ok (.dup, 1) := by decide +kernel
theorem dJ8_hugeLength_7cf53_12 : decode cJ8_hugeLength_7cf53 12 = .ok (.new 89, 3) := by decide +kernel
theorem dJ8_hugeLength_7cf53_15 : decode cJ8_hugeLength_7cf53 15 = .ok (.dup, 1) := by decide +kernel
theorem dJ8_hugeLength_7cf53_16 : decode cJ8_hugeLength_7cf53 16 = .ok (.invokespecial 91, 3) := by decide +kernel
theorem dJ8_hugeLength_7cf53_19 : decode cJ8_hugeLength_7cf53 19 = .ok (.ldc 206, 2) := by decide +kernel
theorem dJ8_hugeLength_7cf53_21 : decode cJ8_hugeLength_7cf53 21 = .ok (.invokevirtual 94, 3) := by decide +kernel
theorem dJ8_hugeLength_7cf53_24 : decode cJ8_hugeLength_7cf53 24 = .ok (.iload_n 0, 1) := by decide +kernel
theorem dJ8_hugeLength_7cf53_25 : decode cJ8_hugeLength_7cf53 25 = .ok (.invokevirtual 98, 3) := by decide +kernel
theorem dJ8_hugeLength_7cf53_28 : decode cJ8_hugeLength_7cf53 28 = .ok (.ldc 208, 2) := by decide +kernel
theorem dJ8_hugeLength_7cf53_30 : decode cJ8_hugeLength_7cf53 30 = .ok (.invokevirtual 94, 3) := by decide +kernel
theorem dJ8_hugeLength_7cf53_33 : decode cJ8_hugeLength_7cf53 33 = .ok (.iload_n 1, 1) := by decide +kernel
theorem dJ8_hugeLength_7cf53_34 : decode cJ8_hugeLength_7cf53 34 = .ok (.invokevirtual 98, 3) := by decide +kernel
theorem dJ8_hugeLength_7cf53_37 : decode cJ8_hugeLength_7cf53 37 = .ok (.ldc 210, 2) := by decide +kernel
theorem dJ8_hugeLength_7cf53_39 : decode cJ8_hugeLength_7cf53 39 = .ok (.invokevirtual 94, 3) := by decide +kernel
theorem dJ8_hugeLength_7cf53_42 : decode cJ8_hugeLength_7cf53 42 = .ok (.invokevirtual 101, 3) := by decide +kernel
theorem dJ8_hugeLength_7cf53_45 : decode cJ8_hugeLength_7cf53 45 = .ok (.invokespecial 212, 3) := by decide +kernel
theorem dJ8_hugeLength_7cf53_48 : decode cJ8_hugeLength_7cf53 48 = .ok (.athrow, 1) := by decide +kernel
theorem dJ8_hugeLength_7cf53_49 : decode cJ8_hugeLength_7cf53 49 = .ok (.iload_n 2, 1) := by decide +kernel
theorem dJ8_hugeLength_7cf53_50 : decode cJ8_hugeLength_7cf53 50 = .ok (.ldc 200, 2) := by decide +kernel
theorem dJ8_hugeLength_7cf53_52 : decode cJ8_hugeLength_7cf53 52 = .ok (.if_icmp .gt 6, 3) := by decide +kernel
theorem dJ8_hugeLength_7cf53_55 : decode cJ8_hugeLength_7cf53 55 = .ok (.ldc 200, 2) := by decide +kernel
theorem dJ8_hugeLength_7cf53_57 : decode cJ8_hugeLength_7cf53 57 = .ok (.ireturn, 1) := by decide +kernel
theorem dJ8_hugeLength_7cf53_58 : decode cJ8_hugeLength_7cf53 58 = .ok (.iload_n 2, 1) := by decide +kernel
theorem dJ8_hugeLength_7cf53_59 : decode cJ8_hugeLength_7cf53 59 = .ok (.ireturn, 1) := by decide +kernel
theorem dJ3_checkIndex_8e157_0 : decode cJ3_checkIndex_8e157 0 = .ok (.iload_n 0, 1) := by decide +kernel
theorem dJ3_checkIndex_8e157_1 : decode cJ3_checkIndex_8e157 1 = .ok (.ifCond .lt 8, 3) := by decide +kernel
theorem dJ3_checkIndex_8e157_4 : decode cJ3_checkIndex_8e157 4 = .ok (.iload_n 0, 1) := by decide +kernel
theorem dJ3_checkIndex_8e157_5 : decode cJ3_checkIndex_8e157 5 = .ok (.iload_n 1, 1) := by decide +kernel
theorem dJ3_checkIndex_8e157_6 : decode cJ3_checkIndex_8e157 6 = .ok (.if_icmp .lt 10, 3) := by decide +kernel
theorem dJ3_checkIndex_8e157_9 : decode cJ3_checkIndex_8e157 9 = .ok (.aload_n 2, 1) := by decide +kernel
theorem dJ3_checkIndex_8e157_10 : decode cJ3_checkIndex_8e157 10 = .ok (.iload_n 0, 1) := by decide +kernel
theorem dJ3_checkIndex_8e157_11 : decode cJ3_checkIndex_8e157 11 = .ok (.iload_n 1, 1) := by decide +kernel
theorem dJ3_checkIndex_8e157_12 : decode cJ3_checkIndex_8e157 12 = .ok (.invokestatic 95, 3) := by decide +kernel
theorem dJ3_checkIndex_8e157_15 : decode cJ3_checkIndex_8e157 15 = .ok (.athrow, 1) := by decide +kernel
theorem dJ3_checkIndex_8e157_16 : decode cJ3_checkIndex_8e157 16 = .ok (.iload_n 0, 1) := by decide +kernel
theorem dJ3_checkIndex_8e157_17 : decode cJ3_checkIndex_8e157 17 = .ok (.ireturn, 1) := by decide +kernel
theorem dJ3_checkFromToIndex_8c36e_0 : decode cJ3_checkFromToIndex_8c36e 0 = .ok (.iload_n 0, 1) := by decide +kernel
theorem dJ3_checkFromToIndex_8c36e_1 : decode cJ3_checkFromToIndex_8c36e 1 = .ok (.ifCond .lt 13, 3) := by decide +kernel
theorem dJ3_checkFromToIndex_8c36e_4 : decode cJ3_checkFromToIndex_8c36e 4 = .ok (.iload_n 0, 1) := by decide +kernel
theorem dJ3_checkFromToIndex_8c36e_5 : decode cJ3_checkFromToIndex_8c36e 5 = .ok (.iload_n 1, 1) := by decide +kernel
theorem dJ3_checkFromToIndex_8c36e_6 : decode cJ3_checkFromToIndex_8c36e 6 = .ok (.if_icmp .gt 8, 3) := by decide +kernel
theorem dJ3_checkFromToIndex_8c36e_9 : decode cJ3_checkFromToIndex_8c36e 9 = .ok (.iload_n 1, 1) := by decide +kernel
theorem dJ3_checkFromToIndex_8c36e_10 : decode cJ3_checkFromToIndex_8c36e 10 = .ok (.iload_n 2, 1) := by decide +kernel
theorem dJ3_checkFromToIndex_8c36e_11 : decode cJ3_checkFromToIndex_8c36e 11 = .ok (.if_icmp .le 11, 3) := by decide +kernel
theorem dJ3_checkFromToIndex_8c36e_14 : decode cJ3_checkFromToIndex_8c36e 14 = .ok (.aload_n 3, 1) := by decide +kernel
theorem dJ3_checkFromToIndex_8c36e_15 : decode cJ3_checkFromToIndex_8c36e 15 = .ok (.iload_n 0, 1) := by decide +kernel
theorem dJ3_checkFromToIndex_8c36e_16 : decode cJ3_checkFromToIndex_8c36e 16 = .ok (.iload_n 1, 1) := by decide +kernel
theorem dJ3_checkFromToIndex_8c36e_17 : decode cJ3_checkFromToIndex_8c36e 17 = .ok (.iload_n 2, 1) := by decide +kernel
theorem dJ3_checkFromToIndex_8c36e_18 : decode cJ3_checkFromToIndex_8c36e 18 = .ok (.invokestatic 99, 3) := by decide +kernel
theorem dJ3_checkFromToIndex_8c36e_21 : decode cJ3_checkFromToIndex_8c36e 21 = .ok (.athrow, 1) := by decide +kernel
theorem dJ3_checkFromToIndex_8c36e_22 : decode cJ3_checkFromToIndex_8c36e 22 = .ok (.iload_n 0, 1) := by decide +kernel
theorem dJ3_checkFromToIndex_8c36e_23 : decode cJ3_checkFromToIndex_8c36e 23 = .ok (.ireturn, 1) := by decide +kernel
theorem dL_law_0 : decode cL_law 0 = .ok (.new 7, 3) := by decide +kernel
theorem dL_law_3 : decode cL_law 3 = .ok (.dup, 1) := by decide +kernel
theorem dL_law_4 : decode cL_law 4 = .ok (.invokespecial 9, 3) := by decide +kernel
theorem dL_law_7 : decode cL_law 7 = .ok (.astore_n 1, 1) := by decide +kernel
theorem dL_law_8 : decode cL_law 8 = .ok (.new 10, 3) := by decide +kernel
theorem dL_law_11 : decode cL_law 11 = .ok (.dup, 1) := by decide +kernel
theorem dL_law_12 : decode cL_law 12 = .ok (.invokespecial 12, 3) := by decide +kernel
theorem dL_law_15 : decode cL_law 15 = .ok (.astore_n 2, 1) := by decide +kernel
theorem dL_law_16 : decode cL_law 16 = .ok (.iconst 0, 1) := by decide +kernel
theorem dL_law_17 : decode cL_law 17 = .ok (.istore_n 3, 1) := by decide +kernel
theorem dL_law_18 : decode cL_law 18 = .ok (.iload_n 3, 1) := by decide +kernel
theorem dL_law_19 : decode cL_law 19 = .ok (.aload_n 0, 1) := by decide +kernel
theorem dL_law_20 : decode cL_law 20 = .ok (.arraylength, 1) := by decide +kernel
theorem dL_law_21 : decode cL_law 21 = .ok (.bipush 6, 2) := by decide +kernel
theorem dL_law_23 : decode cL_law 23 = .ok (.isub, 1) := by decide +kernel
theorem dL_law_24 : decode cL_law 24 = .ok (.if_icmp .gt 1454, 3) := by decide +kernel
theorem dL_law_27 : decode cL_law 27 = .ok (.aload_n 0, 1) := by decide +kernel
theorem dL_law_28 : decode cL_law 28 = .ok (.iload_n 3, 1) := by decide +kernel
theorem dL_law_29 : decode cL_law 29 = .ok (.iaload, 1) := by decide +kernel
theorem dL_law_30 : decode cL_law 30 = .ok (.bipush 63, 2) := by decide +kernel
theorem dL_law_32 : decode cL_law 32 = .ok (.iand, 1) := by decide +kernel
theorem dL_law_33 : decode cL_law 33 = .ok (.tableswitch 1439 0 36 #[163, 176, 219, 292, 326, 389, 422, 455, 488, 511, 544, 578, 611, 655, 699, 762, 795, 818, 841, 904, 937, 970, 993, 1026, 1039, 1062, 1085, 1118, 1141, 1165, 1208, 1231, 1254, 1297, 1310, 1363, 1396], 163) := by decide +kernel
theorem dL_law_196 : decode cL_law 196 = .ok (.aload_n 1, 1) := by decide +kernel
theorem dL_law_197 : decode cL_law 197 = .ok (.invokevirtual 13, 3) := by decide +kernel
theorem dL_law_200 : decode cL_law 200 = .ok (.aload_n 2, 1) := by decide +kernel
theorem dL_law_201 : decode cL_law 201 = .ok (.invokevirtual 17, 3) := by decide +kernel
theorem dL_law_204 : decode cL_law 204 = .ok (.if_icmp .eq 1268, 3) := by decide +kernel
theorem dL_law_207 : decode cL_law 207 = .ok (.iconst 0, 1) := by decide +kernel
theorem dL_law_208 : decode cL_law 208 = .ok (.ireturn, 1) := by decide +kernel
theorem dL_law_209 : decode cL_law 209 = .ok (.aload_n 1, 1) := by decide +kernel
theorem dL_law_210 : decode cL_law 210 = .ok (.aload_n 0, 1) := by decide +kernel
theorem dL_law_211 : decode cL_law 211 = .ok (.iload_n 3, 1) := by decide +kernel
theorem dL_law_212 : decode cL_law 212 = .ok (.iconst 1, 1) := by decide +kernel
theorem dL_law_213 : decode cL_law 213 = .ok (.iadd, 1) := by decide +kernel
theorem dL_law_214 : decode cL_law 214 = .ok (.iaload, 1) := by decide +kernel
theorem dL_law_215 : decode cL_law 215 = .ok (.aload_n 0, 1) := by decide +kernel
theorem dL_law_216 : decode cL_law 216 = .ok (.iload_n 3, 1) := by decide +kernel
theorem dL_law_217 : decode cL_law 217 = .ok (.iconst 2, 1) := by decide +kernel
theorem dL_law_218 : decode cL_law 218 = .ok (.iadd, 1) := by decide +kernel
theorem dL_law_219 : decode cL_law 219 = .ok (.iaload, 1) := by decide +kernel
theorem dL_law_220 : decode cL_law 220 = .ok (.aload_n 0, 1) := by decide +kernel
theorem dL_law_221 : decode cL_law 221 = .ok (.iload_n 3, 1) := by decide +kernel
theorem dL_law_222 : decode cL_law 222 = .ok (.iconst 3, 1) := by decide +kernel
theorem dL_law_223 : decode cL_law 223 = .ok (.iadd, 1) := by decide +kernel
theorem dL_law_224 : decode cL_law 224 = .ok (.iaload, 1) := by decide +kernel
theorem dL_law_225 : decode cL_law 225 = .ok (.invokevirtual 18, 3) := by decide +kernel
theorem dL_law_228 : decode cL_law 228 = .ok (.aload_n 2, 1) := by decide +kernel
theorem dL_law_229 : decode cL_law 229 = .ok (.aload_n 0, 1) := by decide +kernel
theorem dL_law_230 : decode cL_law 230 = .ok (.iload_n 3, 1) := by decide +kernel
theorem dL_law_231 : decode cL_law 231 = .ok (.iconst 1, 1) := by decide +kernel
theorem dL_law_232 : decode cL_law 232 = .ok (.iadd, 1) := by decide +kernel
theorem dL_law_233 : decode cL_law 233 = .ok (.iaload, 1) := by decide +kernel
theorem dL_law_234 : decode cL_law 234 = .ok (.aload_n 0, 1) := by decide +kernel
theorem dL_law_235 : decode cL_law 235 = .ok (.iload_n 3, 1) := by decide +kernel
theorem dL_law_236 : decode cL_law 236 = .ok (.iconst 2, 1) := by decide +kernel
theorem dL_law_237 : decode cL_law 237 = .ok (.iadd, 1) := by decide +kernel
theorem dL_law_238 : decode cL_law 238 = .ok (.iaload, 1) := by decide +kernel
theorem dL_law_239 : decode cL_law 239 = .ok (.aload_n 0, 1) := by decide +kernel
theorem dL_law_240 : decode cL_law 240 = .ok (.iload_n 3, 1) := by decide +kernel
theorem dL_law_241 : decode cL_law 241 = .ok (.iconst 3, 1) := by decide +kernel
theorem dL_law_242 : decode cL_law 242 = .ok (.iadd, 1) := by decide +kernel
theorem dL_law_243 : decode cL_law 243 = .ok (.iaload, 1) := by decide +kernel
theorem dL_law_244 : decode cL_law 244 = .ok (.invokevirtual 22, 3) := by decide +kernel
theorem dL_law_247 : decode cL_law 247 = .ok (.if_icmp .eq 1225, 3) := by decide +kernel
theorem dL_law_250 : decode cL_law 250 = .ok (.iconst 0, 1) := by decide +kernel
theorem dL_law_251 : decode cL_law 251 = .ok (.ireturn, 1) := by decide +kernel
theorem dL_law_252 : decode cL_law 252 = .ok (.aload_n 1, 1) := by decide +kernel
theorem dL_law_253 : decode cL_law 253 = .ok (.aload_n 0, 1) := by decide +kernel
theorem dL_law_254 : decode cL_law 254 = .ok (.iload_n 3, 1) := by decide +kernel
theorem dL_law_255 : decode cL_law 255 = .ok (.iconst 1, 1) := by decide +kernel
theorem dL_law_256 : decode cL_law 256 = .ok (.iadd, 1) := by decide +kernel
theorem dL_law_257 : decode cL_law 257 = .ok (.iaload, 1) := by decide +kernel
theorem dL_law_258 : decode cL_law 258 = .ok (.aload_n 0, 1) := by decide +kernel
theorem dL_law_259 : decode cL_law 259 = .ok (.iload_n 3, 1) := by decide +kernel
theorem dL_law_260 : decode cL_law 260 = .ok (.iconst 2, 1) := by decide +kernel
theorem dL_law_261 : decode cL_law 261 = .ok (.iadd, 1) := by decide +kernel
theorem dL_law_262 : decode cL_law 262 = .ok (.iaload, 1) := by decide +kernel
theorem dL_law_263 : decode cL_law 263 = .ok (.aload_n 0, 1) := by decide +kernel
theorem dL_law_264 : decode cL_law 264 = .ok (.iload_n 3, 1) := by decide +kernel
theorem dL_law_265 : decode cL_law 265 = .ok (.iconst 3, 1) := by decide +kernel
theorem dL_law_266 : decode cL_law 266 = .ok (.iadd, 1) := by decide +kernel
theorem dL_law_267 : decode cL_law 267 = .ok (.iaload, 1) := by decide +kernel
theorem dL_law_268 : decode cL_law 268 = .ok (.i2l, 1) := by decide +kernel
theorem dL_law_269 : decode cL_law 269 = .ok (.bipush 32, 2) := by decide +kernel
theorem dL_law_271 : decode cL_law 271 = .ok (.lshl, 1) := by decide +kernel
theorem dL_law_272 : decode cL_law 272 = .ok (.aload_n 0, 1) := by decide +kernel
theorem dL_law_273 : decode cL_law 273 = .ok (.iload_n 3, 1) := by decide +kernel
theorem dL_law_274 : decode cL_law 274 = .ok (.iconst 4, 1) := by decide +kernel
theorem dL_law_275 : decode cL_law 275 = .ok (.iadd, 1) := by decide +kernel
theorem dL_law_276 : decode cL_law 276 = .ok (.iaload, 1) := by decide +kernel
theorem dL_law_277 : decode cL_law 277 = .ok (.i2l, 1) := by decide +kernel
theorem dL_law_278 : decode cL_law 278 = .ok (.ldc2_w 23, 3) := by decide +kernel
theorem dL_law_281 : decode cL_law 281 = .ok (.land, 1) := by decide +kernel
theorem dL_law_282 : decode cL_law 282 = .ok (.lor, 1) := by decide +kernel
theorem dL_law_283 : decode cL_law 283 = .ok (.invokevirtual 25, 3) := by decide +kernel
theorem dL_law_286 : decode cL_law 286 = .ok (.aload_n 2, 1) := by decide +kernel
theorem dL_law_287 : decode cL_law 287 = .ok (.aload_n 0, 1) := by decide +kernel
theorem dL_law_288 : decode cL_law 288 = .ok (.iload_n 3, 1) := by decide +kernel
theorem dL_law_289 : decode cL_law 289 = .ok (.iconst 1, 1) := by decide +kernel
theorem dL_law_290 : decode cL_law 290 = .ok (.iadd, 1) := by decide +kernel
theorem dL_law_291 : decode cL_law 291 = .ok (.iaload, 1) := by decide +kernel
theorem dL_law_292 : decode cL_law 292 = .ok (.aload_n 0, 1) := by decide +kernel
theorem dL_law_293 : decode cL_law 293 = .ok (.iload_n 3, 1) := by decide +kernel
theorem dL_law_294 : decode cL_law 294 = .ok (.iconst 2, 1) := by decide +kernel
theorem dL_law_295 : decode cL_law 295 = .ok (.iadd, 1) := by decide +kernel
theorem dL_law_296 : decode cL_law 296 = .ok (.iaload, 1) := by decide +kernel
theorem dL_law_297 : decode cL_law 297 = .ok (.aload_n 0, 1) := by decide +kernel
theorem dL_law_298 : decode cL_law 298 = .ok (.iload_n 3, 1) := by decide +kernel
theorem dL_law_299 : decode cL_law 299 = .ok (.iconst 3, 1) := by decide +kernel
theorem dL_law_300 : decode cL_law 300 = .ok (.iadd, 1) := by decide +kernel
theorem dL_law_301 : decode cL_law 301 = .ok (.iaload, 1) := by decide +kernel
theorem dL_law_302 : decode cL_law 302 = .ok (.i2l, 1) := by decide +kernel
theorem dL_law_303 : decode cL_law 303 = .ok (.bipush 32, 2) := by decide +kernel
theorem dL_law_305 : decode cL_law 305 = .ok (.lshl, 1) := by decide +kernel
theorem dL_law_306 : decode cL_law 306 = .ok (.aload_n 0, 1) := by decide +kernel
theorem dL_law_307 : decode cL_law 307 = .ok (.iload_n 3, 1) := by decide +kernel
theorem dL_law_308 : decode cL_law 308 = .ok (.iconst 4, 1) := by decide +kernel
theorem dL_law_309 : decode cL_law 309 = .ok (.iadd, 1) := by decide +kernel
theorem dL_law_310 : decode cL_law 310 = .ok (.iaload, 1) := by decide +kernel
theorem dL_law_311 : decode cL_law 311 = .ok (.i2l, 1) := by decide +kernel
theorem dL_law_312 : decode cL_law 312 = .ok (.ldc2_w 23, 3) := by decide +kernel
theorem dL_law_315 : decode cL_law 315 = .ok (.land, 1) := by decide +kernel
theorem dL_law_316 : decode cL_law 316 = .ok (.lor, 1) := by decide +kernel
theorem dL_law_317 : decode cL_law 317 = .ok (.invokevirtual 29, 3) := by decide +kernel
theorem dL_law_320 : decode cL_law 320 = .ok (.if_icmp .eq 1152, 3) := by decide +kernel
theorem dL_law_323 : decode cL_law 323 = .ok (.iconst 0, 1) := by decide +kernel
theorem dL_law_324 : decode cL_law 324 = .ok (.ireturn, 1) := by decide +kernel
theorem dL_law_325 : decode cL_law 325 = .ok (.aload_n 1, 1) := by decide +kernel
theorem dL_law_326 : decode cL_law 326 = .ok (.aload_n 0, 1) := by decide +kernel
theorem dL_law_327 : decode cL_law 327 = .ok (.iload_n 3, 1) := by decide +kernel
theorem dL_law_328 : decode cL_law 328 = .ok (.iconst 1, 1) := by decide +kernel
theorem dL_law_329 : decode cL_law 329 = .ok (.iadd, 1) := by decide +kernel
theorem dL_law_330 : decode cL_law 330 = .ok (.iaload, 1) := by decide +kernel
theorem dL_law_331 : decode cL_law 331 = .ok (.aload_n 0, 1) := by decide +kernel
theorem dL_law_332 : decode cL_law 332 = .ok (.iload_n 3, 1) := by decide +kernel
theorem dL_law_333 : decode cL_law 333 = .ok (.iconst 2, 1) := by decide +kernel
theorem dL_law_334 : decode cL_law 334 = .ok (.iadd, 1) := by decide +kernel
theorem dL_law_335 : decode cL_law 335 = .ok (.iaload, 1) := by decide +kernel
theorem dL_law_336 : decode cL_law 336 = .ok (.invokevirtual 30, 3) := by decide +kernel
theorem dL_law_339 : decode cL_law 339 = .ok (.aload_n 2, 1) := by decide +kernel
theorem dL_law_340 : decode cL_law 340 = .ok (.aload_n 0, 1) := by decide +kernel
theorem dL_law_341 : decode cL_law 341 = .ok (.iload_n 3, 1) := by decide +kernel
theorem dL_law_342 : decode cL_law 342 = .ok (.iconst 1, 1) := by decide +kernel
theorem dL_law_343 : decode cL_law 343 = .ok (.iadd, 1) := by decide +kernel
theorem dL_law_344 : decode cL_law 344 = .ok (.iaload, 1) := by decide +kernel
theorem dL_law_345 : decode cL_law 345 = .ok (.aload_n 0, 1) := by decide +kernel
theorem dL_law_346 : decode cL_law 346 = .ok (.iload_n 3, 1) := by decide +kernel
theorem dL_law_347 : decode cL_law 347 = .ok (.iconst 2, 1) := by decide +kernel
theorem dL_law_348 : decode cL_law 348 = .ok (.iadd, 1) := by decide +kernel
theorem dL_law_349 : decode cL_law 349 = .ok (.iaload, 1) := by decide +kernel
theorem dL_law_350 : decode cL_law 350 = .ok (.invokevirtual 34, 3) := by decide +kernel
theorem dL_law_353 : decode cL_law 353 = .ok (.lcmp, 1) := by decide +kernel
theorem dL_law_354 : decode cL_law 354 = .ok (.ifCond .eq 1118, 3) := by decide +kernel
theorem dL_law_357 : decode cL_law 357 = .ok (.iconst 0, 1) := by decide +kernel
theorem dL_law_358 : decode cL_law 358 = .ok (.ireturn, 1) := by decide +kernel
theorem dL_law_359 : decode cL_law 359 = .ok (.aload_n 1, 1) := by decide +kernel
theorem dL_law_360 : decode cL_law 360 = .ok (.aload_n 0, 1) := by decide +kernel
theorem dL_law_361 : decode cL_law 361 = .ok (.iload_n 3, 1) := by decide +kernel
theorem dL_law_362 : decode cL_law 362 = .ok (.iconst 1, 1) := by decide +kernel
theorem dL_law_363 : decode cL_law 363 = .ok (.iadd, 1) := by decide +kernel
theorem dL_law_364 : decode cL_law 364 = .ok (.iaload, 1) := by decide +kernel
theorem dL_law_365 : decode cL_law 365 = .ok (.aload_n 0, 1) := by decide +kernel
theorem dL_law_366 : decode cL_law 366 = .ok (.iload_n 3, 1) := by decide +kernel
theorem dL_law_367 : decode cL_law 367 = .ok (.iconst 2, 1) := by decide +kernel
theorem dL_law_368 : decode cL_law 368 = .ok (.iadd, 1) := by decide +kernel
theorem dL_law_369 : decode cL_law 369 = .ok (.iaload, 1) := by decide +kernel
theorem dL_law_370 : decode cL_law 370 = .ok (.aload_n 0, 1) := by decide +kernel
theorem dL_law_371 : decode cL_law 371 = .ok (.iload_n 3, 1) := by decide +kernel
theorem dL_law_372 : decode cL_law 372 = .ok (.iconst 3, 1) := by decide +kernel
theorem dL_law_373 : decode cL_law 373 = .ok (.iadd, 1) := by decide +kernel
theorem dL_law_374 : decode cL_law 374 = .ok (.iaload, 1) := by decide +kernel
theorem dL_law_375 : decode cL_law 375 = .ok (.aload_n 0, 1) := by decide +kernel
theorem dL_law_376 : decode cL_law 376 = .ok (.iload_n 3, 1) := by decide +kernel
theorem dL_law_377 : decode cL_law 377 = .ok (.iconst 4, 1) := by decide +kernel
theorem dL_law_378 : decode cL_law 378 = .ok (.iadd, 1) := by decide +kernel
theorem dL_law_379 : decode cL_law 379 = .ok (.iaload, 1) := by decide +kernel
theorem dL_law_380 : decode cL_law 380 = .ok (.aload_n 0, 1) := by decide +kernel
theorem dL_law_381 : decode cL_law 381 = .ok (.iload_n 3, 1) := by decide +kernel
theorem dL_law_382 : decode cL_law 382 = .ok (.iconst 5, 1) := by decide +kernel
theorem dL_law_383 : decode cL_law 383 = .ok (.iadd, 1) := by decide +kernel
theorem dL_law_384 : decode cL_law 384 = .ok (.iaload, 1) := by decide +kernel
theorem dL_law_385 : decode cL_law 385 = .ok (.invokevirtual 35, 3) := by decide +kernel
theorem dL_law_388 : decode cL_law 388 = .ok (.aload_n 2, 1) := by decide +kernel
theorem dL_law_389 : decode cL_law 389 = .ok (.aload_n 0, 1) := by decide +kernel
theorem dL_law_390 : decode cL_law 390 = .ok (.iload_n 3, 1) := by decide +kernel
theorem dL_law_391 : decode cL_law 391 = .ok (.iconst 1, 1) := by decide +kernel
theorem dL_law_392 : decode cL_law 392 = .ok (.iadd, 1) := by decide +kernel
theorem dL_law_393 : decode cL_law 393 = .ok (.iaload, 1) := by decide +kernel
theorem dL_law_394 : decode cL_law 394 = .ok (.aload_n 0, 1) := by decide +kernel
theorem dL_law_395 : decode cL_law 395 = .ok (.iload_n 3, 1) := by decide +kernel
theorem dL_law_396 : decode cL_law 396 = .ok (.iconst 2, 1) := by decide +kernel
theorem dL_law_397 : decode cL_law 397 = .ok (.iadd, 1) := by decide +kernel
theorem dL_law_398 : decode cL_law 398 = .ok (.iaload, 1) := by decide +kernel
theorem dL_law_399 : decode cL_law 399 = .ok (.aload_n 0, 1) := by decide +kernel
theorem dL_law_400 : decode cL_law 400 = .ok (.iload_n 3, 1) := by decide +kernel
theorem dL_law_401 : decode cL_law 401 = .ok (.iconst 3, 1) := by decide +kernel
theorem dL_law_402 : decode cL_law 402 = .ok (.iadd, 1) := by decide +kernel
theorem dL_law_403 : decode cL_law 403 = .ok (.iaload, 1) := by decide +kernel
theorem dL_law_404 : decode cL_law 404 = .ok (.aload_n 0, 1) := by decide +kernel
theorem dL_law_405 : decode cL_law 405 = .ok (.iload_n 3, 1) := by decide +kernel
theorem dL_law_406 : decode cL_law 406 = .ok (.iconst 4, 1) := by decide +kernel
theorem dL_law_407 : decode cL_law 407 = .ok (.iadd, 1) := by decide +kernel
theorem dL_law_408 : decode cL_law 408 = .ok (.iaload, 1) := by decide +kernel
theorem dL_law_409 : decode cL_law 409 = .ok (.aload_n 0, 1) := by decide +kernel
theorem dL_law_410 : decode cL_law 410 = .ok (.iload_n 3, 1) := by decide +kernel
theorem dL_law_411 : decode cL_law 411 = .ok (.iconst 5, 1) := by decide +kernel
theorem dL_law_412 : decode cL_law 412 = .ok (.iadd, 1) := by decide +kernel
theorem dL_law_413 : decode cL_law 413 = .ok (.iaload, 1) := by decide +kernel
theorem dL_law_414 : decode cL_law 414 = .ok (.invokevirtual 39, 3) := by decide +kernel
theorem dL_law_417 : decode cL_law 417 = .ok (.if_icmp .eq 1055, 3) := by decide +kernel
theorem dL_law_420 : decode cL_law 420 = .ok (.iconst 0, 1) := by decide +kernel
theorem dL_law_421 : decode cL_law 421 = .ok (.ireturn, 1) := by decide +kernel
theorem dL_law_422 : decode cL_law 422 = .ok (.aload_n 1, 1) := by decide +kernel
theorem dL_law_423 : decode cL_law 423 = .ok (.aload_n 0, 1) := by decide +kernel
theorem dL_law_424 : decode cL_law 424 = .ok (.iload_n 3, 1) := by decide +kernel
theorem dL_law_425 : decode cL_law 425 = .ok (.iconst 1, 1) := by decide +kernel
theorem dL_law_426 : decode cL_law 426 = .ok (.iadd, 1) := by decide +kernel
theorem dL_law_427 : decode cL_law 427 = .ok (.iaload, 1) := by decide +kernel
theorem dL_law_428 : decode cL_law 428 = .ok (.aload_n 0, 1) := by decide +kernel
theorem dL_law_429 : decode cL_law 429 = .ok (.iload_n 3, 1) := by decide +kernel
theorem dL_law_430 : decode cL_law 430 = .ok (.iconst 2, 1) := by decide +kernel
theorem dL_law_431 : decode cL_law 431 = .ok (.iadd, 1) := by decide +kernel
theorem dL_law_432 : decode cL_law 432 = .ok (.iaload, 1) := by decide +kernel
theorem dL_law_433 : decode cL_law 433 = .ok (.invokevirtual 40, 3) := by decide +kernel
theorem dL_law_436 : decode cL_law 436 = .ok (.aload_n 2, 1) := by decide +kernel
theorem dL_law_437 : decode cL_law 437 = .ok (.aload_n 0, 1) := by decide +kernel
theorem dL_law_438 : decode cL_law 438 = .ok (.iload_n 3, 1) := by decide +kernel
theorem dL_law_439 : decode cL_law 439 = .ok (.iconst 1, 1) := by decide +kernel
theorem dL_law_440 : decode cL_law 440 = .ok (.iadd, 1) := by decide +kernel
theorem dL_law_441 : decode cL_law 441 = .ok (.iaload, 1) := by decide +kernel
theorem dL_law_442 : decode cL_law 442 = .ok (.aload_n 0, 1) := by decide +kernel
theorem dL_law_443 : decode cL_law 443 = .ok (.iload_n 3, 1) := by decide +kernel
theorem dL_law_444 : decode cL_law 444 = .ok (.iconst 2, 1) := by decide +kernel
theorem dL_law_445 : decode cL_law 445 = .ok (.iadd, 1) := by decide +kernel
theorem dL_law_446 : decode cL_law 446 = .ok (.iaload, 1) := by decide +kernel
theorem dL_law_447 : decode cL_law 447 = .ok (.invokevirtual 44, 3) := by decide +kernel
theorem dL_law_450 : decode cL_law 450 = .ok (.if_icmp .eq 1022, 3) := by decide +kernel
theorem dL_law_453 : decode cL_law 453 = .ok (.iconst 0, 1) := by decide +kernel
theorem dL_law_454 : decode cL_law 454 = .ok (.ireturn, 1) := by decide +kernel
theorem dL_law_455 : decode cL_law 455 = .ok (.aload_n 1, 1) := by decide +kernel
theorem dL_law_456 : decode cL_law 456 = .ok (.aload_n 0, 1) := by decide +kernel
theorem dL_law_457 : decode cL_law 457 = .ok (.iload_n 3, 1) := by decide +kernel
theorem dL_law_458 : decode cL_law 458 = .ok (.iconst 1, 1) := by decide +kernel
theorem dL_law_459 : decode cL_law 459 = .ok (.iadd, 1) := by decide +kernel
theorem dL_law_460 : decode cL_law 460 = .ok (.iaload, 1) := by decide +kernel
theorem dL_law_461 : decode cL_law 461 = .ok (.aload_n 0, 1) := by decide +kernel
theorem dL_law_462 : decode cL_law 462 = .ok (.iload_n 3, 1) := by decide +kernel
theorem dL_law_463 : decode cL_law 463 = .ok (.iconst 2, 1) := by decide +kernel
theorem dL_law_464 : decode cL_law 464 = .ok (.iadd, 1) := by decide +kernel
theorem dL_law_465 : decode cL_law 465 = .ok (.iaload, 1) := by decide +kernel
theorem dL_law_466 : decode cL_law 466 = .ok (.invokevirtual 45, 3) := by decide +kernel
theorem dL_law_469 : decode cL_law 469 = .ok (.aload_n 2, 1) := by decide +kernel
theorem dL_law_470 : decode cL_law 470 = .ok (.aload_n 0, 1) := by decide +kernel
theorem dL_law_471 : decode cL_law 471 = .ok (.iload_n 3, 1) := by decide +kernel
theorem dL_law_472 : decode cL_law 472 = .ok (.iconst 1, 1) := by decide +kernel
theorem dL_law_473 : decode cL_law 473 = .ok (.iadd, 1) := by decide +kernel
theorem dL_law_474 : decode cL_law 474 = .ok (.iaload, 1) := by decide +kernel
theorem dL_law_475 : decode cL_law 475 = .ok (.aload_n 0, 1) := by decide +kernel
theorem dL_law_476 : decode cL_law 476 = .ok (.iload_n 3, 1) := by decide +kernel
theorem dL_law_477 : decode cL_law 477 = .ok (.iconst 2, 1) := by decide +kernel
theorem dL_law_478 : decode cL_law 478 = .ok (.iadd, 1) := by decide +kernel
theorem dL_law_479 : decode cL_law 479 = .ok (.iaload, 1) := by decide +kernel
theorem dL_law_480 : decode cL_law 480 = .ok (.invokevirtual 49, 3) := by decide +kernel
theorem dL_law_483 : decode cL_law 483 = .ok (.if_icmp .eq 989, 3) := by decide +kernel
theorem dL_law_486 : decode cL_law 486 = .ok (.iconst 0, 1) := by decide +kernel
theorem dL_law_487 : decode cL_law 487 = .ok (.ireturn, 1) := by decide +kernel
theorem dL_law_488 : decode cL_law 488 = .ok (.aload_n 1, 1) := by decide +kernel
theorem dL_law_489 : decode cL_law 489 = .ok (.aload_n 0, 1) := by decide +kernel
theorem dL_law_490 : decode cL_law 490 = .ok (.iload_n 3, 1) := by decide +kernel
theorem dL_law_491 : decode cL_law 491 = .ok (.iconst 1, 1) := by decide +kernel
theorem dL_law_492 : decode cL_law 492 = .ok (.iadd, 1) := by decide +kernel
theorem dL_law_493 : decode cL_law 493 = .ok (.iaload, 1) := by decide +kernel
theorem dL_law_494 : decode cL_law 494 = .ok (.aload_n 0, 1) := by decide +kernel
theorem dL_law_495 : decode cL_law 495 = .ok (.iload_n 3, 1) := by decide +kernel
theorem dL_law_496 : decode cL_law 496 = .ok (.iconst 2, 1) := by decide +kernel
theorem dL_law_497 : decode cL_law 497 = .ok (.iadd, 1) := by decide +kernel
theorem dL_law_498 : decode cL_law 498 = .ok (.iaload, 1) := by decide +kernel
theorem dL_law_499 : decode cL_law 499 = .ok (.invokevirtual 50, 3) := by decide +kernel
theorem dL_law_502 : decode cL_law 502 = .ok (.aload_n 2, 1) := by decide +kernel
theorem dL_law_503 : decode cL_law 503 = .ok (.aload_n 0, 1) := by decide +kernel
theorem dL_law_504 : decode cL_law 504 = .ok (.iload_n 3, 1) := by decide +kernel
theorem dL_law_505 : decode cL_law 505 = .ok (.iconst 1, 1) := by decide +kernel
theorem dL_law_506 : decode cL_law 506 = .ok (.iadd, 1) := by decide +kernel
theorem dL_law_507 : decode cL_law 507 = .ok (.iaload, 1) := by decide +kernel
theorem dL_law_508 : decode cL_law 508 = .ok (.aload_n 0, 1) := by decide +kernel
theorem dL_law_509 : decode cL_law 509 = .ok (.iload_n 3, 1) := by decide +kernel
theorem dL_law_510 : decode cL_law 510 = .ok (.iconst 2, 1) := by decide +kernel
theorem dL_law_511 : decode cL_law 511 = .ok (.iadd, 1) := by decide +kernel
theorem dL_law_512 : decode cL_law 512 = .ok (.iaload, 1) := by decide +kernel
theorem dL_law_513 : decode cL_law 513 = .ok (.invokevirtual 53, 3) := by decide +kernel
theorem dL_law_516 : decode cL_law 516 = .ok (.if_icmp .eq 956, 3) := by decide +kernel
theorem dL_law_519 : decode cL_law 519 = .ok (.iconst 0, 1) := by decide +kernel
theorem dL_law_520 : decode cL_law 520 = .ok (.ireturn, 1) := by decide +kernel
theorem dL_law_521 : decode cL_law 521 = .ok (.aload_n 1, 1) := by decide +kernel
theorem dL_law_522 : decode cL_law 522 = .ok (.aload_n 0, 1) := by decide +kernel
theorem dL_law_523 : decode cL_law 523 = .ok (.iload_n 3, 1) := by decide +kernel
theorem dL_law_524 : decode cL_law 524 = .ok (.iconst 1, 1) := by decide +kernel
theorem dL_law_525 : decode cL_law 525 = .ok (.iadd, 1) := by decide +kernel
theorem dL_law_526 : decode cL_law 526 = .ok (.iaload, 1) := by decide +kernel
theorem dL_law_527 : decode cL_law 527 = .ok (.invokevirtual 54, 3) := by decide +kernel
theorem dL_law_530 : decode cL_law 530 = .ok (.aload_n 2, 1) := by decide +kernel
theorem dL_law_531 : decode cL_law 531 = .ok (.aload_n 0, 1) := by decide +kernel
theorem dL_law_532 : decode cL_law 532 = .ok (.iload_n 3, 1) := by decide +kernel
theorem dL_law_533 : decode cL_law 533 = .ok (.iconst 1, 1) := by decide +kernel
theorem dL_law_534 : decode cL_law 534 = .ok (.iadd, 1) := by decide +kernel
theorem dL_law_535 : decode cL_law 535 = .ok (.iaload, 1) := by decide +kernel
theorem dL_law_536 : decode cL_law 536 = .ok (.invokevirtual 58, 3) := by decide +kernel
theorem dL_law_539 : decode cL_law 539 = .ok (.if_icmp .eq 933, 3) := by decide +kernel
theorem dL_law_542 : decode cL_law 542 = .ok (.iconst 0, 1) := by decide +kernel
theorem dL_law_543 : decode cL_law 543 = .ok (.ireturn, 1) := by decide +kernel
theorem dL_law_544 : decode cL_law 544 = .ok (.aload_n 1, 1) := by decide +kernel
theorem dL_law_545 : decode cL_law 545 = .ok (.aload_n 0, 1) := by decide +kernel
theorem dL_law_546 : decode cL_law 546 = .ok (.iload_n 3, 1) := by decide +kernel
theorem dL_law_547 : decode cL_law 547 = .ok (.iconst 1, 1) := by decide +kernel
theorem dL_law_548 : decode cL_law 548 = .ok (.iadd, 1) := by decide +kernel
theorem dL_law_549 : decode cL_law 549 = .ok (.iaload, 1) := by decide +kernel
theorem dL_law_550 : decode cL_law 550 = .ok (.aload_n 0, 1) := by decide +kernel
theorem dL_law_551 : decode cL_law 551 = .ok (.iload_n 3, 1) := by decide +kernel
theorem dL_law_552 : decode cL_law 552 = .ok (.iconst 2, 1) := by decide +kernel
theorem dL_law_553 : decode cL_law 553 = .ok (.iadd, 1) := by decide +kernel
theorem dL_law_554 : decode cL_law 554 = .ok (.iaload, 1) := by decide +kernel
theorem dL_law_555 : decode cL_law 555 = .ok (.invokevirtual 59, 3) := by decide +kernel
theorem dL_law_558 : decode cL_law 558 = .ok (.aload_n 2, 1) := by decide +kernel
theorem dL_law_559 : decode cL_law 559 = .ok (.aload_n 0, 1) := by decide +kernel
theorem dL_law_560 : decode cL_law 560 = .ok (.iload_n 3, 1) := by decide +kernel
theorem dL_law_561 : decode cL_law 561 = .ok (.iconst 1, 1) := by decide +kernel
theorem dL_law_562 : decode cL_law 562 = .ok (.iadd, 1) := by decide +kernel
theorem dL_law_563 : decode cL_law 563 = .ok (.iaload, 1) := by decide +kernel
theorem dL_law_564 : decode cL_law 564 = .ok (.aload_n 0, 1) := by decide +kernel
theorem dL_law_565 : decode cL_law 565 = .ok (.iload_n 3, 1) := by decide +kernel
theorem dL_law_566 : decode cL_law 566 = .ok (.iconst 2, 1) := by decide +kernel
theorem dL_law_567 : decode cL_law 567 = .ok (.iadd, 1) := by decide +kernel
theorem dL_law_568 : decode cL_law 568 = .ok (.iaload, 1) := by decide +kernel
theorem dL_law_569 : decode cL_law 569 = .ok (.invokevirtual 62, 3) := by decide +kernel
theorem dL_law_572 : decode cL_law 572 = .ok (.if_icmp .eq 900, 3) := by decide +kernel
theorem dL_law_575 : decode cL_law 575 = .ok (.iconst 0, 1) := by decide +kernel
theorem dL_law_576 : decode cL_law 576 = .ok (.ireturn, 1) := by decide +kernel
theorem dL_law_577 : decode cL_law 577 = .ok (.aload_n 1, 1) := by decide +kernel
theorem dL_law_578 : decode cL_law 578 = .ok (.aload_n 0, 1) := by decide +kernel
theorem dL_law_579 : decode cL_law 579 = .ok (.iload_n 3, 1) := by decide +kernel
theorem dL_law_580 : decode cL_law 580 = .ok (.iconst 1, 1) := by decide +kernel
theorem dL_law_581 : decode cL_law 581 = .ok (.iadd, 1) := by decide +kernel
theorem dL_law_582 : decode cL_law 582 = .ok (.iaload, 1) := by decide +kernel
theorem dL_law_583 : decode cL_law 583 = .ok (.aload_n 0, 1) := by decide +kernel
theorem dL_law_584 : decode cL_law 584 = .ok (.iload_n 3, 1) := by decide +kernel
theorem dL_law_585 : decode cL_law 585 = .ok (.iconst 2, 1) := by decide +kernel
theorem dL_law_586 : decode cL_law 586 = .ok (.iadd, 1) := by decide +kernel
theorem dL_law_587 : decode cL_law 587 = .ok (.iaload, 1) := by decide +kernel
theorem dL_law_588 : decode cL_law 588 = .ok (.invokevirtual 63, 3) := by decide +kernel
theorem dL_law_591 : decode cL_law 591 = .ok (.aload_n 2, 1) := by decide +kernel
theorem dL_law_592 : decode cL_law 592 = .ok (.aload_n 0, 1) := by decide +kernel
theorem dL_law_593 : decode cL_law 593 = .ok (.iload_n 3, 1) := by decide +kernel
theorem dL_law_594 : decode cL_law 594 = .ok (.iconst 1, 1) := by decide +kernel
theorem dL_law_595 : decode cL_law 595 = .ok (.iadd, 1) := by decide +kernel
theorem dL_law_596 : decode cL_law 596 = .ok (.iaload, 1) := by decide +kernel
theorem dL_law_597 : decode cL_law 597 = .ok (.aload_n 0, 1) := by decide +kernel
theorem dL_law_598 : decode cL_law 598 = .ok (.iload_n 3, 1) := by decide +kernel
theorem dL_law_599 : decode cL_law 599 = .ok (.iconst 2, 1) := by decide +kernel
theorem dL_law_600 : decode cL_law 600 = .ok (.iadd, 1) := by decide +kernel
theorem dL_law_601 : decode cL_law 601 = .ok (.iaload, 1) := by decide +kernel
theorem dL_law_602 : decode cL_law 602 = .ok (.invokevirtual 66, 3) := by decide +kernel
theorem dL_law_605 : decode cL_law 605 = .ok (.lcmp, 1) := by decide +kernel
theorem dL_law_606 : decode cL_law 606 = .ok (.ifCond .eq 866, 3) := by decide +kernel
theorem dL_law_609 : decode cL_law 609 = .ok (.iconst 0, 1) := by decide +kernel
theorem dL_law_610 : decode cL_law 610 = .ok (.ireturn, 1) := by decide +kernel
theorem dL_law_611 : decode cL_law 611 = .ok (.aload_n 1, 1) := by decide +kernel
theorem dL_law_612 : decode cL_law 612 = .ok (.aload_n 0, 1) := by decide +kernel
theorem dL_law_613 : decode cL_law 613 = .ok (.iload_n 3, 1) := by decide +kernel
theorem dL_law_614 : decode cL_law 614 = .ok (.iconst 1, 1) := by decide +kernel
theorem dL_law_615 : decode cL_law 615 = .ok (.iadd, 1) := by decide +kernel
theorem dL_law_616 : decode cL_law 616 = .ok (.iaload, 1) := by decide +kernel
theorem dL_law_617 : decode cL_law 617 = .ok (.aload_n 0, 1) := by decide +kernel
theorem dL_law_618 : decode cL_law 618 = .ok (.iload_n 3, 1) := by decide +kernel
theorem dL_law_619 : decode cL_law 619 = .ok (.iconst 2, 1) := by decide +kernel
theorem dL_law_620 : decode cL_law 620 = .ok (.iadd, 1) := by decide +kernel
theorem dL_law_621 : decode cL_law 621 = .ok (.iaload, 1) := by decide +kernel
theorem dL_law_622 : decode cL_law 622 = .ok (.invokevirtual 67, 3) := by decide +kernel
theorem dL_law_625 : decode cL_law 625 = .ok (.aload_n 2, 1) := by decide +kernel
theorem dL_law_626 : decode cL_law 626 = .ok (.aload_n 0, 1) := by decide +kernel
theorem dL_law_627 : decode cL_law 627 = .ok (.iload_n 3, 1) := by decide +kernel
theorem dL_law_628 : decode cL_law 628 = .ok (.iconst 1, 1) := by decide +kernel
theorem dL_law_629 : decode cL_law 629 = .ok (.iadd, 1) := by decide +kernel
theorem dL_law_630 : decode cL_law 630 = .ok (.iaload, 1) := by decide +kernel
theorem dL_law_631 : decode cL_law 631 = .ok (.aload_n 0, 1) := by decide +kernel
theorem dL_law_632 : decode cL_law 632 = .ok (.iload_n 3, 1) := by decide +kernel
theorem dL_law_633 : decode cL_law 633 = .ok (.iconst 2, 1) := by decide +kernel
theorem dL_law_634 : decode cL_law 634 = .ok (.iadd, 1) := by decide +kernel
theorem dL_law_635 : decode cL_law 635 = .ok (.iaload, 1) := by decide +kernel
theorem dL_law_636 : decode cL_law 636 = .ok (.invokevirtual 70, 3) := by decide +kernel
theorem dL_law_639 : decode cL_law 639 = .ok (.if_icmp .eq 833, 3) := by decide +kernel
theorem dL_law_642 : decode cL_law 642 = .ok (.iconst 0, 1) := by decide +kernel
theorem dL_law_643 : decode cL_law 643 = .ok (.ireturn, 1) := by decide +kernel
theorem dL_law_644 : decode cL_law 644 = .ok (.aload_n 1, 1) := by decide +kernel
theorem dL_law_645 : decode cL_law 645 = .ok (.aload_n 0, 1) := by decide +kernel
theorem dL_law_646 : decode cL_law 646 = .ok (.iload_n 3, 1) := by decide +kernel
theorem dL_law_647 : decode cL_law 647 = .ok (.iconst 1, 1) := by decide +kernel
theorem dL_law_648 : decode cL_law 648 = .ok (.iadd, 1) := by decide +kernel
theorem dL_law_649 : decode cL_law 649 = .ok (.iaload, 1) := by decide +kernel
theorem dL_law_650 : decode cL_law 650 = .ok (.aload_n 0, 1) := by decide +kernel
theorem dL_law_651 : decode cL_law 651 = .ok (.iload_n 3, 1) := by decide +kernel
theorem dL_law_652 : decode cL_law 652 = .ok (.iconst 2, 1) := by decide +kernel
theorem dL_law_653 : decode cL_law 653 = .ok (.iadd, 1) := by decide +kernel
theorem dL_law_654 : decode cL_law 654 = .ok (.iaload, 1) := by decide +kernel
theorem dL_law_655 : decode cL_law 655 = .ok (.aload_n 0, 1) := by decide +kernel
theorem dL_law_656 : decode cL_law 656 = .ok (.iload_n 3, 1) := by decide +kernel
theorem dL_law_657 : decode cL_law 657 = .ok (.iconst 3, 1) := by decide +kernel
theorem dL_law_658 : decode cL_law 658 = .ok (.iadd, 1) := by decide +kernel
theorem dL_law_659 : decode cL_law 659 = .ok (.iaload, 1) := by decide +kernel
theorem dL_law_660 : decode cL_law 660 = .ok (.invokevirtual 71, 3) := by decide +kernel
theorem dL_law_663 : decode cL_law 663 = .ok (.aload_n 2, 1) := by decide +kernel
theorem dL_law_664 : decode cL_law 664 = .ok (.aload_n 0, 1) := by decide +kernel
theorem dL_law_665 : decode cL_law 665 = .ok (.iload_n 3, 1) := by decide +kernel
theorem dL_law_666 : decode cL_law 666 = .ok (.iconst 1, 1) := by decide +kernel
theorem dL_law_667 : decode cL_law 667 = .ok (.iadd, 1) := by decide +kernel
theorem dL_law_668 : decode cL_law 668 = .ok (.iaload, 1) := by decide +kernel
theorem dL_law_669 : decode cL_law 669 = .ok (.aload_n 0, 1) := by decide +kernel
theorem dL_law_670 : decode cL_law 670 = .ok (.iload_n 3, 1) := by decide +kernel
theorem dL_law_671 : decode cL_law 671 = .ok (.iconst 2, 1) := by decide +kernel
theorem dL_law_672 : decode cL_law 672 = .ok (.iadd, 1) := by decide +kernel
theorem dL_law_673 : decode cL_law 673 = .ok (.iaload, 1) := by decide +kernel
theorem dL_law_674 : decode cL_law 674 = .ok (.aload_n 0, 1) := by decide +kernel
theorem dL_law_675 : decode cL_law 675 = .ok (.iload_n 3, 1) := by decide +kernel
theorem dL_law_676 : decode cL_law 676 = .ok (.iconst 3, 1) := by decide +kernel
theorem dL_law_677 : decode cL_law 677 = .ok (.iadd, 1) := by decide +kernel
theorem dL_law_678 : decode cL_law 678 = .ok (.iaload, 1) := by decide +kernel
theorem dL_law_679 : decode cL_law 679 = .ok (.invokevirtual 75, 3) := by decide +kernel
theorem dL_law_682 : decode cL_law 682 = .ok (.lcmp, 1) := by decide +kernel
theorem dL_law_683 : decode cL_law 683 = .ok (.ifCond .eq 789, 3) := by decide +kernel
theorem dL_law_686 : decode cL_law 686 = .ok (.iconst 0, 1) := by decide +kernel
theorem dL_law_687 : decode cL_law 687 = .ok (.ireturn, 1) := by decide +kernel
theorem dL_law_688 : decode cL_law 688 = .ok (.aload_n 1, 1) := by decide +kernel
theorem dL_law_689 : decode cL_law 689 = .ok (.aload_n 0, 1) := by decide +kernel
theorem dL_law_690 : decode cL_law 690 = .ok (.iload_n 3, 1) := by decide +kernel
theorem dL_law_691 : decode cL_law 691 = .ok (.iconst 1, 1) := by decide +kernel
theorem dL_law_692 : decode cL_law 692 = .ok (.iadd, 1) := by decide +kernel
theorem dL_law_693 : decode cL_law 693 = .ok (.iaload, 1) := by decide +kernel
theorem dL_law_694 : decode cL_law 694 = .ok (.aload_n 0, 1) := by decide +kernel
theorem dL_law_695 : decode cL_law 695 = .ok (.iload_n 3, 1) := by decide +kernel
theorem dL_law_696 : decode cL_law 696 = .ok (.iconst 2, 1) := by decide +kernel
theorem dL_law_697 : decode cL_law 697 = .ok (.iadd, 1) := by decide +kernel
theorem dL_law_698 : decode cL_law 698 = .ok (.iaload, 1) := by decide +kernel
theorem dL_law_699 : decode cL_law 699 = .ok (.aload_n 0, 1) := by decide +kernel
theorem dL_law_700 : decode cL_law 700 = .ok (.iload_n 3, 1) := by decide +kernel
theorem dL_law_701 : decode cL_law 701 = .ok (.iconst 3, 1) := by decide +kernel
theorem dL_law_702 : decode cL_law 702 = .ok (.iadd, 1) := by decide +kernel
theorem dL_law_703 : decode cL_law 703 = .ok (.iaload, 1) := by decide +kernel
theorem dL_law_704 : decode cL_law 704 = .ok (.invokevirtual 76, 3) := by decide +kernel
theorem dL_law_707 : decode cL_law 707 = .ok (.aload_n 2, 1) := by decide +kernel
theorem dL_law_708 : decode cL_law 708 = .ok (.aload_n 0, 1) := by decide +kernel
theorem dL_law_709 : decode cL_law 709 = .ok (.iload_n 3, 1) := by decide +kernel
theorem dL_law_710 : decode cL_law 710 = .ok (.iconst 1, 1) := by decide +kernel
theorem dL_law_711 : decode cL_law 711 = .ok (.iadd, 1) := by decide +kernel
theorem dL_law_712 : decode cL_law 712 = .ok (.iaload, 1) := by decide +kernel
theorem dL_law_713 : decode cL_law 713 = .ok (.aload_n 0, 1) := by decide +kernel
theorem dL_law_714 : decode cL_law 714 = .ok (.iload_n 3, 1) := by decide +kernel
theorem dL_law_715 : decode cL_law 715 = .ok (.iconst 2, 1) := by decide +kernel
theorem dL_law_716 : decode cL_law 716 = .ok (.iadd, 1) := by decide +kernel
theorem dL_law_717 : decode cL_law 717 = .ok (.iaload, 1) := by decide +kernel
theorem dL_law_718 : decode cL_law 718 = .ok (.aload_n 0, 1) := by decide +kernel
theorem dL_law_719 : decode cL_law 719 = .ok (.iload_n 3, 1) := by decide +kernel
theorem dL_law_720 : decode cL_law 720 = .ok (.iconst 3, 1) := by decide +kernel
theorem dL_law_721 : decode cL_law 721 = .ok (.iadd, 1) := by decide +kernel
theorem dL_law_722 : decode cL_law 722 = .ok (.iaload, 1) := by decide +kernel
theorem dL_law_723 : decode cL_law 723 = .ok (.invokevirtual 79, 3) := by decide +kernel
theorem dL_law_726 : decode cL_law 726 = .ok (.lcmp, 1) := by decide +kernel
theorem dL_law_727 : decode cL_law 727 = .ok (.ifCond .eq 745, 3) := by decide +kernel
theorem dL_law_730 : decode cL_law 730 = .ok (.iconst 0, 1) := by decide +kernel
theorem dL_law_731 : decode cL_law 731 = .ok (.ireturn, 1) := by decide +kernel
theorem dL_law_732 : decode cL_law 732 = .ok (.aload_n 1, 1) := by decide +kernel
theorem dL_law_733 : decode cL_law 733 = .ok (.aload_n 0, 1) := by decide +kernel
theorem dL_law_734 : decode cL_law 734 = .ok (.iload_n 3, 1) := by decide +kernel
theorem dL_law_735 : decode cL_law 735 = .ok (.iconst 1, 1) := by decide +kernel
theorem dL_law_736 : decode cL_law 736 = .ok (.iadd, 1) := by decide +kernel
theorem dL_law_737 : decode cL_law 737 = .ok (.iaload, 1) := by decide +kernel
theorem dL_law_738 : decode cL_law 738 = .ok (.aload_n 0, 1) := by decide +kernel
theorem dL_law_739 : decode cL_law 739 = .ok (.iload_n 3, 1) := by decide +kernel
theorem dL_law_740 : decode cL_law 740 = .ok (.iconst 2, 1) := by decide +kernel
theorem dL_law_741 : decode cL_law 741 = .ok (.iadd, 1) := by decide +kernel
theorem dL_law_742 : decode cL_law 742 = .ok (.iaload, 1) := by decide +kernel
theorem dL_law_743 : decode cL_law 743 = .ok (.aload_n 0, 1) := by decide +kernel
theorem dL_law_744 : decode cL_law 744 = .ok (.iload_n 3, 1) := by decide +kernel
theorem dL_law_745 : decode cL_law 745 = .ok (.iconst 3, 1) := by decide +kernel
theorem dL_law_746 : decode cL_law 746 = .ok (.iadd, 1) := by decide +kernel
theorem dL_law_747 : decode cL_law 747 = .ok (.iaload, 1) := by decide +kernel
theorem dL_law_748 : decode cL_law 748 = .ok (.aload_n 0, 1) := by decide +kernel
theorem dL_law_749 : decode cL_law 749 = .ok (.iload_n 3, 1) := by decide +kernel
theorem dL_law_750 : decode cL_law 750 = .ok (.iconst 4, 1) := by decide +kernel
theorem dL_law_751 : decode cL_law 751 = .ok (.iadd, 1) := by decide +kernel
theorem dL_law_752 : decode cL_law 752 = .ok (.iaload, 1) := by decide +kernel
theorem dL_law_753 : decode cL_law 753 = .ok (.aload_n 0, 1) := by decide +kernel
theorem dL_law_754 : decode cL_law 754 = .ok (.iload_n 3, 1) := by decide +kernel
theorem dL_law_755 : decode cL_law 755 = .ok (.iconst 5, 1) := by decide +kernel
theorem dL_law_756 : decode cL_law 756 = .ok (.iadd, 1) := by decide +kernel
theorem dL_law_757 : decode cL_law 757 = .ok (.iaload, 1) := by decide +kernel
theorem dL_law_758 : decode cL_law 758 = .ok (.invokevirtual 80, 3) := by decide +kernel
theorem dL_law_761 : decode cL_law 761 = .ok (.aload_n 2, 1) := by decide +kernel
theorem dL_law_762 : decode cL_law 762 = .ok (.aload_n 0, 1) := by decide +kernel
theorem dL_law_763 : decode cL_law 763 = .ok (.iload_n 3, 1) := by decide +kernel
theorem dL_law_764 : decode cL_law 764 = .ok (.iconst 1, 1) := by decide +kernel
theorem dL_law_765 : decode cL_law 765 = .ok (.iadd, 1) := by decide +kernel
theorem dL_law_766 : decode cL_law 766 = .ok (.iaload, 1) := by decide +kernel
theorem dL_law_767 : decode cL_law 767 = .ok (.aload_n 0, 1) := by decide +kernel
theorem dL_law_768 : decode cL_law 768 = .ok (.iload_n 3, 1) := by decide +kernel
theorem dL_law_769 : decode cL_law 769 = .ok (.iconst 2, 1) := by decide +kernel
theorem dL_law_770 : decode cL_law 770 = .ok (.iadd, 1) := by decide +kernel
theorem dL_law_771 : decode cL_law 771 = .ok (.iaload, 1) := by decide +kernel
theorem dL_law_772 : decode cL_law 772 = .ok (.aload_n 0, 1) := by decide +kernel
theorem dL_law_773 : decode cL_law 773 = .ok (.iload_n 3, 1) := by decide +kernel
theorem dL_law_774 : decode cL_law 774 = .ok (.iconst 3, 1) := by decide +kernel
theorem dL_law_775 : decode cL_law 775 = .ok (.iadd, 1) := by decide +kernel
theorem dL_law_776 : decode cL_law 776 = .ok (.iaload, 1) := by decide +kernel
theorem dL_law_777 : decode cL_law 777 = .ok (.aload_n 0, 1) := by decide +kernel
theorem dL_law_778 : decode cL_law 778 = .ok (.iload_n 3, 1) := by decide +kernel
theorem dL_law_779 : decode cL_law 779 = .ok (.iconst 4, 1) := by decide +kernel
theorem dL_law_780 : decode cL_law 780 = .ok (.iadd, 1) := by decide +kernel
theorem dL_law_781 : decode cL_law 781 = .ok (.iaload, 1) := by decide +kernel
theorem dL_law_782 : decode cL_law 782 = .ok (.aload_n 0, 1) := by decide +kernel
theorem dL_law_783 : decode cL_law 783 = .ok (.iload_n 3, 1) := by decide +kernel
theorem dL_law_784 : decode cL_law 784 = .ok (.iconst 5, 1) := by decide +kernel
theorem dL_law_785 : decode cL_law 785 = .ok (.iadd, 1) := by decide +kernel
theorem dL_law_786 : decode cL_law 786 = .ok (.iaload, 1) := by decide +kernel
theorem dL_law_787 : decode cL_law 787 = .ok (.invokevirtual 84, 3) := by decide +kernel
theorem dL_law_790 : decode cL_law 790 = .ok (.if_icmp .eq 682, 3) := by decide +kernel
theorem dL_law_793 : decode cL_law 793 = .ok (.iconst 0, 1) := by decide +kernel
theorem dL_law_794 : decode cL_law 794 = .ok (.ireturn, 1) := by decide +kernel
theorem dL_law_795 : decode cL_law 795 = .ok (.aload_n 1, 1) := by decide +kernel
theorem dL_law_796 : decode cL_law 796 = .ok (.aload_n 0, 1) := by decide +kernel
theorem dL_law_797 : decode cL_law 797 = .ok (.iload_n 3, 1) := by decide +kernel
theorem dL_law_798 : decode cL_law 798 = .ok (.iconst 1, 1) := by decide +kernel
theorem dL_law_799 : decode cL_law 799 = .ok (.iadd, 1) := by decide +kernel
theorem dL_law_800 : decode cL_law 800 = .ok (.iaload, 1) := by decide +kernel
theorem dL_law_801 : decode cL_law 801 = .ok (.aload_n 0, 1) := by decide +kernel
theorem dL_law_802 : decode cL_law 802 = .ok (.iload_n 3, 1) := by decide +kernel
theorem dL_law_803 : decode cL_law 803 = .ok (.iconst 2, 1) := by decide +kernel
theorem dL_law_804 : decode cL_law 804 = .ok (.iadd, 1) := by decide +kernel
theorem dL_law_805 : decode cL_law 805 = .ok (.iaload, 1) := by decide +kernel
theorem dL_law_806 : decode cL_law 806 = .ok (.invokevirtual 85, 3) := by decide +kernel
theorem dL_law_809 : decode cL_law 809 = .ok (.aload_n 2, 1) := by decide +kernel
theorem dL_law_810 : decode cL_law 810 = .ok (.aload_n 0, 1) := by decide +kernel
theorem dL_law_811 : decode cL_law 811 = .ok (.iload_n 3, 1) := by decide +kernel
theorem dL_law_812 : decode cL_law 812 = .ok (.iconst 1, 1) := by decide +kernel
theorem dL_law_813 : decode cL_law 813 = .ok (.iadd, 1) := by decide +kernel
theorem dL_law_814 : decode cL_law 814 = .ok (.iaload, 1) := by decide +kernel
theorem dL_law_815 : decode cL_law 815 = .ok (.aload_n 0, 1) := by decide +kernel
theorem dL_law_816 : decode cL_law 816 = .ok (.iload_n 3, 1) := by decide +kernel
theorem dL_law_817 : decode cL_law 817 = .ok (.iconst 2, 1) := by decide +kernel
theorem dL_law_818 : decode cL_law 818 = .ok (.iadd, 1) := by decide +kernel
theorem dL_law_819 : decode cL_law 819 = .ok (.iaload, 1) := by decide +kernel
theorem dL_law_820 : decode cL_law 820 = .ok (.invokevirtual 88, 3) := by decide +kernel
theorem dL_law_823 : decode cL_law 823 = .ok (.if_icmp .eq 649, 3) := by decide +kernel
theorem dL_law_826 : decode cL_law 826 = .ok (.iconst 0, 1) := by decide +kernel
theorem dL_law_827 : decode cL_law 827 = .ok (.ireturn, 1) := by decide +kernel
theorem dL_law_828 : decode cL_law 828 = .ok (.aload_n 1, 1) := by decide +kernel
theorem dL_law_829 : decode cL_law 829 = .ok (.aload_n 0, 1) := by decide +kernel
theorem dL_law_830 : decode cL_law 830 = .ok (.iload_n 3, 1) := by decide +kernel
theorem dL_law_831 : decode cL_law 831 = .ok (.iconst 1, 1) := by decide +kernel
theorem dL_law_832 : decode cL_law 832 = .ok (.iadd, 1) := by decide +kernel
theorem dL_law_833 : decode cL_law 833 = .ok (.iaload, 1) := by decide +kernel
theorem dL_law_834 : decode cL_law 834 = .ok (.invokevirtual 89, 3) := by decide +kernel
theorem dL_law_837 : decode cL_law 837 = .ok (.aload_n 2, 1) := by decide +kernel
theorem dL_law_838 : decode cL_law 838 = .ok (.aload_n 0, 1) := by decide +kernel
theorem dL_law_839 : decode cL_law 839 = .ok (.iload_n 3, 1) := by decide +kernel
theorem dL_law_840 : decode cL_law 840 = .ok (.iconst 1, 1) := by decide +kernel
theorem dL_law_841 : decode cL_law 841 = .ok (.iadd, 1) := by decide +kernel
theorem dL_law_842 : decode cL_law 842 = .ok (.iaload, 1) := by decide +kernel
theorem dL_law_843 : decode cL_law 843 = .ok (.invokevirtual 92, 3) := by decide +kernel
theorem dL_law_846 : decode cL_law 846 = .ok (.if_icmp .eq 626, 3) := by decide +kernel
theorem dL_law_849 : decode cL_law 849 = .ok (.iconst 0, 1) := by decide +kernel
theorem dL_law_850 : decode cL_law 850 = .ok (.ireturn, 1) := by decide +kernel
theorem dL_law_851 : decode cL_law 851 = .ok (.aload_n 1, 1) := by decide +kernel
theorem dL_law_852 : decode cL_law 852 = .ok (.aload_n 0, 1) := by decide +kernel
theorem dL_law_853 : decode cL_law 853 = .ok (.iload_n 3, 1) := by decide +kernel
theorem dL_law_854 : decode cL_law 854 = .ok (.iconst 1, 1) := by decide +kernel
theorem dL_law_855 : decode cL_law 855 = .ok (.iadd, 1) := by decide +kernel
theorem dL_law_856 : decode cL_law 856 = .ok (.iaload, 1) := by decide +kernel
theorem dL_law_857 : decode cL_law 857 = .ok (.invokevirtual 93, 3) := by decide +kernel
theorem dL_law_860 : decode cL_law 860 = .ok (.aload_n 2, 1) := by decide +kernel
theorem dL_law_861 : decode cL_law 861 = .ok (.aload_n 0, 1) := by decide +kernel
theorem dL_law_862 : decode cL_law 862 = .ok (.iload_n 3, 1) := by decide +kernel
theorem dL_law_863 : decode cL_law 863 = .ok (.iconst 1, 1) := by decide +kernel
