theorem d_Ma_init_0 : decode prog_4_method_1_code 0 = .ok (.aload_n 0, 1) := by decide +kernel
theorem d_Ma_init_1 : decode prog_4_method_1_code 1 = .ok (.invokespecial 1, 3) := by decide +kernel
theorem d_Ma_init_4 : decode prog_4_method_1_code 4 = .ok (.aload_n 0, 1) := by decide +kernel
theorem d_Ma_init_5 : decode prog_4_method_1_code 5 = .ok (.aload_n 1, 1) := by decide +kernel
theorem d_Ma_init_6 : decode prog_4_method_1_code 6 = .ok (.putfield 7, 3) := by decide +kernel
theorem d_Ma_init_9 : decode prog_4_method_1_code 9 = .ok (.aload_n 0, 1) := by decide +kernel
theorem d_Ma_init_10 : decode prog_4_method_1_code 10 = .ok (.aload_n 2, 1) := by decide +kernel
theorem d_Ma_init_11 : decode prog_4_method_1_code 11 = .ok (.putfield 13, 3) := by decide +kernel
theorem d_Ma_init_14 : decode prog_4_method_1_code 14 = .ok (.aload_n 0, 1) := by decide +kernel
theorem d_Ma_init_15 : decode prog_4_method_1_code 15 = .ok (.new 16, 3) := by decide +kernel
theorem d_Ma_init_18 : decode prog_4_method_1_code 18 = .ok (.dup, 1) := by decide +kernel
theorem d_Ma_init_19 : decode prog_4_method_1_code 19 = .ok (.invokespecial 18, 3) := by decide +kernel
theorem d_Ma_init_22 : decode prog_4_method_1_code 22 = .ok (.putfield 19, 3) := by decide +kernel
theorem d_Ma_init_25 : decode prog_4_method_1_code 25 = .ok (.aload_n 0, 1) := by decide +kernel
theorem d_Ma_init_26 : decode prog_4_method_1_code 26 = .ok (.new 23, 3) := by decide +kernel
theorem d_Ma_init_29 : decode prog_4_method_1_code 29 = .ok (.dup, 1) := by decide +kernel
theorem d_Ma_init_30 : decode prog_4_method_1_code 30 = .ok (.invokespecial 25, 3) := by decide +kernel
theorem d_Ma_init_33 : decode prog_4_method_1_code 33 = .ok (.putfield 26, 3) := by decide +kernel
theorem d_Ma_init_36 : decode prog_4_method_1_code 36 = .ok (.aload_n 0, 1) := by decide +kernel
theorem d_Ma_init_37 : decode prog_4_method_1_code 37 = .ok (.lconst 1, 1) := by decide +kernel
theorem d_Ma_init_38 : decode prog_4_method_1_code 38 = .ok (.invokestatic 30, 3) := by decide +kernel
theorem d_Ma_init_41 : decode prog_4_method_1_code 41 = .ok (.putfield 36, 3) := by decide +kernel
theorem d_Ma_init_44 : decode prog_4_method_1_code 44 = .ok (.aload_n 0, 1) := by decide +kernel
theorem d_Ma_init_45 : decode prog_4_method_1_code 45 = .ok (.lconst 0, 1) := by decide +kernel
theorem d_Ma_init_46 : decode prog_4_method_1_code 46 = .ok (.invokestatic 30, 3) := by decide +kernel
theorem d_Ma_init_49 : decode prog_4_method_1_code 49 = .ok (.putfield 40, 3) := by decide +kernel
theorem d_Ma_init_52 : decode prog_4_method_1_code 52 = .ok (.aload_n 0, 1) := by decide +kernel
theorem d_Ma_init_53 : decode prog_4_method_1_code 53 = .ok (.new 16, 3) := by decide +kernel
theorem d_Ma_init_56 : decode prog_4_method_1_code 56 = .ok (.dup, 1) := by decide +kernel
theorem d_Ma_init_57 : decode prog_4_method_1_code 57 = .ok (.invokespecial 18, 3) := by decide +kernel
theorem d_Ma_init_60 : decode prog_4_method_1_code 60 = .ok (.putfield 43, 3) := by decide +kernel
theorem d_Ma_init_63 : decode prog_4_method_1_code 63 = .ok (.aload_n 0, 1) := by decide +kernel
theorem d_Ma_init_64 : decode prog_4_method_1_code 64 = .ok (.iconst 0, 1) := by decide +kernel
theorem d_Ma_init_65 : decode prog_4_method_1_code 65 = .ok (.putfield 46, 3) := by decide +kernel
theorem d_Ma_init_68 : decode prog_4_method_1_code 68 = .ok (.return_, 1) := by decide +kernel
theorem d_Ma_clear_0 : decode prog_4_method_2_code 0 = .ok (.aload_n 0, 1) := by decide +kernel
theorem d_Ma_clear_1 : decode prog_4_method_2_code 1 = .ok (.getfield 43, 3) := by decide +kernel
theorem d_Ma_clear_4 : decode prog_4_method_2_code 4 = .ok (.invokevirtual 50, 3) := by decide +kernel
theorem d_Ma_clear_7 : decode prog_4_method_2_code 7 = .ok (.return_, 1) := by decide +kernel
theorem d_Ma_play_0 : decode prog_4_method_4_code 0 = .ok (.aload_n 0, 1) := by decide +kernel
theorem d_Ma_play_1 : decode prog_4_method_4_code 1 = .ok (.getfield 19, 3) := by decide +kernel
theorem d_Ma_play_4 : decode prog_4_method_4_code 4 = .ok (.invokevirtual 50, 3) := by decide +kernel
theorem d_Ma_play_7 : decode prog_4_method_4_code 7 = .ok (.aload_n 0, 1) := by decide +kernel
theorem d_Ma_play_8 : decode prog_4_method_4_code 8 = .ok (.getfield 26, 3) := by decide +kernel
theorem d_Ma_play_11 : decode prog_4_method_4_code 11 = .ok (.invokevirtual 53, 3) := by decide +kernel
theorem d_Ma_play_14 : decode prog_4_method_4_code 14 = .ok (.aload_n 0, 1) := by decide +kernel
theorem d_Ma_play_15 : decode prog_4_method_4_code 15 = .ok (.iconst 0, 1) := by decide +kernel
theorem d_Ma_play_16 : decode prog_4_method_4_code 16 = .ok (.putfield 46, 3) := by decide +kernel
theorem d_Ma_play_19 : decode prog_4_method_4_code 19 = .ok (.iload_n 2, 1) := by decide +kernel
theorem d_Ma_play_20 : decode prog_4_method_4_code 20 = .ok (.istore 4, 2) := by decide +kernel
theorem d_Ma_play_22 : decode prog_4_method_4_code 22 = .ok (.iload 4, 2) := by decide +kernel
theorem d_Ma_play_24 : decode prog_4_method_4_code 24 = .ok (.iload_n 3, 1) := by decide +kernel
theorem d_Ma_play_25 : decode prog_4_method_4_code 25 = .ok (.if_icmp .ge 150, 3) := by decide +kernel
theorem d_Ma_play_28 : decode prog_4_method_4_code 28 = .ok (.aload_n 1, 1) := by decide +kernel
theorem d_Ma_play_29 : decode prog_4_method_4_code 29 = .ok (.iload 4, 2) := by decide +kernel
theorem d_Ma_play_31 : decode prog_4_method_4_code 31 = .ok (.baload, 1) := by decide +kernel
theorem d_Ma_play_32 : decode prog_4_method_4_code 32 = .ok (.sipush 255, 3) := by decide +kernel
theorem d_Ma_play_35 : decode prog_4_method_4_code 35 = .ok (.iand, 1) := by decide +kernel
theorem d_Ma_play_36 : decode prog_4_method_4_code 36 = .ok (.istore 5, 2) := by decide +kernel
theorem d_Ma_play_38 : decode prog_4_method_4_code 38 = .ok (.aload_n 1, 1) := by decide +kernel
theorem d_Ma_play_39 : decode prog_4_method_4_code 39 = .ok (.iload 4, 2) := by decide +kernel
theorem d_Ma_play_41 : decode prog_4_method_4_code 41 = .ok (.iload_n 3, 1) := by decide +kernel
theorem d_Ma_play_42 : decode prog_4_method_4_code 42 = .ok (.invokestatic 54, 3) := by decide +kernel
theorem d_Ma_play_45 : decode prog_4_method_4_code 45 = .ok (.istore 6, 2) := by decide +kernel
theorem d_Ma_play_47 : decode prog_4_method_4_code 47 = .ok (.iload 6, 2) := by decide +kernel
theorem d_Ma_play_49 : decode prog_4_method_4_code 49 = .ok (.iload_n 3, 1) := by decide +kernel
theorem d_Ma_play_50 : decode prog_4_method_4_code 50 = .ok (.iload 4, 2) := by decide +kernel
theorem d_Ma_play_52 : decode prog_4_method_4_code 52 = .ok (.isub, 1) := by decide +kernel
theorem d_Ma_play_53 : decode prog_4_method_4_code 53 = .ok (.if_icmp .ge 22, 3) := by decide +kernel
theorem d_Ma_play_56 : decode prog_4_method_4_code 56 = .ok (.aload_n 0, 1) := by decide +kernel
theorem d_Ma_play_57 : decode prog_4_method_4_code 57 = .ok (.iload 5, 2) := by decide +kernel
theorem d_Ma_play_59 : decode prog_4_method_4_code 59 = .ok (.bipush 96, 2) := by decide +kernel
theorem d_Ma_play_61 : decode prog_4_method_4_code 61 = .ok (.if_icmp .le 7, 3) := by decide +kernel
theorem d_Ma_play_64 : decode prog_4_method_4_code 64 = .ok (.iconst 1, 1) := by decide +kernel
theorem d_Ma_play_65 : decode prog_4_method_4_code 65 = .ok (.goto 4, 3) := by decide +kernel
theorem d_Ma_play_68 : decode prog_4_method_4_code 68 = .ok (.iconst 0, 1) := by decide +kernel
theorem d_Ma_play_69 : decode prog_4_method_4_code 69 = .ok (.invokevirtual 60, 3) := by decide +kernel
theorem d_Ma_play_72 : decode prog_4_method_4_code 72 = .ok (.ifCond .ne 5, 3) := by decide +kernel
theorem d_Ma_play_75 : decode prog_4_method_4_code 75 = .ok (.iconst 0, 1) := by decide +kernel
theorem d_Ma_play_76 : decode prog_4_method_4_code 76 = .ok (.ireturn, 1) := by decide +kernel
theorem d_Ma_play_77 : decode prog_4_method_4_code 77 = .ok (.iload 5, 2) := by decide +kernel
theorem d_Ma_play_79 : decode prog_4_method_4_code 79 = .ok (.invokestatic 64, 3) := by decide +kernel
theorem d_Ma_play_82 : decode prog_4_method_4_code 82 = .ok (.ifCond .eq 14, 3) := by decide +kernel
theorem d_Ma_play_85 : decode prog_4_method_4_code 85 = .ok (.aload_n 0, 1) := by decide +kernel
theorem d_Ma_play_86 : decode prog_4_method_4_code 86 = .ok (.iload 5, 2) := by decide +kernel
theorem d_Ma_play_88 : decode prog_4_method_4_code 88 = .ok (.invokevirtual 67, 3) := by decide +kernel
theorem d_Ma_play_91 : decode prog_4_method_4_code 91 = .ok (.ifCond .ne 71, 3) := by decide +kernel
theorem d_Ma_play_94 : decode prog_4_method_4_code 94 = .ok (.iconst 0, 1) := by decide +kernel
theorem d_Ma_play_95 : decode prog_4_method_4_code 95 = .ok (.ireturn, 1) := by decide +kernel
theorem d_Ma_play_96 : decode prog_4_method_4_code 96 = .ok (.aload_n 0, 1) := by decide +kernel
theorem d_Ma_play_97 : decode prog_4_method_4_code 97 = .ok (.getfield 26, 3) := by decide +kernel
theorem d_Ma_play_100 : decode prog_4_method_4_code 100 = .ok (.invokevirtual 70, 3) := by decide +kernel
theorem d_Ma_play_103 : decode prog_4_method_4_code 103 = .ok (.ifCond .eq 59, 3) := by decide +kernel
theorem d_Ma_play_106 : decode prog_4_method_4_code 106 = .ok (.iload 5, 2) := by decide +kernel
theorem d_Ma_play_108 : decode prog_4_method_4_code 108 = .ok (.invokestatic 74, 3) := by decide +kernel
theorem d_Ma_play_111 : decode prog_4_method_4_code 111 = .ok (.ifCond .eq 15, 3) := by decide +kernel
theorem d_Ma_play_114 : decode prog_4_method_4_code 114 = .ok (.aload_n 0, 1) := by decide +kernel
theorem d_Ma_play_115 : decode prog_4_method_4_code 115 = .ok (.aload_n 1, 1) := by decide +kernel
theorem d_Ma_play_116 : decode prog_4_method_4_code 116 = .ok (.iload 4, 2) := by decide +kernel
theorem d_Ma_play_118 : decode prog_4_method_4_code 118 = .ok (.iload 6, 2) := by decide +kernel
theorem d_Ma_play_120 : decode prog_4_method_4_code 120 = .ok (.invokevirtual 77, 3) := by decide +kernel
theorem d_Ma_play_123 : decode prog_4_method_4_code 123 = .ok (.goto 9, 3) := by decide +kernel
theorem d_Ma_play_126 : decode prog_4_method_4_code 126 = .ok (.aload_n 0, 1) := by decide +kernel
theorem d_Ma_play_127 : decode prog_4_method_4_code 127 = .ok (.iload 5, 2) := by decide +kernel
theorem d_Ma_play_129 : decode prog_4_method_4_code 129 = .ok (.invokevirtual 81, 3) := by decide +kernel
theorem d_Ma_play_132 : decode prog_4_method_4_code 132 = .ok (.istore 7, 2) := by decide +kernel
theorem d_Ma_play_134 : decode prog_4_method_4_code 134 = .ok (.iload 7, 2) := by decide +kernel
theorem d_Ma_play_136 : decode prog_4_method_4_code 136 = .ok (.ifCond .eq 24, 3) := by decide +kernel
theorem d_Ma_play_139 : decode prog_4_method_4_code 139 = .ok (.aload_n 0, 1) := by decide +kernel
theorem d_Ma_play_140 : decode prog_4_method_4_code 140 = .ok (.getfield 43, 3) := by decide +kernel
theorem d_Ma_play_143 : decode prog_4_method_4_code 143 = .ok (.invokevirtual 84, 3) := by decide +kernel
theorem d_Ma_play_146 : decode prog_4_method_4_code 146 = .ok (.aload_n 0, 1) := by decide +kernel
theorem d_Ma_play_147 : decode prog_4_method_4_code 147 = .ok (.getfield 19, 3) := by decide +kernel
theorem d_Ma_play_150 : decode prog_4_method_4_code 150 = .ok (.invokevirtual 84, 3) := by decide +kernel
theorem d_Ma_play_153 : decode prog_4_method_4_code 153 = .ok (.iadd, 1) := by decide +kernel
theorem d_Ma_play_154 : decode prog_4_method_4_code 154 = .ok (.sipush 200, 3) := by decide +kernel
theorem d_Ma_play_157 : decode prog_4_method_4_code 157 = .ok (.if_icmp .le 5, 3) := by decide +kernel
theorem d_Ma_play_160 : decode prog_4_method_4_code 160 = .ok (.iconst 0, 1) := by decide +kernel
theorem d_Ma_play_161 : decode prog_4_method_4_code 161 = .ok (.ireturn, 1) := by decide +kernel
theorem d_Ma_play_162 : decode prog_4_method_4_code 162 = .ok (.iload 4, 2) := by decide +kernel
theorem d_Ma_play_164 : decode prog_4_method_4_code 164 = .ok (.iload 6, 2) := by decide +kernel
theorem d_Ma_play_166 : decode prog_4_method_4_code 166 = .ok (.iadd, 1) := by decide +kernel
theorem d_Ma_play_167 : decode prog_4_method_4_code 167 = .ok (.istore 4, 2) := by decide +kernel
theorem d_Ma_play_169 : decode prog_4_method_4_code 169 = .ok (.iinc 4 1, 3) := by decide +kernel
theorem d_Ma_play_172 : decode prog_4_method_4_code 172 = .ok (.goto (-150), 3) := by decide +kernel
theorem d_Ma_play_175 : decode prog_4_method_4_code 175 = .ok (.aload_n 0, 1) := by decide +kernel
theorem d_Ma_play_176 : decode prog_4_method_4_code 176 = .ok (.getfield 26, 3) := by decide +kernel
theorem d_Ma_play_179 : decode prog_4_method_4_code 179 = .ok (.invokevirtual 87, 3) := by decide +kernel
theorem d_Ma_play_182 : decode prog_4_method_4_code 182 = .ok (.ifCond .ne 7, 3) := by decide +kernel
theorem d_Ma_play_185 : decode prog_4_method_4_code 185 = .ok (.iconst 1, 1) := by decide +kernel
theorem d_Ma_play_186 : decode prog_4_method_4_code 186 = .ok (.goto 4, 3) := by decide +kernel
theorem d_Ma_play_189 : decode prog_4_method_4_code 189 = .ok (.iconst 0, 1) := by decide +kernel
theorem d_Ma_play_190 : decode prog_4_method_4_code 190 = .ok (.ireturn, 1) := by decide +kernel
theorem d_Ma_count_0 : decode prog_4_method_5_code 0 = .ok (.aload_n 0, 1) := by decide +kernel
theorem d_Ma_count_1 : decode prog_4_method_5_code 1 = .ok (.dup, 1) := by decide +kernel
theorem d_Ma_count_2 : decode prog_4_method_5_code 2 = .ok (.getfield 46, 3) := by decide +kernel
theorem d_Ma_count_5 : decode prog_4_method_5_code 5 = .ok (.iload_n 1, 1) := by decide +kernel
theorem d_Ma_count_6 : decode prog_4_method_5_code 6 = .ok (.iadd, 1) := by decide +kernel
theorem d_Ma_count_7 : decode prog_4_method_5_code 7 = .ok (.putfield 46, 3) := by decide +kernel
theorem d_Ma_count_10 : decode prog_4_method_5_code 10 = .ok (.aload_n 0, 1) := by decide +kernel
theorem d_Ma_count_11 : decode prog_4_method_5_code 11 = .ok (.getfield 46, 3) := by decide +kernel
theorem d_Ma_count_14 : decode prog_4_method_5_code 14 = .ok (.sipush 201, 3) := by decide +kernel
theorem d_Ma_count_17 : decode prog_4_method_5_code 17 = .ok (.if_icmp .gt 7, 3) := by decide +kernel
theorem d_Ma_count_20 : decode prog_4_method_5_code 20 = .ok (.iconst 1, 1) := by decide +kernel
theorem d_Ma_count_21 : decode prog_4_method_5_code 21 = .ok (.goto 4, 3) := by decide +kernel
theorem d_Ma_count_24 : decode prog_4_method_5_code 24 = .ok (.iconst 0, 1) := by decide +kernel
theorem d_Ma_count_25 : decode prog_4_method_5_code 25 = .ok (.ireturn, 1) := by decide +kernel
theorem d_Ma_branch_0 : decode prog_4_method_6_code 0 = .ok (.iload_n 1, 1) := by decide +kernel
theorem d_Ma_branch_1 : decode prog_4_method_6_code 1 = .ok (.bipush 99, 2) := by decide +kernel
theorem d_Ma_branch_3 : decode prog_4_method_6_code 3 = .ok (.if_icmp .eq 9, 3) := by decide +kernel
theorem d_Ma_branch_6 : decode prog_4_method_6_code 6 = .ok (.iload_n 1, 1) := by decide +kernel
theorem d_Ma_branch_7 : decode prog_4_method_6_code 7 = .ok (.bipush 100, 2) := by decide +kernel
theorem d_Ma_branch_9 : decode prog_4_method_6_code 9 = .ok (.if_icmp .ne 19, 3) := by decide +kernel
theorem d_Ma_branch_12 : decode prog_4_method_6_code 12 = .ok (.aload_n 0, 1) := by decide +kernel
theorem d_Ma_branch_13 : decode prog_4_method_6_code 13 = .ok (.iload_n 1, 1) := by decide +kernel
theorem d_Ma_branch_14 : decode prog_4_method_6_code 14 = .ok (.bipush 99, 2) := by decide +kernel
theorem d_Ma_branch_16 : decode prog_4_method_6_code 16 = .ok (.if_icmp .ne 7, 3) := by decide +kernel
theorem d_Ma_branch_19 : decode prog_4_method_6_code 19 = .ok (.iconst 1, 1) := by decide +kernel
theorem d_Ma_branch_20 : decode prog_4_method_6_code 20 = .ok (.goto 4, 3) := by decide +kernel
theorem d_Ma_branch_23 : decode prog_4_method_6_code 23 = .ok (.iconst 0, 1) := by decide +kernel
theorem d_Ma_branch_24 : decode prog_4_method_6_code 24 = .ok (.invokevirtual 90, 3) := by decide +kernel
theorem d_Ma_branch_27 : decode prog_4_method_6_code 27 = .ok (.ireturn, 1) := by decide +kernel
theorem d_Ma_branch_28 : decode prog_4_method_6_code 28 = .ok (.aload_n 0, 1) := by decide +kernel
theorem d_Ma_branch_29 : decode prog_4_method_6_code 29 = .ok (.getfield 26, 3) := by decide +kernel
theorem d_Ma_branch_32 : decode prog_4_method_6_code 32 = .ok (.invokevirtual 87, 3) := by decide +kernel
theorem d_Ma_branch_35 : decode prog_4_method_6_code 35 = .ok (.ifCond .ne 5, 3) := by decide +kernel
theorem d_Ma_branch_38 : decode prog_4_method_6_code 38 = .ok (.iconst 0, 1) := by decide +kernel
theorem d_Ma_branch_39 : decode prog_4_method_6_code 39 = .ok (.ireturn, 1) := by decide +kernel
theorem d_Ma_branch_40 : decode prog_4_method_6_code 40 = .ok (.iload_n 1, 1) := by decide +kernel
theorem d_Ma_branch_41 : decode prog_4_method_6_code 41 = .ok (.bipush 103, 2) := by decide +kernel
theorem d_Ma_branch_43 : decode prog_4_method_6_code 43 = .ok (.if_icmp .ne 13, 3) := by decide +kernel
theorem d_Ma_branch_46 : decode prog_4_method_6_code 46 = .ok (.aload_n 0, 1) := by decide +kernel
theorem d_Ma_branch_47 : decode prog_4_method_6_code 47 = .ok (.getfield 26, 3) := by decide +kernel
theorem d_Ma_branch_50 : decode prog_4_method_6_code 50 = .ok (.invokevirtual 94, 3) := by decide +kernel
theorem d_Ma_branch_53 : decode prog_4_method_6_code 53 = .ok (.goto 10, 3) := by decide +kernel
theorem d_Ma_branch_56 : decode prog_4_method_6_code 56 = .ok (.aload_n 0, 1) := by decide +kernel
theorem d_Ma_branch_57 : decode prog_4_method_6_code 57 = .ok (.getfield 26, 3) := by decide +kernel
theorem d_Ma_branch_60 : decode prog_4_method_6_code 60 = .ok (.invokevirtual 97, 3) := by decide +kernel
theorem d_Ma_branch_63 : decode prog_4_method_6_code 63 = .ok (.iconst 1, 1) := by decide +kernel
theorem d_Ma_branch_64 : decode prog_4_method_6_code 64 = .ok (.ireturn, 1) := by decide +kernel
theorem d_Ma_enter_0 : decode prog_4_method_7_code 0 = .ok (.aload_n 0, 1) := by decide +kernel
theorem d_Ma_enter_1 : decode prog_4_method_7_code 1 = .ok (.getfield 26, 3) := by decide +kernel
theorem d_Ma_enter_4 : decode prog_4_method_7_code 4 = .ok (.invokevirtual 70, 3) := by decide +kernel
theorem d_Ma_enter_7 : decode prog_4_method_7_code 7 = .ok (.ifCond .ne 13, 3) := by decide +kernel
theorem d_Ma_enter_10 : decode prog_4_method_7_code 10 = .ok (.aload_n 0, 1) := by decide +kernel
theorem d_Ma_enter_11 : decode prog_4_method_7_code 11 = .ok (.getfield 26, 3) := by decide +kernel
theorem d_Ma_enter_14 : decode prog_4_method_7_code 14 = .ok (.iconst 0, 1) := by decide +kernel
theorem d_Ma_enter_15 : decode prog_4_method_7_code 15 = .ok (.invokevirtual 100, 3) := by decide +kernel
theorem d_Ma_enter_18 : decode prog_4_method_7_code 18 = .ok (.iconst 1, 1) := by decide +kernel
theorem d_Ma_enter_19 : decode prog_4_method_7_code 19 = .ok (.ireturn, 1) := by decide +kernel
theorem d_Ma_enter_20 : decode prog_4_method_7_code 20 = .ok (.aload_n 0, 1) := by decide +kernel
theorem d_Ma_enter_21 : decode prog_4_method_7_code 21 = .ok (.getfield 43, 3) := by decide +kernel
theorem d_Ma_enter_24 : decode prog_4_method_7_code 24 = .ok (.iconst 0, 1) := by decide +kernel
theorem d_Ma_enter_25 : decode prog_4_method_7_code 25 = .ok (.invokevirtual 103, 3) := by decide +kernel
theorem d_Ma_enter_28 : decode prog_4_method_7_code 28 = .ok (.ifCond .ne 5, 3) := by decide +kernel
theorem d_Ma_enter_31 : decode prog_4_method_7_code 31 = .ok (.iconst 0, 1) := by decide +kernel
theorem d_Ma_enter_32 : decode prog_4_method_7_code 32 = .ok (.ireturn, 1) := by decide +kernel
theorem d_Ma_enter_33 : decode prog_4_method_7_code 33 = .ok (.aload_n 0, 1) := by decide +kernel
theorem d_Ma_enter_34 : decode prog_4_method_7_code 34 = .ok (.getfield 26, 3) := by decide +kernel
theorem d_Ma_enter_37 : decode prog_4_method_7_code 37 = .ok (.aload_n 0, 1) := by decide +kernel
theorem d_Ma_enter_38 : decode prog_4_method_7_code 38 = .ok (.getfield 43, 3) := by decide +kernel
theorem d_Ma_enter_41 : decode prog_4_method_7_code 41 = .ok (.invokevirtual 106, 3) := by decide +kernel
theorem d_Ma_enter_44 : decode prog_4_method_7_code 44 = .ok (.invokevirtual 110, 3) := by decide +kernel
theorem d_Ma_enter_47 : decode prog_4_method_7_code 47 = .ok (.iload_n 1, 1) := by decide +kernel
theorem d_Ma_enter_48 : decode prog_4_method_7_code 48 = .ok (.if_icmp .ne 7, 3) := by decide +kernel
theorem d_Ma_enter_51 : decode prog_4_method_7_code 51 = .ok (.iconst 1, 1) := by decide +kernel
theorem d_Ma_enter_52 : decode prog_4_method_7_code 52 = .ok (.goto 4, 3) := by decide +kernel
theorem d_Ma_enter_55 : decode prog_4_method_7_code 55 = .ok (.iconst 0, 1) := by decide +kernel
theorem d_Ma_enter_56 : decode prog_4_method_7_code 56 = .ok (.invokevirtual 100, 3) := by decide +kernel
theorem d_Ma_enter_59 : decode prog_4_method_7_code 59 = .ok (.iconst 1, 1) := by decide +kernel
theorem d_Ma_enter_60 : decode prog_4_method_7_code 60 = .ok (.ireturn, 1) := by decide +kernel
theorem d_Ma_pushFrom_0 : decode prog_4_method_8_code 0 = .ok (.aload_n 1, 1) := by decide +kernel
theorem d_Ma_pushFrom_1 : decode prog_4_method_8_code 1 = .ok (.iload_n 2, 1) := by decide +kernel
theorem d_Ma_pushFrom_2 : decode prog_4_method_8_code 2 = .ok (.baload, 1) := by decide +kernel
theorem d_Ma_pushFrom_3 : decode prog_4_method_8_code 3 = .ok (.sipush 255, 3) := by decide +kernel
theorem d_Ma_pushFrom_6 : decode prog_4_method_8_code 6 = .ok (.iand, 1) := by decide +kernel
theorem d_Ma_pushFrom_7 : decode prog_4_method_8_code 7 = .ok (.bipush 76, 2) := by decide +kernel
theorem d_Ma_pushFrom_9 : decode prog_4_method_8_code 9 = .ok (.if_icmp .ne 9, 3) := by decide +kernel
theorem d_Ma_pushFrom_12 : decode prog_4_method_8_code 12 = .ok (.iload_n 2, 1) := by decide +kernel
theorem d_Ma_pushFrom_13 : decode prog_4_method_8_code 13 = .ok (.iconst 2, 1) := by decide +kernel
theorem d_Ma_pushFrom_14 : decode prog_4_method_8_code 14 = .ok (.iadd, 1) := by decide +kernel
theorem d_Ma_pushFrom_15 : decode prog_4_method_8_code 15 = .ok (.goto 6, 3) := by decide +kernel
theorem d_Ma_pushFrom_18 : decode prog_4_method_8_code 18 = .ok (.iload_n 2, 1) := by decide +kernel
theorem d_Ma_pushFrom_19 : decode prog_4_method_8_code 19 = .ok (.iconst 1, 1) := by decide +kernel
theorem d_Ma_pushFrom_20 : decode prog_4_method_8_code 20 = .ok (.iadd, 1) := by decide +kernel
theorem d_Ma_pushFrom_21 : decode prog_4_method_8_code 21 = .ok (.istore 4, 2) := by decide +kernel
theorem d_Ma_pushFrom_23 : decode prog_4_method_8_code 23 = .ok (.aload_n 0, 1) := by decide +kernel
theorem d_Ma_pushFrom_24 : decode prog_4_method_8_code 24 = .ok (.getfield 43, 3) := by decide +kernel
theorem d_Ma_pushFrom_27 : decode prog_4_method_8_code 27 = .ok (.new 31, 3) := by decide +kernel
theorem d_Ma_pushFrom_30 : decode prog_4_method_8_code 30 = .ok (.dup, 1) := by decide +kernel
theorem d_Ma_pushFrom_31 : decode prog_4_method_8_code 31 = .ok (.aload_n 1, 1) := by decide +kernel
theorem d_Ma_pushFrom_32 : decode prog_4_method_8_code 32 = .ok (.iload 4, 2) := by decide +kernel
theorem d_Ma_pushFrom_34 : decode prog_4_method_8_code 34 = .ok (.iload_n 2, 1) := by decide +kernel
theorem d_Ma_pushFrom_35 : decode prog_4_method_8_code 35 = .ok (.iconst 1, 1) := by decide +kernel
theorem d_Ma_pushFrom_36 : decode prog_4_method_8_code 36 = .ok (.iadd, 1) := by decide +kernel
theorem d_Ma_pushFrom_37 : decode prog_4_method_8_code 37 = .ok (.iload_n 3, 1) := by decide +kernel
theorem d_Ma_pushFrom_38 : decode prog_4_method_8_code 38 = .ok (.iadd, 1) := by decide +kernel
theorem d_Ma_pushFrom_39 : decode prog_4_method_8_code 39 = .ok (.invokestatic 113, 3) := by decide +kernel
theorem d_Ma_pushFrom_42 : decode prog_4_method_8_code 42 = .ok (.invokespecial 119, 3) := by decide +kernel
theorem d_Ma_pushFrom_45 : decode prog_4_method_8_code 45 = .ok (.invokevirtual 122, 3) := by decide +kernel
theorem d_Ma_pushFrom_48 : decode prog_4_method_8_code 48 = .ok (.ireturn, 1) := by decide +kernel
theorem d_Ma_perform_0 : decode prog_4_method_9_code 0 = .ok (.iload_n 1, 1) := by decide +kernel
theorem d_Ma_perform_1 : decode prog_4_method_9_code 1 = .ok (.bipush 96, 2) := by decide +kernel
theorem d_Ma_perform_3 : decode prog_4_method_9_code 3 = .ok (.if_icmp .gt 9, 3) := by decide +kernel
theorem d_Ma_perform_6 : decode prog_4_method_9_code 6 = .ok (.aload_n 0, 1) := by decide +kernel
theorem d_Ma_perform_7 : decode prog_4_method_9_code 7 = .ok (.iload_n 1, 1) := by decide +kernel
theorem d_Ma_perform_8 : decode prog_4_method_9_code 8 = .ok (.invokevirtual 126, 3) := by decide +kernel
theorem d_Ma_perform_11 : decode prog_4_method_9_code 11 = .ok (.ireturn, 1) := by decide +kernel
theorem d_Ma_perform_12 : decode prog_4_method_9_code 12 = .ok (.iload_n 1, 1) := by decide +kernel
theorem d_Ma_perform_13 : decode prog_4_method_9_code 13 = .ok (.sipush 130, 3) := by decide +kernel
theorem d_Ma_perform_16 : decode prog_4_method_9_code 16 = .ok (.if_icmp .gt 9, 3) := by decide +kernel
theorem d_Ma_perform_19 : decode prog_4_method_9_code 19 = .ok (.aload_n 0, 1) := by decide +kernel
theorem d_Ma_perform_20 : decode prog_4_method_9_code 20 = .ok (.iload_n 1, 1) := by decide +kernel
theorem d_Ma_perform_21 : decode prog_4_method_9_code 21 = .ok (.invokevirtual 129, 3) := by decide +kernel
theorem d_Ma_perform_24 : decode prog_4_method_9_code 24 = .ok (.ireturn, 1) := by decide +kernel
theorem d_Ma_perform_25 : decode prog_4_method_9_code 25 = .ok (.iload_n 1, 1) := by decide +kernel
theorem d_Ma_perform_26 : decode prog_4_method_9_code 26 = .ok (.sipush 136, 3) := by decide +kernel
theorem d_Ma_perform_29 : decode prog_4_method_9_code 29 = .ok (.if_icmp .gt 9, 3) := by decide +kernel
theorem d_Ma_perform_32 : decode prog_4_method_9_code 32 = .ok (.aload_n 0, 1) := by decide +kernel
theorem d_Ma_perform_33 : decode prog_4_method_9_code 33 = .ok (.iload_n 1, 1) := by decide +kernel
theorem d_Ma_perform_34 : decode prog_4_method_9_code 34 = .ok (.invokevirtual 132, 3) := by decide +kernel
theorem d_Ma_perform_37 : decode prog_4_method_9_code 37 = .ok (.ireturn, 1) := by decide +kernel
theorem d_Ma_perform_38 : decode prog_4_method_9_code 38 = .ok (.iload_n 1, 1) := by decide +kernel
theorem d_Ma_perform_39 : decode prog_4_method_9_code 39 = .ok (.sipush 146, 3) := by decide +kernel
theorem d_Ma_perform_42 : decode prog_4_method_9_code 42 = .ok (.if_icmp .gt 9, 3) := by decide +kernel
theorem d_Ma_perform_45 : decode prog_4_method_9_code 45 = .ok (.aload_n 0, 1) := by decide +kernel
theorem d_Ma_perform_46 : decode prog_4_method_9_code 46 = .ok (.iload_n 1, 1) := by decide +kernel
theorem d_Ma_perform_47 : decode prog_4_method_9_code 47 = .ok (.invokevirtual 135, 3) := by decide +kernel
theorem d_Ma_perform_50 : decode prog_4_method_9_code 50 = .ok (.ireturn, 1) := by decide +kernel
theorem d_Ma_perform_51 : decode prog_4_method_9_code 51 = .ok (.iload_n 1, 1) := by decide +kernel
theorem d_Ma_perform_52 : decode prog_4_method_9_code 52 = .ok (.sipush 158, 3) := by decide +kernel
theorem d_Ma_perform_55 : decode prog_4_method_9_code 55 = .ok (.if_icmp .gt 9, 3) := by decide +kernel
theorem d_Ma_perform_58 : decode prog_4_method_9_code 58 = .ok (.aload_n 0, 1) := by decide +kernel
theorem d_Ma_perform_59 : decode prog_4_method_9_code 59 = .ok (.iload_n 1, 1) := by decide +kernel
theorem d_Ma_perform_60 : decode prog_4_method_9_code 60 = .ok (.invokevirtual 138, 3) := by decide +kernel
theorem d_Ma_perform_63 : decode prog_4_method_9_code 63 = .ok (.ireturn, 1) := by decide +kernel
theorem d_Ma_perform_64 : decode prog_4_method_9_code 64 = .ok (.iload_n 1, 1) := by decide +kernel
theorem d_Ma_perform_65 : decode prog_4_method_9_code 65 = .ok (.sipush 164, 3) := by decide +kernel
theorem d_Ma_perform_68 : decode prog_4_method_9_code 68 = .ok (.if_icmp .gt 9, 3) := by decide +kernel
theorem d_Ma_perform_71 : decode prog_4_method_9_code 71 = .ok (.aload_n 0, 1) := by decide +kernel
theorem d_Ma_perform_72 : decode prog_4_method_9_code 72 = .ok (.iload_n 1, 1) := by decide +kernel
theorem d_Ma_perform_73 : decode prog_4_method_9_code 73 = .ok (.invokevirtual 141, 3) := by decide +kernel
theorem d_Ma_perform_76 : decode prog_4_method_9_code 76 = .ok (.ireturn, 1) := by decide +kernel
theorem d_Ma_perform_77 : decode prog_4_method_9_code 77 = .ok (.iload_n 1, 1) := by decide +kernel
theorem d_Ma_perform_78 : decode prog_4_method_9_code 78 = .ok (.sipush 165, 3) := by decide +kernel
theorem d_Ma_perform_81 : decode prog_4_method_9_code 81 = .ok (.if_icmp .ne 8, 3) := by decide +kernel
theorem d_Ma_perform_84 : decode prog_4_method_9_code 84 = .ok (.aload_n 0, 1) := by decide +kernel
theorem d_Ma_perform_85 : decode prog_4_method_9_code 85 = .ok (.invokevirtual 144, 3) := by decide +kernel
theorem d_Ma_perform_88 : decode prog_4_method_9_code 88 = .ok (.ireturn, 1) := by decide +kernel
theorem d_Ma_perform_89 : decode prog_4_method_9_code 89 = .ok (.iload_n 1, 1) := by decide +kernel
theorem d_Ma_perform_90 : decode prog_4_method_9_code 90 = .ok (.sipush 170, 3) := by decide +kernel
theorem d_Ma_perform_93 : decode prog_4_method_9_code 93 = .ok (.if_icmp .gt 9, 3) := by decide +kernel
theorem d_Ma_perform_96 : decode prog_4_method_9_code 96 = .ok (.aload_n 0, 1) := by decide +kernel
theorem d_Ma_perform_97 : decode prog_4_method_9_code 97 = .ok (.iload_n 1, 1) := by decide +kernel
theorem d_Ma_perform_98 : decode prog_4_method_9_code 98 = .ok (.invokevirtual 147, 3) := by decide +kernel
theorem d_Ma_perform_101 : decode prog_4_method_9_code 101 = .ok (.ireturn, 1) := by decide +kernel
theorem d_Ma_perform_102 : decode prog_4_method_9_code 102 = .ok (.aload_n 0, 1) := by decide +kernel
theorem d_Ma_perform_103 : decode prog_4_method_9_code 103 = .ok (.iload_n 1, 1) := by decide +kernel
theorem d_Ma_perform_104 : decode prog_4_method_9_code 104 = .ok (.invokevirtual 150, 3) := by decide +kernel
theorem d_Ma_perform_107 : decode prog_4_method_9_code 107 = .ok (.ireturn, 1) := by decide +kernel
theorem d_Ma_constant_0 : decode prog_4_method_10_code 0 = .ok (.iload_n 1, 1) := by decide +kernel
theorem d_Ma_constant_1 : decode prog_4_method_10_code 1 = .ok (.bipush 79, 2) := by decide +kernel
theorem d_Ma_constant_3 : decode prog_4_method_10_code 3 = .ok (.if_icmp .ne 11, 3) := by decide +kernel
theorem d_Ma_constant_6 : decode prog_4_method_10_code 6 = .ok (.aload_n 0, 1) := by decide +kernel
theorem d_Ma_constant_7 : decode prog_4_method_10_code 7 = .ok (.ldc2_w 153, 3) := by decide +kernel
theorem d_Ma_constant_10 : decode prog_4_method_10_code 10 = .ok (.invokevirtual 155, 3) := by decide +kernel
theorem d_Ma_constant_13 : decode prog_4_method_10_code 13 = .ok (.ireturn, 1) := by decide +kernel
theorem d_Ma_constant_14 : decode prog_4_method_10_code 14 = .ok (.iload_n 1, 1) := by decide +kernel
theorem d_Ma_constant_15 : decode prog_4_method_10_code 15 = .ok (.bipush 81, 2) := by decide +kernel
theorem d_Ma_constant_17 : decode prog_4_method_10_code 17 = .ok (.if_icmp .lt 21, 3) := by decide +kernel
theorem d_Ma_constant_20 : decode prog_4_method_10_code 20 = .ok (.aload_n 0, 1) := by decide +kernel
theorem d_Ma_constant_21 : decode prog_4_method_10_code 21 = .ok (.iload_n 1, 1) := by decide +kernel
theorem d_Ma_constant_22 : decode prog_4_method_10_code 22 = .ok (.bipush 81, 2) := by decide +kernel
theorem d_Ma_constant_24 : decode prog_4_method_10_code 24 = .ok (.isub, 1) := by decide +kernel
theorem d_Ma_constant_25 : decode prog_4_method_10_code 25 = .ok (.iconst 1, 1) := by decide +kernel
theorem d_Ma_constant_26 : decode prog_4_method_10_code 26 = .ok (.iadd, 1) := by decide +kernel
theorem d_Ma_constant_27 : decode prog_4_method_10_code 27 = .ok (.i2l, 1) := by decide +kernel
theorem d_Ma_constant_28 : decode prog_4_method_10_code 28 = .ok (.invokevirtual 155, 3) := by decide +kernel
theorem d_Ma_constant_31 : decode prog_4_method_10_code 31 = .ok (.ifCond .eq 7, 3) := by decide +kernel
theorem d_Ma_constant_34 : decode prog_4_method_10_code 34 = .ok (.iconst 1, 1) := by decide +kernel
theorem d_Ma_constant_35 : decode prog_4_method_10_code 35 = .ok (.goto 4, 3) := by decide +kernel
theorem d_Ma_constant_38 : decode prog_4_method_10_code 38 = .ok (.iconst 0, 1) := by decide +kernel
theorem d_Ma_constant_39 : decode prog_4_method_10_code 39 = .ok (.ireturn, 1) := by decide +kernel
theorem d_Ma_pushNumber_0 : decode prog_4_method_24_code 0 = .ok (.aload_n 0, 1) := by decide +kernel
theorem d_Ma_pushNumber_1 : decode prog_4_method_24_code 1 = .ok (.getfield 43, 3) := by decide +kernel
theorem d_Ma_pushNumber_4 : decode prog_4_method_24_code 4 = .ok (.lload_n 1, 1) := by decide +kernel
theorem d_Ma_pushNumber_5 : decode prog_4_method_24_code 5 = .ok (.invokestatic 30, 3) := by decide +kernel
theorem d_Ma_pushNumber_8 : decode prog_4_method_24_code 8 = .ok (.invokevirtual 122, 3) := by decide +kernel
theorem d_Ma_pushNumber_11 : decode prog_4_method_24_code 11 = .ok (.ireturn, 1) := by decide +kernel
theorem d_Ma_arrange_0 : decode prog_4_method_11_code 0 = .ok (.aload_n 0, 1) := by decide +kernel
theorem d_Ma_arrange_1 : decode prog_4_method_11_code 1 = .ok (.getfield 43, 3) := by decide +kernel
theorem d_Ma_arrange_4 : decode prog_4_method_11_code 4 = .ok (.invokevirtual 84, 3) := by decide +kernel
theorem d_Ma_arrange_7 : decode prog_4_method_11_code 7 = .ok (.iload_n 1, 1) := by decide +kernel
theorem d_Ma_arrange_8 : decode prog_4_method_11_code 8 = .ok (.invokestatic 159, 3) := by decide +kernel
theorem d_Ma_arrange_11 : decode prog_4_method_11_code 11 = .ok (.if_icmp .ge 5, 3) := by decide +kernel
theorem d_Ma_arrange_14 : decode prog_4_method_11_code 14 = .ok (.iconst 0, 1) := by decide +kernel
theorem d_Ma_arrange_15 : decode prog_4_method_11_code 15 = .ok (.ireturn, 1) := by decide +kernel
theorem d_Ma_arrange_16 : decode prog_4_method_11_code 16 = .ok (.iload_n 1, 1) := by decide +kernel
theorem d_Ma_arrange_17 : decode prog_4_method_11_code 17 = .ok (.tableswitch 465 97 130 #[151, 465, 465, 465, 465, 465, 465, 465, 155, 465, 168, 185, 221, 232, 465, 465, 465, 465, 276, 316, 331, 342, 360, 367, 385, 385, 403, 421, 439, 465, 465, 465, 465, 446], 151) := by decide +kernel
theorem d_Ma_arrange_168 : decode prog_4_method_11_code 168 = .ok (.iconst 1, 1) := by decide +kernel
theorem d_Ma_arrange_169 : decode prog_4_method_11_code 169 = .ok (.goto 314, 3) := by decide +kernel
theorem d_Ma_arrange_172 : decode prog_4_method_11_code 172 = .ok (.aload_n 0, 1) := by decide +kernel
theorem d_Ma_arrange_173 : decode prog_4_method_11_code 173 = .ok (.getfield 43, 3) := by decide +kernel
theorem d_Ma_arrange_176 : decode prog_4_method_11_code 176 = .ok (.invokevirtual 106, 3) := by decide +kernel
theorem d_Ma_arrange_179 : decode prog_4_method_11_code 179 = .ok (.invokevirtual 110, 3) := by decide +kernel
theorem d_Ma_arrange_182 : decode prog_4_method_11_code 182 = .ok (.goto 301, 3) := by decide +kernel
theorem d_Ma_arrange_185 : decode prog_4_method_11_code 185 = .ok (.aload_n 0, 1) := by decide +kernel
theorem d_Ma_arrange_186 : decode prog_4_method_11_code 186 = .ok (.getfield 19, 3) := by decide +kernel
theorem d_Ma_arrange_189 : decode prog_4_method_11_code 189 = .ok (.aload_n 0, 1) := by decide +kernel
theorem d_Ma_arrange_190 : decode prog_4_method_11_code 190 = .ok (.getfield 43, 3) := by decide +kernel
theorem d_Ma_arrange_193 : decode prog_4_method_11_code 193 = .ok (.invokevirtual 106, 3) := by decide +kernel
theorem d_Ma_arrange_196 : decode prog_4_method_11_code 196 = .ok (.invokevirtual 122, 3) := by decide +kernel
theorem d_Ma_arrange_199 : decode prog_4_method_11_code 199 = .ok (.goto 284, 3) := by decide +kernel
theorem d_Ma_arrange_202 : decode prog_4_method_11_code 202 = .ok (.aload_n 0, 1) := by decide +kernel
theorem d_Ma_arrange_203 : decode prog_4_method_11_code 203 = .ok (.getfield 19, 3) := by decide +kernel
theorem d_Ma_arrange_206 : decode prog_4_method_11_code 206 = .ok (.iconst 0, 1) := by decide +kernel
theorem d_Ma_arrange_207 : decode prog_4_method_11_code 207 = .ok (.invokevirtual 103, 3) := by decide +kernel
theorem d_Ma_arrange_210 : decode prog_4_method_11_code 210 = .ok (.ifCond .eq 24, 3) := by decide +kernel
theorem d_Ma_arrange_213 : decode prog_4_method_11_code 213 = .ok (.aload_n 0, 1) := by decide +kernel
theorem d_Ma_arrange_214 : decode prog_4_method_11_code 214 = .ok (.getfield 43, 3) := by decide +kernel
theorem d_Ma_arrange_217 : decode prog_4_method_11_code 217 = .ok (.aload_n 0, 1) := by decide +kernel
theorem d_Ma_arrange_218 : decode prog_4_method_11_code 218 = .ok (.getfield 19, 3) := by decide +kernel
theorem d_Ma_arrange_221 : decode prog_4_method_11_code 221 = .ok (.invokevirtual 106, 3) := by decide +kernel
theorem d_Ma_arrange_224 : decode prog_4_method_11_code 224 = .ok (.invokevirtual 122, 3) := by decide +kernel
theorem d_Ma_arrange_227 : decode prog_4_method_11_code 227 = .ok (.ifCond .eq 7, 3) := by decide +kernel
theorem d_Ma_arrange_230 : decode prog_4_method_11_code 230 = .ok (.iconst 1, 1) := by decide +kernel
theorem d_Ma_arrange_231 : decode prog_4_method_11_code 231 = .ok (.goto 252, 3) := by decide +kernel
theorem d_Ma_arrange_234 : decode prog_4_method_11_code 234 = .ok (.iconst 0, 1) := by decide +kernel
theorem d_Ma_arrange_235 : decode prog_4_method_11_code 235 = .ok (.goto 248, 3) := by decide +kernel
theorem d_Ma_arrange_238 : decode prog_4_method_11_code 238 = .ok (.aload_n 0, 1) := by decide +kernel
theorem d_Ma_arrange_239 : decode prog_4_method_11_code 239 = .ok (.getfield 43, 3) := by decide +kernel
theorem d_Ma_arrange_242 : decode prog_4_method_11_code 242 = .ok (.iconst 2, 1) := by decide +kernel
theorem d_Ma_arrange_243 : decode prog_4_method_11_code 243 = .ok (.invokevirtual 163, 3) := by decide +kernel
theorem d_Ma_arrange_246 : decode prog_4_method_11_code 246 = .ok (.goto 237, 3) := by decide +kernel
theorem d_Ma_arrange_249 : decode prog_4_method_11_code 249 = .ok (.aload_n 0, 1) := by decide +kernel
theorem d_Ma_arrange_250 : decode prog_4_method_11_code 250 = .ok (.getfield 43, 3) := by decide +kernel
theorem d_Ma_arrange_253 : decode prog_4_method_11_code 253 = .ok (.aload_n 0, 1) := by decide +kernel
theorem d_Ma_arrange_254 : decode prog_4_method_11_code 254 = .ok (.getfield 43, 3) := by decide +kernel
theorem d_Ma_arrange_257 : decode prog_4_method_11_code 257 = .ok (.iconst 1, 1) := by decide +kernel
theorem d_Ma_arrange_258 : decode prog_4_method_11_code 258 = .ok (.invokevirtual 166, 3) := by decide +kernel
theorem d_Ma_arrange_261 : decode prog_4_method_11_code 261 = .ok (.invokevirtual 122, 3) := by decide +kernel
theorem d_Ma_arrange_264 : decode prog_4_method_11_code 264 = .ok (.ifCond .eq 25, 3) := by decide +kernel
theorem d_Ma_arrange_267 : decode prog_4_method_11_code 267 = .ok (.aload_n 0, 1) := by decide +kernel
theorem d_Ma_arrange_268 : decode prog_4_method_11_code 268 = .ok (.getfield 43, 3) := by decide +kernel
theorem d_Ma_arrange_271 : decode prog_4_method_11_code 271 = .ok (.aload_n 0, 1) := by decide +kernel
theorem d_Ma_arrange_272 : decode prog_4_method_11_code 272 = .ok (.getfield 43, 3) := by decide +kernel
theorem d_Ma_arrange_275 : decode prog_4_method_11_code 275 = .ok (.iconst 1, 1) := by decide +kernel
theorem d_Ma_arrange_276 : decode prog_4_method_11_code 276 = .ok (.invokevirtual 166, 3) := by decide +kernel
theorem d_Ma_arrange_279 : decode prog_4_method_11_code 279 = .ok (.invokevirtual 122, 3) := by decide +kernel
theorem d_Ma_arrange_282 : decode prog_4_method_11_code 282 = .ok (.ifCond .eq 7, 3) := by decide +kernel
theorem d_Ma_arrange_285 : decode prog_4_method_11_code 285 = .ok (.iconst 1, 1) := by decide +kernel
theorem d_Ma_arrange_286 : decode prog_4_method_11_code 286 = .ok (.goto 197, 3) := by decide +kernel
theorem d_Ma_arrange_289 : decode prog_4_method_11_code 289 = .ok (.iconst 0, 1) := by decide +kernel
theorem d_Ma_arrange_290 : decode prog_4_method_11_code 290 = .ok (.goto 193, 3) := by decide +kernel
theorem d_Ma_arrange_293 : decode prog_4_method_11_code 293 = .ok (.aload_n 0, 1) := by decide +kernel
theorem d_Ma_arrange_294 : decode prog_4_method_11_code 294 = .ok (.getfield 43, 3) := by decide +kernel
theorem d_Ma_arrange_297 : decode prog_4_method_11_code 297 = .ok (.iconst 0, 1) := by decide +kernel
theorem d_Ma_arrange_298 : decode prog_4_method_11_code 298 = .ok (.invokevirtual 166, 3) := by decide +kernel
theorem d_Ma_arrange_301 : decode prog_4_method_11_code 301 = .ok (.invokevirtual 110, 3) := by decide +kernel
theorem d_Ma_arrange_304 : decode prog_4_method_11_code 304 = .ok (.ifCond .eq 21, 3) := by decide +kernel
theorem d_Ma_arrange_307 : decode prog_4_method_11_code 307 = .ok (.aload_n 0, 1) := by decide +kernel
theorem d_Ma_arrange_308 : decode prog_4_method_11_code 308 = .ok (.getfield 43, 3) := by decide +kernel
theorem d_Ma_arrange_311 : decode prog_4_method_11_code 311 = .ok (.aload_n 0, 1) := by decide +kernel
theorem d_Ma_arrange_312 : decode prog_4_method_11_code 312 = .ok (.getfield 43, 3) := by decide +kernel
theorem d_Ma_arrange_315 : decode prog_4_method_11_code 315 = .ok (.iconst 0, 1) := by decide +kernel
theorem d_Ma_arrange_316 : decode prog_4_method_11_code 316 = .ok (.invokevirtual 166, 3) := by decide +kernel
theorem d_Ma_arrange_319 : decode prog_4_method_11_code 319 = .ok (.invokevirtual 122, 3) := by decide +kernel
theorem d_Ma_arrange_322 : decode prog_4_method_11_code 322 = .ok (.ifCond .eq 7, 3) := by decide +kernel
theorem d_Ma_arrange_325 : decode prog_4_method_11_code 325 = .ok (.iconst 1, 1) := by decide +kernel
theorem d_Ma_arrange_326 : decode prog_4_method_11_code 326 = .ok (.goto 157, 3) := by decide +kernel
theorem d_Ma_arrange_329 : decode prog_4_method_11_code 329 = .ok (.iconst 0, 1) := by decide +kernel
theorem d_Ma_arrange_330 : decode prog_4_method_11_code 330 = .ok (.goto 153, 3) := by decide +kernel
theorem d_Ma_arrange_333 : decode prog_4_method_11_code 333 = .ok (.aload_n 0, 1) := by decide +kernel
theorem d_Ma_arrange_334 : decode prog_4_method_11_code 334 = .ok (.aload_n 0, 1) := by decide +kernel
theorem d_Ma_arrange_335 : decode prog_4_method_11_code 335 = .ok (.getfield 43, 3) := by decide +kernel
theorem d_Ma_arrange_338 : decode prog_4_method_11_code 338 = .ok (.invokevirtual 84, 3) := by decide +kernel
theorem d_Ma_arrange_341 : decode prog_4_method_11_code 341 = .ok (.i2l, 1) := by decide +kernel
theorem d_Ma_arrange_342 : decode prog_4_method_11_code 342 = .ok (.invokevirtual 155, 3) := by decide +kernel
theorem d_Ma_arrange_345 : decode prog_4_method_11_code 345 = .ok (.goto 138, 3) := by decide +kernel
theorem d_Ma_arrange_348 : decode prog_4_method_11_code 348 = .ok (.aload_n 0, 1) := by decide +kernel
theorem d_Ma_arrange_349 : decode prog_4_method_11_code 349 = .ok (.getfield 43, 3) := by decide +kernel
theorem d_Ma_arrange_352 : decode prog_4_method_11_code 352 = .ok (.iconst 1, 1) := by decide +kernel
theorem d_Ma_arrange_353 : decode prog_4_method_11_code 353 = .ok (.invokevirtual 163, 3) := by decide +kernel
theorem d_Ma_arrange_356 : decode prog_4_method_11_code 356 = .ok (.goto 127, 3) := by decide +kernel
theorem d_Ma_arrange_359 : decode prog_4_method_11_code 359 = .ok (.aload_n 0, 1) := by decide +kernel
theorem d_Ma_arrange_360 : decode prog_4_method_11_code 360 = .ok (.getfield 43, 3) := by decide +kernel
theorem d_Ma_arrange_363 : decode prog_4_method_11_code 363 = .ok (.aload_n 0, 1) := by decide +kernel
theorem d_Ma_arrange_364 : decode prog_4_method_11_code 364 = .ok (.getfield 43, 3) := by decide +kernel
theorem d_Ma_arrange_367 : decode prog_4_method_11_code 367 = .ok (.iconst 0, 1) := by decide +kernel
theorem d_Ma_arrange_368 : decode prog_4_method_11_code 368 = .ok (.invokevirtual 166, 3) := by decide +kernel
theorem d_Ma_arrange_371 : decode prog_4_method_11_code 371 = .ok (.invokevirtual 122, 3) := by decide +kernel
theorem d_Ma_arrange_374 : decode prog_4_method_11_code 374 = .ok (.goto 109, 3) := by decide +kernel
theorem d_Ma_arrange_377 : decode prog_4_method_11_code 377 = .ok (.aload_n 0, 1) := by decide +kernel
theorem d_Ma_arrange_378 : decode prog_4_method_11_code 378 = .ok (.invokevirtual 170, 3) := by decide +kernel
theorem d_Ma_arrange_381 : decode prog_4_method_11_code 381 = .ok (.goto 102, 3) := by decide +kernel
theorem d_Ma_arrange_384 : decode prog_4_method_11_code 384 = .ok (.aload_n 0, 1) := by decide +kernel
theorem d_Ma_arrange_385 : decode prog_4_method_11_code 385 = .ok (.getfield 43, 3) := by decide +kernel
theorem d_Ma_arrange_388 : decode prog_4_method_11_code 388 = .ok (.aload_n 0, 1) := by decide +kernel
theorem d_Ma_arrange_389 : decode prog_4_method_11_code 389 = .ok (.getfield 43, 3) := by decide +kernel
theorem d_Ma_arrange_392 : decode prog_4_method_11_code 392 = .ok (.iconst 1, 1) := by decide +kernel
theorem d_Ma_arrange_393 : decode prog_4_method_11_code 393 = .ok (.invokevirtual 166, 3) := by decide +kernel
theorem d_Ma_arrange_396 : decode prog_4_method_11_code 396 = .ok (.invokevirtual 122, 3) := by decide +kernel
theorem d_Ma_arrange_399 : decode prog_4_method_11_code 399 = .ok (.goto 84, 3) := by decide +kernel
theorem d_Ma_arrange_402 : decode prog_4_method_11_code 402 = .ok (.aload_n 0, 1) := by decide +kernel
theorem d_Ma_arrange_403 : decode prog_4_method_11_code 403 = .ok (.iload_n 1, 1) := by decide +kernel
theorem d_Ma_arrange_404 : decode prog_4_method_11_code 404 = .ok (.bipush 122, 2) := by decide +kernel
theorem d_Ma_arrange_406 : decode prog_4_method_11_code 406 = .ok (.if_icmp .ne 7, 3) := by decide +kernel
theorem d_Ma_arrange_409 : decode prog_4_method_11_code 409 = .ok (.iconst 1, 1) := by decide +kernel
theorem d_Ma_arrange_410 : decode prog_4_method_11_code 410 = .ok (.goto 4, 3) := by decide +kernel
theorem d_Ma_arrange_413 : decode prog_4_method_11_code 413 = .ok (.iconst 0, 1) := by decide +kernel
theorem d_Ma_arrange_414 : decode prog_4_method_11_code 414 = .ok (.invokevirtual 173, 3) := by decide +kernel
theorem d_Ma_arrange_417 : decode prog_4_method_11_code 417 = .ok (.goto 66, 3) := by decide +kernel
theorem d_Ma_arrange_420 : decode prog_4_method_11_code 420 = .ok (.aload_n 0, 1) := by decide +kernel
theorem d_Ma_arrange_421 : decode prog_4_method_11_code 421 = .ok (.getfield 43, 3) := by decide +kernel
theorem d_Ma_arrange_424 : decode prog_4_method_11_code 424 = .ok (.aload_n 0, 1) := by decide +kernel
theorem d_Ma_arrange_425 : decode prog_4_method_11_code 425 = .ok (.getfield 43, 3) := by decide +kernel
theorem d_Ma_arrange_428 : decode prog_4_method_11_code 428 = .ok (.iconst 2, 1) := by decide +kernel
theorem d_Ma_arrange_429 : decode prog_4_method_11_code 429 = .ok (.invokevirtual 176, 3) := by decide +kernel
theorem d_Ma_arrange_432 : decode prog_4_method_11_code 432 = .ok (.invokevirtual 122, 3) := by decide +kernel
theorem d_Ma_arrange_435 : decode prog_4_method_11_code 435 = .ok (.goto 48, 3) := by decide +kernel
theorem d_Ma_arrange_438 : decode prog_4_method_11_code 438 = .ok (.aload_n 0, 1) := by decide +kernel
theorem d_Ma_arrange_439 : decode prog_4_method_11_code 439 = .ok (.getfield 43, 3) := by decide +kernel
theorem d_Ma_arrange_442 : decode prog_4_method_11_code 442 = .ok (.aload_n 0, 1) := by decide +kernel
theorem d_Ma_arrange_443 : decode prog_4_method_11_code 443 = .ok (.getfield 43, 3) := by decide +kernel
theorem d_Ma_arrange_446 : decode prog_4_method_11_code 446 = .ok (.iconst 1, 1) := by decide +kernel
theorem d_Ma_arrange_447 : decode prog_4_method_11_code 447 = .ok (.invokevirtual 176, 3) := by decide +kernel
theorem d_Ma_arrange_450 : decode prog_4_method_11_code 450 = .ok (.invokevirtual 122, 3) := by decide +kernel
theorem d_Ma_arrange_453 : decode prog_4_method_11_code 453 = .ok (.goto 30, 3) := by decide +kernel
theorem d_Ma_arrange_456 : decode prog_4_method_11_code 456 = .ok (.aload_n 0, 1) := by decide +kernel
theorem d_Ma_arrange_457 : decode prog_4_method_11_code 457 = .ok (.invokevirtual 179, 3) := by decide +kernel
theorem d_Ma_arrange_460 : decode prog_4_method_11_code 460 = .ok (.goto 23, 3) := by decide +kernel
theorem d_Ma_arrange_463 : decode prog_4_method_11_code 463 = .ok (.aload_n 0, 1) := by decide +kernel
theorem d_Ma_arrange_464 : decode prog_4_method_11_code 464 = .ok (.aload_n 0, 1) := by decide +kernel
theorem d_Ma_arrange_465 : decode prog_4_method_11_code 465 = .ok (.getfield 43, 3) := by decide +kernel
theorem d_Ma_arrange_468 : decode prog_4_method_11_code 468 = .ok (.iconst 0, 1) := by decide +kernel
theorem d_Ma_arrange_469 : decode prog_4_method_11_code 469 = .ok (.invokevirtual 166, 3) := by decide +kernel
theorem d_Ma_arrange_472 : decode prog_4_method_11_code 472 = .ok (.invokevirtual 182, 3) := by decide +kernel
theorem d_Ma_arrange_475 : decode prog_4_method_11_code 475 = .ok (.i2l, 1) := by decide +kernel
theorem d_Ma_arrange_476 : decode prog_4_method_11_code 476 = .ok (.invokevirtual 155, 3) := by decide +kernel
theorem d_Ma_arrange_479 : decode prog_4_method_11_code 479 = .ok (.goto 4, 3) := by decide +kernel
theorem d_Ma_arrange_482 : decode prog_4_method_11_code 482 = .ok (.iconst 0, 1) := by decide +kernel
theorem d_Ma_arrange_483 : decode prog_4_method_11_code 483 = .ok (.ireturn, 1) := by decide +kernel
theorem d_Ma_nip_0 : decode prog_4_method_12_code 0 = .ok (.aload_n 0, 1) := by decide +kernel
theorem d_Ma_nip_1 : decode prog_4_method_12_code 1 = .ok (.getfield 43, 3) := by decide +kernel
theorem d_Ma_nip_4 : decode prog_4_method_12_code 4 = .ok (.iconst 1, 1) := by decide +kernel
theorem d_Ma_nip_5 : decode prog_4_method_12_code 5 = .ok (.invokevirtual 176, 3) := by decide +kernel
theorem d_Ma_nip_8 : decode prog_4_method_12_code 8 = .ok (.pop, 1) := by decide +kernel
theorem d_Ma_nip_9 : decode prog_4_method_12_code 9 = .ok (.iconst 1, 1) := by decide +kernel
theorem d_Ma_nip_10 : decode prog_4_method_12_code 10 = .ok (.ireturn, 1) := by decide +kernel
theorem d_Ma_fetch_0 : decode prog_4_method_13_code 0 = .ok (.aload_n 0, 1) := by decide +kernel
theorem d_Ma_fetch_1 : decode prog_4_method_13_code 1 = .ok (.iconst 0, 1) := by decide +kernel
theorem d_Ma_fetch_2 : decode prog_4_method_13_code 2 = .ok (.aload_n 0, 1) := by decide +kernel
theorem d_Ma_fetch_3 : decode prog_4_method_13_code 3 = .ok (.getfield 43, 3) := by decide +kernel
theorem d_Ma_fetch_6 : decode prog_4_method_13_code 6 = .ok (.invokevirtual 84, 3) := by decide +kernel
theorem d_Ma_fetch_9 : decode prog_4_method_13_code 9 = .ok (.iconst 2, 1) := by decide +kernel
theorem d_Ma_fetch_10 : decode prog_4_method_13_code 10 = .ok (.isub, 1) := by decide +kernel
theorem d_Ma_fetch_11 : decode prog_4_method_13_code 11 = .ok (.invokevirtual 185, 3) := by decide +kernel
theorem d_Ma_fetch_14 : decode prog_4_method_13_code 14 = .ok (.istore_n 2, 1) := by decide +kernel
theorem d_Ma_fetch_15 : decode prog_4_method_13_code 15 = .ok (.iload_n 2, 1) := by decide +kernel
theorem d_Ma_fetch_16 : decode prog_4_method_13_code 16 = .ok (.ifCond .ge 5, 3) := by decide +kernel
theorem d_Ma_fetch_19 : decode prog_4_method_13_code 19 = .ok (.iconst 0, 1) := by decide +kernel
theorem d_Ma_fetch_20 : decode prog_4_method_13_code 20 = .ok (.ireturn, 1) := by decide +kernel
theorem d_Ma_fetch_21 : decode prog_4_method_13_code 21 = .ok (.aload_n 0, 1) := by decide +kernel
theorem d_Ma_fetch_22 : decode prog_4_method_13_code 22 = .ok (.getfield 43, 3) := by decide +kernel
theorem d_Ma_fetch_25 : decode prog_4_method_13_code 25 = .ok (.invokevirtual 106, 3) := by decide +kernel
theorem d_Ma_fetch_28 : decode prog_4_method_13_code 28 = .ok (.pop, 1) := by decide +kernel
theorem d_Ma_fetch_29 : decode prog_4_method_13_code 29 = .ok (.aload_n 0, 1) := by decide +kernel
theorem d_Ma_fetch_30 : decode prog_4_method_13_code 30 = .ok (.getfield 43, 3) := by decide +kernel
theorem d_Ma_fetch_33 : decode prog_4_method_13_code 33 = .ok (.iload_n 1, 1) := by decide +kernel
theorem d_Ma_fetch_34 : decode prog_4_method_13_code 34 = .ok (.ifCond .eq 14, 3) := by decide +kernel
theorem d_Ma_fetch_37 : decode prog_4_method_13_code 37 = .ok (.aload_n 0, 1) := by decide +kernel
theorem d_Ma_fetch_38 : decode prog_4_method_13_code 38 = .ok (.getfield 43, 3) := by decide +kernel
theorem d_Ma_fetch_41 : decode prog_4_method_13_code 41 = .ok (.iload_n 2, 1) := by decide +kernel
theorem d_Ma_fetch_42 : decode prog_4_method_13_code 42 = .ok (.invokevirtual 176, 3) := by decide +kernel
theorem d_Ma_fetch_45 : decode prog_4_method_13_code 45 = .ok (.goto 11, 3) := by decide +kernel
theorem d_Ma_fetch_48 : decode prog_4_method_13_code 48 = .ok (.aload_n 0, 1) := by decide +kernel
theorem d_Ma_fetch_49 : decode prog_4_method_13_code 49 = .ok (.getfield 43, 3) := by decide +kernel
theorem d_Ma_fetch_52 : decode prog_4_method_13_code 52 = .ok (.iload_n 2, 1) := by decide +kernel
theorem d_Ma_fetch_53 : decode prog_4_method_13_code 53 = .ok (.invokevirtual 166, 3) := by decide +kernel
theorem d_Ma_fetch_56 : decode prog_4_method_13_code 56 = .ok (.invokevirtual 122, 3) := by decide +kernel
theorem d_Ma_fetch_59 : decode prog_4_method_13_code 59 = .ok (.ireturn, 1) := by decide +kernel
theorem d_Ma_countAt_0 : decode prog_4_method_23_code 0 = .ok (.aload_n 0, 1) := by decide +kernel
theorem d_Ma_countAt_1 : decode prog_4_method_23_code 1 = .ok (.getfield 43, 3) := by decide +kernel
theorem d_Ma_countAt_4 : decode prog_4_method_23_code 4 = .ok (.iload_n 1, 1) := by decide +kernel
theorem d_Ma_countAt_5 : decode prog_4_method_23_code 5 = .ok (.invokevirtual 103, 3) := by decide +kernel
theorem d_Ma_countAt_8 : decode prog_4_method_23_code 8 = .ok (.ifCond .eq 17, 3) := by decide +kernel
theorem d_Ma_countAt_11 : decode prog_4_method_23_code 11 = .ok (.aload_n 0, 1) := by decide +kernel
theorem d_Ma_countAt_12 : decode prog_4_method_23_code 12 = .ok (.getfield 43, 3) := by decide +kernel
theorem d_Ma_countAt_15 : decode prog_4_method_23_code 15 = .ok (.iload_n 1, 1) := by decide +kernel
theorem d_Ma_countAt_16 : decode prog_4_method_23_code 16 = .ok (.invokevirtual 166, 3) := by decide +kernel
theorem d_Ma_countAt_19 : decode prog_4_method_23_code 19 = .ok (.invokevirtual 228, 3) := by decide +kernel
theorem d_Ma_countAt_22 : decode prog_4_method_23_code 22 = .ok (.ifCond .ne 5, 3) := by decide +kernel
theorem d_Ma_countAt_25 : decode prog_4_method_23_code 25 = .ok (.iconst (-1), 1) := by decide +kernel
theorem d_Ma_countAt_26 : decode prog_4_method_23_code 26 = .ok (.ireturn, 1) := by decide +kernel
theorem d_Ma_countAt_27 : decode prog_4_method_23_code 27 = .ok (.aload_n 0, 1) := by decide +kernel
theorem d_Ma_countAt_28 : decode prog_4_method_23_code 28 = .ok (.getfield 43, 3) := by decide +kernel
theorem d_Ma_countAt_31 : decode prog_4_method_23_code 31 = .ok (.iload_n 1, 1) := by decide +kernel
theorem d_Ma_countAt_32 : decode prog_4_method_23_code 32 = .ok (.invokevirtual 166, 3) := by decide +kernel
theorem d_Ma_countAt_35 : decode prog_4_method_23_code 35 = .ok (.invokevirtual 198, 3) := by decide +kernel
theorem d_Ma_countAt_38 : decode prog_4_method_23_code 38 = .ok (.lstore_n 3, 1) := by decide +kernel
theorem d_Ma_countAt_39 : decode prog_4_method_23_code 39 = .ok (.lload_n 3, 1) := by decide +kernel
theorem d_Ma_countAt_40 : decode prog_4_method_23_code 40 = .ok (.lconst 0, 1) := by decide +kernel
theorem d_Ma_countAt_41 : decode prog_4_method_23_code 41 = .ok (.lcmp, 1) := by decide +kernel
theorem d_Ma_countAt_42 : decode prog_4_method_23_code 42 = .ok (.ifCond .lt 15, 3) := by decide +kernel
theorem d_Ma_countAt_45 : decode prog_4_method_23_code 45 = .ok (.lload_n 3, 1) := by decide +kernel
theorem d_Ma_countAt_46 : decode prog_4_method_23_code 46 = .ok (.iload_n 2, 1) := by decide +kernel
theorem d_Ma_countAt_47 : decode prog_4_method_23_code 47 = .ok (.i2l, 1) := by decide +kernel
theorem d_Ma_countAt_48 : decode prog_4_method_23_code 48 = .ok (.lcmp, 1) := by decide +kernel
theorem d_Ma_countAt_49 : decode prog_4_method_23_code 49 = .ok (.ifCond .gt 8, 3) := by decide +kernel
theorem d_Ma_countAt_52 : decode prog_4_method_23_code 52 = .ok (.lload_n 3, 1) := by decide +kernel
theorem d_Ma_countAt_53 : decode prog_4_method_23_code 53 = .ok (.l2i, 1) := by decide +kernel
theorem d_Ma_countAt_54 : decode prog_4_method_23_code 54 = .ok (.goto 4, 3) := by decide +kernel
theorem d_Ma_countAt_57 : decode prog_4_method_23_code 57 = .ok (.iconst (-1), 1) := by decide +kernel
theorem d_Ma_countAt_58 : decode prog_4_method_23_code 58 = .ok (.ireturn, 1) := by decide +kernel
theorem d_Ma_tuck_0 : decode prog_4_method_14_code 0 = .ok (.aload_n 0, 1) := by decide +kernel
theorem d_Ma_tuck_1 : decode prog_4_method_14_code 1 = .ok (.getfield 43, 3) := by decide +kernel
theorem d_Ma_tuck_4 : decode prog_4_method_14_code 4 = .ok (.iconst 0, 1) := by decide +kernel
theorem d_Ma_tuck_5 : decode prog_4_method_14_code 5 = .ok (.invokevirtual 166, 3) := by decide +kernel
theorem d_Ma_tuck_8 : decode prog_4_method_14_code 8 = .ok (.astore_n 1, 1) := by decide +kernel
theorem d_Ma_tuck_9 : decode prog_4_method_14_code 9 = .ok (.aload_n 0, 1) := by decide +kernel
theorem d_Ma_tuck_10 : decode prog_4_method_14_code 10 = .ok (.getfield 43, 3) := by decide +kernel
theorem d_Ma_tuck_13 : decode prog_4_method_14_code 13 = .ok (.aload_n 0, 1) := by decide +kernel
theorem d_Ma_tuck_14 : decode prog_4_method_14_code 14 = .ok (.getfield 43, 3) := by decide +kernel
theorem d_Ma_tuck_17 : decode prog_4_method_14_code 17 = .ok (.iconst 1, 1) := by decide +kernel
theorem d_Ma_tuck_18 : decode prog_4_method_14_code 18 = .ok (.invokevirtual 176, 3) := by decide +kernel
theorem d_Ma_tuck_21 : decode prog_4_method_14_code 21 = .ok (.invokevirtual 122, 3) := by decide +kernel
theorem d_Ma_tuck_24 : decode prog_4_method_14_code 24 = .ok (.ifCond .eq 18, 3) := by decide +kernel
theorem d_Ma_tuck_27 : decode prog_4_method_14_code 27 = .ok (.aload_n 0, 1) := by decide +kernel
theorem d_Ma_tuck_28 : decode prog_4_method_14_code 28 = .ok (.getfield 43, 3) := by decide +kernel
theorem d_Ma_tuck_31 : decode prog_4_method_14_code 31 = .ok (.aload_n 1, 1) := by decide +kernel
theorem d_Ma_tuck_32 : decode prog_4_method_14_code 32 = .ok (.invokevirtual 122, 3) := by decide +kernel
theorem d_Ma_tuck_35 : decode prog_4_method_14_code 35 = .ok (.ifCond .eq 7, 3) := by decide +kernel
theorem d_Ma_tuck_38 : decode prog_4_method_14_code 38 = .ok (.iconst 1, 1) := by decide +kernel
theorem d_Ma_tuck_39 : decode prog_4_method_14_code 39 = .ok (.goto 4, 3) := by decide +kernel
theorem d_Ma_tuck_42 : decode prog_4_method_14_code 42 = .ok (.iconst 0, 1) := by decide +kernel
theorem d_Ma_tuck_43 : decode prog_4_method_14_code 43 = .ok (.ireturn, 1) := by decide +kernel
theorem d_Ma_compare_0 : decode prog_4_method_15_code 0 = .ok (.aload_n 0, 1) := by decide +kernel
theorem d_Ma_compare_1 : decode prog_4_method_15_code 1 = .ok (.getfield 43, 3) := by decide +kernel
theorem d_Ma_compare_4 : decode prog_4_method_15_code 4 = .ok (.invokevirtual 84, 3) := by decide +kernel
theorem d_Ma_compare_7 : decode prog_4_method_15_code 7 = .ok (.iconst 2, 1) := by decide +kernel
theorem d_Ma_compare_8 : decode prog_4_method_15_code 8 = .ok (.if_icmp .ge 5, 3) := by decide +kernel
theorem d_Ma_compare_11 : decode prog_4_method_15_code 11 = .ok (.iconst 0, 1) := by decide +kernel
theorem d_Ma_compare_12 : decode prog_4_method_15_code 12 = .ok (.ireturn, 1) := by decide +kernel
theorem d_Ma_compare_13 : decode prog_4_method_15_code 13 = .ok (.aload_n 0, 1) := by decide +kernel
theorem d_Ma_compare_14 : decode prog_4_method_15_code 14 = .ok (.getfield 43, 3) := by decide +kernel
theorem d_Ma_compare_17 : decode prog_4_method_15_code 17 = .ok (.invokevirtual 106, 3) := by decide +kernel
theorem d_Ma_compare_20 : decode prog_4_method_15_code 20 = .ok (.aload_n 0, 1) := by decide +kernel
theorem d_Ma_compare_21 : decode prog_4_method_15_code 21 = .ok (.getfield 43, 3) := by decide +kernel
theorem d_Ma_compare_24 : decode prog_4_method_15_code 24 = .ok (.invokevirtual 106, 3) := by decide +kernel
theorem d_Ma_compare_27 : decode prog_4_method_15_code 27 = .ok (.invokevirtual 189, 3) := by decide +kernel
theorem d_Ma_compare_30 : decode prog_4_method_15_code 30 = .ok (.istore_n 2, 1) := by decide +kernel
theorem d_Ma_compare_31 : decode prog_4_method_15_code 31 = .ok (.iload_n 1, 1) := by decide +kernel
theorem d_Ma_compare_32 : decode prog_4_method_15_code 32 = .ok (.lookupswitch 40 #[(135, 28), (136, 36)], 28) := by decide +kernel
theorem d_Ma_compare_60 : decode prog_4_method_15_code 60 = .ok (.aload_n 0, 1) := by decide +kernel
theorem d_Ma_compare_61 : decode prog_4_method_15_code 61 = .ok (.iload_n 2, 1) := by decide +kernel
theorem d_Ma_compare_62 : decode prog_4_method_15_code 62 = .ok (.invokevirtual 192, 3) := by decide +kernel
theorem d_Ma_compare_65 : decode prog_4_method_15_code 65 = .ok (.goto 8, 3) := by decide +kernel
theorem d_Ma_compare_68 : decode prog_4_method_15_code 68 = .ok (.iload_n 2, 1) := by decide +kernel
theorem d_Ma_compare_69 : decode prog_4_method_15_code 69 = .ok (.goto 4, 3) := by decide +kernel
theorem d_Ma_compare_72 : decode prog_4_method_15_code 72 = .ok (.iconst 0, 1) := by decide +kernel
theorem d_Ma_compare_73 : decode prog_4_method_15_code 73 = .ok (.ireturn, 1) := by decide +kernel
theorem d_Ma_pushTruth_0 : decode prog_4_method_25_code 0 = .ok (.aload_n 0, 1) := by decide +kernel
theorem d_Ma_pushTruth_1 : decode prog_4_method_25_code 1 = .ok (.getfield 43, 3) := by decide +kernel
theorem d_Ma_pushTruth_4 : decode prog_4_method_25_code 4 = .ok (.iload_n 1, 1) := by decide +kernel
theorem d_Ma_pushTruth_5 : decode prog_4_method_25_code 5 = .ok (.ifCond .eq 10, 3) := by decide +kernel
theorem d_Ma_pushTruth_8 : decode prog_4_method_25_code 8 = .ok (.aload_n 0, 1) := by decide +kernel
theorem d_Ma_pushTruth_9 : decode prog_4_method_25_code 9 = .ok (.getfield 36, 3) := by decide +kernel
theorem d_Ma_pushTruth_12 : decode prog_4_method_25_code 12 = .ok (.goto 7, 3) := by decide +kernel
theorem d_Ma_pushTruth_15 : decode prog_4_method_25_code 15 = .ok (.aload_n 0, 1) := by decide +kernel
theorem d_Ma_pushTruth_16 : decode prog_4_method_25_code 16 = .ok (.getfield 40, 3) := by decide +kernel
theorem d_Ma_pushTruth_19 : decode prog_4_method_25_code 19 = .ok (.invokevirtual 122, 3) := by decide +kernel
theorem d_Ma_pushTruth_22 : decode prog_4_method_25_code 22 = .ok (.ireturn, 1) := by decide +kernel
theorem d_Ma_changeNumber_0 : decode prog_4_method_16_code 0 = .ok (.aload_n 0, 1) := by decide +kernel
theorem d_Ma_changeNumber_1 : decode prog_4_method_16_code 1 = .ok (.getfield 43, 3) := by decide +kernel
theorem d_Ma_changeNumber_4 : decode prog_4_method_16_code 4 = .ok (.iconst 1, 1) := by decide +kernel
theorem d_Ma_changeNumber_5 : decode prog_4_method_16_code 5 = .ok (.invokevirtual 195, 3) := by decide +kernel
theorem d_Ma_changeNumber_8 : decode prog_4_method_16_code 8 = .ok (.ifCond .ne 5, 3) := by decide +kernel
theorem d_Ma_changeNumber_11 : decode prog_4_method_16_code 11 = .ok (.iconst 0, 1) := by decide +kernel
theorem d_Ma_changeNumber_12 : decode prog_4_method_16_code 12 = .ok (.ireturn, 1) := by decide +kernel
theorem d_Ma_changeNumber_13 : decode prog_4_method_16_code 13 = .ok (.aload_n 0, 1) := by decide +kernel
theorem d_Ma_changeNumber_14 : decode prog_4_method_16_code 14 = .ok (.getfield 43, 3) := by decide +kernel
theorem d_Ma_changeNumber_17 : decode prog_4_method_16_code 17 = .ok (.invokevirtual 106, 3) := by decide +kernel
theorem d_Ma_changeNumber_20 : decode prog_4_method_16_code 20 = .ok (.invokevirtual 198, 3) := by decide +kernel
theorem d_Ma_changeNumber_23 : decode prog_4_method_16_code 23 = .ok (.lstore_n 2, 1) := by decide +kernel
theorem d_Ma_changeNumber_24 : decode prog_4_method_16_code 24 = .ok (.iload_n 1, 1) := by decide +kernel
theorem d_Ma_changeNumber_25 : decode prog_4_method_16_code 25 = .ok (.tableswitch 123 139 146 #[47, 57, 123, 123, 67, 76, 87, 105], 47) := by decide +kernel
theorem d_Ma_changeNumber_72 : decode prog_4_method_16_code 72 = .ok (.aload_n 0, 1) := by decide +kernel
theorem d_Ma_changeNumber_73 : decode prog_4_method_16_code 73 = .ok (.lload_n 2, 1) := by decide +kernel
theorem d_Ma_changeNumber_74 : decode prog_4_method_16_code 74 = .ok (.lconst 1, 1) := by decide +kernel
theorem d_Ma_changeNumber_75 : decode prog_4_method_16_code 75 = .ok (.ladd, 1) := by decide +kernel
theorem d_Ma_changeNumber_76 : decode prog_4_method_16_code 76 = .ok (.invokevirtual 155, 3) := by decide +kernel
theorem d_Ma_changeNumber_79 : decode prog_4_method_16_code 79 = .ok (.goto 70, 3) := by decide +kernel
theorem d_Ma_changeNumber_82 : decode prog_4_method_16_code 82 = .ok (.aload_n 0, 1) := by decide +kernel
theorem d_Ma_changeNumber_83 : decode prog_4_method_16_code 83 = .ok (.lload_n 2, 1) := by decide +kernel
theorem d_Ma_changeNumber_84 : decode prog_4_method_16_code 84 = .ok (.lconst 1, 1) := by decide +kernel
theorem d_Ma_changeNumber_85 : decode prog_4_method_16_code 85 = .ok (.lsub, 1) := by decide +kernel
theorem d_Ma_changeNumber_86 : decode prog_4_method_16_code 86 = .ok (.invokevirtual 155, 3) := by decide +kernel
theorem d_Ma_changeNumber_89 : decode prog_4_method_16_code 89 = .ok (.goto 60, 3) := by decide +kernel
theorem d_Ma_changeNumber_92 : decode prog_4_method_16_code 92 = .ok (.aload_n 0, 1) := by decide +kernel
theorem d_Ma_changeNumber_93 : decode prog_4_method_16_code 93 = .ok (.lload_n 2, 1) := by decide +kernel
theorem d_Ma_changeNumber_94 : decode prog_4_method_16_code 94 = .ok (.lneg, 1) := by decide +kernel
theorem d_Ma_changeNumber_95 : decode prog_4_method_16_code 95 = .ok (.invokevirtual 155, 3) := by decide +kernel
theorem d_Ma_changeNumber_98 : decode prog_4_method_16_code 98 = .ok (.goto 51, 3) := by decide +kernel
theorem d_Ma_changeNumber_101 : decode prog_4_method_16_code 101 = .ok (.aload_n 0, 1) := by decide +kernel
theorem d_Ma_changeNumber_102 : decode prog_4_method_16_code 102 = .ok (.lload_n 2, 1) := by decide +kernel
theorem d_Ma_changeNumber_103 : decode prog_4_method_16_code 103 = .ok (.invokestatic 202, 3) := by decide +kernel
theorem d_Ma_changeNumber_106 : decode prog_4_method_16_code 106 = .ok (.invokevirtual 155, 3) := by decide +kernel
theorem d_Ma_changeNumber_109 : decode prog_4_method_16_code 109 = .ok (.goto 40, 3) := by decide +kernel
theorem d_Ma_changeNumber_112 : decode prog_4_method_16_code 112 = .ok (.aload_n 0, 1) := by decide +kernel
theorem d_Ma_changeNumber_113 : decode prog_4_method_16_code 113 = .ok (.lload_n 2, 1) := by decide +kernel
theorem d_Ma_changeNumber_114 : decode prog_4_method_16_code 114 = .ok (.lconst 0, 1) := by decide +kernel
theorem d_Ma_changeNumber_115 : decode prog_4_method_16_code 115 = .ok (.lcmp, 1) := by decide +kernel
theorem d_Ma_changeNumber_116 : decode prog_4_method_16_code 116 = .ok (.ifCond .ne 7, 3) := by decide +kernel
theorem d_Ma_changeNumber_119 : decode prog_4_method_16_code 119 = .ok (.iconst 1, 1) := by decide +kernel
theorem d_Ma_changeNumber_120 : decode prog_4_method_16_code 120 = .ok (.goto 4, 3) := by decide +kernel
theorem d_Ma_changeNumber_123 : decode prog_4_method_16_code 123 = .ok (.iconst 0, 1) := by decide +kernel
theorem d_Ma_changeNumber_124 : decode prog_4_method_16_code 124 = .ok (.invokevirtual 192, 3) := by decide +kernel
theorem d_Ma_changeNumber_127 : decode prog_4_method_16_code 127 = .ok (.goto 22, 3) := by decide +kernel
theorem d_Ma_changeNumber_130 : decode prog_4_method_16_code 130 = .ok (.aload_n 0, 1) := by decide +kernel
theorem d_Ma_changeNumber_131 : decode prog_4_method_16_code 131 = .ok (.lload_n 2, 1) := by decide +kernel
theorem d_Ma_changeNumber_132 : decode prog_4_method_16_code 132 = .ok (.lconst 0, 1) := by decide +kernel
theorem d_Ma_changeNumber_133 : decode prog_4_method_16_code 133 = .ok (.lcmp, 1) := by decide +kernel
theorem d_Ma_changeNumber_134 : decode prog_4_method_16_code 134 = .ok (.ifCond .eq 7, 3) := by decide +kernel
theorem d_Ma_changeNumber_137 : decode prog_4_method_16_code 137 = .ok (.iconst 1, 1) := by decide +kernel
theorem d_Ma_changeNumber_138 : decode prog_4_method_16_code 138 = .ok (.goto 4, 3) := by decide +kernel
theorem d_Ma_changeNumber_141 : decode prog_4_method_16_code 141 = .ok (.iconst 0, 1) := by decide +kernel
theorem d_Ma_changeNumber_142 : decode prog_4_method_16_code 142 = .ok (.invokevirtual 192, 3) := by decide +kernel
theorem d_Ma_changeNumber_145 : decode prog_4_method_16_code 145 = .ok (.goto 4, 3) := by decide +kernel
theorem d_Ma_changeNumber_148 : decode prog_4_method_16_code 148 = .ok (.iconst 0, 1) := by decide +kernel
theorem d_Ma_changeNumber_149 : decode prog_4_method_16_code 149 = .ok (.ireturn, 1) := by decide +kernel
theorem d_Ma_joinNumbers_0 : decode prog_4_method_17_code 0 = .ok (.aload_n 0, 1) := by decide +kernel
theorem d_Ma_joinNumbers_1 : decode prog_4_method_17_code 1 = .ok (.getfield 43, 3) := by decide +kernel
theorem d_Ma_joinNumbers_4 : decode prog_4_method_17_code 4 = .ok (.iconst 2, 1) := by decide +kernel
theorem d_Ma_joinNumbers_5 : decode prog_4_method_17_code 5 = .ok (.invokevirtual 195, 3) := by decide +kernel
theorem d_Ma_joinNumbers_8 : decode prog_4_method_17_code 8 = .ok (.ifCond .ne 5, 3) := by decide +kernel
theorem d_Ma_joinNumbers_11 : decode prog_4_method_17_code 11 = .ok (.iconst 0, 1) := by decide +kernel
theorem d_Ma_joinNumbers_12 : decode prog_4_method_17_code 12 = .ok (.ireturn, 1) := by decide +kernel
theorem d_Ma_joinNumbers_13 : decode prog_4_method_17_code 13 = .ok (.aload_n 0, 1) := by decide +kernel
theorem d_Ma_joinNumbers_14 : decode prog_4_method_17_code 14 = .ok (.getfield 43, 3) := by decide +kernel
theorem d_Ma_joinNumbers_17 : decode prog_4_method_17_code 17 = .ok (.invokevirtual 106, 3) := by decide +kernel
theorem d_Ma_joinNumbers_20 : decode prog_4_method_17_code 20 = .ok (.invokevirtual 198, 3) := by decide +kernel
theorem d_Ma_joinNumbers_23 : decode prog_4_method_17_code 23 = .ok (.lstore_n 2, 1) := by decide +kernel
theorem d_Ma_joinNumbers_24 : decode prog_4_method_17_code 24 = .ok (.aload_n 0, 1) := by decide +kernel
theorem d_Ma_joinNumbers_25 : decode prog_4_method_17_code 25 = .ok (.getfield 43, 3) := by decide +kernel
theorem d_Ma_joinNumbers_28 : decode prog_4_method_17_code 28 = .ok (.invokevirtual 106, 3) := by decide +kernel
theorem d_Ma_joinNumbers_31 : decode prog_4_method_17_code 31 = .ok (.invokevirtual 198, 3) := by decide +kernel
theorem d_Ma_joinNumbers_34 : decode prog_4_method_17_code 34 = .ok (.lstore 4, 2) := by decide +kernel
theorem d_Ma_joinNumbers_36 : decode prog_4_method_17_code 36 = .ok (.iload_n 1, 1) := by decide +kernel
theorem d_Ma_joinNumbers_37 : decode prog_4_method_17_code 37 = .ok (.tableswitch 188 147 158 #[63, 74, 188, 188, 188, 188, 188, 85, 110, 135, 154, 169], 63) := by decide +kernel
theorem d_Ma_joinNumbers_100 : decode prog_4_method_17_code 100 = .ok (.aload_n 0, 1) := by decide +kernel
theorem d_Ma_joinNumbers_101 : decode prog_4_method_17_code 101 = .ok (.lload 4, 2) := by decide +kernel
theorem d_Ma_joinNumbers_103 : decode prog_4_method_17_code 103 = .ok (.lload_n 2, 1) := by decide +kernel
theorem d_Ma_joinNumbers_104 : decode prog_4_method_17_code 104 = .ok (.ladd, 1) := by decide +kernel
theorem d_Ma_joinNumbers_105 : decode prog_4_method_17_code 105 = .ok (.invokevirtual 155, 3) := by decide +kernel
theorem d_Ma_joinNumbers_108 : decode prog_4_method_17_code 108 = .ok (.goto 118, 3) := by decide +kernel
theorem d_Ma_joinNumbers_111 : decode prog_4_method_17_code 111 = .ok (.aload_n 0, 1) := by decide +kernel
theorem d_Ma_joinNumbers_112 : decode prog_4_method_17_code 112 = .ok (.lload 4, 2) := by decide +kernel
theorem d_Ma_joinNumbers_114 : decode prog_4_method_17_code 114 = .ok (.lload_n 2, 1) := by decide +kernel
theorem d_Ma_joinNumbers_115 : decode prog_4_method_17_code 115 = .ok (.lsub, 1) := by decide +kernel
theorem d_Ma_joinNumbers_116 : decode prog_4_method_17_code 116 = .ok (.invokevirtual 155, 3) := by decide +kernel
theorem d_Ma_joinNumbers_119 : decode prog_4_method_17_code 119 = .ok (.goto 107, 3) := by decide +kernel
theorem d_Ma_joinNumbers_122 : decode prog_4_method_17_code 122 = .ok (.aload_n 0, 1) := by decide +kernel
theorem d_Ma_joinNumbers_123 : decode prog_4_method_17_code 123 = .ok (.lload 4, 2) := by decide +kernel
theorem d_Ma_joinNumbers_125 : decode prog_4_method_17_code 125 = .ok (.lconst 0, 1) := by decide +kernel
theorem d_Ma_joinNumbers_126 : decode prog_4_method_17_code 126 = .ok (.lcmp, 1) := by decide +kernel
theorem d_Ma_joinNumbers_127 : decode prog_4_method_17_code 127 = .ok (.ifCond .eq 13, 3) := by decide +kernel
theorem d_Ma_joinNumbers_130 : decode prog_4_method_17_code 130 = .ok (.lload_n 2, 1) := by decide +kernel
theorem d_Ma_joinNumbers_131 : decode prog_4_method_17_code 131 = .ok (.lconst 0, 1) := by decide +kernel
theorem d_Ma_joinNumbers_132 : decode prog_4_method_17_code 132 = .ok (.lcmp, 1) := by decide +kernel
theorem d_Ma_joinNumbers_133 : decode prog_4_method_17_code 133 = .ok (.ifCond .eq 7, 3) := by decide +kernel
theorem d_Ma_joinNumbers_136 : decode prog_4_method_17_code 136 = .ok (.iconst 1, 1) := by decide +kernel
theorem d_Ma_joinNumbers_137 : decode prog_4_method_17_code 137 = .ok (.goto 4, 3) := by decide +kernel
theorem d_Ma_joinNumbers_140 : decode prog_4_method_17_code 140 = .ok (.iconst 0, 1) := by decide +kernel
theorem d_Ma_joinNumbers_141 : decode prog_4_method_17_code 141 = .ok (.invokevirtual 192, 3) := by decide +kernel
theorem d_Ma_joinNumbers_144 : decode prog_4_method_17_code 144 = .ok (.goto 82, 3) := by decide +kernel
theorem d_Ma_joinNumbers_147 : decode prog_4_method_17_code 147 = .ok (.aload_n 0, 1) := by decide +kernel
theorem d_Ma_joinNumbers_148 : decode prog_4_method_17_code 148 = .ok (.lload 4, 2) := by decide +kernel
theorem d_Ma_joinNumbers_150 : decode prog_4_method_17_code 150 = .ok (.lconst 0, 1) := by decide +kernel
theorem d_Ma_joinNumbers_151 : decode prog_4_method_17_code 151 = .ok (.lcmp, 1) := by decide +kernel
theorem d_Ma_joinNumbers_152 : decode prog_4_method_17_code 152 = .ok (.ifCond .ne 9, 3) := by decide +kernel
theorem d_Ma_joinNumbers_155 : decode prog_4_method_17_code 155 = .ok (.lload_n 2, 1) := by decide +kernel
theorem d_Ma_joinNumbers_156 : decode prog_4_method_17_code 156 = .ok (.lconst 0, 1) := by decide +kernel
theorem d_Ma_joinNumbers_157 : decode prog_4_method_17_code 157 = .ok (.lcmp, 1) := by decide +kernel
theorem d_Ma_joinNumbers_158 : decode prog_4_method_17_code 158 = .ok (.ifCond .eq 7, 3) := by decide +kernel
theorem d_Ma_joinNumbers_161 : decode prog_4_method_17_code 161 = .ok (.iconst 1, 1) := by decide +kernel
theorem d_Ma_joinNumbers_162 : decode prog_4_method_17_code 162 = .ok (.goto 4, 3) := by decide +kernel
theorem d_Ma_joinNumbers_165 : decode prog_4_method_17_code 165 = .ok (.iconst 0, 1) := by decide +kernel
theorem d_Ma_joinNumbers_166 : decode prog_4_method_17_code 166 = .ok (.invokevirtual 192, 3) := by decide +kernel
theorem d_Ma_joinNumbers_169 : decode prog_4_method_17_code 169 = .ok (.goto 57, 3) := by decide +kernel
theorem d_Ma_joinNumbers_172 : decode prog_4_method_17_code 172 = .ok (.aload_n 0, 1) := by decide +kernel
theorem d_Ma_joinNumbers_173 : decode prog_4_method_17_code 173 = .ok (.lload 4, 2) := by decide +kernel
theorem d_Ma_joinNumbers_175 : decode prog_4_method_17_code 175 = .ok (.lload_n 2, 1) := by decide +kernel
theorem d_Ma_joinNumbers_176 : decode prog_4_method_17_code 176 = .ok (.lcmp, 1) := by decide +kernel
theorem d_Ma_joinNumbers_177 : decode prog_4_method_17_code 177 = .ok (.ifCond .ne 7, 3) := by decide +kernel
theorem d_Ma_joinNumbers_180 : decode prog_4_method_17_code 180 = .ok (.iconst 1, 1) := by decide +kernel
theorem d_Ma_joinNumbers_181 : decode prog_4_method_17_code 181 = .ok (.goto 4, 3) := by decide +kernel
theorem d_Ma_joinNumbers_184 : decode prog_4_method_17_code 184 = .ok (.iconst 0, 1) := by decide +kernel
theorem d_Ma_joinNumbers_185 : decode prog_4_method_17_code 185 = .ok (.invokevirtual 192, 3) := by decide +kernel
theorem d_Ma_joinNumbers_188 : decode prog_4_method_17_code 188 = .ok (.goto 38, 3) := by decide +kernel
theorem d_Ma_joinNumbers_191 : decode prog_4_method_17_code 191 = .ok (.lload 4, 2) := by decide +kernel
theorem d_Ma_joinNumbers_193 : decode prog_4_method_17_code 193 = .ok (.lload_n 2, 1) := by decide +kernel
theorem d_Ma_joinNumbers_194 : decode prog_4_method_17_code 194 = .ok (.lcmp, 1) := by decide +kernel
theorem d_Ma_joinNumbers_195 : decode prog_4_method_17_code 195 = .ok (.ifCond .ne 7, 3) := by decide +kernel
theorem d_Ma_joinNumbers_198 : decode prog_4_method_17_code 198 = .ok (.iconst 1, 1) := by decide +kernel
theorem d_Ma_joinNumbers_199 : decode prog_4_method_17_code 199 = .ok (.goto 27, 3) := by decide +kernel
theorem d_Ma_joinNumbers_202 : decode prog_4_method_17_code 202 = .ok (.iconst 0, 1) := by decide +kernel
theorem d_Ma_joinNumbers_203 : decode prog_4_method_17_code 203 = .ok (.goto 23, 3) := by decide +kernel
theorem d_Ma_joinNumbers_206 : decode prog_4_method_17_code 206 = .ok (.aload_n 0, 1) := by decide +kernel
theorem d_Ma_joinNumbers_207 : decode prog_4_method_17_code 207 = .ok (.lload 4, 2) := by decide +kernel
theorem d_Ma_joinNumbers_209 : decode prog_4_method_17_code 209 = .ok (.lload_n 2, 1) := by decide +kernel
theorem d_Ma_joinNumbers_210 : decode prog_4_method_17_code 210 = .ok (.lcmp, 1) := by decide +kernel
theorem d_Ma_joinNumbers_211 : decode prog_4_method_17_code 211 = .ok (.ifCond .eq 7, 3) := by decide +kernel
theorem d_Ma_joinNumbers_214 : decode prog_4_method_17_code 214 = .ok (.iconst 1, 1) := by decide +kernel
theorem d_Ma_joinNumbers_215 : decode prog_4_method_17_code 215 = .ok (.goto 4, 3) := by decide +kernel
theorem d_Ma_joinNumbers_218 : decode prog_4_method_17_code 218 = .ok (.iconst 0, 1) := by decide +kernel
theorem d_Ma_joinNumbers_219 : decode prog_4_method_17_code 219 = .ok (.invokevirtual 192, 3) := by decide +kernel
theorem d_Ma_joinNumbers_222 : decode prog_4_method_17_code 222 = .ok (.goto 4, 3) := by decide +kernel
theorem d_Ma_joinNumbers_225 : decode prog_4_method_17_code 225 = .ok (.iconst 0, 1) := by decide +kernel
theorem d_Ma_joinNumbers_226 : decode prog_4_method_17_code 226 = .ok (.ireturn, 1) := by decide +kernel
theorem d_Ma_orderNumbers_0 : decode prog_4_method_18_code 0 = .ok (.aload_n 0, 1) := by decide +kernel
theorem d_Ma_orderNumbers_1 : decode prog_4_method_18_code 1 = .ok (.getfield 43, 3) := by decide +kernel
theorem d_Ma_orderNumbers_4 : decode prog_4_method_18_code 4 = .ok (.iconst 2, 1) := by decide +kernel
theorem d_Ma_orderNumbers_5 : decode prog_4_method_18_code 5 = .ok (.invokevirtual 195, 3) := by decide +kernel
theorem d_Ma_orderNumbers_8 : decode prog_4_method_18_code 8 = .ok (.ifCond .ne 5, 3) := by decide +kernel
theorem d_Ma_orderNumbers_11 : decode prog_4_method_18_code 11 = .ok (.iconst 0, 1) := by decide +kernel
theorem d_Ma_orderNumbers_12 : decode prog_4_method_18_code 12 = .ok (.ireturn, 1) := by decide +kernel
theorem d_Ma_orderNumbers_13 : decode prog_4_method_18_code 13 = .ok (.aload_n 0, 1) := by decide +kernel
theorem d_Ma_orderNumbers_14 : decode prog_4_method_18_code 14 = .ok (.getfield 43, 3) := by decide +kernel
theorem d_Ma_orderNumbers_17 : decode prog_4_method_18_code 17 = .ok (.invokevirtual 106, 3) := by decide +kernel
theorem d_Ma_orderNumbers_20 : decode prog_4_method_18_code 20 = .ok (.invokevirtual 198, 3) := by decide +kernel
theorem d_Ma_orderNumbers_23 : decode prog_4_method_18_code 23 = .ok (.lstore_n 2, 1) := by decide +kernel
theorem d_Ma_orderNumbers_24 : decode prog_4_method_18_code 24 = .ok (.aload_n 0, 1) := by decide +kernel
theorem d_Ma_orderNumbers_25 : decode prog_4_method_18_code 25 = .ok (.getfield 43, 3) := by decide +kernel
theorem d_Ma_orderNumbers_28 : decode prog_4_method_18_code 28 = .ok (.invokevirtual 106, 3) := by decide +kernel
theorem d_Ma_orderNumbers_31 : decode prog_4_method_18_code 31 = .ok (.invokevirtual 198, 3) := by decide +kernel
theorem d_Ma_orderNumbers_34 : decode prog_4_method_18_code 34 = .ok (.lstore 4, 2) := by decide +kernel
theorem d_Ma_orderNumbers_36 : decode prog_4_method_18_code 36 = .ok (.iload_n 1, 1) := by decide +kernel
theorem d_Ma_orderNumbers_37 : decode prog_4_method_18_code 37 = .ok (.tableswitch 141 159 164 #[39, 58, 77, 96, 115, 128], 39) := by decide +kernel
theorem d_Ma_orderNumbers_76 : decode prog_4_method_18_code 76 = .ok (.aload_n 0, 1) := by decide +kernel
theorem d_Ma_orderNumbers_77 : decode prog_4_method_18_code 77 = .ok (.lload 4, 2) := by decide +kernel
theorem d_Ma_orderNumbers_79 : decode prog_4_method_18_code 79 = .ok (.lload_n 2, 1) := by decide +kernel
theorem d_Ma_orderNumbers_80 : decode prog_4_method_18_code 80 = .ok (.lcmp, 1) := by decide +kernel
theorem d_Ma_orderNumbers_81 : decode prog_4_method_18_code 81 = .ok (.ifCond .ge 7, 3) := by decide +kernel
theorem d_Ma_orderNumbers_84 : decode prog_4_method_18_code 84 = .ok (.iconst 1, 1) := by decide +kernel
theorem d_Ma_orderNumbers_85 : decode prog_4_method_18_code 85 = .ok (.goto 4, 3) := by decide +kernel
theorem d_Ma_orderNumbers_88 : decode prog_4_method_18_code 88 = .ok (.iconst 0, 1) := by decide +kernel
theorem d_Ma_orderNumbers_89 : decode prog_4_method_18_code 89 = .ok (.invokevirtual 192, 3) := by decide +kernel
theorem d_Ma_orderNumbers_92 : decode prog_4_method_18_code 92 = .ok (.goto 87, 3) := by decide +kernel
theorem d_Ma_orderNumbers_95 : decode prog_4_method_18_code 95 = .ok (.aload_n 0, 1) := by decide +kernel
theorem d_Ma_orderNumbers_96 : decode prog_4_method_18_code 96 = .ok (.lload 4, 2) := by decide +kernel
theorem d_Ma_orderNumbers_98 : decode prog_4_method_18_code 98 = .ok (.lload_n 2, 1) := by decide +kernel
theorem d_Ma_orderNumbers_99 : decode prog_4_method_18_code 99 = .ok (.lcmp, 1) := by decide +kernel
theorem d_Ma_orderNumbers_100 : decode prog_4_method_18_code 100 = .ok (.ifCond .le 7, 3) := by decide +kernel
theorem d_Ma_orderNumbers_103 : decode prog_4_method_18_code 103 = .ok (.iconst 1, 1) := by decide +kernel
theorem d_Ma_orderNumbers_104 : decode prog_4_method_18_code 104 = .ok (.goto 4, 3) := by decide +kernel
theorem d_Ma_orderNumbers_107 : decode prog_4_method_18_code 107 = .ok (.iconst 0, 1) := by decide +kernel
theorem d_Ma_orderNumbers_108 : decode prog_4_method_18_code 108 = .ok (.invokevirtual 192, 3) := by decide +kernel
theorem d_Ma_orderNumbers_111 : decode prog_4_method_18_code 111 = .ok (.goto 68, 3) := by decide +kernel
theorem d_Ma_orderNumbers_114 : decode prog_4_method_18_code 114 = .ok (.aload_n 0, 1) := by decide +kernel
theorem d_Ma_orderNumbers_115 : decode prog_4_method_18_code 115 = .ok (.lload 4, 2) := by decide +kernel
theorem d_Ma_orderNumbers_117 : decode prog_4_method_18_code 117 = .ok (.lload_n 2, 1) := by decide +kernel
theorem d_Ma_orderNumbers_118 : decode prog_4_method_18_code 118 = .ok (.lcmp, 1) := by decide +kernel
theorem d_Ma_orderNumbers_119 : decode prog_4_method_18_code 119 = .ok (.ifCond .gt 7, 3) := by decide +kernel
theorem d_Ma_orderNumbers_122 : decode prog_4_method_18_code 122 = .ok (.iconst 1, 1) := by decide +kernel
theorem d_Ma_orderNumbers_123 : decode prog_4_method_18_code 123 = .ok (.goto 4, 3) := by decide +kernel
theorem d_Ma_orderNumbers_126 : decode prog_4_method_18_code 126 = .ok (.iconst 0, 1) := by decide +kernel
theorem d_Ma_orderNumbers_127 : decode prog_4_method_18_code 127 = .ok (.invokevirtual 192, 3) := by decide +kernel
theorem d_Ma_orderNumbers_130 : decode prog_4_method_18_code 130 = .ok (.goto 49, 3) := by decide +kernel
theorem d_Ma_orderNumbers_133 : decode prog_4_method_18_code 133 = .ok (.aload_n 0, 1) := by decide +kernel
theorem d_Ma_orderNumbers_134 : decode prog_4_method_18_code 134 = .ok (.lload 4, 2) := by decide +kernel
theorem d_Ma_orderNumbers_136 : decode prog_4_method_18_code 136 = .ok (.lload_n 2, 1) := by decide +kernel
theorem d_Ma_orderNumbers_137 : decode prog_4_method_18_code 137 = .ok (.lcmp, 1) := by decide +kernel
theorem d_Ma_orderNumbers_138 : decode prog_4_method_18_code 138 = .ok (.ifCond .lt 7, 3) := by decide +kernel
theorem d_Ma_orderNumbers_141 : decode prog_4_method_18_code 141 = .ok (.iconst 1, 1) := by decide +kernel
theorem d_Ma_orderNumbers_142 : decode prog_4_method_18_code 142 = .ok (.goto 4, 3) := by decide +kernel
theorem d_Ma_orderNumbers_145 : decode prog_4_method_18_code 145 = .ok (.iconst 0, 1) := by decide +kernel
theorem d_Ma_orderNumbers_146 : decode prog_4_method_18_code 146 = .ok (.invokevirtual 192, 3) := by decide +kernel
theorem d_Ma_orderNumbers_149 : decode prog_4_method_18_code 149 = .ok (.goto 30, 3) := by decide +kernel
theorem d_Ma_orderNumbers_152 : decode prog_4_method_18_code 152 = .ok (.aload_n 0, 1) := by decide +kernel
theorem d_Ma_orderNumbers_153 : decode prog_4_method_18_code 153 = .ok (.lload 4, 2) := by decide +kernel
theorem d_Ma_orderNumbers_155 : decode prog_4_method_18_code 155 = .ok (.lload_n 2, 1) := by decide +kernel
theorem d_Ma_orderNumbers_156 : decode prog_4_method_18_code 156 = .ok (.invokestatic 208, 3) := by decide +kernel
theorem d_Ma_orderNumbers_159 : decode prog_4_method_18_code 159 = .ok (.invokevirtual 155, 3) := by decide +kernel
theorem d_Ma_orderNumbers_162 : decode prog_4_method_18_code 162 = .ok (.goto 17, 3) := by decide +kernel
theorem d_Ma_orderNumbers_165 : decode prog_4_method_18_code 165 = .ok (.aload_n 0, 1) := by decide +kernel
theorem d_Ma_orderNumbers_166 : decode prog_4_method_18_code 166 = .ok (.lload 4, 2) := by decide +kernel
theorem d_Ma_orderNumbers_168 : decode prog_4_method_18_code 168 = .ok (.lload_n 2, 1) := by decide +kernel
theorem d_Ma_orderNumbers_169 : decode prog_4_method_18_code 169 = .ok (.invokestatic 212, 3) := by decide +kernel
theorem d_Ma_orderNumbers_172 : decode prog_4_method_18_code 172 = .ok (.invokevirtual 155, 3) := by decide +kernel
theorem d_Ma_orderNumbers_175 : decode prog_4_method_18_code 175 = .ok (.goto 4, 3) := by decide +kernel
theorem d_Ma_orderNumbers_178 : decode prog_4_method_18_code 178 = .ok (.iconst 0, 1) := by decide +kernel
theorem d_Ma_orderNumbers_179 : decode prog_4_method_18_code 179 = .ok (.ireturn, 1) := by decide +kernel
theorem d_Ma_within_0 : decode prog_4_method_19_code 0 = .ok (.aload_n 0, 1) := by decide +kernel
theorem d_Ma_within_1 : decode prog_4_method_19_code 1 = .ok (.getfield 43, 3) := by decide +kernel
theorem d_Ma_within_4 : decode prog_4_method_19_code 4 = .ok (.iconst 3, 1) := by decide +kernel
theorem d_Ma_within_5 : decode prog_4_method_19_code 5 = .ok (.invokevirtual 195, 3) := by decide +kernel
theorem d_Ma_within_8 : decode prog_4_method_19_code 8 = .ok (.ifCond .ne 5, 3) := by decide +kernel
theorem d_Ma_within_11 : decode prog_4_method_19_code 11 = .ok (.iconst 0, 1) := by decide +kernel
theorem d_Ma_within_12 : decode prog_4_method_19_code 12 = .ok (.ireturn, 1) := by decide +kernel
theorem d_Ma_within_13 : decode prog_4_method_19_code 13 = .ok (.aload_n 0, 1) := by decide +kernel
theorem d_Ma_within_14 : decode prog_4_method_19_code 14 = .ok (.getfield 43, 3) := by decide +kernel
theorem d_Ma_within_17 : decode prog_4_method_19_code 17 = .ok (.invokevirtual 106, 3) := by decide +kernel
theorem d_Ma_within_20 : decode prog_4_method_19_code 20 = .ok (.invokevirtual 198, 3) := by decide +kernel
theorem d_Ma_within_23 : decode prog_4_method_19_code 23 = .ok (.lstore_n 1, 1) := by decide +kernel
theorem d_Ma_within_24 : decode prog_4_method_19_code 24 = .ok (.aload_n 0, 1) := by decide +kernel
theorem d_Ma_within_25 : decode prog_4_method_19_code 25 = .ok (.getfield 43, 3) := by decide +kernel
theorem d_Ma_within_28 : decode prog_4_method_19_code 28 = .ok (.invokevirtual 106, 3) := by decide +kernel
theorem d_Ma_within_31 : decode prog_4_method_19_code 31 = .ok (.invokevirtual 198, 3) := by decide +kernel
theorem d_Ma_within_34 : decode prog_4_method_19_code 34 = .ok (.lstore_n 3, 1) := by decide +kernel
theorem d_Ma_within_35 : decode prog_4_method_19_code 35 = .ok (.aload_n 0, 1) := by decide +kernel
theorem d_Ma_within_36 : decode prog_4_method_19_code 36 = .ok (.getfield 43, 3) := by decide +kernel
theorem d_Ma_within_39 : decode prog_4_method_19_code 39 = .ok (.invokevirtual 106, 3) := by decide +kernel
theorem d_Ma_within_42 : decode prog_4_method_19_code 42 = .ok (.invokevirtual 198, 3) := by decide +kernel
theorem d_Ma_within_45 : decode prog_4_method_19_code 45 = .ok (.lstore 5, 2) := by decide +kernel
theorem d_Ma_within_47 : decode prog_4_method_19_code 47 = .ok (.aload_n 0, 1) := by decide +kernel
theorem d_Ma_within_48 : decode prog_4_method_19_code 48 = .ok (.lload_n 3, 1) := by decide +kernel
theorem d_Ma_within_49 : decode prog_4_method_19_code 49 = .ok (.lload 5, 2) := by decide +kernel
theorem d_Ma_within_51 : decode prog_4_method_19_code 51 = .ok (.lcmp, 1) := by decide +kernel
theorem d_Ma_within_52 : decode prog_4_method_19_code 52 = .ok (.ifCond .gt 14, 3) := by decide +kernel
theorem d_Ma_within_55 : decode prog_4_method_19_code 55 = .ok (.lload 5, 2) := by decide +kernel
theorem d_Ma_within_57 : decode prog_4_method_19_code 57 = .ok (.lload_n 1, 1) := by decide +kernel
theorem d_Ma_within_58 : decode prog_4_method_19_code 58 = .ok (.lcmp, 1) := by decide +kernel
theorem d_Ma_within_59 : decode prog_4_method_19_code 59 = .ok (.ifCond .ge 7, 3) := by decide +kernel
theorem d_Ma_within_62 : decode prog_4_method_19_code 62 = .ok (.iconst 1, 1) := by decide +kernel
theorem d_Ma_within_63 : decode prog_4_method_19_code 63 = .ok (.goto 4, 3) := by decide +kernel
theorem d_Ma_within_66 : decode prog_4_method_19_code 66 = .ok (.iconst 0, 1) := by decide +kernel
theorem d_Ma_within_67 : decode prog_4_method_19_code 67 = .ok (.invokevirtual 192, 3) := by decide +kernel
theorem d_Ma_within_70 : decode prog_4_method_19_code 70 = .ok (.ireturn, 1) := by decide +kernel
theorem d_Ma_sum_0 : decode prog_4_method_20_code 0 = .ok (.aload_n 0, 1) := by decide +kernel
theorem d_Ma_sum_1 : decode prog_4_method_20_code 1 = .ok (.getfield 43, 3) := by decide +kernel
theorem d_Ma_sum_4 : decode prog_4_method_20_code 4 = .ok (.iconst 0, 1) := by decide +kernel
theorem d_Ma_sum_5 : decode prog_4_method_20_code 5 = .ok (.invokevirtual 103, 3) := by decide +kernel
theorem d_Ma_sum_8 : decode prog_4_method_20_code 8 = .ok (.ifCond .ne 5, 3) := by decide +kernel
theorem d_Ma_sum_11 : decode prog_4_method_20_code 11 = .ok (.iconst 0, 1) := by decide +kernel
theorem d_Ma_sum_12 : decode prog_4_method_20_code 12 = .ok (.ireturn, 1) := by decide +kernel
theorem d_Ma_sum_13 : decode prog_4_method_20_code 13 = .ok (.aload_n 0, 1) := by decide +kernel
theorem d_Ma_sum_14 : decode prog_4_method_20_code 14 = .ok (.getfield 43, 3) := by decide +kernel
theorem d_Ma_sum_17 : decode prog_4_method_20_code 17 = .ok (.invokevirtual 106, 3) := by decide +kernel
theorem d_Ma_sum_20 : decode prog_4_method_20_code 20 = .ok (.getfield 215, 3) := by decide +kernel
theorem d_Ma_sum_23 : decode prog_4_method_20_code 23 = .ok (.astore_n 2, 1) := by decide +kernel
theorem d_Ma_sum_24 : decode prog_4_method_20_code 24 = .ok (.iload_n 1, 1) := by decide +kernel
theorem d_Ma_sum_25 : decode prog_4_method_20_code 25 = .ok (.sipush 166, 3) := by decide +kernel
theorem d_Ma_sum_28 : decode prog_4_method_20_code 28 = .ok (.if_icmp .ne 21, 3) := by decide +kernel
theorem d_Ma_sum_31 : decode prog_4_method_20_code 31 = .ok (.aload_n 0, 1) := by decide +kernel
theorem d_Ma_sum_32 : decode prog_4_method_20_code 32 = .ok (.getfield 43, 3) := by decide +kernel
theorem d_Ma_sum_35 : decode prog_4_method_20_code 35 = .ok (.aload_n 0, 1) := by decide +kernel
theorem d_Ma_sum_36 : decode prog_4_method_20_code 36 = .ok (.getfield 13, 3) := by decide +kernel
theorem d_Ma_sum_39 : decode prog_4_method_20_code 39 = .ok (.aload_n 2, 1) := by decide +kernel
theorem d_Ma_sum_40 : decode prog_4_method_20_code 40 = .ok (.aload_n 2, 1) := by decide +kernel
theorem d_Ma_sum_41 : decode prog_4_method_20_code 41 = .ok (.arraylength, 1) := by decide +kernel
theorem d_Ma_sum_42 : decode prog_4_method_20_code 42 = .ok (.invokevirtual 219, 3) := by decide +kernel
theorem d_Ma_sum_45 : decode prog_4_method_20_code 45 = .ok (.invokevirtual 122, 3) := by decide +kernel
theorem d_Ma_sum_48 : decode prog_4_method_20_code 48 = .ok (.ireturn, 1) := by decide +kernel
theorem d_Ma_sum_49 : decode prog_4_method_20_code 49 = .ok (.aload_n 0, 1) := by decide +kernel
theorem d_Ma_sum_50 : decode prog_4_method_20_code 50 = .ok (.getfield 7, 3) := by decide +kernel
theorem d_Ma_sum_53 : decode prog_4_method_20_code 53 = .ok (.aload_n 2, 1) := by decide +kernel
theorem d_Ma_sum_54 : decode prog_4_method_20_code 54 = .ok (.aload_n 2, 1) := by decide +kernel
theorem d_Ma_sum_55 : decode prog_4_method_20_code 55 = .ok (.arraylength, 1) := by decide +kernel
theorem d_Ma_sum_56 : decode prog_4_method_20_code 56 = .ok (.invokevirtual 219, 3) := by decide +kernel
theorem d_Ma_sum_59 : decode prog_4_method_20_code 59 = .ok (.astore_n 3, 1) := by decide +kernel
theorem d_Ma_sum_60 : decode prog_4_method_20_code 60 = .ok (.iload_n 1, 1) := by decide +kernel
theorem d_Ma_sum_61 : decode prog_4_method_20_code 61 = .ok (.tableswitch 90 168 170 #[27, 38, 64], 27) := by decide +kernel
theorem d_Ma_sum_88 : decode prog_4_method_20_code 88 = .ok (.aload_n 0, 1) := by decide +kernel
theorem d_Ma_sum_89 : decode prog_4_method_20_code 89 = .ok (.getfield 43, 3) := by decide +kernel
theorem d_Ma_sum_92 : decode prog_4_method_20_code 92 = .ok (.aload_n 3, 1) := by decide +kernel
theorem d_Ma_sum_93 : decode prog_4_method_20_code 93 = .ok (.invokevirtual 122, 3) := by decide +kernel
theorem d_Ma_sum_96 : decode prog_4_method_20_code 96 = .ok (.goto 56, 3) := by decide +kernel
theorem d_Ma_sum_99 : decode prog_4_method_20_code 99 = .ok (.aload_n 0, 1) := by decide +kernel
theorem d_Ma_sum_100 : decode prog_4_method_20_code 100 = .ok (.getfield 43, 3) := by decide +kernel
theorem d_Ma_sum_103 : decode prog_4_method_20_code 103 = .ok (.aload_n 0, 1) := by decide +kernel
theorem d_Ma_sum_104 : decode prog_4_method_20_code 104 = .ok (.getfield 13, 3) := by decide +kernel
theorem d_Ma_sum_107 : decode prog_4_method_20_code 107 = .ok (.aload_n 3, 1) := by decide +kernel
theorem d_Ma_sum_108 : decode prog_4_method_20_code 108 = .ok (.getfield 215, 3) := by decide +kernel
theorem d_Ma_sum_111 : decode prog_4_method_20_code 111 = .ok (.aload_n 3, 1) := by decide +kernel
theorem d_Ma_sum_112 : decode prog_4_method_20_code 112 = .ok (.getfield 215, 3) := by decide +kernel
theorem d_Ma_sum_115 : decode prog_4_method_20_code 115 = .ok (.arraylength, 1) := by decide +kernel
theorem d_Ma_sum_116 : decode prog_4_method_20_code 116 = .ok (.invokevirtual 219, 3) := by decide +kernel
theorem d_Ma_sum_119 : decode prog_4_method_20_code 119 = .ok (.invokevirtual 122, 3) := by decide +kernel
theorem d_Ma_sum_122 : decode prog_4_method_20_code 122 = .ok (.goto 30, 3) := by decide +kernel
theorem d_Ma_sum_125 : decode prog_4_method_20_code 125 = .ok (.aload_n 0, 1) := by decide +kernel
theorem d_Ma_sum_126 : decode prog_4_method_20_code 126 = .ok (.getfield 43, 3) := by decide +kernel
theorem d_Ma_sum_129 : decode prog_4_method_20_code 129 = .ok (.aload_n 0, 1) := by decide +kernel
theorem d_Ma_sum_130 : decode prog_4_method_20_code 130 = .ok (.getfield 7, 3) := by decide +kernel
theorem d_Ma_sum_133 : decode prog_4_method_20_code 133 = .ok (.aload_n 3, 1) := by decide +kernel
theorem d_Ma_sum_134 : decode prog_4_method_20_code 134 = .ok (.getfield 215, 3) := by decide +kernel
theorem d_Ma_sum_137 : decode prog_4_method_20_code 137 = .ok (.aload_n 3, 1) := by decide +kernel
theorem d_Ma_sum_138 : decode prog_4_method_20_code 138 = .ok (.getfield 215, 3) := by decide +kernel
theorem d_Ma_sum_141 : decode prog_4_method_20_code 141 = .ok (.arraylength, 1) := by decide +kernel
theorem d_Ma_sum_142 : decode prog_4_method_20_code 142 = .ok (.invokevirtual 219, 3) := by decide +kernel
theorem d_Ma_sum_145 : decode prog_4_method_20_code 145 = .ok (.invokevirtual 122, 3) := by decide +kernel
theorem d_Ma_sum_148 : decode prog_4_method_20_code 148 = .ok (.goto 4, 3) := by decide +kernel
theorem d_Ma_sum_151 : decode prog_4_method_20_code 151 = .ok (.iconst 0, 1) := by decide +kernel
theorem d_Ma_sum_152 : decode prog_4_method_20_code 152 = .ok (.ireturn, 1) := by decide +kernel
theorem d_Ma_checkSignatures_0 : decode prog_4_method_21_code 0 = .ok (.iload_n 1, 1) := by decide +kernel
theorem d_Ma_checkSignatures_1 : decode prog_4_method_21_code 1 = .ok (.tableswitch 74 172 175 #[31, 74, 58, 66], 31) := by decide +kernel
theorem d_Ma_checkSignatures_32 : decode prog_4_method_21_code 32 = .ok (.aload_n 0, 1) := by decide +kernel
theorem d_Ma_checkSignatures_33 : decode prog_4_method_21_code 33 = .ok (.getfield 43, 3) := by decide +kernel
theorem d_Ma_checkSignatures_36 : decode prog_4_method_21_code 36 = .ok (.iconst 2, 1) := by decide +kernel
theorem d_Ma_checkSignatures_37 : decode prog_4_method_21_code 37 = .ok (.invokevirtual 163, 3) := by decide +kernel
theorem d_Ma_checkSignatures_40 : decode prog_4_method_21_code 40 = .ok (.ifCond .eq 15, 3) := by decide +kernel
theorem d_Ma_checkSignatures_43 : decode prog_4_method_21_code 43 = .ok (.aload_n 0, 1) := by decide +kernel
theorem d_Ma_checkSignatures_44 : decode prog_4_method_21_code 44 = .ok (.iconst 0, 1) := by decide +kernel
theorem d_Ma_checkSignatures_45 : decode prog_4_method_21_code 45 = .ok (.invokevirtual 192, 3) := by decide +kernel
theorem d_Ma_checkSignatures_48 : decode prog_4_method_21_code 48 = .ok (.ifCond .eq 7, 3) := by decide +kernel
theorem d_Ma_checkSignatures_51 : decode prog_4_method_21_code 51 = .ok (.iconst 1, 1) := by decide +kernel
theorem d_Ma_checkSignatures_52 : decode prog_4_method_21_code 52 = .ok (.goto 24, 3) := by decide +kernel
theorem d_Ma_checkSignatures_55 : decode prog_4_method_21_code 55 = .ok (.iconst 0, 1) := by decide +kernel
theorem d_Ma_checkSignatures_56 : decode prog_4_method_21_code 56 = .ok (.goto 20, 3) := by decide +kernel
theorem d_Ma_checkSignatures_59 : decode prog_4_method_21_code 59 = .ok (.aload_n 0, 1) := by decide +kernel
theorem d_Ma_checkSignatures_60 : decode prog_4_method_21_code 60 = .ok (.iconst 0, 1) := by decide +kernel
theorem d_Ma_checkSignatures_61 : decode prog_4_method_21_code 61 = .ok (.invokevirtual 225, 3) := by decide +kernel
theorem d_Ma_checkSignatures_64 : decode prog_4_method_21_code 64 = .ok (.goto 12, 3) := by decide +kernel
theorem d_Ma_checkSignatures_67 : decode prog_4_method_21_code 67 = .ok (.aload_n 0, 1) := by decide +kernel
theorem d_Ma_checkSignatures_68 : decode prog_4_method_21_code 68 = .ok (.iconst 1, 1) := by decide +kernel
theorem d_Ma_checkSignatures_69 : decode prog_4_method_21_code 69 = .ok (.invokevirtual 225, 3) := by decide +kernel
theorem d_Ma_checkSignatures_72 : decode prog_4_method_21_code 72 = .ok (.goto 4, 3) := by decide +kernel
theorem d_Ma_checkSignatures_75 : decode prog_4_method_21_code 75 = .ok (.iconst 0, 1) := by decide +kernel
theorem d_Ma_checkSignatures_76 : decode prog_4_method_21_code 76 = .ok (.ireturn, 1) := by decide +kernel
theorem d_Ma_checkMany_0 : decode prog_4_method_22_code 0 = .ok (.aload_n 0, 1) := by decide +kernel
theorem d_Ma_checkMany_1 : decode prog_4_method_22_code 1 = .ok (.iconst 0, 1) := by decide +kernel
theorem d_Ma_checkMany_2 : decode prog_4_method_22_code 2 = .ok (.bipush 20, 2) := by decide +kernel
theorem d_Ma_checkMany_4 : decode prog_4_method_22_code 4 = .ok (.invokevirtual 185, 3) := by decide +kernel
theorem d_Ma_checkMany_7 : decode prog_4_method_22_code 7 = .ok (.istore_n 2, 1) := by decide +kernel
theorem d_Ma_checkMany_8 : decode prog_4_method_22_code 8 = .ok (.iload_n 2, 1) := by decide +kernel
theorem d_Ma_checkMany_9 : decode prog_4_method_22_code 9 = .ok (.ifCond .lt 11, 3) := by decide +kernel
theorem d_Ma_checkMany_12 : decode prog_4_method_22_code 12 = .ok (.aload_n 0, 1) := by decide +kernel
theorem d_Ma_checkMany_13 : decode prog_4_method_22_code 13 = .ok (.iload_n 2, 1) := by decide +kernel
theorem d_Ma_checkMany_14 : decode prog_4_method_22_code 14 = .ok (.invokevirtual 60, 3) := by decide +kernel
theorem d_Ma_checkMany_17 : decode prog_4_method_22_code 17 = .ok (.ifCond .ne 5, 3) := by decide +kernel
theorem d_Ma_checkMany_20 : decode prog_4_method_22_code 20 = .ok (.iconst 0, 1) := by decide +kernel
theorem d_Ma_checkMany_21 : decode prog_4_method_22_code 21 = .ok (.ireturn, 1) := by decide +kernel
theorem d_Ma_checkMany_22 : decode prog_4_method_22_code 22 = .ok (.aload_n 0, 1) := by decide +kernel
theorem d_Ma_checkMany_23 : decode prog_4_method_22_code 23 = .ok (.iload_n 2, 1) := by decide +kernel
theorem d_Ma_checkMany_24 : decode prog_4_method_22_code 24 = .ok (.iconst 1, 1) := by decide +kernel
theorem d_Ma_checkMany_25 : decode prog_4_method_22_code 25 = .ok (.iadd, 1) := by decide +kernel
theorem d_Ma_checkMany_26 : decode prog_4_method_22_code 26 = .ok (.iload_n 2, 1) := by decide +kernel
theorem d_Ma_checkMany_27 : decode prog_4_method_22_code 27 = .ok (.invokevirtual 185, 3) := by decide +kernel
theorem d_Ma_checkMany_30 : decode prog_4_method_22_code 30 = .ok (.istore_n 3, 1) := by decide +kernel
theorem d_Ma_checkMany_31 : decode prog_4_method_22_code 31 = .ok (.iload_n 3, 1) := by decide +kernel
theorem d_Ma_checkMany_32 : decode prog_4_method_22_code 32 = .ok (.ifCond .lt 18, 3) := by decide +kernel
theorem d_Ma_checkMany_35 : decode prog_4_method_22_code 35 = .ok (.aload_n 0, 1) := by decide +kernel
theorem d_Ma_checkMany_36 : decode prog_4_method_22_code 36 = .ok (.getfield 43, 3) := by decide +kernel
theorem d_Ma_checkMany_39 : decode prog_4_method_22_code 39 = .ok (.iload_n 2, 1) := by decide +kernel
theorem d_Ma_checkMany_40 : decode prog_4_method_22_code 40 = .ok (.iload_n 3, 1) := by decide +kernel
theorem d_Ma_checkMany_41 : decode prog_4_method_22_code 41 = .ok (.iadd, 1) := by decide +kernel
theorem d_Ma_checkMany_42 : decode prog_4_method_22_code 42 = .ok (.iconst 3, 1) := by decide +kernel
theorem d_Ma_checkMany_43 : decode prog_4_method_22_code 43 = .ok (.iadd, 1) := by decide +kernel
theorem d_Ma_checkMany_44 : decode prog_4_method_22_code 44 = .ok (.invokevirtual 163, 3) := by decide +kernel
theorem d_Ma_checkMany_47 : decode prog_4_method_22_code 47 = .ok (.ifCond .ne 5, 3) := by decide +kernel
theorem d_Ma_checkMany_50 : decode prog_4_method_22_code 50 = .ok (.iconst 0, 1) := by decide +kernel
theorem d_Ma_checkMany_51 : decode prog_4_method_22_code 51 = .ok (.ireturn, 1) := by decide +kernel
theorem d_Ma_checkMany_52 : decode prog_4_method_22_code 52 = .ok (.iload_n 3, 1) := by decide +kernel
theorem d_Ma_checkMany_53 : decode prog_4_method_22_code 53 = .ok (.ifCond .ne 7, 3) := by decide +kernel
theorem d_Ma_checkMany_56 : decode prog_4_method_22_code 56 = .ok (.iconst 1, 1) := by decide +kernel
theorem d_Ma_checkMany_57 : decode prog_4_method_22_code 57 = .ok (.goto 4, 3) := by decide +kernel
theorem d_Ma_checkMany_60 : decode prog_4_method_22_code 60 = .ok (.iconst 0, 1) := by decide +kernel
theorem d_Ma_checkMany_61 : decode prog_4_method_22_code 61 = .ok (.istore 4, 2) := by decide +kernel
theorem d_Ma_checkMany_63 : decode prog_4_method_22_code 63 = .ok (.iload_n 1, 1) := by decide +kernel
theorem d_Ma_checkMany_64 : decode prog_4_method_22_code 64 = .ok (.ifCond .eq 8, 3) := by decide +kernel
theorem d_Ma_checkMany_67 : decode prog_4_method_22_code 67 = .ok (.iload 4, 2) := by decide +kernel
theorem d_Ma_checkMany_69 : decode prog_4_method_22_code 69 = .ok (.goto 9, 3) := by decide +kernel
theorem d_Ma_checkMany_72 : decode prog_4_method_22_code 72 = .ok (.aload_n 0, 1) := by decide +kernel
theorem d_Ma_checkMany_73 : decode prog_4_method_22_code 73 = .ok (.iload 4, 2) := by decide +kernel
theorem d_Ma_checkMany_75 : decode prog_4_method_22_code 75 = .ok (.invokevirtual 192, 3) := by decide +kernel
theorem d_Ma_checkMany_78 : decode prog_4_method_22_code 78 = .ok (.ireturn, 1) := by decide +kernel
theorem d_Ma_handOver_0 : decode prog_4_method_3_code 0 = .ok (.aload_n 0, 1) := by decide +kernel
theorem d_Ma_handOver_1 : decode prog_4_method_3_code 1 = .ok (.getfield 43, 3) := by decide +kernel
theorem d_Ma_handOver_4 : decode prog_4_method_3_code 4 = .ok (.astore_n 2, 1) := by decide +kernel
theorem d_Ma_handOver_5 : decode prog_4_method_3_code 5 = .ok (.aload_n 0, 1) := by decide +kernel
theorem d_Ma_handOver_6 : decode prog_4_method_3_code 6 = .ok (.aload_n 1, 1) := by decide +kernel
theorem d_Ma_handOver_7 : decode prog_4_method_3_code 7 = .ok (.putfield 43, 3) := by decide +kernel
theorem d_Ma_handOver_10 : decode prog_4_method_3_code 10 = .ok (.aload_n 2, 1) := by decide +kernel
theorem d_Ma_handOver_11 : decode prog_4_method_3_code 11 = .ok (.areturn, 1) := by decide +kernel
