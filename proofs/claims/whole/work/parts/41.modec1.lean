theorem d_Mo_init_0 : decode prog_11_method_1_code 0 = .ok (.aload_n 0, 1) := by decide +kernel
theorem d_Mo_init_1 : decode prog_11_method_1_code 1 = .ok (.invokespecial 1, 3) := by decide +kernel
theorem d_Mo_init_4 : decode prog_11_method_1_code 4 = .ok (.aload_n 0, 1) := by decide +kernel
theorem d_Mo_init_5 : decode prog_11_method_1_code 5 = .ok (.sipush 1000, 3) := by decide +kernel
theorem d_Mo_init_8 : decode prog_11_method_1_code 8 = .ok (.newarray .byte, 2) := by decide +kernel
theorem d_Mo_init_10 : decode prog_11_method_1_code 10 = .ok (.putfield 9, 3) := by decide +kernel
theorem d_Mo_init_13 : decode prog_11_method_1_code 13 = .ok (.aload_n 0, 1) := by decide +kernel
theorem d_Mo_init_14 : decode prog_11_method_1_code 14 = .ok (.ldc 13, 2) := by decide +kernel
theorem d_Mo_init_16 : decode prog_11_method_1_code 16 = .ok (.newarray .byte, 2) := by decide +kernel
theorem d_Mo_init_18 : decode prog_11_method_1_code 18 = .ok (.putfield 14, 3) := by decide +kernel
theorem d_Mo_init_21 : decode prog_11_method_1_code 21 = .ok (.aload_n 0, 1) := by decide +kernel
theorem d_Mo_init_22 : decode prog_11_method_1_code 22 = .ok (.sipush 201, 3) := by decide +kernel
theorem d_Mo_init_25 : decode prog_11_method_1_code 25 = .ok (.newarray .int, 2) := by decide +kernel
theorem d_Mo_init_27 : decode prog_11_method_1_code 27 = .ok (.putfield 17, 3) := by decide +kernel
theorem d_Mo_init_30 : decode prog_11_method_1_code 30 = .ok (.aload_n 0, 1) := by decide +kernel
theorem d_Mo_init_31 : decode prog_11_method_1_code 31 = .ok (.bipush 8, 2) := by decide +kernel
theorem d_Mo_init_33 : decode prog_11_method_1_code 33 = .ok (.newarray .int, 2) := by decide +kernel
theorem d_Mo_init_35 : decode prog_11_method_1_code 35 = .ok (.putfield 21, 3) := by decide +kernel
theorem d_Mo_init_38 : decode prog_11_method_1_code 38 = .ok (.aload_n 0, 1) := by decide +kernel
theorem d_Mo_init_39 : decode prog_11_method_1_code 39 = .ok (.bipush 64, 2) := by decide +kernel
theorem d_Mo_init_41 : decode prog_11_method_1_code 41 = .ok (.newarray .int, 2) := by decide +kernel
theorem d_Mo_init_43 : decode prog_11_method_1_code 43 = .ok (.putfield 24, 3) := by decide +kernel
theorem d_Mo_init_46 : decode prog_11_method_1_code 46 = .ok (.aload_n 0, 1) := by decide +kernel
theorem d_Mo_init_47 : decode prog_11_method_1_code 47 = .ok (.bipush 32, 2) := by decide +kernel
theorem d_Mo_init_49 : decode prog_11_method_1_code 49 = .ok (.newarray .byte, 2) := by decide +kernel
theorem d_Mo_init_51 : decode prog_11_method_1_code 51 = .ok (.putfield 27, 3) := by decide +kernel
theorem d_Mo_init_54 : decode prog_11_method_1_code 54 = .ok (.aload_n 0, 1) := by decide +kernel
theorem d_Mo_init_55 : decode prog_11_method_1_code 55 = .ok (.sipush 1200, 3) := by decide +kernel
theorem d_Mo_init_58 : decode prog_11_method_1_code 58 = .ok (.newarray .byte, 2) := by decide +kernel
theorem d_Mo_init_60 : decode prog_11_method_1_code 60 = .ok (.putfield 30, 3) := by decide +kernel
theorem d_Mo_init_63 : decode prog_11_method_1_code 63 = .ok (.aload_n 0, 1) := by decide +kernel
theorem d_Mo_init_64 : decode prog_11_method_1_code 64 = .ok (.ldc 33, 2) := by decide +kernel
theorem d_Mo_init_66 : decode prog_11_method_1_code 66 = .ok (.newarray .byte, 2) := by decide +kernel
theorem d_Mo_init_68 : decode prog_11_method_1_code 68 = .ok (.putfield 34, 3) := by decide +kernel
theorem d_Mo_init_71 : decode prog_11_method_1_code 71 = .ok (.aload_n 0, 1) := by decide +kernel
theorem d_Mo_init_72 : decode prog_11_method_1_code 72 = .ok (.sipush 408, 3) := by decide +kernel
theorem d_Mo_init_75 : decode prog_11_method_1_code 75 = .ok (.newarray .int, 2) := by decide +kernel
theorem d_Mo_init_77 : decode prog_11_method_1_code 77 = .ok (.putfield 37, 3) := by decide +kernel
theorem d_Mo_init_80 : decode prog_11_method_1_code 80 = .ok (.aload_n 0, 1) := by decide +kernel
theorem d_Mo_init_81 : decode prog_11_method_1_code 81 = .ok (.sipush 1001, 3) := by decide +kernel
theorem d_Mo_init_84 : decode prog_11_method_1_code 84 = .ok (.newarray .boolean, 2) := by decide +kernel
theorem d_Mo_init_86 : decode prog_11_method_1_code 86 = .ok (.putfield 40, 3) := by decide +kernel
theorem d_Mo_init_89 : decode prog_11_method_1_code 89 = .ok (.return_, 1) := by decide +kernel
theorem d_Mo_thrown_0 : decode prog_11_method_2_code 0 = .ok (.aload_n 0, 1) := by decide +kernel
theorem d_Mo_thrown_1 : decode prog_11_method_2_code 1 = .ok (.getfield 44, 3) := by decide +kernel
theorem d_Mo_thrown_4 : decode prog_11_method_2_code 4 = .ok (.ireturn, 1) := by decide +kernel
theorem d_Mo_feed_0 : decode prog_11_method_26_code 0 = .ok (.aload_n 0, 1) := by decide +kernel
theorem d_Mo_feed_1 : decode prog_11_method_26_code 1 = .ok (.aload_n 0, 1) := by decide +kernel
theorem d_Mo_feed_2 : decode prog_11_method_26_code 2 = .ok (.getfield 179, 3) := by decide +kernel
theorem d_Mo_feed_5 : decode prog_11_method_26_code 5 = .ok (.bipush 20, 2) := by decide +kernel
theorem d_Mo_feed_7 : decode prog_11_method_26_code 7 = .ok (.iadd, 1) := by decide +kernel
theorem d_Mo_feed_8 : decode prog_11_method_26_code 8 = .ok (.sipush 1000, 3) := by decide +kernel
theorem d_Mo_feed_11 : decode prog_11_method_26_code 11 = .ok (.if_icmp .le 7, 3) := by decide +kernel
theorem d_Mo_feed_14 : decode prog_11_method_26_code 14 = .ok (.iconst 1, 1) := by decide +kernel
theorem d_Mo_feed_15 : decode prog_11_method_26_code 15 = .ok (.goto 4, 3) := by decide +kernel
theorem d_Mo_feed_18 : decode prog_11_method_26_code 18 = .ok (.iconst 0, 1) := by decide +kernel
theorem d_Mo_feed_19 : decode prog_11_method_26_code 19 = .ok (.putfield 44, 3) := by decide +kernel
theorem d_Mo_feed_22 : decode prog_11_method_26_code 22 = .ok (.aload_n 0, 1) := by decide +kernel
theorem d_Mo_feed_23 : decode prog_11_method_26_code 23 = .ok (.getfield 44, 3) := by decide +kernel
theorem d_Mo_feed_26 : decode prog_11_method_26_code 26 = .ok (.ifCond .le 5, 3) := by decide +kernel
theorem d_Mo_feed_29 : decode prog_11_method_26_code 29 = .ok (.iconst 0, 1) := by decide +kernel
theorem d_Mo_feed_30 : decode prog_11_method_26_code 30 = .ok (.ireturn, 1) := by decide +kernel
theorem d_Mo_feed_31 : decode prog_11_method_26_code 31 = .ok (.aload_n 0, 1) := by decide +kernel
theorem d_Mo_feed_32 : decode prog_11_method_26_code 32 = .ok (.iload_n 1, 1) := by decide +kernel
theorem d_Mo_feed_33 : decode prog_11_method_26_code 33 = .ok (.invokevirtual 182, 3) := by decide +kernel
theorem d_Mo_feed_36 : decode prog_11_method_26_code 36 = .ok (.aload_n 0, 1) := by decide +kernel
theorem d_Mo_feed_37 : decode prog_11_method_26_code 37 = .ok (.iload_n 2, 1) := by decide +kernel
theorem d_Mo_feed_38 : decode prog_11_method_26_code 38 = .ok (.invokevirtual 182, 3) := by decide +kernel
theorem d_Mo_feed_41 : decode prog_11_method_26_code 41 = .ok (.aload_n 0, 1) := by decide +kernel
theorem d_Mo_feed_42 : decode prog_11_method_26_code 42 = .ok (.iload_n 3, 1) := by decide +kernel
theorem d_Mo_feed_43 : decode prog_11_method_26_code 43 = .ok (.invokevirtual 182, 3) := by decide +kernel
theorem d_Mo_feed_46 : decode prog_11_method_26_code 46 = .ok (.aload_n 0, 1) := by decide +kernel
theorem d_Mo_feed_47 : decode prog_11_method_26_code 47 = .ok (.iload 4, 2) := by decide +kernel
theorem d_Mo_feed_49 : decode prog_11_method_26_code 49 = .ok (.invokevirtual 182, 3) := by decide +kernel
theorem d_Mo_feed_52 : decode prog_11_method_26_code 52 = .ok (.aload_n 0, 1) := by decide +kernel
theorem d_Mo_feed_53 : decode prog_11_method_26_code 53 = .ok (.iload 5, 2) := by decide +kernel
theorem d_Mo_feed_55 : decode prog_11_method_26_code 55 = .ok (.invokevirtual 182, 3) := by decide +kernel
theorem d_Mo_feed_58 : decode prog_11_method_26_code 58 = .ok (.aload_n 0, 1) := by decide +kernel
theorem d_Mo_feed_59 : decode prog_11_method_26_code 59 = .ok (.getfield 179, 3) := by decide +kernel
theorem d_Mo_feed_62 : decode prog_11_method_26_code 62 = .ok (.ireturn, 1) := by decide +kernel
theorem d_Mo_four_0 : decode prog_11_method_27_code 0 = .ok (.bipush 24, 2) := by decide +kernel
theorem d_Mo_four_2 : decode prog_11_method_27_code 2 = .ok (.istore_n 2, 1) := by decide +kernel
theorem d_Mo_four_3 : decode prog_11_method_27_code 3 = .ok (.iload_n 2, 1) := by decide +kernel
theorem d_Mo_four_4 : decode prog_11_method_27_code 4 = .ok (.ifCond .lt 29, 3) := by decide +kernel
theorem d_Mo_four_7 : decode prog_11_method_27_code 7 = .ok (.aload_n 0, 1) := by decide +kernel
theorem d_Mo_four_8 : decode prog_11_method_27_code 8 = .ok (.getfield 9, 3) := by decide +kernel
theorem d_Mo_four_11 : decode prog_11_method_27_code 11 = .ok (.aload_n 0, 1) := by decide +kernel
theorem d_Mo_four_12 : decode prog_11_method_27_code 12 = .ok (.dup, 1) := by decide +kernel
theorem d_Mo_four_13 : decode prog_11_method_27_code 13 = .ok (.getfield 179, 3) := by decide +kernel
theorem d_Mo_four_16 : decode prog_11_method_27_code 16 = .ok (.dup_x1, 1) := by decide +kernel
theorem d_Mo_four_17 : decode prog_11_method_27_code 17 = .ok (.iconst 1, 1) := by decide +kernel
theorem d_Mo_four_18 : decode prog_11_method_27_code 18 = .ok (.iadd, 1) := by decide +kernel
theorem d_Mo_four_19 : decode prog_11_method_27_code 19 = .ok (.putfield 179, 3) := by decide +kernel
theorem d_Mo_four_22 : decode prog_11_method_27_code 22 = .ok (.iload_n 1, 1) := by decide +kernel
theorem d_Mo_four_23 : decode prog_11_method_27_code 23 = .ok (.iload_n 2, 1) := by decide +kernel
theorem d_Mo_four_24 : decode prog_11_method_27_code 24 = .ok (.ishr, 1) := by decide +kernel
theorem d_Mo_four_25 : decode prog_11_method_27_code 25 = .ok (.i2b, 1) := by decide +kernel
theorem d_Mo_four_26 : decode prog_11_method_27_code 26 = .ok (.bastore, 1) := by decide +kernel
theorem d_Mo_four_27 : decode prog_11_method_27_code 27 = .ok (.iinc 2 (-8), 3) := by decide +kernel
theorem d_Mo_four_30 : decode prog_11_method_27_code 30 = .ok (.goto (-27), 3) := by decide +kernel
theorem d_Mo_four_33 : decode prog_11_method_27_code 33 = .ok (.return_, 1) := by decide +kernel
theorem d_Mo_end_0 : decode prog_11_method_29_code 0 = .ok (.aload_n 0, 1) := by decide +kernel
theorem d_Mo_end_1 : decode prog_11_method_29_code 1 = .ok (.iload_n 1, 1) := by decide +kernel
theorem d_Mo_end_2 : decode prog_11_method_29_code 2 = .ok (.invokevirtual 186, 3) := by decide +kernel
theorem d_Mo_end_5 : decode prog_11_method_29_code 5 = .ok (.ifCond .ne 5, 3) := by decide +kernel
theorem d_Mo_end_8 : decode prog_11_method_29_code 8 = .ok (.iconst 0, 1) := by decide +kernel
theorem d_Mo_end_9 : decode prog_11_method_29_code 9 = .ok (.ireturn, 1) := by decide +kernel
theorem d_Mo_end_10 : decode prog_11_method_29_code 10 = .ok (.aload_n 0, 1) := by decide +kernel
theorem d_Mo_end_11 : decode prog_11_method_29_code 11 = .ok (.iload_n 1, 1) := by decide +kernel
theorem d_Mo_end_12 : decode prog_11_method_29_code 12 = .ok (.putfield 179, 3) := by decide +kernel
theorem d_Mo_end_15 : decode prog_11_method_29_code 15 = .ok (.iload_n 1, 1) := by decide +kernel
theorem d_Mo_end_16 : decode prog_11_method_29_code 16 = .ok (.ireturn, 1) := by decide +kernel
theorem d_Mo_isLength_0 : decode prog_11_method_28_code 0 = .ok (.aload_n 0, 1) := by decide +kernel
theorem d_Mo_isLength_1 : decode prog_11_method_28_code 1 = .ok (.iload_n 1, 1) := by decide +kernel
theorem d_Mo_isLength_2 : decode prog_11_method_28_code 2 = .ok (.ifCond .lt 11, 3) := by decide +kernel
theorem d_Mo_isLength_5 : decode prog_11_method_28_code 5 = .ok (.iload_n 1, 1) := by decide +kernel
theorem d_Mo_isLength_6 : decode prog_11_method_28_code 6 = .ok (.aload_n 0, 1) := by decide +kernel
theorem d_Mo_isLength_7 : decode prog_11_method_28_code 7 = .ok (.getfield 179, 3) := by decide +kernel
theorem d_Mo_isLength_10 : decode prog_11_method_28_code 10 = .ok (.if_icmp .le 7, 3) := by decide +kernel
theorem d_Mo_isLength_13 : decode prog_11_method_28_code 13 = .ok (.iconst 1, 1) := by decide +kernel
theorem d_Mo_isLength_14 : decode prog_11_method_28_code 14 = .ok (.goto 4, 3) := by decide +kernel
theorem d_Mo_isLength_17 : decode prog_11_method_28_code 17 = .ok (.iconst 0, 1) := by decide +kernel
theorem d_Mo_isLength_18 : decode prog_11_method_28_code 18 = .ok (.putfield 44, 3) := by decide +kernel
theorem d_Mo_isLength_21 : decode prog_11_method_28_code 21 = .ok (.aload_n 0, 1) := by decide +kernel
theorem d_Mo_isLength_22 : decode prog_11_method_28_code 22 = .ok (.getfield 44, 3) := by decide +kernel
theorem d_Mo_isLength_25 : decode prog_11_method_28_code 25 = .ok (.ifCond .ne 7, 3) := by decide +kernel
theorem d_Mo_isLength_28 : decode prog_11_method_28_code 28 = .ok (.iconst 1, 1) := by decide +kernel
theorem d_Mo_isLength_29 : decode prog_11_method_28_code 29 = .ok (.goto 4, 3) := by decide +kernel
theorem d_Mo_isLength_32 : decode prog_11_method_28_code 32 = .ok (.iconst 0, 1) := by decide +kernel
theorem d_Mo_isLength_33 : decode prog_11_method_28_code 33 = .ok (.ireturn, 1) := by decide +kernel
theorem d_Mo_run_0 : decode prog_11_method_30_code 0 = .ok (.aload_n 0, 1) := by decide +kernel
theorem d_Mo_run_1 : decode prog_11_method_30_code 1 = .ok (.iload_n 1, 1) := by decide +kernel
theorem d_Mo_run_2 : decode prog_11_method_30_code 2 = .ok (.invokevirtual 186, 3) := by decide +kernel
theorem d_Mo_run_5 : decode prog_11_method_30_code 5 = .ok (.ifCond .ne 5, 3) := by decide +kernel
theorem d_Mo_run_8 : decode prog_11_method_30_code 8 = .ok (.iconst 0, 1) := by decide +kernel
theorem d_Mo_run_9 : decode prog_11_method_30_code 9 = .ok (.ireturn, 1) := by decide +kernel
theorem d_Mo_run_10 : decode prog_11_method_30_code 10 = .ok (.aload_n 0, 1) := by decide +kernel
theorem d_Mo_run_11 : decode prog_11_method_30_code 11 = .ok (.getfield 179, 3) := by decide +kernel
theorem d_Mo_run_14 : decode prog_11_method_30_code 14 = .ok (.iload_n 1, 1) := by decide +kernel
theorem d_Mo_run_15 : decode prog_11_method_30_code 15 = .ok (.isub, 1) := by decide +kernel
theorem d_Mo_run_16 : decode prog_11_method_30_code 16 = .ok (.istore_n 2, 1) := by decide +kernel
theorem d_Mo_run_17 : decode prog_11_method_30_code 17 = .ok (.aload_n 0, 1) := by decide +kernel
theorem d_Mo_run_18 : decode prog_11_method_30_code 18 = .ok (.getfield 100, 3) := by decide +kernel
theorem d_Mo_run_21 : decode prog_11_method_30_code 21 = .ok (.istore_n 3, 1) := by decide +kernel
theorem d_Mo_run_22 : decode prog_11_method_30_code 22 = .ok (.aload_n 0, 1) := by decide +kernel
theorem d_Mo_run_23 : decode prog_11_method_30_code 23 = .ok (.iconst 0, 1) := by decide +kernel
theorem d_Mo_run_24 : decode prog_11_method_30_code 24 = .ok (.putfield 179, 3) := by decide +kernel
theorem d_Mo_run_27 : decode prog_11_method_30_code 27 = .ok (.aload_n 0, 1) := by decide +kernel
theorem d_Mo_run_28 : decode prog_11_method_30_code 28 = .ok (.getfield 34, 3) := by decide +kernel
theorem d_Mo_run_31 : decode prog_11_method_30_code 31 = .ok (.iconst 0, 1) := by decide +kernel
theorem d_Mo_run_32 : decode prog_11_method_30_code 32 = .ok (.aload_n 0, 1) := by decide +kernel
theorem d_Mo_run_33 : decode prog_11_method_30_code 33 = .ok (.getfield 14, 3) := by decide +kernel
theorem d_Mo_run_36 : decode prog_11_method_30_code 36 = .ok (.iconst 0, 1) := by decide +kernel
theorem d_Mo_run_37 : decode prog_11_method_30_code 37 = .ok (.sipush 256, 3) := by decide +kernel
theorem d_Mo_run_40 : decode prog_11_method_30_code 40 = .ok (.iload_n 3, 1) := by decide +kernel
theorem d_Mo_run_41 : decode prog_11_method_30_code 41 = .ok (.imul, 1) := by decide +kernel
theorem d_Mo_run_42 : decode prog_11_method_30_code 42 = .ok (.invokestatic 48, 3) := by decide +kernel
theorem d_Mo_run_45 : decode prog_11_method_30_code 45 = .ok (.aload_n 0, 1) := by decide +kernel
theorem d_Mo_run_46 : decode prog_11_method_30_code 46 = .ok (.getfield 37, 3) := by decide +kernel
theorem d_Mo_run_49 : decode prog_11_method_30_code 49 = .ok (.iconst 0, 1) := by decide +kernel
theorem d_Mo_run_50 : decode prog_11_method_30_code 50 = .ok (.aload_n 0, 1) := by decide +kernel
theorem d_Mo_run_51 : decode prog_11_method_30_code 51 = .ok (.getfield 17, 3) := by decide +kernel
theorem d_Mo_run_54 : decode prog_11_method_30_code 54 = .ok (.iconst 0, 1) := by decide +kernel
theorem d_Mo_run_55 : decode prog_11_method_30_code 55 = .ok (.iload_n 3, 1) := by decide +kernel
theorem d_Mo_run_56 : decode prog_11_method_30_code 56 = .ok (.invokestatic 48, 3) := by decide +kernel
theorem d_Mo_run_59 : decode prog_11_method_30_code 59 = .ok (.aload_n 0, 1) := by decide +kernel
theorem d_Mo_run_60 : decode prog_11_method_30_code 60 = .ok (.iconst 0, 1) := by decide +kernel
theorem d_Mo_run_61 : decode prog_11_method_30_code 61 = .ok (.putfield 100, 3) := by decide +kernel
theorem d_Mo_run_64 : decode prog_11_method_30_code 64 = .ok (.aload_n 0, 1) := by decide +kernel
theorem d_Mo_run_65 : decode prog_11_method_30_code 65 = .ok (.aload_n 0, 1) := by decide +kernel
theorem d_Mo_run_66 : decode prog_11_method_30_code 66 = .ok (.getfield 9, 3) := by decide +kernel
theorem d_Mo_run_69 : decode prog_11_method_30_code 69 = .ok (.iconst 0, 1) := by decide +kernel
theorem d_Mo_run_70 : decode prog_11_method_30_code 70 = .ok (.iload_n 1, 1) := by decide +kernel
theorem d_Mo_run_71 : decode prog_11_method_30_code 71 = .ok (.invokevirtual 189, 3) := by decide +kernel
theorem d_Mo_run_74 : decode prog_11_method_30_code 74 = .ok (.ifCond .eq 42, 3) := by decide +kernel
theorem d_Mo_run_77 : decode prog_11_method_30_code 77 = .ok (.aload_n 0, 1) := by decide +kernel
theorem d_Mo_run_78 : decode prog_11_method_30_code 78 = .ok (.aload_n 0, 1) := by decide +kernel
theorem d_Mo_run_79 : decode prog_11_method_30_code 79 = .ok (.getfield 9, 3) := by decide +kernel
theorem d_Mo_run_82 : decode prog_11_method_30_code 82 = .ok (.iload_n 1, 1) := by decide +kernel
theorem d_Mo_run_83 : decode prog_11_method_30_code 83 = .ok (.iload_n 2, 1) := by decide +kernel
theorem d_Mo_run_84 : decode prog_11_method_30_code 84 = .ok (.invokevirtual 189, 3) := by decide +kernel
theorem d_Mo_run_87 : decode prog_11_method_30_code 87 = .ok (.ifCond .eq 29, 3) := by decide +kernel
theorem d_Mo_run_90 : decode prog_11_method_30_code 90 = .ok (.aload_n 0, 1) := by decide +kernel
theorem d_Mo_run_91 : decode prog_11_method_30_code 91 = .ok (.getfield 100, 3) := by decide +kernel
theorem d_Mo_run_94 : decode prog_11_method_30_code 94 = .ok (.ifCond .le 20, 3) := by decide +kernel
theorem d_Mo_run_97 : decode prog_11_method_30_code 97 = .ok (.aload_n 0, 1) := by decide +kernel
theorem d_Mo_run_98 : decode prog_11_method_30_code 98 = .ok (.aload_n 0, 1) := by decide +kernel
theorem d_Mo_run_99 : decode prog_11_method_30_code 99 = .ok (.getfield 100, 3) := by decide +kernel
theorem d_Mo_run_102 : decode prog_11_method_30_code 102 = .ok (.iconst 1, 1) := by decide +kernel
theorem d_Mo_run_103 : decode prog_11_method_30_code 103 = .ok (.isub, 1) := by decide +kernel
theorem d_Mo_run_104 : decode prog_11_method_30_code 104 = .ok (.invokevirtual 121, 3) := by decide +kernel
theorem d_Mo_run_107 : decode prog_11_method_30_code 107 = .ok (.ifCond .eq 7, 3) := by decide +kernel
theorem d_Mo_run_110 : decode prog_11_method_30_code 110 = .ok (.iconst 2, 1) := by decide +kernel
theorem d_Mo_run_111 : decode prog_11_method_30_code 111 = .ok (.goto 4, 3) := by decide +kernel
theorem d_Mo_run_114 : decode prog_11_method_30_code 114 = .ok (.iconst 1, 1) := by decide +kernel
theorem d_Mo_run_115 : decode prog_11_method_30_code 115 = .ok (.ireturn, 1) := by decide +kernel
theorem d_Mo_run_116 : decode prog_11_method_30_code 116 = .ok (.aload_n 0, 1) := by decide +kernel
theorem d_Mo_run_117 : decode prog_11_method_30_code 117 = .ok (.getfield 14, 3) := by decide +kernel
theorem d_Mo_run_120 : decode prog_11_method_30_code 120 = .ok (.iconst 0, 1) := by decide +kernel
theorem d_Mo_run_121 : decode prog_11_method_30_code 121 = .ok (.aload_n 0, 1) := by decide +kernel
theorem d_Mo_run_122 : decode prog_11_method_30_code 122 = .ok (.getfield 34, 3) := by decide +kernel
theorem d_Mo_run_125 : decode prog_11_method_30_code 125 = .ok (.iconst 0, 1) := by decide +kernel
theorem d_Mo_run_126 : decode prog_11_method_30_code 126 = .ok (.sipush 256, 3) := by decide +kernel
theorem d_Mo_run_129 : decode prog_11_method_30_code 129 = .ok (.iload_n 3, 1) := by decide +kernel
theorem d_Mo_run_130 : decode prog_11_method_30_code 130 = .ok (.imul, 1) := by decide +kernel
theorem d_Mo_run_131 : decode prog_11_method_30_code 131 = .ok (.invokestatic 48, 3) := by decide +kernel
theorem d_Mo_run_134 : decode prog_11_method_30_code 134 = .ok (.aload_n 0, 1) := by decide +kernel
theorem d_Mo_run_135 : decode prog_11_method_30_code 135 = .ok (.getfield 17, 3) := by decide +kernel
theorem d_Mo_run_138 : decode prog_11_method_30_code 138 = .ok (.iconst 0, 1) := by decide +kernel
theorem d_Mo_run_139 : decode prog_11_method_30_code 139 = .ok (.aload_n 0, 1) := by decide +kernel
theorem d_Mo_run_140 : decode prog_11_method_30_code 140 = .ok (.getfield 37, 3) := by decide +kernel
theorem d_Mo_run_143 : decode prog_11_method_30_code 143 = .ok (.iconst 0, 1) := by decide +kernel
theorem d_Mo_run_144 : decode prog_11_method_30_code 144 = .ok (.iload_n 3, 1) := by decide +kernel
theorem d_Mo_run_145 : decode prog_11_method_30_code 145 = .ok (.invokestatic 48, 3) := by decide +kernel
theorem d_Mo_run_148 : decode prog_11_method_30_code 148 = .ok (.aload_n 0, 1) := by decide +kernel
theorem d_Mo_run_149 : decode prog_11_method_30_code 149 = .ok (.iload_n 3, 1) := by decide +kernel
theorem d_Mo_run_150 : decode prog_11_method_30_code 150 = .ok (.putfield 100, 3) := by decide +kernel
theorem d_Mo_run_153 : decode prog_11_method_30_code 153 = .ok (.iconst 0, 1) := by decide +kernel
theorem d_Mo_run_154 : decode prog_11_method_30_code 154 = .ok (.ireturn, 1) := by decide +kernel
theorem d_Mo_run2_0 : decode prog_11_method_18_code 0 = .ok (.iconst 0, 1) := by decide +kernel
theorem d_Mo_run2_1 : decode prog_11_method_18_code 1 = .ok (.istore 4, 2) := by decide +kernel
theorem d_Mo_run2_3 : decode prog_11_method_18_code 3 = .ok (.iconst 0, 1) := by decide +kernel
theorem d_Mo_run2_4 : decode prog_11_method_18_code 4 = .ok (.istore 5, 2) := by decide +kernel
theorem d_Mo_run2_6 : decode prog_11_method_18_code 6 = .ok (.aload_n 0, 1) := by decide +kernel
theorem d_Mo_run2_7 : decode prog_11_method_18_code 7 = .ok (.iconst 0, 1) := by decide +kernel
theorem d_Mo_run2_8 : decode prog_11_method_18_code 8 = .ok (.putfield 111, 3) := by decide +kernel
theorem d_Mo_run2_11 : decode prog_11_method_18_code 11 = .ok (.aload_n 0, 1) := by decide +kernel
theorem d_Mo_run2_12 : decode prog_11_method_18_code 12 = .ok (.iconst 0, 1) := by decide +kernel
theorem d_Mo_run2_13 : decode prog_11_method_18_code 13 = .ok (.putfield 114, 3) := by decide +kernel
theorem d_Mo_run2_16 : decode prog_11_method_18_code 16 = .ok (.iload_n 2, 1) := by decide +kernel
theorem d_Mo_run2_17 : decode prog_11_method_18_code 17 = .ok (.istore 6, 2) := by decide +kernel
theorem d_Mo_run2_19 : decode prog_11_method_18_code 19 = .ok (.iload 6, 2) := by decide +kernel
theorem d_Mo_run2_21 : decode prog_11_method_18_code 21 = .ok (.iload_n 2, 1) := by decide +kernel
theorem d_Mo_run2_22 : decode prog_11_method_18_code 22 = .ok (.iload_n 3, 1) := by decide +kernel
theorem d_Mo_run2_23 : decode prog_11_method_18_code 23 = .ok (.iadd, 1) := by decide +kernel
theorem d_Mo_run2_24 : decode prog_11_method_18_code 24 = .ok (.if_icmp .ge 347, 3) := by decide +kernel
theorem d_Mo_run2_27 : decode prog_11_method_18_code 27 = .ok (.aload_n 1, 1) := by decide +kernel
theorem d_Mo_run2_28 : decode prog_11_method_18_code 28 = .ok (.iload 6, 2) := by decide +kernel
theorem d_Mo_run2_30 : decode prog_11_method_18_code 30 = .ok (.baload, 1) := by decide +kernel
theorem d_Mo_run2_31 : decode prog_11_method_18_code 31 = .ok (.sipush 255, 3) := by decide +kernel
theorem d_Mo_run2_34 : decode prog_11_method_18_code 34 = .ok (.iand, 1) := by decide +kernel
theorem d_Mo_run2_35 : decode prog_11_method_18_code 35 = .ok (.istore 7, 2) := by decide +kernel
theorem d_Mo_run2_37 : decode prog_11_method_18_code 37 = .ok (.iinc 6 1, 3) := by decide +kernel
theorem d_Mo_run2_40 : decode prog_11_method_18_code 40 = .ok (.iload 7, 2) := by decide +kernel
theorem d_Mo_run2_42 : decode prog_11_method_18_code 42 = .ok (.bipush 76, 2) := by decide +kernel
theorem d_Mo_run2_44 : decode prog_11_method_18_code 44 = .ok (.if_icmp .gt 74, 3) := by decide +kernel
theorem d_Mo_run2_47 : decode prog_11_method_18_code 47 = .ok (.iload 7, 2) := by decide +kernel
theorem d_Mo_run2_49 : decode prog_11_method_18_code 49 = .ok (.istore 8, 2) := by decide +kernel
theorem d_Mo_run2_51 : decode prog_11_method_18_code 51 = .ok (.iload 7, 2) := by decide +kernel
theorem d_Mo_run2_53 : decode prog_11_method_18_code 53 = .ok (.bipush 76, 2) := by decide +kernel
theorem d_Mo_run2_55 : decode prog_11_method_18_code 55 = .ok (.if_icmp .ne 26, 3) := by decide +kernel
theorem d_Mo_run2_58 : decode prog_11_method_18_code 58 = .ok (.iload 6, 2) := by decide +kernel
theorem d_Mo_run2_60 : decode prog_11_method_18_code 60 = .ok (.iload_n 2, 1) := by decide +kernel
theorem d_Mo_run2_61 : decode prog_11_method_18_code 61 = .ok (.iload_n 3, 1) := by decide +kernel
theorem d_Mo_run2_62 : decode prog_11_method_18_code 62 = .ok (.iadd, 1) := by decide +kernel
theorem d_Mo_run2_63 : decode prog_11_method_18_code 63 = .ok (.if_icmp .ne 5, 3) := by decide +kernel
theorem d_Mo_run2_66 : decode prog_11_method_18_code 66 = .ok (.iconst 0, 1) := by decide +kernel
theorem d_Mo_run2_67 : decode prog_11_method_18_code 67 = .ok (.ireturn, 1) := by decide +kernel
theorem d_Mo_run2_68 : decode prog_11_method_18_code 68 = .ok (.aload_n 1, 1) := by decide +kernel
theorem d_Mo_run2_69 : decode prog_11_method_18_code 69 = .ok (.iload 6, 2) := by decide +kernel
theorem d_Mo_run2_71 : decode prog_11_method_18_code 71 = .ok (.baload, 1) := by decide +kernel
theorem d_Mo_run2_72 : decode prog_11_method_18_code 72 = .ok (.sipush 255, 3) := by decide +kernel
theorem d_Mo_run2_75 : decode prog_11_method_18_code 75 = .ok (.iand, 1) := by decide +kernel
theorem d_Mo_run2_76 : decode prog_11_method_18_code 76 = .ok (.istore 8, 2) := by decide +kernel
theorem d_Mo_run2_78 : decode prog_11_method_18_code 78 = .ok (.iinc 6 1, 3) := by decide +kernel
theorem d_Mo_run2_81 : decode prog_11_method_18_code 81 = .ok (.iload 8, 2) := by decide +kernel
theorem d_Mo_run2_83 : decode prog_11_method_18_code 83 = .ok (.iload_n 2, 1) := by decide +kernel
theorem d_Mo_run2_84 : decode prog_11_method_18_code 84 = .ok (.iload_n 3, 1) := by decide +kernel
theorem d_Mo_run2_85 : decode prog_11_method_18_code 85 = .ok (.iadd, 1) := by decide +kernel
theorem d_Mo_run2_86 : decode prog_11_method_18_code 86 = .ok (.iload 6, 2) := by decide +kernel
theorem d_Mo_run2_88 : decode prog_11_method_18_code 88 = .ok (.isub, 1) := by decide +kernel
theorem d_Mo_run2_89 : decode prog_11_method_18_code 89 = .ok (.if_icmp .le 5, 3) := by decide +kernel
theorem d_Mo_run2_92 : decode prog_11_method_18_code 92 = .ok (.iconst 0, 1) := by decide +kernel
theorem d_Mo_run2_93 : decode prog_11_method_18_code 93 = .ok (.ireturn, 1) := by decide +kernel
theorem d_Mo_run2_94 : decode prog_11_method_18_code 94 = .ok (.iload 5, 2) := by decide +kernel
theorem d_Mo_run2_96 : decode prog_11_method_18_code 96 = .ok (.ifCond .ne 12, 3) := by decide +kernel
theorem d_Mo_run2_99 : decode prog_11_method_18_code 99 = .ok (.aload_n 0, 1) := by decide +kernel
theorem d_Mo_run2_100 : decode prog_11_method_18_code 100 = .ok (.aload_n 1, 1) := by decide +kernel
theorem d_Mo_run2_101 : decode prog_11_method_18_code 101 = .ok (.iload 6, 2) := by decide +kernel
theorem d_Mo_run2_103 : decode prog_11_method_18_code 103 = .ok (.iload 8, 2) := by decide +kernel
theorem d_Mo_run2_105 : decode prog_11_method_18_code 105 = .ok (.invokevirtual 117, 3) := by decide +kernel
theorem d_Mo_run2_108 : decode prog_11_method_18_code 108 = .ok (.iload 6, 2) := by decide +kernel
theorem d_Mo_run2_110 : decode prog_11_method_18_code 110 = .ok (.iload 8, 2) := by decide +kernel
theorem d_Mo_run2_112 : decode prog_11_method_18_code 112 = .ok (.iadd, 1) := by decide +kernel
theorem d_Mo_run2_113 : decode prog_11_method_18_code 113 = .ok (.istore 6, 2) := by decide +kernel
theorem d_Mo_run2_115 : decode prog_11_method_18_code 115 = .ok (.goto 236, 3) := by decide +kernel
theorem d_Mo_run2_118 : decode prog_11_method_18_code 118 = .ok (.iload 7, 2) := by decide +kernel
theorem d_Mo_run2_120 : decode prog_11_method_18_code 120 = .ok (.bipush 96, 2) := by decide +kernel
theorem d_Mo_run2_122 : decode prog_11_method_18_code 122 = .ok (.if_icmp .le 22, 3) := by decide +kernel
theorem d_Mo_run2_125 : decode prog_11_method_18_code 125 = .ok (.aload_n 0, 1) := by decide +kernel
theorem d_Mo_run2_126 : decode prog_11_method_18_code 126 = .ok (.dup, 1) := by decide +kernel
theorem d_Mo_run2_127 : decode prog_11_method_18_code 127 = .ok (.getfield 114, 3) := by decide +kernel
theorem d_Mo_run2_130 : decode prog_11_method_18_code 130 = .ok (.iconst 1, 1) := by decide +kernel
theorem d_Mo_run2_131 : decode prog_11_method_18_code 131 = .ok (.iadd, 1) := by decide +kernel
theorem d_Mo_run2_132 : decode prog_11_method_18_code 132 = .ok (.dup_x1, 1) := by decide +kernel
theorem d_Mo_run2_133 : decode prog_11_method_18_code 133 = .ok (.putfield 114, 3) := by decide +kernel
theorem d_Mo_run2_136 : decode prog_11_method_18_code 136 = .ok (.sipush 201, 3) := by decide +kernel
theorem d_Mo_run2_139 : decode prog_11_method_18_code 139 = .ok (.if_icmp .le 5, 3) := by decide +kernel
theorem d_Mo_run2_142 : decode prog_11_method_18_code 142 = .ok (.iconst 0, 1) := by decide +kernel
theorem d_Mo_run2_143 : decode prog_11_method_18_code 143 = .ok (.ireturn, 1) := by decide +kernel
theorem d_Mo_run2_144 : decode prog_11_method_18_code 144 = .ok (.iload 7, 2) := by decide +kernel
theorem d_Mo_run2_146 : decode prog_11_method_18_code 146 = .ok (.bipush 99, 2) := by decide +kernel
theorem d_Mo_run2_148 : decode prog_11_method_18_code 148 = .ok (.if_icmp .lt 187, 3) := by decide +kernel
theorem d_Mo_run2_151 : decode prog_11_method_18_code 151 = .ok (.iload 7, 2) := by decide +kernel
theorem d_Mo_run2_153 : decode prog_11_method_18_code 153 = .ok (.bipush 104, 2) := by decide +kernel
theorem d_Mo_run2_155 : decode prog_11_method_18_code 155 = .ok (.if_icmp .gt 180, 3) := by decide +kernel
theorem d_Mo_run2_158 : decode prog_11_method_18_code 158 = .ok (.iload 7, 2) := by decide +kernel
theorem d_Mo_run2_160 : decode prog_11_method_18_code 160 = .ok (.bipush 101, 2) := by decide +kernel
theorem d_Mo_run2_162 : decode prog_11_method_18_code 162 = .ok (.if_icmp .eq 173, 3) := by decide +kernel
theorem d_Mo_run2_165 : decode prog_11_method_18_code 165 = .ok (.iload 7, 2) := by decide +kernel
theorem d_Mo_run2_167 : decode prog_11_method_18_code 167 = .ok (.bipush 102, 2) := by decide +kernel
theorem d_Mo_run2_169 : decode prog_11_method_18_code 169 = .ok (.if_icmp .eq 166, 3) := by decide +kernel
theorem d_Mo_run2_172 : decode prog_11_method_18_code 172 = .ok (.iload 7, 2) := by decide +kernel
theorem d_Mo_run2_174 : decode prog_11_method_18_code 174 = .ok (.bipush 103, 2) := by decide +kernel
theorem d_Mo_run2_176 : decode prog_11_method_18_code 176 = .ok (.if_icmp .ge 83, 3) := by decide +kernel
theorem d_Mo_run2_179 : decode prog_11_method_18_code 179 = .ok (.iconst 0, 1) := by decide +kernel
theorem d_Mo_run2_180 : decode prog_11_method_18_code 180 = .ok (.istore 8, 2) := by decide +kernel
theorem d_Mo_run2_182 : decode prog_11_method_18_code 182 = .ok (.iload 5, 2) := by decide +kernel
theorem d_Mo_run2_184 : decode prog_11_method_18_code 184 = .ok (.ifCond .ne 52, 3) := by decide +kernel
theorem d_Mo_run2_187 : decode prog_11_method_18_code 187 = .ok (.aload_n 0, 1) := by decide +kernel
theorem d_Mo_run2_188 : decode prog_11_method_18_code 188 = .ok (.getfield 100, 3) := by decide +kernel
theorem d_Mo_run2_191 : decode prog_11_method_18_code 191 = .ok (.ifCond .ne 5, 3) := by decide +kernel
theorem d_Mo_run2_194 : decode prog_11_method_18_code 194 = .ok (.iconst 0, 1) := by decide +kernel
theorem d_Mo_run2_195 : decode prog_11_method_18_code 195 = .ok (.ireturn, 1) := by decide +kernel
theorem d_Mo_run2_196 : decode prog_11_method_18_code 196 = .ok (.aload_n 0, 1) := by decide +kernel
theorem d_Mo_run2_197 : decode prog_11_method_18_code 197 = .ok (.dup, 1) := by decide +kernel
theorem d_Mo_run2_198 : decode prog_11_method_18_code 198 = .ok (.getfield 100, 3) := by decide +kernel
theorem d_Mo_run2_201 : decode prog_11_method_18_code 201 = .ok (.iconst 1, 1) := by decide +kernel
theorem d_Mo_run2_202 : decode prog_11_method_18_code 202 = .ok (.isub, 1) := by decide +kernel
theorem d_Mo_run2_203 : decode prog_11_method_18_code 203 = .ok (.putfield 100, 3) := by decide +kernel
theorem d_Mo_run2_206 : decode prog_11_method_18_code 206 = .ok (.aload_n 0, 1) := by decide +kernel
theorem d_Mo_run2_207 : decode prog_11_method_18_code 207 = .ok (.aload_n 0, 1) := by decide +kernel
theorem d_Mo_run2_208 : decode prog_11_method_18_code 208 = .ok (.getfield 100, 3) := by decide +kernel
theorem d_Mo_run2_211 : decode prog_11_method_18_code 211 = .ok (.invokevirtual 121, 3) := by decide +kernel
theorem d_Mo_run2_214 : decode prog_11_method_18_code 214 = .ok (.iload 7, 2) := by decide +kernel
theorem d_Mo_run2_216 : decode prog_11_method_18_code 216 = .ok (.bipush 99, 2) := by decide +kernel
theorem d_Mo_run2_218 : decode prog_11_method_18_code 218 = .ok (.if_icmp .ne 7, 3) := by decide +kernel
theorem d_Mo_run2_221 : decode prog_11_method_18_code 221 = .ok (.iconst 1, 1) := by decide +kernel
theorem d_Mo_run2_222 : decode prog_11_method_18_code 222 = .ok (.goto 4, 3) := by decide +kernel
theorem d_Mo_run2_225 : decode prog_11_method_18_code 225 = .ok (.iconst 0, 1) := by decide +kernel
theorem d_Mo_run2_226 : decode prog_11_method_18_code 226 = .ok (.if_icmp .ne 7, 3) := by decide +kernel
theorem d_Mo_run2_229 : decode prog_11_method_18_code 229 = .ok (.iconst 1, 1) := by decide +kernel
theorem d_Mo_run2_230 : decode prog_11_method_18_code 230 = .ok (.goto 4, 3) := by decide +kernel
theorem d_Mo_run2_233 : decode prog_11_method_18_code 233 = .ok (.iconst 0, 1) := by decide +kernel
theorem d_Mo_run2_234 : decode prog_11_method_18_code 234 = .ok (.istore 8, 2) := by decide +kernel
theorem d_Mo_run2_236 : decode prog_11_method_18_code 236 = .ok (.aload_n 0, 1) := by decide +kernel
theorem d_Mo_run2_237 : decode prog_11_method_18_code 237 = .ok (.getfield 40, 3) := by decide +kernel
theorem d_Mo_run2_240 : decode prog_11_method_18_code 240 = .ok (.iload 4, 2) := by decide +kernel
theorem d_Mo_run2_242 : decode prog_11_method_18_code 242 = .ok (.iload 8, 2) := by decide +kernel
theorem d_Mo_run2_244 : decode prog_11_method_18_code 244 = .ok (.bastore, 1) := by decide +kernel
theorem d_Mo_run2_245 : decode prog_11_method_18_code 245 = .ok (.iinc 4 1, 3) := by decide +kernel
theorem d_Mo_run2_248 : decode prog_11_method_18_code 248 = .ok (.iload 8, 2) := by decide +kernel
theorem d_Mo_run2_250 : decode prog_11_method_18_code 250 = .ok (.ifCond .ne 6, 3) := by decide +kernel
theorem d_Mo_run2_253 : decode prog_11_method_18_code 253 = .ok (.iinc 5 1, 3) := by decide +kernel
theorem d_Mo_run2_256 : decode prog_11_method_18_code 256 = .ok (.goto 95, 3) := by decide +kernel
theorem d_Mo_run2_259 : decode prog_11_method_18_code 259 = .ok (.iload 4, 2) := by decide +kernel
theorem d_Mo_run2_261 : decode prog_11_method_18_code 261 = .ok (.ifCond .ne 5, 3) := by decide +kernel
theorem d_Mo_run2_264 : decode prog_11_method_18_code 264 = .ok (.iconst 0, 1) := by decide +kernel
theorem d_Mo_run2_265 : decode prog_11_method_18_code 265 = .ok (.ireturn, 1) := by decide +kernel
theorem d_Mo_run2_266 : decode prog_11_method_18_code 266 = .ok (.aload_n 0, 1) := by decide +kernel
theorem d_Mo_run2_267 : decode prog_11_method_18_code 267 = .ok (.getfield 40, 3) := by decide +kernel
theorem d_Mo_run2_270 : decode prog_11_method_18_code 270 = .ok (.iload 4, 2) := by decide +kernel
theorem d_Mo_run2_272 : decode prog_11_method_18_code 272 = .ok (.iconst 1, 1) := by decide +kernel
theorem d_Mo_run2_273 : decode prog_11_method_18_code 273 = .ok (.isub, 1) := by decide +kernel
theorem d_Mo_run2_274 : decode prog_11_method_18_code 274 = .ok (.baload, 1) := by decide +kernel
theorem d_Mo_run2_275 : decode prog_11_method_18_code 275 = .ok (.istore 8, 2) := by decide +kernel
theorem d_Mo_run2_277 : decode prog_11_method_18_code 277 = .ok (.iload 7, 2) := by decide +kernel
theorem d_Mo_run2_279 : decode prog_11_method_18_code 279 = .ok (.bipush 104, 2) := by decide +kernel
theorem d_Mo_run2_281 : decode prog_11_method_18_code 281 = .ok (.if_icmp .ne 17, 3) := by decide +kernel
theorem d_Mo_run2_284 : decode prog_11_method_18_code 284 = .ok (.iinc 4 (-1), 3) := by decide +kernel
theorem d_Mo_run2_287 : decode prog_11_method_18_code 287 = .ok (.iload 8, 2) := by decide +kernel
theorem d_Mo_run2_289 : decode prog_11_method_18_code 289 = .ok (.ifCond .ne 43, 3) := by decide +kernel
theorem d_Mo_run2_292 : decode prog_11_method_18_code 292 = .ok (.iinc 5 (-1), 3) := by decide +kernel
theorem d_Mo_run2_295 : decode prog_11_method_18_code 295 = .ok (.goto 37, 3) := by decide +kernel
theorem d_Mo_run2_298 : decode prog_11_method_18_code 298 = .ok (.aload_n 0, 1) := by decide +kernel
theorem d_Mo_run2_299 : decode prog_11_method_18_code 299 = .ok (.getfield 40, 3) := by decide +kernel
theorem d_Mo_run2_302 : decode prog_11_method_18_code 302 = .ok (.iload 4, 2) := by decide +kernel
theorem d_Mo_run2_304 : decode prog_11_method_18_code 304 = .ok (.iconst 1, 1) := by decide +kernel
theorem d_Mo_run2_305 : decode prog_11_method_18_code 305 = .ok (.isub, 1) := by decide +kernel
theorem d_Mo_run2_306 : decode prog_11_method_18_code 306 = .ok (.iload 8, 2) := by decide +kernel
theorem d_Mo_run2_308 : decode prog_11_method_18_code 308 = .ok (.ifCond .ne 7, 3) := by decide +kernel
theorem d_Mo_run2_311 : decode prog_11_method_18_code 311 = .ok (.iconst 1, 1) := by decide +kernel
theorem d_Mo_run2_312 : decode prog_11_method_18_code 312 = .ok (.goto 4, 3) := by decide +kernel
theorem d_Mo_run2_315 : decode prog_11_method_18_code 315 = .ok (.iconst 0, 1) := by decide +kernel
theorem d_Mo_run2_316 : decode prog_11_method_18_code 316 = .ok (.bastore, 1) := by decide +kernel
theorem d_Mo_run2_317 : decode prog_11_method_18_code 317 = .ok (.iload 5, 2) := by decide +kernel
theorem d_Mo_run2_319 : decode prog_11_method_18_code 319 = .ok (.iload 8, 2) := by decide +kernel
theorem d_Mo_run2_321 : decode prog_11_method_18_code 321 = .ok (.ifCond .eq 7, 3) := by decide +kernel
theorem d_Mo_run2_324 : decode prog_11_method_18_code 324 = .ok (.iconst 1, 1) := by decide +kernel
theorem d_Mo_run2_325 : decode prog_11_method_18_code 325 = .ok (.goto 4, 3) := by decide +kernel
theorem d_Mo_run2_328 : decode prog_11_method_18_code 328 = .ok (.iconst (-1), 1) := by decide +kernel
theorem d_Mo_run2_329 : decode prog_11_method_18_code 329 = .ok (.iadd, 1) := by decide +kernel
theorem d_Mo_run2_330 : decode prog_11_method_18_code 330 = .ok (.istore 5, 2) := by decide +kernel
theorem d_Mo_run2_332 : decode prog_11_method_18_code 332 = .ok (.goto 19, 3) := by decide +kernel
theorem d_Mo_run2_335 : decode prog_11_method_18_code 335 = .ok (.iload 5, 2) := by decide +kernel
theorem d_Mo_run2_337 : decode prog_11_method_18_code 337 = .ok (.ifCond .ne 14, 3) := by decide +kernel
theorem d_Mo_run2_340 : decode prog_11_method_18_code 340 = .ok (.aload_n 0, 1) := by decide +kernel
theorem d_Mo_run2_341 : decode prog_11_method_18_code 341 = .ok (.iload 7, 2) := by decide +kernel
theorem d_Mo_run2_343 : decode prog_11_method_18_code 343 = .ok (.invokevirtual 125, 3) := by decide +kernel
theorem d_Mo_run2_346 : decode prog_11_method_18_code 346 = .ok (.ifCond .ne 5, 3) := by decide +kernel
theorem d_Mo_run2_349 : decode prog_11_method_18_code 349 = .ok (.iconst 0, 1) := by decide +kernel
theorem d_Mo_run2_350 : decode prog_11_method_18_code 350 = .ok (.ireturn, 1) := by decide +kernel
theorem d_Mo_run2_351 : decode prog_11_method_18_code 351 = .ok (.aload_n 0, 1) := by decide +kernel
theorem d_Mo_run2_352 : decode prog_11_method_18_code 352 = .ok (.getfield 100, 3) := by decide +kernel
theorem d_Mo_run2_355 : decode prog_11_method_18_code 355 = .ok (.aload_n 0, 1) := by decide +kernel
theorem d_Mo_run2_356 : decode prog_11_method_18_code 356 = .ok (.getfield 111, 3) := by decide +kernel
theorem d_Mo_run2_359 : decode prog_11_method_18_code 359 = .ok (.iadd, 1) := by decide +kernel
theorem d_Mo_run2_360 : decode prog_11_method_18_code 360 = .ok (.sipush 200, 3) := by decide +kernel
theorem d_Mo_run2_363 : decode prog_11_method_18_code 363 = .ok (.if_icmp .le 5, 3) := by decide +kernel
theorem d_Mo_run2_366 : decode prog_11_method_18_code 366 = .ok (.iconst 0, 1) := by decide +kernel
theorem d_Mo_run2_367 : decode prog_11_method_18_code 367 = .ok (.ireturn, 1) := by decide +kernel
theorem d_Mo_run2_368 : decode prog_11_method_18_code 368 = .ok (.goto (-349), 3) := by decide +kernel
theorem d_Mo_run2_371 : decode prog_11_method_18_code 371 = .ok (.iload 4, 2) := by decide +kernel
theorem d_Mo_run2_373 : decode prog_11_method_18_code 373 = .ok (.ifCond .ne 7, 3) := by decide +kernel
theorem d_Mo_run2_376 : decode prog_11_method_18_code 376 = .ok (.iconst 1, 1) := by decide +kernel
theorem d_Mo_run2_377 : decode prog_11_method_18_code 377 = .ok (.goto 4, 3) := by decide +kernel
theorem d_Mo_run2_380 : decode prog_11_method_18_code 380 = .ok (.iconst 0, 1) := by decide +kernel
theorem d_Mo_run2_381 : decode prog_11_method_18_code 381 = .ok (.ireturn, 1) := by decide +kernel
theorem d_Mo_push_0 : decode prog_11_method_11_code 0 = .ok (.aload_n 1, 1) := by decide +kernel
theorem d_Mo_push_1 : decode prog_11_method_11_code 1 = .ok (.iload_n 2, 1) := by decide +kernel
theorem d_Mo_push_2 : decode prog_11_method_11_code 2 = .ok (.aload_n 0, 1) := by decide +kernel
theorem d_Mo_push_3 : decode prog_11_method_11_code 3 = .ok (.getfield 34, 3) := by decide +kernel
theorem d_Mo_push_6 : decode prog_11_method_11_code 6 = .ok (.sipush 256, 3) := by decide +kernel
theorem d_Mo_push_9 : decode prog_11_method_11_code 9 = .ok (.aload_n 0, 1) := by decide +kernel
theorem d_Mo_push_10 : decode prog_11_method_11_code 10 = .ok (.getfield 100, 3) := by decide +kernel
theorem d_Mo_push_13 : decode prog_11_method_11_code 13 = .ok (.imul, 1) := by decide +kernel
theorem d_Mo_push_14 : decode prog_11_method_11_code 14 = .ok (.iload_n 3, 1) := by decide +kernel
theorem d_Mo_push_15 : decode prog_11_method_11_code 15 = .ok (.invokestatic 48, 3) := by decide +kernel
theorem d_Mo_push_18 : decode prog_11_method_11_code 18 = .ok (.aload_n 0, 1) := by decide +kernel
theorem d_Mo_push_19 : decode prog_11_method_11_code 19 = .ok (.getfield 37, 3) := by decide +kernel
theorem d_Mo_push_22 : decode prog_11_method_11_code 22 = .ok (.aload_n 0, 1) := by decide +kernel
theorem d_Mo_push_23 : decode prog_11_method_11_code 23 = .ok (.getfield 100, 3) := by decide +kernel
theorem d_Mo_push_26 : decode prog_11_method_11_code 26 = .ok (.iload_n 3, 1) := by decide +kernel
theorem d_Mo_push_27 : decode prog_11_method_11_code 27 = .ok (.iastore, 1) := by decide +kernel
theorem d_Mo_push_28 : decode prog_11_method_11_code 28 = .ok (.aload_n 0, 1) := by decide +kernel
theorem d_Mo_push_29 : decode prog_11_method_11_code 29 = .ok (.dup, 1) := by decide +kernel
theorem d_Mo_push_30 : decode prog_11_method_11_code 30 = .ok (.getfield 100, 3) := by decide +kernel
theorem d_Mo_push_33 : decode prog_11_method_11_code 33 = .ok (.iconst 1, 1) := by decide +kernel
theorem d_Mo_push_34 : decode prog_11_method_11_code 34 = .ok (.iadd, 1) := by decide +kernel
theorem d_Mo_push_35 : decode prog_11_method_11_code 35 = .ok (.putfield 100, 3) := by decide +kernel
theorem d_Mo_push_38 : decode prog_11_method_11_code 38 = .ok (.return_, 1) := by decide +kernel
theorem d_Mo_isTrue_0 : decode prog_11_method_14_code 0 = .ok (.iconst 0, 1) := by decide +kernel
theorem d_Mo_isTrue_1 : decode prog_11_method_14_code 1 = .ok (.istore_n 2, 1) := by decide +kernel
theorem d_Mo_isTrue_2 : decode prog_11_method_14_code 2 = .ok (.iload_n 2, 1) := by decide +kernel
theorem d_Mo_isTrue_3 : decode prog_11_method_14_code 3 = .ok (.aload_n 0, 1) := by decide +kernel
theorem d_Mo_isTrue_4 : decode prog_11_method_14_code 4 = .ok (.getfield 37, 3) := by decide +kernel
theorem d_Mo_isTrue_7 : decode prog_11_method_14_code 7 = .ok (.iload_n 1, 1) := by decide +kernel
theorem d_Mo_isTrue_8 : decode prog_11_method_14_code 8 = .ok (.iaload, 1) := by decide +kernel
theorem d_Mo_isTrue_9 : decode prog_11_method_14_code 9 = .ok (.if_icmp .ge 55, 3) := by decide +kernel
theorem d_Mo_isTrue_12 : decode prog_11_method_14_code 12 = .ok (.aload_n 0, 1) := by decide +kernel
theorem d_Mo_isTrue_13 : decode prog_11_method_14_code 13 = .ok (.getfield 34, 3) := by decide +kernel
theorem d_Mo_isTrue_16 : decode prog_11_method_14_code 16 = .ok (.sipush 256, 3) := by decide +kernel
theorem d_Mo_isTrue_19 : decode prog_11_method_14_code 19 = .ok (.iload_n 1, 1) := by decide +kernel
theorem d_Mo_isTrue_20 : decode prog_11_method_14_code 20 = .ok (.imul, 1) := by decide +kernel
theorem d_Mo_isTrue_21 : decode prog_11_method_14_code 21 = .ok (.iload_n 2, 1) := by decide +kernel
theorem d_Mo_isTrue_22 : decode prog_11_method_14_code 22 = .ok (.iadd, 1) := by decide +kernel
theorem d_Mo_isTrue_23 : decode prog_11_method_14_code 23 = .ok (.baload, 1) := by decide +kernel
theorem d_Mo_isTrue_24 : decode prog_11_method_14_code 24 = .ok (.ifCond .eq 34, 3) := by decide +kernel
theorem d_Mo_isTrue_27 : decode prog_11_method_14_code 27 = .ok (.iload_n 2, 1) := by decide +kernel
theorem d_Mo_isTrue_28 : decode prog_11_method_14_code 28 = .ok (.aload_n 0, 1) := by decide +kernel
theorem d_Mo_isTrue_29 : decode prog_11_method_14_code 29 = .ok (.getfield 37, 3) := by decide +kernel
theorem d_Mo_isTrue_32 : decode prog_11_method_14_code 32 = .ok (.iload_n 1, 1) := by decide +kernel
theorem d_Mo_isTrue_33 : decode prog_11_method_14_code 33 = .ok (.iaload, 1) := by decide +kernel
theorem d_Mo_isTrue_34 : decode prog_11_method_14_code 34 = .ok (.iconst 1, 1) := by decide +kernel
theorem d_Mo_isTrue_35 : decode prog_11_method_14_code 35 = .ok (.isub, 1) := by decide +kernel
theorem d_Mo_isTrue_36 : decode prog_11_method_14_code 36 = .ok (.if_icmp .ne 20, 3) := by decide +kernel
theorem d_Mo_isTrue_39 : decode prog_11_method_14_code 39 = .ok (.aload_n 0, 1) := by decide +kernel
theorem d_Mo_isTrue_40 : decode prog_11_method_14_code 40 = .ok (.getfield 34, 3) := by decide +kernel
theorem d_Mo_isTrue_43 : decode prog_11_method_14_code 43 = .ok (.sipush 256, 3) := by decide +kernel
theorem d_Mo_isTrue_46 : decode prog_11_method_14_code 46 = .ok (.iload_n 1, 1) := by decide +kernel
theorem d_Mo_isTrue_47 : decode prog_11_method_14_code 47 = .ok (.imul, 1) := by decide +kernel
theorem d_Mo_isTrue_48 : decode prog_11_method_14_code 48 = .ok (.iload_n 2, 1) := by decide +kernel
theorem d_Mo_isTrue_49 : decode prog_11_method_14_code 49 = .ok (.iadd, 1) := by decide +kernel
theorem d_Mo_isTrue_50 : decode prog_11_method_14_code 50 = .ok (.baload, 1) := by decide +kernel
theorem d_Mo_isTrue_51 : decode prog_11_method_14_code 51 = .ok (.bipush (-128), 2) := by decide +kernel
theorem d_Mo_isTrue_53 : decode prog_11_method_14_code 53 = .ok (.if_icmp .eq 5, 3) := by decide +kernel
theorem d_Mo_isTrue_56 : decode prog_11_method_14_code 56 = .ok (.iconst 1, 1) := by decide +kernel
theorem d_Mo_isTrue_57 : decode prog_11_method_14_code 57 = .ok (.ireturn, 1) := by decide +kernel
theorem d_Mo_isTrue_58 : decode prog_11_method_14_code 58 = .ok (.iinc 2 1, 3) := by decide +kernel
theorem d_Mo_isTrue_61 : decode prog_11_method_14_code 61 = .ok (.goto (-59), 3) := by decide +kernel
theorem d_Mo_isTrue_64 : decode prog_11_method_14_code 64 = .ok (.iconst 0, 1) := by decide +kernel
theorem d_Mo_isTrue_65 : decode prog_11_method_14_code 65 = .ok (.ireturn, 1) := by decide +kernel
theorem d_Mo_isDone_0 : decode prog_11_method_20_code 0 = .ok (.iload_n 1, 1) := by decide +kernel
theorem d_Mo_isDone_1 : decode prog_11_method_20_code 1 = .ok (.bipush 79, 2) := by decide +kernel
theorem d_Mo_isDone_3 : decode prog_11_method_20_code 3 = .ok (.if_icmp .eq 15, 3) := by decide +kernel
theorem d_Mo_isDone_6 : decode prog_11_method_20_code 6 = .ok (.iload_n 1, 1) := by decide +kernel
theorem d_Mo_isDone_7 : decode prog_11_method_20_code 7 = .ok (.bipush 81, 2) := by decide +kernel
theorem d_Mo_isDone_9 : decode prog_11_method_20_code 9 = .ok (.if_icmp .lt 20, 3) := by decide +kernel
theorem d_Mo_isDone_12 : decode prog_11_method_20_code 12 = .ok (.iload_n 1, 1) := by decide +kernel
theorem d_Mo_isDone_13 : decode prog_11_method_20_code 13 = .ok (.bipush 96, 2) := by decide +kernel
theorem d_Mo_isDone_15 : decode prog_11_method_20_code 15 = .ok (.if_icmp .gt 14, 3) := by decide +kernel
theorem d_Mo_isDone_18 : decode prog_11_method_20_code 18 = .ok (.aload_n 0, 1) := by decide +kernel
theorem d_Mo_isDone_19 : decode prog_11_method_20_code 19 = .ok (.iload_n 1, 1) := by decide +kernel
theorem d_Mo_isDone_20 : decode prog_11_method_20_code 20 = .ok (.bipush 80, 2) := by decide +kernel
theorem d_Mo_isDone_22 : decode prog_11_method_20_code 22 = .ok (.isub, 1) := by decide +kernel
theorem d_Mo_isDone_23 : decode prog_11_method_20_code 23 = .ok (.i2l, 1) := by decide +kernel
theorem d_Mo_isDone_24 : decode prog_11_method_20_code 24 = .ok (.invokevirtual 103, 3) := by decide +kernel
theorem d_Mo_isDone_27 : decode prog_11_method_20_code 27 = .ok (.iconst 1, 1) := by decide +kernel
theorem d_Mo_isDone_28 : decode prog_11_method_20_code 28 = .ok (.ireturn, 1) := by decide +kernel
theorem d_Mo_isDone_29 : decode prog_11_method_20_code 29 = .ok (.iload_n 1, 1) := by decide +kernel
theorem d_Mo_isDone_30 : decode prog_11_method_20_code 30 = .ok (.sipush 139, 3) := by decide +kernel
theorem d_Mo_isDone_33 : decode prog_11_method_20_code 33 = .ok (.if_icmp .lt 16, 3) := by decide +kernel
theorem d_Mo_isDone_36 : decode prog_11_method_20_code 36 = .ok (.iload_n 1, 1) := by decide +kernel
theorem d_Mo_isDone_37 : decode prog_11_method_20_code 37 = .ok (.sipush 165, 3) := by decide +kernel
theorem d_Mo_isDone_40 : decode prog_11_method_20_code 40 = .ok (.if_icmp .gt 9, 3) := by decide +kernel
theorem d_Mo_isDone_43 : decode prog_11_method_20_code 43 = .ok (.aload_n 0, 1) := by decide +kernel
theorem d_Mo_isDone_44 : decode prog_11_method_20_code 44 = .ok (.iload_n 1, 1) := by decide +kernel
theorem d_Mo_isDone_45 : decode prog_11_method_20_code 45 = .ok (.invokevirtual 128, 3) := by decide +kernel
theorem d_Mo_isDone_48 : decode prog_11_method_20_code 48 = .ok (.ireturn, 1) := by decide +kernel
theorem d_Mo_isDone_49 : decode prog_11_method_20_code 49 = .ok (.iload_n 1, 1) := by decide +kernel
theorem d_Mo_isDone_50 : decode prog_11_method_20_code 50 = .ok (.tableswitch 942 97 175 #[330, 942, 942, 942, 942, 942, 942, 942, 332, 942, 361, 408, 454, 476, 942, 942, 942, 942, 498, 533, 544, 566, 572, 595, 601, 601, 690, 713, 736, 942, 942, 942, 942, 802, 942, 942, 942, 942, 830, 830, 942, 942, 942, 942, 942, 942, 942, 942, 942, 942, 942, 942, 942, 942, 942, 942, 942, 942, 942, 942, 942, 942, 942, 942, 942, 942, 942, 942, 942, 883, 942, 883, 883, 883, 942, 889, 889, 925, 925], 330) := by decide +kernel
theorem d_Mo_isDone_380 : decode prog_11_method_20_code 380 = .ok (.iconst 1, 1) := by decide +kernel
theorem d_Mo_isDone_381 : decode prog_11_method_20_code 381 = .ok (.ireturn, 1) := by decide +kernel
theorem d_Mo_isDone_382 : decode prog_11_method_20_code 382 = .ok (.aload_n 0, 1) := by decide +kernel
theorem d_Mo_isDone_383 : decode prog_11_method_20_code 383 = .ok (.iconst 1, 1) := by decide +kernel
theorem d_Mo_isDone_384 : decode prog_11_method_20_code 384 = .ok (.invokevirtual 131, 3) := by decide +kernel
theorem d_Mo_isDone_387 : decode prog_11_method_20_code 387 = .ok (.ifCond .ne 5, 3) := by decide +kernel
theorem d_Mo_isDone_390 : decode prog_11_method_20_code 390 = .ok (.iconst 0, 1) := by decide +kernel
theorem d_Mo_isDone_391 : decode prog_11_method_20_code 391 = .ok (.ireturn, 1) := by decide +kernel
theorem d_Mo_isDone_392 : decode prog_11_method_20_code 392 = .ok (.aload_n 0, 1) := by decide +kernel
theorem d_Mo_isDone_393 : decode prog_11_method_20_code 393 = .ok (.dup, 1) := by decide +kernel
theorem d_Mo_isDone_394 : decode prog_11_method_20_code 394 = .ok (.getfield 100, 3) := by decide +kernel
theorem d_Mo_isDone_397 : decode prog_11_method_20_code 397 = .ok (.iconst 1, 1) := by decide +kernel
theorem d_Mo_isDone_398 : decode prog_11_method_20_code 398 = .ok (.isub, 1) := by decide +kernel
theorem d_Mo_isDone_399 : decode prog_11_method_20_code 399 = .ok (.putfield 100, 3) := by decide +kernel
theorem d_Mo_isDone_402 : decode prog_11_method_20_code 402 = .ok (.aload_n 0, 1) := by decide +kernel
theorem d_Mo_isDone_403 : decode prog_11_method_20_code 403 = .ok (.aload_n 0, 1) := by decide +kernel
theorem d_Mo_isDone_404 : decode prog_11_method_20_code 404 = .ok (.getfield 100, 3) := by decide +kernel
theorem d_Mo_isDone_407 : decode prog_11_method_20_code 407 = .ok (.invokevirtual 121, 3) := by decide +kernel
theorem d_Mo_isDone_410 : decode prog_11_method_20_code 410 = .ok (.ireturn, 1) := by decide +kernel
theorem d_Mo_isDone_411 : decode prog_11_method_20_code 411 = .ok (.aload_n 0, 1) := by decide +kernel
theorem d_Mo_isDone_412 : decode prog_11_method_20_code 412 = .ok (.iconst 1, 1) := by decide +kernel
theorem d_Mo_isDone_413 : decode prog_11_method_20_code 413 = .ok (.invokevirtual 131, 3) := by decide +kernel
theorem d_Mo_isDone_416 : decode prog_11_method_20_code 416 = .ok (.ifCond .ne 5, 3) := by decide +kernel
theorem d_Mo_isDone_419 : decode prog_11_method_20_code 419 = .ok (.iconst 0, 1) := by decide +kernel
theorem d_Mo_isDone_420 : decode prog_11_method_20_code 420 = .ok (.ireturn, 1) := by decide +kernel
theorem d_Mo_isDone_421 : decode prog_11_method_20_code 421 = .ok (.aload_n 0, 1) := by decide +kernel
theorem d_Mo_isDone_422 : decode prog_11_method_20_code 422 = .ok (.dup, 1) := by decide +kernel
theorem d_Mo_isDone_423 : decode prog_11_method_20_code 423 = .ok (.getfield 100, 3) := by decide +kernel
theorem d_Mo_isDone_426 : decode prog_11_method_20_code 426 = .ok (.iconst 1, 1) := by decide +kernel
theorem d_Mo_isDone_427 : decode prog_11_method_20_code 427 = .ok (.isub, 1) := by decide +kernel
theorem d_Mo_isDone_428 : decode prog_11_method_20_code 428 = .ok (.putfield 100, 3) := by decide +kernel
theorem d_Mo_isDone_431 : decode prog_11_method_20_code 431 = .ok (.aload_n 0, 1) := by decide +kernel
theorem d_Mo_isDone_432 : decode prog_11_method_20_code 432 = .ok (.aload_n 0, 1) := by decide +kernel
theorem d_Mo_isDone_433 : decode prog_11_method_20_code 433 = .ok (.getfield 100, 3) := by decide +kernel
theorem d_Mo_isDone_436 : decode prog_11_method_20_code 436 = .ok (.aload_n 0, 1) := by decide +kernel
theorem d_Mo_isDone_437 : decode prog_11_method_20_code 437 = .ok (.getfield 111, 3) := by decide +kernel
theorem d_Mo_isDone_440 : decode prog_11_method_20_code 440 = .ok (.invokestatic 134, 3) := by decide +kernel
theorem d_Mo_isDone_443 : decode prog_11_method_20_code 443 = .ok (.invokevirtual 138, 3) := by decide +kernel
theorem d_Mo_isDone_446 : decode prog_11_method_20_code 446 = .ok (.aload_n 0, 1) := by decide +kernel
theorem d_Mo_isDone_447 : decode prog_11_method_20_code 447 = .ok (.dup, 1) := by decide +kernel
theorem d_Mo_isDone_448 : decode prog_11_method_20_code 448 = .ok (.getfield 111, 3) := by decide +kernel
theorem d_Mo_isDone_451 : decode prog_11_method_20_code 451 = .ok (.iconst 1, 1) := by decide +kernel
theorem d_Mo_isDone_452 : decode prog_11_method_20_code 452 = .ok (.iadd, 1) := by decide +kernel
theorem d_Mo_isDone_453 : decode prog_11_method_20_code 453 = .ok (.putfield 111, 3) := by decide +kernel
theorem d_Mo_isDone_456 : decode prog_11_method_20_code 456 = .ok (.iconst 1, 1) := by decide +kernel
theorem d_Mo_isDone_457 : decode prog_11_method_20_code 457 = .ok (.ireturn, 1) := by decide +kernel
theorem d_Mo_isDone_458 : decode prog_11_method_20_code 458 = .ok (.aload_n 0, 1) := by decide +kernel
theorem d_Mo_isDone_459 : decode prog_11_method_20_code 459 = .ok (.getfield 111, 3) := by decide +kernel
theorem d_Mo_isDone_462 : decode prog_11_method_20_code 462 = .ok (.ifCond .ne 5, 3) := by decide +kernel
theorem d_Mo_isDone_465 : decode prog_11_method_20_code 465 = .ok (.iconst 0, 1) := by decide +kernel
theorem d_Mo_isDone_466 : decode prog_11_method_20_code 466 = .ok (.ireturn, 1) := by decide +kernel
theorem d_Mo_isDone_467 : decode prog_11_method_20_code 467 = .ok (.aload_n 0, 1) := by decide +kernel
theorem d_Mo_isDone_468 : decode prog_11_method_20_code 468 = .ok (.dup, 1) := by decide +kernel
theorem d_Mo_isDone_469 : decode prog_11_method_20_code 469 = .ok (.getfield 111, 3) := by decide +kernel
theorem d_Mo_isDone_472 : decode prog_11_method_20_code 472 = .ok (.iconst 1, 1) := by decide +kernel
theorem d_Mo_isDone_473 : decode prog_11_method_20_code 473 = .ok (.isub, 1) := by decide +kernel
theorem d_Mo_isDone_474 : decode prog_11_method_20_code 474 = .ok (.putfield 111, 3) := by decide +kernel
theorem d_Mo_isDone_477 : decode prog_11_method_20_code 477 = .ok (.aload_n 0, 1) := by decide +kernel
theorem d_Mo_isDone_478 : decode prog_11_method_20_code 478 = .ok (.aload_n 0, 1) := by decide +kernel
theorem d_Mo_isDone_479 : decode prog_11_method_20_code 479 = .ok (.getfield 111, 3) := by decide +kernel
theorem d_Mo_isDone_482 : decode prog_11_method_20_code 482 = .ok (.invokestatic 134, 3) := by decide +kernel
theorem d_Mo_isDone_485 : decode prog_11_method_20_code 485 = .ok (.aload_n 0, 1) := by decide +kernel
theorem d_Mo_isDone_486 : decode prog_11_method_20_code 486 = .ok (.getfield 100, 3) := by decide +kernel
theorem d_Mo_isDone_489 : decode prog_11_method_20_code 489 = .ok (.invokevirtual 138, 3) := by decide +kernel
theorem d_Mo_isDone_492 : decode prog_11_method_20_code 492 = .ok (.aload_n 0, 1) := by decide +kernel
theorem d_Mo_isDone_493 : decode prog_11_method_20_code 493 = .ok (.dup, 1) := by decide +kernel
theorem d_Mo_isDone_494 : decode prog_11_method_20_code 494 = .ok (.getfield 100, 3) := by decide +kernel
theorem d_Mo_isDone_497 : decode prog_11_method_20_code 497 = .ok (.iconst 1, 1) := by decide +kernel
theorem d_Mo_isDone_498 : decode prog_11_method_20_code 498 = .ok (.iadd, 1) := by decide +kernel
theorem d_Mo_isDone_499 : decode prog_11_method_20_code 499 = .ok (.putfield 100, 3) := by decide +kernel
theorem d_Mo_isDone_502 : decode prog_11_method_20_code 502 = .ok (.iconst 1, 1) := by decide +kernel
theorem d_Mo_isDone_503 : decode prog_11_method_20_code 503 = .ok (.ireturn, 1) := by decide +kernel
theorem d_Mo_isDone_504 : decode prog_11_method_20_code 504 = .ok (.aload_n 0, 1) := by decide +kernel
theorem d_Mo_isDone_505 : decode prog_11_method_20_code 505 = .ok (.iconst 2, 1) := by decide +kernel
theorem d_Mo_isDone_506 : decode prog_11_method_20_code 506 = .ok (.invokevirtual 131, 3) := by decide +kernel
theorem d_Mo_isDone_509 : decode prog_11_method_20_code 509 = .ok (.ifCond .ne 5, 3) := by decide +kernel
theorem d_Mo_isDone_512 : decode prog_11_method_20_code 512 = .ok (.iconst 0, 1) := by decide +kernel
theorem d_Mo_isDone_513 : decode prog_11_method_20_code 513 = .ok (.ireturn, 1) := by decide +kernel
theorem d_Mo_isDone_514 : decode prog_11_method_20_code 514 = .ok (.aload_n 0, 1) := by decide +kernel
theorem d_Mo_isDone_515 : decode prog_11_method_20_code 515 = .ok (.dup, 1) := by decide +kernel
theorem d_Mo_isDone_516 : decode prog_11_method_20_code 516 = .ok (.getfield 100, 3) := by decide +kernel
theorem d_Mo_isDone_519 : decode prog_11_method_20_code 519 = .ok (.iconst 2, 1) := by decide +kernel
theorem d_Mo_isDone_520 : decode prog_11_method_20_code 520 = .ok (.isub, 1) := by decide +kernel
theorem d_Mo_isDone_521 : decode prog_11_method_20_code 521 = .ok (.putfield 100, 3) := by decide +kernel
theorem d_Mo_isDone_524 : decode prog_11_method_20_code 524 = .ok (.iconst 1, 1) := by decide +kernel
theorem d_Mo_isDone_525 : decode prog_11_method_20_code 525 = .ok (.ireturn, 1) := by decide +kernel
theorem d_Mo_isDone_526 : decode prog_11_method_20_code 526 = .ok (.aload_n 0, 1) := by decide +kernel
theorem d_Mo_isDone_527 : decode prog_11_method_20_code 527 = .ok (.iconst 2, 1) := by decide +kernel
theorem d_Mo_isDone_528 : decode prog_11_method_20_code 528 = .ok (.invokevirtual 142, 3) := by decide +kernel
theorem d_Mo_isDone_531 : decode prog_11_method_20_code 531 = .ok (.ifCond .eq 15, 3) := by decide +kernel
theorem d_Mo_isDone_534 : decode prog_11_method_20_code 534 = .ok (.aload_n 0, 1) := by decide +kernel
theorem d_Mo_isDone_535 : decode prog_11_method_20_code 535 = .ok (.iconst 2, 1) := by decide +kernel
theorem d_Mo_isDone_536 : decode prog_11_method_20_code 536 = .ok (.invokevirtual 142, 3) := by decide +kernel
theorem d_Mo_isDone_539 : decode prog_11_method_20_code 539 = .ok (.ifCond .eq 7, 3) := by decide +kernel
theorem d_Mo_isDone_542 : decode prog_11_method_20_code 542 = .ok (.iconst 1, 1) := by decide +kernel
theorem d_Mo_isDone_543 : decode prog_11_method_20_code 543 = .ok (.goto 4, 3) := by decide +kernel
theorem d_Mo_isDone_546 : decode prog_11_method_20_code 546 = .ok (.iconst 0, 1) := by decide +kernel
theorem d_Mo_isDone_547 : decode prog_11_method_20_code 547 = .ok (.ireturn, 1) := by decide +kernel
theorem d_Mo_isDone_548 : decode prog_11_method_20_code 548 = .ok (.aload_n 0, 1) := by decide +kernel
theorem d_Mo_isDone_549 : decode prog_11_method_20_code 549 = .ok (.iconst 1, 1) := by decide +kernel
theorem d_Mo_isDone_550 : decode prog_11_method_20_code 550 = .ok (.invokevirtual 131, 3) := by decide +kernel
theorem d_Mo_isDone_553 : decode prog_11_method_20_code 553 = .ok (.ifCond .eq 28, 3) := by decide +kernel
theorem d_Mo_isDone_556 : decode prog_11_method_20_code 556 = .ok (.aload_n 0, 1) := by decide +kernel
theorem d_Mo_isDone_557 : decode prog_11_method_20_code 557 = .ok (.aload_n 0, 1) := by decide +kernel
theorem d_Mo_isDone_558 : decode prog_11_method_20_code 558 = .ok (.getfield 100, 3) := by decide +kernel
theorem d_Mo_isDone_561 : decode prog_11_method_20_code 561 = .ok (.iconst 1, 1) := by decide +kernel
theorem d_Mo_isDone_562 : decode prog_11_method_20_code 562 = .ok (.isub, 1) := by decide +kernel
theorem d_Mo_isDone_563 : decode prog_11_method_20_code 563 = .ok (.invokevirtual 121, 3) := by decide +kernel
theorem d_Mo_isDone_566 : decode prog_11_method_20_code 566 = .ok (.ifCond .eq 11, 3) := by decide +kernel
theorem d_Mo_isDone_569 : decode prog_11_method_20_code 569 = .ok (.aload_n 0, 1) := by decide +kernel
theorem d_Mo_isDone_570 : decode prog_11_method_20_code 570 = .ok (.iconst 1, 1) := by decide +kernel
theorem d_Mo_isDone_571 : decode prog_11_method_20_code 571 = .ok (.invokevirtual 142, 3) := by decide +kernel
theorem d_Mo_isDone_574 : decode prog_11_method_20_code 574 = .ok (.ifCond .eq 7, 3) := by decide +kernel
theorem d_Mo_isDone_577 : decode prog_11_method_20_code 577 = .ok (.iconst 1, 1) := by decide +kernel
theorem d_Mo_isDone_578 : decode prog_11_method_20_code 578 = .ok (.goto 4, 3) := by decide +kernel
theorem d_Mo_isDone_581 : decode prog_11_method_20_code 581 = .ok (.iconst 0, 1) := by decide +kernel
theorem d_Mo_isDone_582 : decode prog_11_method_20_code 582 = .ok (.ireturn, 1) := by decide +kernel
theorem d_Mo_isDone_583 : decode prog_11_method_20_code 583 = .ok (.aload_n 0, 1) := by decide +kernel
theorem d_Mo_isDone_584 : decode prog_11_method_20_code 584 = .ok (.aload_n 0, 1) := by decide +kernel
theorem d_Mo_isDone_585 : decode prog_11_method_20_code 585 = .ok (.getfield 100, 3) := by decide +kernel
theorem d_Mo_isDone_588 : decode prog_11_method_20_code 588 = .ok (.i2l, 1) := by decide +kernel
theorem d_Mo_isDone_589 : decode prog_11_method_20_code 589 = .ok (.invokevirtual 103, 3) := by decide +kernel
theorem d_Mo_isDone_592 : decode prog_11_method_20_code 592 = .ok (.iconst 1, 1) := by decide +kernel
theorem d_Mo_isDone_593 : decode prog_11_method_20_code 593 = .ok (.ireturn, 1) := by decide +kernel
theorem d_Mo_isDone_594 : decode prog_11_method_20_code 594 = .ok (.aload_n 0, 1) := by decide +kernel
theorem d_Mo_isDone_595 : decode prog_11_method_20_code 595 = .ok (.iconst 1, 1) := by decide +kernel
theorem d_Mo_isDone_596 : decode prog_11_method_20_code 596 = .ok (.invokevirtual 131, 3) := by decide +kernel
theorem d_Mo_isDone_599 : decode prog_11_method_20_code 599 = .ok (.ifCond .ne 5, 3) := by decide +kernel
theorem d_Mo_isDone_602 : decode prog_11_method_20_code 602 = .ok (.iconst 0, 1) := by decide +kernel
theorem d_Mo_isDone_603 : decode prog_11_method_20_code 603 = .ok (.ireturn, 1) := by decide +kernel
theorem d_Mo_isDone_604 : decode prog_11_method_20_code 604 = .ok (.aload_n 0, 1) := by decide +kernel
theorem d_Mo_isDone_605 : decode prog_11_method_20_code 605 = .ok (.dup, 1) := by decide +kernel
theorem d_Mo_isDone_606 : decode prog_11_method_20_code 606 = .ok (.getfield 100, 3) := by decide +kernel
theorem d_Mo_isDone_609 : decode prog_11_method_20_code 609 = .ok (.iconst 1, 1) := by decide +kernel
theorem d_Mo_isDone_610 : decode prog_11_method_20_code 610 = .ok (.isub, 1) := by decide +kernel
theorem d_Mo_isDone_611 : decode prog_11_method_20_code 611 = .ok (.putfield 100, 3) := by decide +kernel
theorem d_Mo_isDone_614 : decode prog_11_method_20_code 614 = .ok (.iconst 1, 1) := by decide +kernel
theorem d_Mo_isDone_615 : decode prog_11_method_20_code 615 = .ok (.ireturn, 1) := by decide +kernel
theorem d_Mo_isDone_616 : decode prog_11_method_20_code 616 = .ok (.aload_n 0, 1) := by decide +kernel
theorem d_Mo_isDone_617 : decode prog_11_method_20_code 617 = .ok (.iconst 1, 1) := by decide +kernel
theorem d_Mo_isDone_618 : decode prog_11_method_20_code 618 = .ok (.invokevirtual 142, 3) := by decide +kernel
theorem d_Mo_isDone_621 : decode prog_11_method_20_code 621 = .ok (.ireturn, 1) := by decide +kernel
theorem d_Mo_isDone_622 : decode prog_11_method_20_code 622 = .ok (.aload_n 0, 1) := by decide +kernel
theorem d_Mo_isDone_623 : decode prog_11_method_20_code 623 = .ok (.iconst 2, 1) := by decide +kernel
theorem d_Mo_isDone_624 : decode prog_11_method_20_code 624 = .ok (.invokevirtual 131, 3) := by decide +kernel
theorem d_Mo_isDone_627 : decode prog_11_method_20_code 627 = .ok (.ifCond .eq 16, 3) := by decide +kernel
theorem d_Mo_isDone_630 : decode prog_11_method_20_code 630 = .ok (.aload_n 0, 1) := by decide +kernel
theorem d_Mo_isDone_631 : decode prog_11_method_20_code 631 = .ok (.iconst 2, 1) := by decide +kernel
theorem d_Mo_isDone_632 : decode prog_11_method_20_code 632 = .ok (.iconst 0, 1) := by decide +kernel
theorem d_Mo_isDone_633 : decode prog_11_method_20_code 633 = .ok (.invokevirtual 145, 3) := by decide +kernel
theorem d_Mo_isDone_636 : decode prog_11_method_20_code 636 = .ok (.ifCond .eq 7, 3) := by decide +kernel
theorem d_Mo_isDone_639 : decode prog_11_method_20_code 639 = .ok (.iconst 1, 1) := by decide +kernel
theorem d_Mo_isDone_640 : decode prog_11_method_20_code 640 = .ok (.goto 4, 3) := by decide +kernel
theorem d_Mo_isDone_643 : decode prog_11_method_20_code 643 = .ok (.iconst 0, 1) := by decide +kernel
theorem d_Mo_isDone_644 : decode prog_11_method_20_code 644 = .ok (.ireturn, 1) := by decide +kernel
theorem d_Mo_isDone_645 : decode prog_11_method_20_code 645 = .ok (.aload_n 0, 1) := by decide +kernel
theorem d_Mo_isDone_646 : decode prog_11_method_20_code 646 = .ok (.iconst 2, 1) := by decide +kernel
theorem d_Mo_isDone_647 : decode prog_11_method_20_code 647 = .ok (.invokevirtual 142, 3) := by decide +kernel
theorem d_Mo_isDone_650 : decode prog_11_method_20_code 650 = .ok (.ireturn, 1) := by decide +kernel
theorem d_Mo_isDone_651 : decode prog_11_method_20_code 651 = .ok (.aload_n 0, 1) := by decide +kernel
theorem d_Mo_isDone_652 : decode prog_11_method_20_code 652 = .ok (.iconst 2, 1) := by decide +kernel
theorem d_Mo_isDone_653 : decode prog_11_method_20_code 653 = .ok (.invokevirtual 131, 3) := by decide +kernel
theorem d_Mo_isDone_656 : decode prog_11_method_20_code 656 = .ok (.ifCond .eq 16, 3) := by decide +kernel
theorem d_Mo_isDone_659 : decode prog_11_method_20_code 659 = .ok (.aload_n 0, 1) := by decide +kernel
theorem d_Mo_isDone_660 : decode prog_11_method_20_code 660 = .ok (.aload_n 0, 1) := by decide +kernel
theorem d_Mo_isDone_661 : decode prog_11_method_20_code 661 = .ok (.getfield 100, 3) := by decide +kernel
theorem d_Mo_isDone_664 : decode prog_11_method_20_code 664 = .ok (.iconst 1, 1) := by decide +kernel
theorem d_Mo_isDone_665 : decode prog_11_method_20_code 665 = .ok (.isub, 1) := by decide +kernel
theorem d_Mo_isDone_666 : decode prog_11_method_20_code 666 = .ok (.invokevirtual 149, 3) := by decide +kernel
theorem d_Mo_isDone_669 : decode prog_11_method_20_code 669 = .ok (.ifCond .ne 5, 3) := by decide +kernel
theorem d_Mo_isDone_672 : decode prog_11_method_20_code 672 = .ok (.iconst 0, 1) := by decide +kernel
theorem d_Mo_isDone_673 : decode prog_11_method_20_code 673 = .ok (.ireturn, 1) := by decide +kernel
theorem d_Mo_isDone_674 : decode prog_11_method_20_code 674 = .ok (.aload_n 0, 1) := by decide +kernel
theorem d_Mo_isDone_675 : decode prog_11_method_20_code 675 = .ok (.aload_n 0, 1) := by decide +kernel
theorem d_Mo_isDone_676 : decode prog_11_method_20_code 676 = .ok (.getfield 100, 3) := by decide +kernel
theorem d_Mo_isDone_679 : decode prog_11_method_20_code 679 = .ok (.iconst 1, 1) := by decide +kernel
theorem d_Mo_isDone_680 : decode prog_11_method_20_code 680 = .ok (.isub, 1) := by decide +kernel
theorem d_Mo_isDone_681 : decode prog_11_method_20_code 681 = .ok (.invokevirtual 152, 3) := by decide +kernel
theorem d_Mo_isDone_684 : decode prog_11_method_20_code 684 = .ok (.lstore_n 2, 1) := by decide +kernel
theorem d_Mo_isDone_685 : decode prog_11_method_20_code 685 = .ok (.aload_n 0, 1) := by decide +kernel
theorem d_Mo_isDone_686 : decode prog_11_method_20_code 686 = .ok (.dup, 1) := by decide +kernel
theorem d_Mo_isDone_687 : decode prog_11_method_20_code 687 = .ok (.getfield 100, 3) := by decide +kernel
theorem d_Mo_isDone_690 : decode prog_11_method_20_code 690 = .ok (.iconst 1, 1) := by decide +kernel
theorem d_Mo_isDone_691 : decode prog_11_method_20_code 691 = .ok (.isub, 1) := by decide +kernel
theorem d_Mo_isDone_692 : decode prog_11_method_20_code 692 = .ok (.putfield 100, 3) := by decide +kernel
theorem d_Mo_isDone_695 : decode prog_11_method_20_code 695 = .ok (.lload_n 2, 1) := by decide +kernel
theorem d_Mo_isDone_696 : decode prog_11_method_20_code 696 = .ok (.lconst 0, 1) := by decide +kernel
theorem d_Mo_isDone_697 : decode prog_11_method_20_code 697 = .ok (.lcmp, 1) := by decide +kernel
theorem d_Mo_isDone_698 : decode prog_11_method_20_code 698 = .ok (.ifCond .lt 13, 3) := by decide +kernel
theorem d_Mo_isDone_701 : decode prog_11_method_20_code 701 = .ok (.lload_n 2, 1) := by decide +kernel
theorem d_Mo_isDone_702 : decode prog_11_method_20_code 702 = .ok (.aload_n 0, 1) := by decide +kernel
theorem d_Mo_isDone_703 : decode prog_11_method_20_code 703 = .ok (.getfield 100, 3) := by decide +kernel
theorem d_Mo_isDone_706 : decode prog_11_method_20_code 706 = .ok (.i2l, 1) := by decide +kernel
theorem d_Mo_isDone_707 : decode prog_11_method_20_code 707 = .ok (.lcmp, 1) := by decide +kernel
theorem d_Mo_isDone_708 : decode prog_11_method_20_code 708 = .ok (.ifCond .lt 5, 3) := by decide +kernel
theorem d_Mo_isDone_711 : decode prog_11_method_20_code 711 = .ok (.iconst 0, 1) := by decide +kernel
theorem d_Mo_isDone_712 : decode prog_11_method_20_code 712 = .ok (.ireturn, 1) := by decide +kernel
theorem d_Mo_isDone_713 : decode prog_11_method_20_code 713 = .ok (.iload_n 1, 1) := by decide +kernel
theorem d_Mo_isDone_714 : decode prog_11_method_20_code 714 = .ok (.bipush 121, 2) := by decide +kernel
theorem d_Mo_isDone_716 : decode prog_11_method_20_code 716 = .ok (.if_icmp .ne 14, 3) := by decide +kernel
theorem d_Mo_isDone_719 : decode prog_11_method_20_code 719 = .ok (.aload_n 0, 1) := by decide +kernel
theorem d_Mo_isDone_720 : decode prog_11_method_20_code 720 = .ok (.lload_n 2, 1) := by decide +kernel
theorem d_Mo_isDone_721 : decode prog_11_method_20_code 721 = .ok (.l2i, 1) := by decide +kernel
theorem d_Mo_isDone_722 : decode prog_11_method_20_code 722 = .ok (.iconst 1, 1) := by decide +kernel
theorem d_Mo_isDone_723 : decode prog_11_method_20_code 723 = .ok (.iadd, 1) := by decide +kernel
theorem d_Mo_isDone_724 : decode prog_11_method_20_code 724 = .ok (.invokevirtual 142, 3) := by decide +kernel
theorem d_Mo_isDone_727 : decode prog_11_method_20_code 727 = .ok (.goto 12, 3) := by decide +kernel
theorem d_Mo_isDone_730 : decode prog_11_method_20_code 730 = .ok (.aload_n 0, 1) := by decide +kernel
theorem d_Mo_isDone_731 : decode prog_11_method_20_code 731 = .ok (.lload_n 2, 1) := by decide +kernel
theorem d_Mo_isDone_732 : decode prog_11_method_20_code 732 = .ok (.l2i, 1) := by decide +kernel
theorem d_Mo_isDone_733 : decode prog_11_method_20_code 733 = .ok (.iconst 1, 1) := by decide +kernel
theorem d_Mo_isDone_734 : decode prog_11_method_20_code 734 = .ok (.iadd, 1) := by decide +kernel
theorem d_Mo_isDone_735 : decode prog_11_method_20_code 735 = .ok (.iconst 1, 1) := by decide +kernel
theorem d_Mo_isDone_736 : decode prog_11_method_20_code 736 = .ok (.invokevirtual 145, 3) := by decide +kernel
theorem d_Mo_isDone_739 : decode prog_11_method_20_code 739 = .ok (.ireturn, 1) := by decide +kernel
theorem d_Mo_isDone_740 : decode prog_11_method_20_code 740 = .ok (.aload_n 0, 1) := by decide +kernel
theorem d_Mo_isDone_741 : decode prog_11_method_20_code 741 = .ok (.iconst 3, 1) := by decide +kernel
theorem d_Mo_isDone_742 : decode prog_11_method_20_code 742 = .ok (.invokevirtual 131, 3) := by decide +kernel
theorem d_Mo_isDone_745 : decode prog_11_method_20_code 745 = .ok (.ifCond .eq 16, 3) := by decide +kernel
theorem d_Mo_isDone_748 : decode prog_11_method_20_code 748 = .ok (.aload_n 0, 1) := by decide +kernel
theorem d_Mo_isDone_749 : decode prog_11_method_20_code 749 = .ok (.iconst 3, 1) := by decide +kernel
theorem d_Mo_isDone_750 : decode prog_11_method_20_code 750 = .ok (.iconst 1, 1) := by decide +kernel
theorem d_Mo_isDone_751 : decode prog_11_method_20_code 751 = .ok (.invokevirtual 145, 3) := by decide +kernel
theorem d_Mo_isDone_754 : decode prog_11_method_20_code 754 = .ok (.ifCond .eq 7, 3) := by decide +kernel
theorem d_Mo_isDone_757 : decode prog_11_method_20_code 757 = .ok (.iconst 1, 1) := by decide +kernel
theorem d_Mo_isDone_758 : decode prog_11_method_20_code 758 = .ok (.goto 4, 3) := by decide +kernel
theorem d_Mo_isDone_761 : decode prog_11_method_20_code 761 = .ok (.iconst 0, 1) := by decide +kernel
theorem d_Mo_isDone_762 : decode prog_11_method_20_code 762 = .ok (.ireturn, 1) := by decide +kernel
theorem d_Mo_isDone_763 : decode prog_11_method_20_code 763 = .ok (.aload_n 0, 1) := by decide +kernel
theorem d_Mo_isDone_764 : decode prog_11_method_20_code 764 = .ok (.iconst 2, 1) := by decide +kernel
theorem d_Mo_isDone_765 : decode prog_11_method_20_code 765 = .ok (.invokevirtual 131, 3) := by decide +kernel
theorem d_Mo_isDone_768 : decode prog_11_method_20_code 768 = .ok (.ifCond .eq 16, 3) := by decide +kernel
theorem d_Mo_isDone_771 : decode prog_11_method_20_code 771 = .ok (.aload_n 0, 1) := by decide +kernel
theorem d_Mo_isDone_772 : decode prog_11_method_20_code 772 = .ok (.iconst 2, 1) := by decide +kernel
theorem d_Mo_isDone_773 : decode prog_11_method_20_code 773 = .ok (.iconst 1, 1) := by decide +kernel
theorem d_Mo_isDone_774 : decode prog_11_method_20_code 774 = .ok (.invokevirtual 145, 3) := by decide +kernel
theorem d_Mo_isDone_777 : decode prog_11_method_20_code 777 = .ok (.ifCond .eq 7, 3) := by decide +kernel
theorem d_Mo_isDone_780 : decode prog_11_method_20_code 780 = .ok (.iconst 1, 1) := by decide +kernel
theorem d_Mo_isDone_781 : decode prog_11_method_20_code 781 = .ok (.goto 4, 3) := by decide +kernel
theorem d_Mo_isDone_784 : decode prog_11_method_20_code 784 = .ok (.iconst 0, 1) := by decide +kernel
theorem d_Mo_isDone_785 : decode prog_11_method_20_code 785 = .ok (.ireturn, 1) := by decide +kernel
theorem d_Mo_isDone_786 : decode prog_11_method_20_code 786 = .ok (.aload_n 0, 1) := by decide +kernel
theorem d_Mo_isDone_787 : decode prog_11_method_20_code 787 = .ok (.iconst 2, 1) := by decide +kernel
theorem d_Mo_isDone_788 : decode prog_11_method_20_code 788 = .ok (.invokevirtual 131, 3) := by decide +kernel
theorem d_Mo_isDone_791 : decode prog_11_method_20_code 791 = .ok (.ifCond .ne 5, 3) := by decide +kernel
theorem d_Mo_isDone_794 : decode prog_11_method_20_code 794 = .ok (.iconst 0, 1) := by decide +kernel
theorem d_Mo_isDone_795 : decode prog_11_method_20_code 795 = .ok (.ireturn, 1) := by decide +kernel
theorem d_Mo_isDone_796 : decode prog_11_method_20_code 796 = .ok (.aload_n 0, 1) := by decide +kernel
theorem d_Mo_isDone_797 : decode prog_11_method_20_code 797 = .ok (.aload_n 0, 1) := by decide +kernel
theorem d_Mo_isDone_798 : decode prog_11_method_20_code 798 = .ok (.getfield 100, 3) := by decide +kernel
theorem d_Mo_isDone_801 : decode prog_11_method_20_code 801 = .ok (.iconst 1, 1) := by decide +kernel
theorem d_Mo_isDone_802 : decode prog_11_method_20_code 802 = .ok (.isub, 1) := by decide +kernel
theorem d_Mo_isDone_803 : decode prog_11_method_20_code 803 = .ok (.aload_n 0, 1) := by decide +kernel
theorem d_Mo_isDone_804 : decode prog_11_method_20_code 804 = .ok (.getfield 100, 3) := by decide +kernel
theorem d_Mo_isDone_807 : decode prog_11_method_20_code 807 = .ok (.invokevirtual 138, 3) := by decide +kernel
theorem d_Mo_isDone_810 : decode prog_11_method_20_code 810 = .ok (.aload_n 0, 1) := by decide +kernel
theorem d_Mo_isDone_811 : decode prog_11_method_20_code 811 = .ok (.aload_n 0, 1) := by decide +kernel
theorem d_Mo_isDone_812 : decode prog_11_method_20_code 812 = .ok (.getfield 100, 3) := by decide +kernel
theorem d_Mo_isDone_815 : decode prog_11_method_20_code 815 = .ok (.iconst 2, 1) := by decide +kernel
theorem d_Mo_isDone_816 : decode prog_11_method_20_code 816 = .ok (.isub, 1) := by decide +kernel
theorem d_Mo_isDone_817 : decode prog_11_method_20_code 817 = .ok (.aload_n 0, 1) := by decide +kernel
theorem d_Mo_isDone_818 : decode prog_11_method_20_code 818 = .ok (.getfield 100, 3) := by decide +kernel
theorem d_Mo_isDone_821 : decode prog_11_method_20_code 821 = .ok (.iconst 1, 1) := by decide +kernel
theorem d_Mo_isDone_822 : decode prog_11_method_20_code 822 = .ok (.isub, 1) := by decide +kernel
theorem d_Mo_isDone_823 : decode prog_11_method_20_code 823 = .ok (.invokevirtual 138, 3) := by decide +kernel
theorem d_Mo_isDone_826 : decode prog_11_method_20_code 826 = .ok (.aload_n 0, 1) := by decide +kernel
theorem d_Mo_isDone_827 : decode prog_11_method_20_code 827 = .ok (.aload_n 0, 1) := by decide +kernel
theorem d_Mo_isDone_828 : decode prog_11_method_20_code 828 = .ok (.getfield 100, 3) := by decide +kernel
theorem d_Mo_isDone_831 : decode prog_11_method_20_code 831 = .ok (.aload_n 0, 1) := by decide +kernel
theorem d_Mo_isDone_832 : decode prog_11_method_20_code 832 = .ok (.getfield 100, 3) := by decide +kernel
theorem d_Mo_isDone_835 : decode prog_11_method_20_code 835 = .ok (.iconst 2, 1) := by decide +kernel
theorem d_Mo_isDone_836 : decode prog_11_method_20_code 836 = .ok (.isub, 1) := by decide +kernel
theorem d_Mo_isDone_837 : decode prog_11_method_20_code 837 = .ok (.invokevirtual 138, 3) := by decide +kernel
theorem d_Mo_isDone_840 : decode prog_11_method_20_code 840 = .ok (.aload_n 0, 1) := by decide +kernel
theorem d_Mo_isDone_841 : decode prog_11_method_20_code 841 = .ok (.dup, 1) := by decide +kernel
theorem d_Mo_isDone_842 : decode prog_11_method_20_code 842 = .ok (.getfield 100, 3) := by decide +kernel
theorem d_Mo_isDone_845 : decode prog_11_method_20_code 845 = .ok (.iconst 1, 1) := by decide +kernel
theorem d_Mo_isDone_846 : decode prog_11_method_20_code 846 = .ok (.iadd, 1) := by decide +kernel
theorem d_Mo_isDone_847 : decode prog_11_method_20_code 847 = .ok (.putfield 100, 3) := by decide +kernel
theorem d_Mo_isDone_850 : decode prog_11_method_20_code 850 = .ok (.iconst 1, 1) := by decide +kernel
theorem d_Mo_isDone_851 : decode prog_11_method_20_code 851 = .ok (.ireturn, 1) := by decide +kernel
theorem d_Mo_isDone_852 : decode prog_11_method_20_code 852 = .ok (.aload_n 0, 1) := by decide +kernel
theorem d_Mo_isDone_853 : decode prog_11_method_20_code 853 = .ok (.iconst 1, 1) := by decide +kernel
theorem d_Mo_isDone_854 : decode prog_11_method_20_code 854 = .ok (.invokevirtual 131, 3) := by decide +kernel
theorem d_Mo_isDone_857 : decode prog_11_method_20_code 857 = .ok (.ifCond .ne 5, 3) := by decide +kernel
theorem d_Mo_isDone_860 : decode prog_11_method_20_code 860 = .ok (.iconst 0, 1) := by decide +kernel
theorem d_Mo_isDone_861 : decode prog_11_method_20_code 861 = .ok (.ireturn, 1) := by decide +kernel
theorem d_Mo_isDone_862 : decode prog_11_method_20_code 862 = .ok (.aload_n 0, 1) := by decide +kernel
theorem d_Mo_isDone_863 : decode prog_11_method_20_code 863 = .ok (.aload_n 0, 1) := by decide +kernel
theorem d_Mo_isDone_864 : decode prog_11_method_20_code 864 = .ok (.getfield 37, 3) := by decide +kernel
theorem d_Mo_isDone_867 : decode prog_11_method_20_code 867 = .ok (.aload_n 0, 1) := by decide +kernel
theorem d_Mo_isDone_868 : decode prog_11_method_20_code 868 = .ok (.getfield 100, 3) := by decide +kernel
theorem d_Mo_isDone_871 : decode prog_11_method_20_code 871 = .ok (.iconst 1, 1) := by decide +kernel
theorem d_Mo_isDone_872 : decode prog_11_method_20_code 872 = .ok (.isub, 1) := by decide +kernel
theorem d_Mo_isDone_873 : decode prog_11_method_20_code 873 = .ok (.iaload, 1) := by decide +kernel
theorem d_Mo_isDone_874 : decode prog_11_method_20_code 874 = .ok (.i2l, 1) := by decide +kernel
theorem d_Mo_isDone_875 : decode prog_11_method_20_code 875 = .ok (.invokevirtual 103, 3) := by decide +kernel
theorem d_Mo_isDone_878 : decode prog_11_method_20_code 878 = .ok (.iconst 1, 1) := by decide +kernel
theorem d_Mo_isDone_879 : decode prog_11_method_20_code 879 = .ok (.ireturn, 1) := by decide +kernel
theorem d_Mo_isDone_880 : decode prog_11_method_20_code 880 = .ok (.aload_n 0, 1) := by decide +kernel
theorem d_Mo_isDone_881 : decode prog_11_method_20_code 881 = .ok (.iconst 2, 1) := by decide +kernel
theorem d_Mo_isDone_882 : decode prog_11_method_20_code 882 = .ok (.invokevirtual 131, 3) := by decide +kernel
theorem d_Mo_isDone_885 : decode prog_11_method_20_code 885 = .ok (.ifCond .ne 5, 3) := by decide +kernel
theorem d_Mo_isDone_888 : decode prog_11_method_20_code 888 = .ok (.iconst 0, 1) := by decide +kernel
theorem d_Mo_isDone_889 : decode prog_11_method_20_code 889 = .ok (.ireturn, 1) := by decide +kernel
theorem d_Mo_isDone_890 : decode prog_11_method_20_code 890 = .ok (.aload_n 0, 1) := by decide +kernel
theorem d_Mo_isDone_891 : decode prog_11_method_20_code 891 = .ok (.aload_n 0, 1) := by decide +kernel
theorem d_Mo_isDone_892 : decode prog_11_method_20_code 892 = .ok (.getfield 100, 3) := by decide +kernel
theorem d_Mo_isDone_895 : decode prog_11_method_20_code 895 = .ok (.iconst 1, 1) := by decide +kernel
theorem d_Mo_isDone_896 : decode prog_11_method_20_code 896 = .ok (.isub, 1) := by decide +kernel
theorem d_Mo_isDone_897 : decode prog_11_method_20_code 897 = .ok (.aload_n 0, 1) := by decide +kernel
theorem d_Mo_isDone_898 : decode prog_11_method_20_code 898 = .ok (.getfield 100, 3) := by decide +kernel
theorem d_Mo_isDone_901 : decode prog_11_method_20_code 901 = .ok (.iconst 2, 1) := by decide +kernel
theorem d_Mo_isDone_902 : decode prog_11_method_20_code 902 = .ok (.isub, 1) := by decide +kernel
theorem d_Mo_isDone_903 : decode prog_11_method_20_code 903 = .ok (.invokevirtual 156, 3) := by decide +kernel
theorem d_Mo_isDone_906 : decode prog_11_method_20_code 906 = .ok (.istore_n 2, 1) := by decide +kernel
theorem d_Mo_isDone_907 : decode prog_11_method_20_code 907 = .ok (.aload_n 0, 1) := by decide +kernel
theorem d_Mo_isDone_908 : decode prog_11_method_20_code 908 = .ok (.dup, 1) := by decide +kernel
theorem d_Mo_isDone_909 : decode prog_11_method_20_code 909 = .ok (.getfield 100, 3) := by decide +kernel
theorem d_Mo_isDone_912 : decode prog_11_method_20_code 912 = .ok (.iconst 2, 1) := by decide +kernel
theorem d_Mo_isDone_913 : decode prog_11_method_20_code 913 = .ok (.isub, 1) := by decide +kernel
theorem d_Mo_isDone_914 : decode prog_11_method_20_code 914 = .ok (.putfield 100, 3) := by decide +kernel
theorem d_Mo_isDone_917 : decode prog_11_method_20_code 917 = .ok (.iload_n 1, 1) := by decide +kernel
theorem d_Mo_isDone_918 : decode prog_11_method_20_code 918 = .ok (.sipush 136, 3) := by decide +kernel
theorem d_Mo_isDone_921 : decode prog_11_method_20_code 921 = .ok (.if_icmp .ne 5, 3) := by decide +kernel
theorem d_Mo_isDone_924 : decode prog_11_method_20_code 924 = .ok (.iload_n 2, 1) := by decide +kernel
theorem d_Mo_isDone_925 : decode prog_11_method_20_code 925 = .ok (.ireturn, 1) := by decide +kernel
theorem d_Mo_isDone_926 : decode prog_11_method_20_code 926 = .ok (.aload_n 0, 1) := by decide +kernel
theorem d_Mo_isDone_927 : decode prog_11_method_20_code 927 = .ok (.iload_n 2, 1) := by decide +kernel
theorem d_Mo_isDone_928 : decode prog_11_method_20_code 928 = .ok (.invokevirtual 160, 3) := by decide +kernel
theorem d_Mo_isDone_931 : decode prog_11_method_20_code 931 = .ok (.iconst 1, 1) := by decide +kernel
theorem d_Mo_isDone_932 : decode prog_11_method_20_code 932 = .ok (.ireturn, 1) := by decide +kernel
theorem d_Mo_isDone_933 : decode prog_11_method_20_code 933 = .ok (.aload_n 0, 1) := by decide +kernel
theorem d_Mo_isDone_934 : decode prog_11_method_20_code 934 = .ok (.iload_n 1, 1) := by decide +kernel
theorem d_Mo_isDone_935 : decode prog_11_method_20_code 935 = .ok (.invokevirtual 164, 3) := by decide +kernel
theorem d_Mo_isDone_938 : decode prog_11_method_20_code 938 = .ok (.ireturn, 1) := by decide +kernel
theorem d_Mo_isDone_939 : decode prog_11_method_20_code 939 = .ok (.aload_n 0, 1) := by decide +kernel
theorem d_Mo_isDone_940 : decode prog_11_method_20_code 940 = .ok (.iconst 2, 1) := by decide +kernel
theorem d_Mo_isDone_941 : decode prog_11_method_20_code 941 = .ok (.invokevirtual 131, 3) := by decide +kernel
theorem d_Mo_isDone_944 : decode prog_11_method_20_code 944 = .ok (.ifCond .ne 5, 3) := by decide +kernel
theorem d_Mo_isDone_947 : decode prog_11_method_20_code 947 = .ok (.iconst 0, 1) := by decide +kernel
theorem d_Mo_isDone_948 : decode prog_11_method_20_code 948 = .ok (.ireturn, 1) := by decide +kernel
theorem d_Mo_isDone_949 : decode prog_11_method_20_code 949 = .ok (.aload_n 0, 1) := by decide +kernel
theorem d_Mo_isDone_950 : decode prog_11_method_20_code 950 = .ok (.dup, 1) := by decide +kernel
theorem d_Mo_isDone_951 : decode prog_11_method_20_code 951 = .ok (.getfield 100, 3) := by decide +kernel
theorem d_Mo_isDone_954 : decode prog_11_method_20_code 954 = .ok (.iconst 2, 1) := by decide +kernel
theorem d_Mo_isDone_955 : decode prog_11_method_20_code 955 = .ok (.isub, 1) := by decide +kernel
theorem d_Mo_isDone_956 : decode prog_11_method_20_code 956 = .ok (.putfield 100, 3) := by decide +kernel
theorem d_Mo_isDone_959 : decode prog_11_method_20_code 959 = .ok (.iload_n 1, 1) := by decide +kernel
theorem d_Mo_isDone_960 : decode prog_11_method_20_code 960 = .ok (.sipush 173, 3) := by decide +kernel
theorem d_Mo_isDone_963 : decode prog_11_method_20_code 963 = .ok (.if_icmp .ne 5, 3) := by decide +kernel
theorem d_Mo_isDone_966 : decode prog_11_method_20_code 966 = .ok (.iconst 0, 1) := by decide +kernel
theorem d_Mo_isDone_967 : decode prog_11_method_20_code 967 = .ok (.ireturn, 1) := by decide +kernel
theorem d_Mo_isDone_968 : decode prog_11_method_20_code 968 = .ok (.aload_n 0, 1) := by decide +kernel
theorem d_Mo_isDone_969 : decode prog_11_method_20_code 969 = .ok (.iconst 0, 1) := by decide +kernel
theorem d_Mo_isDone_970 : decode prog_11_method_20_code 970 = .ok (.invokevirtual 160, 3) := by decide +kernel
theorem d_Mo_isDone_973 : decode prog_11_method_20_code 973 = .ok (.iconst 1, 1) := by decide +kernel
theorem d_Mo_isDone_974 : decode prog_11_method_20_code 974 = .ok (.ireturn, 1) := by decide +kernel
theorem d_Mo_isDone_975 : decode prog_11_method_20_code 975 = .ok (.aload_n 0, 1) := by decide +kernel
theorem d_Mo_isDone_976 : decode prog_11_method_20_code 976 = .ok (.iload_n 1, 1) := by decide +kernel
theorem d_Mo_isDone_977 : decode prog_11_method_20_code 977 = .ok (.sipush 175, 3) := by decide +kernel
theorem d_Mo_isDone_980 : decode prog_11_method_20_code 980 = .ok (.if_icmp .ne 7, 3) := by decide +kernel
theorem d_Mo_isDone_983 : decode prog_11_method_20_code 983 = .ok (.iconst 1, 1) := by decide +kernel
theorem d_Mo_isDone_984 : decode prog_11_method_20_code 984 = .ok (.goto 4, 3) := by decide +kernel
theorem d_Mo_isDone_987 : decode prog_11_method_20_code 987 = .ok (.iconst 0, 1) := by decide +kernel
theorem d_Mo_isDone_988 : decode prog_11_method_20_code 988 = .ok (.invokevirtual 167, 3) := by decide +kernel
theorem d_Mo_isDone_991 : decode prog_11_method_20_code 991 = .ok (.ireturn, 1) := by decide +kernel
theorem d_Mo_isDone_992 : decode prog_11_method_20_code 992 = .ok (.iconst 0, 1) := by decide +kernel
theorem d_Mo_isDone_993 : decode prog_11_method_20_code 993 = .ok (.ireturn, 1) := by decide +kernel
theorem d_Mo_pushNumber_0 : decode prog_11_method_12_code 0 = .ok (.lload_n 1, 1) := by decide +kernel
theorem d_Mo_pushNumber_1 : decode prog_11_method_12_code 1 = .ok (.lconst 0, 1) := by decide +kernel
theorem d_Mo_pushNumber_2 : decode prog_11_method_12_code 2 = .ok (.lcmp, 1) := by decide +kernel
theorem d_Mo_pushNumber_3 : decode prog_11_method_12_code 3 = .ok (.ifCond .ge 8, 3) := by decide +kernel
theorem d_Mo_pushNumber_6 : decode prog_11_method_12_code 6 = .ok (.lload_n 1, 1) := by decide +kernel
theorem d_Mo_pushNumber_7 : decode prog_11_method_12_code 7 = .ok (.lneg, 1) := by decide +kernel
theorem d_Mo_pushNumber_8 : decode prog_11_method_12_code 8 = .ok (.goto 4, 3) := by decide +kernel
theorem d_Mo_pushNumber_11 : decode prog_11_method_12_code 11 = .ok (.lload_n 1, 1) := by decide +kernel
theorem d_Mo_pushNumber_12 : decode prog_11_method_12_code 12 = .ok (.lstore_n 3, 1) := by decide +kernel
theorem d_Mo_pushNumber_13 : decode prog_11_method_12_code 13 = .ok (.iconst 0, 1) := by decide +kernel
theorem d_Mo_pushNumber_14 : decode prog_11_method_12_code 14 = .ok (.istore 5, 2) := by decide +kernel
theorem d_Mo_pushNumber_16 : decode prog_11_method_12_code 16 = .ok (.sipush 256, 3) := by decide +kernel
theorem d_Mo_pushNumber_19 : decode prog_11_method_12_code 19 = .ok (.aload_n 0, 1) := by decide +kernel
theorem d_Mo_pushNumber_20 : decode prog_11_method_12_code 20 = .ok (.getfield 100, 3) := by decide +kernel
theorem d_Mo_pushNumber_23 : decode prog_11_method_12_code 23 = .ok (.imul, 1) := by decide +kernel
theorem d_Mo_pushNumber_24 : decode prog_11_method_12_code 24 = .ok (.istore 6, 2) := by decide +kernel
theorem d_Mo_pushNumber_26 : decode prog_11_method_12_code 26 = .ok (.lload_n 3, 1) := by decide +kernel
theorem d_Mo_pushNumber_27 : decode prog_11_method_12_code 27 = .ok (.lconst 0, 1) := by decide +kernel
theorem d_Mo_pushNumber_28 : decode prog_11_method_12_code 28 = .ok (.lcmp, 1) := by decide +kernel
theorem d_Mo_pushNumber_29 : decode prog_11_method_12_code 29 = .ok (.ifCond .le 27, 3) := by decide +kernel
theorem d_Mo_pushNumber_32 : decode prog_11_method_12_code 32 = .ok (.aload_n 0, 1) := by decide +kernel
theorem d_Mo_pushNumber_33 : decode prog_11_method_12_code 33 = .ok (.getfield 34, 3) := by decide +kernel
theorem d_Mo_pushNumber_36 : decode prog_11_method_12_code 36 = .ok (.iload 6, 2) := by decide +kernel
theorem d_Mo_pushNumber_38 : decode prog_11_method_12_code 38 = .ok (.iload 5, 2) := by decide +kernel
theorem d_Mo_pushNumber_40 : decode prog_11_method_12_code 40 = .ok (.iinc 5 1, 3) := by decide +kernel
theorem d_Mo_pushNumber_43 : decode prog_11_method_12_code 43 = .ok (.iadd, 1) := by decide +kernel
theorem d_Mo_pushNumber_44 : decode prog_11_method_12_code 44 = .ok (.lload_n 3, 1) := by decide +kernel
theorem d_Mo_pushNumber_45 : decode prog_11_method_12_code 45 = .ok (.l2i, 1) := by decide +kernel
theorem d_Mo_pushNumber_46 : decode prog_11_method_12_code 46 = .ok (.i2b, 1) := by decide +kernel
theorem d_Mo_pushNumber_47 : decode prog_11_method_12_code 47 = .ok (.bastore, 1) := by decide +kernel
theorem d_Mo_pushNumber_48 : decode prog_11_method_12_code 48 = .ok (.lload_n 3, 1) := by decide +kernel
theorem d_Mo_pushNumber_49 : decode prog_11_method_12_code 49 = .ok (.bipush 8, 2) := by decide +kernel
theorem d_Mo_pushNumber_51 : decode prog_11_method_12_code 51 = .ok (.lshr, 1) := by decide +kernel
theorem d_Mo_pushNumber_52 : decode prog_11_method_12_code 52 = .ok (.lstore_n 3, 1) := by decide +kernel
theorem d_Mo_pushNumber_53 : decode prog_11_method_12_code 53 = .ok (.goto (-27), 3) := by decide +kernel
theorem d_Mo_pushNumber_56 : decode prog_11_method_12_code 56 = .ok (.iload 5, 2) := by decide +kernel
theorem d_Mo_pushNumber_58 : decode prog_11_method_12_code 58 = .ok (.ifCond .le 32, 3) := by decide +kernel
theorem d_Mo_pushNumber_61 : decode prog_11_method_12_code 61 = .ok (.aload_n 0, 1) := by decide +kernel
theorem d_Mo_pushNumber_62 : decode prog_11_method_12_code 62 = .ok (.getfield 34, 3) := by decide +kernel
theorem d_Mo_pushNumber_65 : decode prog_11_method_12_code 65 = .ok (.iload 6, 2) := by decide +kernel
theorem d_Mo_pushNumber_67 : decode prog_11_method_12_code 67 = .ok (.iload 5, 2) := by decide +kernel
theorem d_Mo_pushNumber_69 : decode prog_11_method_12_code 69 = .ok (.iadd, 1) := by decide +kernel
theorem d_Mo_pushNumber_70 : decode prog_11_method_12_code 70 = .ok (.iconst 1, 1) := by decide +kernel
theorem d_Mo_pushNumber_71 : decode prog_11_method_12_code 71 = .ok (.isub, 1) := by decide +kernel
theorem d_Mo_pushNumber_72 : decode prog_11_method_12_code 72 = .ok (.baload, 1) := by decide +kernel
theorem d_Mo_pushNumber_73 : decode prog_11_method_12_code 73 = .ok (.ifCond .ge 17, 3) := by decide +kernel
theorem d_Mo_pushNumber_76 : decode prog_11_method_12_code 76 = .ok (.aload_n 0, 1) := by decide +kernel
theorem d_Mo_pushNumber_77 : decode prog_11_method_12_code 77 = .ok (.getfield 34, 3) := by decide +kernel
theorem d_Mo_pushNumber_80 : decode prog_11_method_12_code 80 = .ok (.iload 6, 2) := by decide +kernel
theorem d_Mo_pushNumber_82 : decode prog_11_method_12_code 82 = .ok (.iload 5, 2) := by decide +kernel
theorem d_Mo_pushNumber_84 : decode prog_11_method_12_code 84 = .ok (.iinc 5 1, 3) := by decide +kernel
theorem d_Mo_pushNumber_87 : decode prog_11_method_12_code 87 = .ok (.iadd, 1) := by decide +kernel
theorem d_Mo_pushNumber_88 : decode prog_11_method_12_code 88 = .ok (.iconst 0, 1) := by decide +kernel
theorem d_Mo_pushNumber_89 : decode prog_11_method_12_code 89 = .ok (.bastore, 1) := by decide +kernel
theorem d_Mo_pushNumber_90 : decode prog_11_method_12_code 90 = .ok (.lload_n 1, 1) := by decide +kernel
theorem d_Mo_pushNumber_91 : decode prog_11_method_12_code 91 = .ok (.lconst 0, 1) := by decide +kernel
theorem d_Mo_pushNumber_92 : decode prog_11_method_12_code 92 = .ok (.lcmp, 1) := by decide +kernel
theorem d_Mo_pushNumber_93 : decode prog_11_method_12_code 93 = .ok (.ifCond .ge 21, 3) := by decide +kernel
theorem d_Mo_pushNumber_96 : decode prog_11_method_12_code 96 = .ok (.aload_n 0, 1) := by decide +kernel
theorem d_Mo_pushNumber_97 : decode prog_11_method_12_code 97 = .ok (.getfield 34, 3) := by decide +kernel
theorem d_Mo_pushNumber_100 : decode prog_11_method_12_code 100 = .ok (.iload 6, 2) := by decide +kernel
theorem d_Mo_pushNumber_102 : decode prog_11_method_12_code 102 = .ok (.iload 5, 2) := by decide +kernel
theorem d_Mo_pushNumber_104 : decode prog_11_method_12_code 104 = .ok (.iadd, 1) := by decide +kernel
theorem d_Mo_pushNumber_105 : decode prog_11_method_12_code 105 = .ok (.iconst 1, 1) := by decide +kernel
theorem d_Mo_pushNumber_106 : decode prog_11_method_12_code 106 = .ok (.isub, 1) := by decide +kernel
theorem d_Mo_pushNumber_107 : decode prog_11_method_12_code 107 = .ok (.dup2, 1) := by decide +kernel
theorem d_Mo_pushNumber_108 : decode prog_11_method_12_code 108 = .ok (.baload, 1) := by decide +kernel
theorem d_Mo_pushNumber_109 : decode prog_11_method_12_code 109 = .ok (.bipush (-128), 2) := by decide +kernel
theorem d_Mo_pushNumber_111 : decode prog_11_method_12_code 111 = .ok (.ior, 1) := by decide +kernel
theorem d_Mo_pushNumber_112 : decode prog_11_method_12_code 112 = .ok (.i2b, 1) := by decide +kernel
theorem d_Mo_pushNumber_113 : decode prog_11_method_12_code 113 = .ok (.bastore, 1) := by decide +kernel
theorem d_Mo_pushNumber_114 : decode prog_11_method_12_code 114 = .ok (.aload_n 0, 1) := by decide +kernel
theorem d_Mo_pushNumber_115 : decode prog_11_method_12_code 115 = .ok (.getfield 37, 3) := by decide +kernel
theorem d_Mo_pushNumber_118 : decode prog_11_method_12_code 118 = .ok (.aload_n 0, 1) := by decide +kernel
theorem d_Mo_pushNumber_119 : decode prog_11_method_12_code 119 = .ok (.getfield 100, 3) := by decide +kernel
theorem d_Mo_pushNumber_122 : decode prog_11_method_12_code 122 = .ok (.iload 5, 2) := by decide +kernel
theorem d_Mo_pushNumber_124 : decode prog_11_method_12_code 124 = .ok (.iastore, 1) := by decide +kernel
theorem d_Mo_pushNumber_125 : decode prog_11_method_12_code 125 = .ok (.aload_n 0, 1) := by decide +kernel
theorem d_Mo_pushNumber_126 : decode prog_11_method_12_code 126 = .ok (.dup, 1) := by decide +kernel
theorem d_Mo_pushNumber_127 : decode prog_11_method_12_code 127 = .ok (.getfield 100, 3) := by decide +kernel
theorem d_Mo_pushNumber_130 : decode prog_11_method_12_code 130 = .ok (.iconst 1, 1) := by decide +kernel
theorem d_Mo_pushNumber_131 : decode prog_11_method_12_code 131 = .ok (.iadd, 1) := by decide +kernel
theorem d_Mo_pushNumber_132 : decode prog_11_method_12_code 132 = .ok (.putfield 100, 3) := by decide +kernel
theorem d_Mo_pushNumber_135 : decode prog_11_method_12_code 135 = .ok (.return_, 1) := by decide +kernel
theorem d_Mo_isArithmetic_0 : decode prog_11_method_23_code 0 = .ok (.iload_n 1, 1) := by decide +kernel
theorem d_Mo_isArithmetic_1 : decode prog_11_method_23_code 1 = .ok (.sipush 165, 3) := by decide +kernel
theorem d_Mo_isArithmetic_4 : decode prog_11_method_23_code 4 = .ok (.if_icmp .ne 7, 3) := by decide +kernel
theorem d_Mo_isArithmetic_7 : decode prog_11_method_23_code 7 = .ok (.iconst 3, 1) := by decide +kernel
theorem d_Mo_isArithmetic_8 : decode prog_11_method_23_code 8 = .ok (.goto 15, 3) := by decide +kernel
theorem d_Mo_isArithmetic_11 : decode prog_11_method_23_code 11 = .ok (.iload_n 1, 1) := by decide +kernel
theorem d_Mo_isArithmetic_12 : decode prog_11_method_23_code 12 = .ok (.sipush 146, 3) := by decide +kernel
theorem d_Mo_isArithmetic_15 : decode prog_11_method_23_code 15 = .ok (.if_icmp .gt 7, 3) := by decide +kernel
theorem d_Mo_isArithmetic_18 : decode prog_11_method_23_code 18 = .ok (.iconst 1, 1) := by decide +kernel
theorem d_Mo_isArithmetic_19 : decode prog_11_method_23_code 19 = .ok (.goto 4, 3) := by decide +kernel
theorem d_Mo_isArithmetic_22 : decode prog_11_method_23_code 22 = .ok (.iconst 2, 1) := by decide +kernel
theorem d_Mo_isArithmetic_23 : decode prog_11_method_23_code 23 = .ok (.istore_n 2, 1) := by decide +kernel
theorem d_Mo_isArithmetic_24 : decode prog_11_method_23_code 24 = .ok (.iload_n 1, 1) := by decide +kernel
theorem d_Mo_isArithmetic_25 : decode prog_11_method_23_code 25 = .ok (.sipush 141, 3) := by decide +kernel
theorem d_Mo_isArithmetic_28 : decode prog_11_method_23_code 28 = .ok (.if_icmp .eq 32, 3) := by decide +kernel
theorem d_Mo_isArithmetic_31 : decode prog_11_method_23_code 31 = .ok (.iload_n 1, 1) := by decide +kernel
theorem d_Mo_isArithmetic_32 : decode prog_11_method_23_code 32 = .ok (.sipush 142, 3) := by decide +kernel
theorem d_Mo_isArithmetic_35 : decode prog_11_method_23_code 35 = .ok (.if_icmp .eq 25, 3) := by decide +kernel
theorem d_Mo_isArithmetic_38 : decode prog_11_method_23_code 38 = .ok (.iload_n 1, 1) := by decide +kernel
theorem d_Mo_isArithmetic_39 : decode prog_11_method_23_code 39 = .ok (.sipush 149, 3) := by decide +kernel
theorem d_Mo_isArithmetic_42 : decode prog_11_method_23_code 42 = .ok (.if_icmp .lt 10, 3) := by decide +kernel
theorem d_Mo_isArithmetic_45 : decode prog_11_method_23_code 45 = .ok (.iload_n 1, 1) := by decide +kernel
theorem d_Mo_isArithmetic_46 : decode prog_11_method_23_code 46 = .ok (.sipush 153, 3) := by decide +kernel
theorem d_Mo_isArithmetic_49 : decode prog_11_method_23_code 49 = .ok (.if_icmp .le 11, 3) := by decide +kernel
theorem d_Mo_isArithmetic_52 : decode prog_11_method_23_code 52 = .ok (.aload_n 0, 1) := by decide +kernel
theorem d_Mo_isArithmetic_53 : decode prog_11_method_23_code 53 = .ok (.iload_n 2, 1) := by decide +kernel
theorem d_Mo_isArithmetic_54 : decode prog_11_method_23_code 54 = .ok (.invokevirtual 131, 3) := by decide +kernel
theorem d_Mo_isArithmetic_57 : decode prog_11_method_23_code 57 = .ok (.ifCond .ne 5, 3) := by decide +kernel
theorem d_Mo_isArithmetic_60 : decode prog_11_method_23_code 60 = .ok (.iconst 0, 1) := by decide +kernel
theorem d_Mo_isArithmetic_61 : decode prog_11_method_23_code 61 = .ok (.ireturn, 1) := by decide +kernel
theorem d_Mo_isArithmetic_62 : decode prog_11_method_23_code 62 = .ok (.iconst 1, 1) := by decide +kernel
theorem d_Mo_isArithmetic_63 : decode prog_11_method_23_code 63 = .ok (.istore_n 3, 1) := by decide +kernel
theorem d_Mo_isArithmetic_64 : decode prog_11_method_23_code 64 = .ok (.iload_n 3, 1) := by decide +kernel
theorem d_Mo_isArithmetic_65 : decode prog_11_method_23_code 65 = .ok (.iload_n 2, 1) := by decide +kernel
theorem d_Mo_isArithmetic_66 : decode prog_11_method_23_code 66 = .ok (.if_icmp .gt 24, 3) := by decide +kernel
theorem d_Mo_isArithmetic_69 : decode prog_11_method_23_code 69 = .ok (.aload_n 0, 1) := by decide +kernel
theorem d_Mo_isArithmetic_70 : decode prog_11_method_23_code 70 = .ok (.aload_n 0, 1) := by decide +kernel
theorem d_Mo_isArithmetic_71 : decode prog_11_method_23_code 71 = .ok (.getfield 100, 3) := by decide +kernel
theorem d_Mo_isArithmetic_74 : decode prog_11_method_23_code 74 = .ok (.iload_n 3, 1) := by decide +kernel
theorem d_Mo_isArithmetic_75 : decode prog_11_method_23_code 75 = .ok (.isub, 1) := by decide +kernel
theorem d_Mo_isArithmetic_76 : decode prog_11_method_23_code 76 = .ok (.invokevirtual 149, 3) := by decide +kernel
theorem d_Mo_isArithmetic_79 : decode prog_11_method_23_code 79 = .ok (.ifCond .ne 5, 3) := by decide +kernel
theorem d_Mo_isArithmetic_82 : decode prog_11_method_23_code 82 = .ok (.iconst 0, 1) := by decide +kernel
theorem d_Mo_isArithmetic_83 : decode prog_11_method_23_code 83 = .ok (.ireturn, 1) := by decide +kernel
theorem d_Mo_isArithmetic_84 : decode prog_11_method_23_code 84 = .ok (.iinc 3 1, 3) := by decide +kernel
theorem d_Mo_isArithmetic_87 : decode prog_11_method_23_code 87 = .ok (.goto (-23), 3) := by decide +kernel
theorem d_Mo_isArithmetic_90 : decode prog_11_method_23_code 90 = .ok (.aload_n 0, 1) := by decide +kernel
theorem d_Mo_isArithmetic_91 : decode prog_11_method_23_code 91 = .ok (.aload_n 0, 1) := by decide +kernel
theorem d_Mo_isArithmetic_92 : decode prog_11_method_23_code 92 = .ok (.getfield 100, 3) := by decide +kernel
theorem d_Mo_isArithmetic_95 : decode prog_11_method_23_code 95 = .ok (.iload_n 2, 1) := by decide +kernel
theorem d_Mo_isArithmetic_96 : decode prog_11_method_23_code 96 = .ok (.isub, 1) := by decide +kernel
theorem d_Mo_isArithmetic_97 : decode prog_11_method_23_code 97 = .ok (.invokevirtual 152, 3) := by decide +kernel
theorem d_Mo_isArithmetic_100 : decode prog_11_method_23_code 100 = .ok (.lstore_n 3, 1) := by decide +kernel
theorem d_Mo_isArithmetic_101 : decode prog_11_method_23_code 101 = .ok (.iload_n 2, 1) := by decide +kernel
theorem d_Mo_isArithmetic_102 : decode prog_11_method_23_code 102 = .ok (.iconst 1, 1) := by decide +kernel
theorem d_Mo_isArithmetic_103 : decode prog_11_method_23_code 103 = .ok (.if_icmp .le 18, 3) := by decide +kernel
theorem d_Mo_isArithmetic_106 : decode prog_11_method_23_code 106 = .ok (.aload_n 0, 1) := by decide +kernel
theorem d_Mo_isArithmetic_107 : decode prog_11_method_23_code 107 = .ok (.aload_n 0, 1) := by decide +kernel
theorem d_Mo_isArithmetic_108 : decode prog_11_method_23_code 108 = .ok (.getfield 100, 3) := by decide +kernel
theorem d_Mo_isArithmetic_111 : decode prog_11_method_23_code 111 = .ok (.iload_n 2, 1) := by decide +kernel
theorem d_Mo_isArithmetic_112 : decode prog_11_method_23_code 112 = .ok (.isub, 1) := by decide +kernel
theorem d_Mo_isArithmetic_113 : decode prog_11_method_23_code 113 = .ok (.iconst 1, 1) := by decide +kernel
theorem d_Mo_isArithmetic_114 : decode prog_11_method_23_code 114 = .ok (.iadd, 1) := by decide +kernel
theorem d_Mo_isArithmetic_115 : decode prog_11_method_23_code 115 = .ok (.invokevirtual 152, 3) := by decide +kernel
theorem d_Mo_isArithmetic_118 : decode prog_11_method_23_code 118 = .ok (.goto 4, 3) := by decide +kernel
theorem d_Mo_isArithmetic_121 : decode prog_11_method_23_code 121 = .ok (.lconst 0, 1) := by decide +kernel
theorem d_Mo_isArithmetic_122 : decode prog_11_method_23_code 122 = .ok (.lstore 5, 2) := by decide +kernel
theorem d_Mo_isArithmetic_124 : decode prog_11_method_23_code 124 = .ok (.iload_n 2, 1) := by decide +kernel
theorem d_Mo_isArithmetic_125 : decode prog_11_method_23_code 125 = .ok (.iconst 2, 1) := by decide +kernel
theorem d_Mo_isArithmetic_126 : decode prog_11_method_23_code 126 = .ok (.if_icmp .le 16, 3) := by decide +kernel
theorem d_Mo_isArithmetic_129 : decode prog_11_method_23_code 129 = .ok (.aload_n 0, 1) := by decide +kernel
theorem d_Mo_isArithmetic_130 : decode prog_11_method_23_code 130 = .ok (.aload_n 0, 1) := by decide +kernel
theorem d_Mo_isArithmetic_131 : decode prog_11_method_23_code 131 = .ok (.getfield 100, 3) := by decide +kernel
theorem d_Mo_isArithmetic_134 : decode prog_11_method_23_code 134 = .ok (.iconst 1, 1) := by decide +kernel
theorem d_Mo_isArithmetic_135 : decode prog_11_method_23_code 135 = .ok (.isub, 1) := by decide +kernel
theorem d_Mo_isArithmetic_136 : decode prog_11_method_23_code 136 = .ok (.invokevirtual 152, 3) := by decide +kernel
theorem d_Mo_isArithmetic_139 : decode prog_11_method_23_code 139 = .ok (.goto 4, 3) := by decide +kernel
theorem d_Mo_isArithmetic_142 : decode prog_11_method_23_code 142 = .ok (.lconst 0, 1) := by decide +kernel
theorem d_Mo_isArithmetic_143 : decode prog_11_method_23_code 143 = .ok (.lstore 7, 2) := by decide +kernel
theorem d_Mo_isArithmetic_145 : decode prog_11_method_23_code 145 = .ok (.aload_n 0, 1) := by decide +kernel
theorem d_Mo_isArithmetic_146 : decode prog_11_method_23_code 146 = .ok (.dup, 1) := by decide +kernel
theorem d_Mo_isArithmetic_147 : decode prog_11_method_23_code 147 = .ok (.getfield 100, 3) := by decide +kernel
theorem d_Mo_isArithmetic_150 : decode prog_11_method_23_code 150 = .ok (.iload_n 2, 1) := by decide +kernel
theorem d_Mo_isArithmetic_151 : decode prog_11_method_23_code 151 = .ok (.isub, 1) := by decide +kernel
theorem d_Mo_isArithmetic_152 : decode prog_11_method_23_code 152 = .ok (.putfield 100, 3) := by decide +kernel
theorem d_Mo_isArithmetic_155 : decode prog_11_method_23_code 155 = .ok (.iload_n 1, 1) := by decide +kernel
theorem d_Mo_isArithmetic_156 : decode prog_11_method_23_code 156 = .ok (.tableswitch 407 139 164 #[120, 128, 407, 407, 136, 143, 160, 176, 192, 201, 407, 407, 407, 407, 407, 210, 233, 256, 273, 286, 303, 320, 337, 354, 371, 389], 120) := by decide +kernel
theorem d_Mo_isArithmetic_276 : decode prog_11_method_23_code 276 = .ok (.lload_n 3, 1) := by decide +kernel
theorem d_Mo_isArithmetic_277 : decode prog_11_method_23_code 277 = .ok (.lconst 1, 1) := by decide +kernel
theorem d_Mo_isArithmetic_278 : decode prog_11_method_23_code 278 = .ok (.ladd, 1) := by decide +kernel
theorem d_Mo_isArithmetic_279 : decode prog_11_method_23_code 279 = .ok (.lstore 9, 2) := by decide +kernel
theorem d_Mo_isArithmetic_281 : decode prog_11_method_23_code 281 = .ok (.goto 303, 3) := by decide +kernel
theorem d_Mo_isArithmetic_284 : decode prog_11_method_23_code 284 = .ok (.lload_n 3, 1) := by decide +kernel
theorem d_Mo_isArithmetic_285 : decode prog_11_method_23_code 285 = .ok (.lconst 1, 1) := by decide +kernel
theorem d_Mo_isArithmetic_286 : decode prog_11_method_23_code 286 = .ok (.lsub, 1) := by decide +kernel
theorem d_Mo_isArithmetic_287 : decode prog_11_method_23_code 287 = .ok (.lstore 9, 2) := by decide +kernel
theorem d_Mo_isArithmetic_289 : decode prog_11_method_23_code 289 = .ok (.goto 295, 3) := by decide +kernel
theorem d_Mo_isArithmetic_292 : decode prog_11_method_23_code 292 = .ok (.lload_n 3, 1) := by decide +kernel
theorem d_Mo_isArithmetic_293 : decode prog_11_method_23_code 293 = .ok (.lneg, 1) := by decide +kernel
theorem d_Mo_isArithmetic_294 : decode prog_11_method_23_code 294 = .ok (.lstore 9, 2) := by decide +kernel
theorem d_Mo_isArithmetic_296 : decode prog_11_method_23_code 296 = .ok (.goto 288, 3) := by decide +kernel
theorem d_Mo_isArithmetic_299 : decode prog_11_method_23_code 299 = .ok (.lload_n 3, 1) := by decide +kernel
theorem d_Mo_isArithmetic_300 : decode prog_11_method_23_code 300 = .ok (.lconst 0, 1) := by decide +kernel
theorem d_Mo_isArithmetic_301 : decode prog_11_method_23_code 301 = .ok (.lcmp, 1) := by decide +kernel
theorem d_Mo_isArithmetic_302 : decode prog_11_method_23_code 302 = .ok (.ifCond .ge 8, 3) := by decide +kernel
theorem d_Mo_isArithmetic_305 : decode prog_11_method_23_code 305 = .ok (.lload_n 3, 1) := by decide +kernel
theorem d_Mo_isArithmetic_306 : decode prog_11_method_23_code 306 = .ok (.lneg, 1) := by decide +kernel
theorem d_Mo_isArithmetic_307 : decode prog_11_method_23_code 307 = .ok (.goto 4, 3) := by decide +kernel
theorem d_Mo_isArithmetic_310 : decode prog_11_method_23_code 310 = .ok (.lload_n 3, 1) := by decide +kernel
theorem d_Mo_isArithmetic_311 : decode prog_11_method_23_code 311 = .ok (.lstore 9, 2) := by decide +kernel
theorem d_Mo_isArithmetic_313 : decode prog_11_method_23_code 313 = .ok (.goto 271, 3) := by decide +kernel
theorem d_Mo_isArithmetic_316 : decode prog_11_method_23_code 316 = .ok (.lload_n 3, 1) := by decide +kernel
theorem d_Mo_isArithmetic_317 : decode prog_11_method_23_code 317 = .ok (.lconst 0, 1) := by decide +kernel
theorem d_Mo_isArithmetic_318 : decode prog_11_method_23_code 318 = .ok (.lcmp, 1) := by decide +kernel
theorem d_Mo_isArithmetic_319 : decode prog_11_method_23_code 319 = .ok (.ifCond .ne 7, 3) := by decide +kernel
theorem d_Mo_isArithmetic_322 : decode prog_11_method_23_code 322 = .ok (.lconst 1, 1) := by decide +kernel
theorem d_Mo_isArithmetic_323 : decode prog_11_method_23_code 323 = .ok (.goto 4, 3) := by decide +kernel
theorem d_Mo_isArithmetic_326 : decode prog_11_method_23_code 326 = .ok (.lconst 0, 1) := by decide +kernel
theorem d_Mo_isArithmetic_327 : decode prog_11_method_23_code 327 = .ok (.lstore 9, 2) := by decide +kernel
theorem d_Mo_isArithmetic_329 : decode prog_11_method_23_code 329 = .ok (.goto 255, 3) := by decide +kernel
theorem d_Mo_isArithmetic_332 : decode prog_11_method_23_code 332 = .ok (.lload_n 3, 1) := by decide +kernel
theorem d_Mo_isArithmetic_333 : decode prog_11_method_23_code 333 = .ok (.lconst 0, 1) := by decide +kernel
theorem d_Mo_isArithmetic_334 : decode prog_11_method_23_code 334 = .ok (.lcmp, 1) := by decide +kernel
theorem d_Mo_isArithmetic_335 : decode prog_11_method_23_code 335 = .ok (.ifCond .ne 7, 3) := by decide +kernel
theorem d_Mo_isArithmetic_338 : decode prog_11_method_23_code 338 = .ok (.lconst 0, 1) := by decide +kernel
theorem d_Mo_isArithmetic_339 : decode prog_11_method_23_code 339 = .ok (.goto 4, 3) := by decide +kernel
theorem d_Mo_isArithmetic_342 : decode prog_11_method_23_code 342 = .ok (.lconst 1, 1) := by decide +kernel
theorem d_Mo_isArithmetic_343 : decode prog_11_method_23_code 343 = .ok (.lstore 9, 2) := by decide +kernel
theorem d_Mo_isArithmetic_345 : decode prog_11_method_23_code 345 = .ok (.goto 239, 3) := by decide +kernel
theorem d_Mo_isArithmetic_348 : decode prog_11_method_23_code 348 = .ok (.lload_n 3, 1) := by decide +kernel
theorem d_Mo_isArithmetic_349 : decode prog_11_method_23_code 349 = .ok (.lload 5, 2) := by decide +kernel
theorem d_Mo_isArithmetic_351 : decode prog_11_method_23_code 351 = .ok (.ladd, 1) := by decide +kernel
theorem d_Mo_isArithmetic_352 : decode prog_11_method_23_code 352 = .ok (.lstore 9, 2) := by decide +kernel
theorem d_Mo_isArithmetic_354 : decode prog_11_method_23_code 354 = .ok (.goto 230, 3) := by decide +kernel
theorem d_Mo_isArithmetic_357 : decode prog_11_method_23_code 357 = .ok (.lload_n 3, 1) := by decide +kernel
theorem d_Mo_isArithmetic_358 : decode prog_11_method_23_code 358 = .ok (.lload 5, 2) := by decide +kernel
theorem d_Mo_isArithmetic_360 : decode prog_11_method_23_code 360 = .ok (.lsub, 1) := by decide +kernel
theorem d_Mo_isArithmetic_361 : decode prog_11_method_23_code 361 = .ok (.lstore 9, 2) := by decide +kernel
theorem d_Mo_isArithmetic_363 : decode prog_11_method_23_code 363 = .ok (.goto 221, 3) := by decide +kernel
theorem d_Mo_isArithmetic_366 : decode prog_11_method_23_code 366 = .ok (.lload_n 3, 1) := by decide +kernel
theorem d_Mo_isArithmetic_367 : decode prog_11_method_23_code 367 = .ok (.lconst 0, 1) := by decide +kernel
theorem d_Mo_isArithmetic_368 : decode prog_11_method_23_code 368 = .ok (.lcmp, 1) := by decide +kernel
theorem d_Mo_isArithmetic_369 : decode prog_11_method_23_code 369 = .ok (.ifCond .eq 14, 3) := by decide +kernel
theorem d_Mo_isArithmetic_372 : decode prog_11_method_23_code 372 = .ok (.lload 5, 2) := by decide +kernel
theorem d_Mo_isArithmetic_374 : decode prog_11_method_23_code 374 = .ok (.lconst 0, 1) := by decide +kernel
theorem d_Mo_isArithmetic_375 : decode prog_11_method_23_code 375 = .ok (.lcmp, 1) := by decide +kernel
theorem d_Mo_isArithmetic_376 : decode prog_11_method_23_code 376 = .ok (.ifCond .eq 7, 3) := by decide +kernel
theorem d_Mo_isArithmetic_379 : decode prog_11_method_23_code 379 = .ok (.lconst 1, 1) := by decide +kernel
theorem d_Mo_isArithmetic_380 : decode prog_11_method_23_code 380 = .ok (.goto 4, 3) := by decide +kernel
theorem d_Mo_isArithmetic_383 : decode prog_11_method_23_code 383 = .ok (.lconst 0, 1) := by decide +kernel
theorem d_Mo_isArithmetic_384 : decode prog_11_method_23_code 384 = .ok (.lstore 9, 2) := by decide +kernel
theorem d_Mo_isArithmetic_386 : decode prog_11_method_23_code 386 = .ok (.goto 198, 3) := by decide +kernel
theorem d_Mo_isArithmetic_389 : decode prog_11_method_23_code 389 = .ok (.lload_n 3, 1) := by decide +kernel
theorem d_Mo_isArithmetic_390 : decode prog_11_method_23_code 390 = .ok (.lconst 0, 1) := by decide +kernel
theorem d_Mo_isArithmetic_391 : decode prog_11_method_23_code 391 = .ok (.lcmp, 1) := by decide +kernel
theorem d_Mo_isArithmetic_392 : decode prog_11_method_23_code 392 = .ok (.ifCond .ne 10, 3) := by decide +kernel
theorem d_Mo_isArithmetic_395 : decode prog_11_method_23_code 395 = .ok (.lload 5, 2) := by decide +kernel
theorem d_Mo_isArithmetic_397 : decode prog_11_method_23_code 397 = .ok (.lconst 0, 1) := by decide +kernel
theorem d_Mo_isArithmetic_398 : decode prog_11_method_23_code 398 = .ok (.lcmp, 1) := by decide +kernel
theorem d_Mo_isArithmetic_399 : decode prog_11_method_23_code 399 = .ok (.ifCond .eq 7, 3) := by decide +kernel
theorem d_Mo_isArithmetic_402 : decode prog_11_method_23_code 402 = .ok (.lconst 1, 1) := by decide +kernel
theorem d_Mo_isArithmetic_403 : decode prog_11_method_23_code 403 = .ok (.goto 4, 3) := by decide +kernel
theorem d_Mo_isArithmetic_406 : decode prog_11_method_23_code 406 = .ok (.lconst 0, 1) := by decide +kernel
theorem d_Mo_isArithmetic_407 : decode prog_11_method_23_code 407 = .ok (.lstore 9, 2) := by decide +kernel
theorem d_Mo_isArithmetic_409 : decode prog_11_method_23_code 409 = .ok (.goto 175, 3) := by decide +kernel
theorem d_Mo_isArithmetic_412 : decode prog_11_method_23_code 412 = .ok (.lload_n 3, 1) := by decide +kernel
theorem d_Mo_isArithmetic_413 : decode prog_11_method_23_code 413 = .ok (.lload 5, 2) := by decide +kernel
theorem d_Mo_isArithmetic_415 : decode prog_11_method_23_code 415 = .ok (.lcmp, 1) := by decide +kernel
theorem d_Mo_isArithmetic_416 : decode prog_11_method_23_code 416 = .ok (.ifCond .ne 7, 3) := by decide +kernel
theorem d_Mo_isArithmetic_419 : decode prog_11_method_23_code 419 = .ok (.lconst 1, 1) := by decide +kernel
theorem d_Mo_isArithmetic_420 : decode prog_11_method_23_code 420 = .ok (.goto 4, 3) := by decide +kernel
theorem d_Mo_isArithmetic_423 : decode prog_11_method_23_code 423 = .ok (.lconst 0, 1) := by decide +kernel
theorem d_Mo_isArithmetic_424 : decode prog_11_method_23_code 424 = .ok (.lstore 9, 2) := by decide +kernel
theorem d_Mo_isArithmetic_426 : decode prog_11_method_23_code 426 = .ok (.goto 158, 3) := by decide +kernel
theorem d_Mo_isArithmetic_429 : decode prog_11_method_23_code 429 = .ok (.lload_n 3, 1) := by decide +kernel
theorem d_Mo_isArithmetic_430 : decode prog_11_method_23_code 430 = .ok (.lload 5, 2) := by decide +kernel
theorem d_Mo_isArithmetic_432 : decode prog_11_method_23_code 432 = .ok (.lcmp, 1) := by decide +kernel
theorem d_Mo_isArithmetic_433 : decode prog_11_method_23_code 433 = .ok (.ifCond .ne 7, 3) := by decide +kernel
theorem d_Mo_isArithmetic_436 : decode prog_11_method_23_code 436 = .ok (.iconst 1, 1) := by decide +kernel
theorem d_Mo_isArithmetic_437 : decode prog_11_method_23_code 437 = .ok (.goto 4, 3) := by decide +kernel
theorem d_Mo_isArithmetic_440 : decode prog_11_method_23_code 440 = .ok (.iconst 0, 1) := by decide +kernel
theorem d_Mo_isArithmetic_441 : decode prog_11_method_23_code 441 = .ok (.ireturn, 1) := by decide +kernel
theorem d_Mo_isArithmetic_442 : decode prog_11_method_23_code 442 = .ok (.lload_n 3, 1) := by decide +kernel
theorem d_Mo_isArithmetic_443 : decode prog_11_method_23_code 443 = .ok (.lload 5, 2) := by decide +kernel
theorem d_Mo_isArithmetic_445 : decode prog_11_method_23_code 445 = .ok (.lcmp, 1) := by decide +kernel
theorem d_Mo_isArithmetic_446 : decode prog_11_method_23_code 446 = .ok (.ifCond .eq 7, 3) := by decide +kernel
theorem d_Mo_isArithmetic_449 : decode prog_11_method_23_code 449 = .ok (.lconst 1, 1) := by decide +kernel
theorem d_Mo_isArithmetic_450 : decode prog_11_method_23_code 450 = .ok (.goto 4, 3) := by decide +kernel
theorem d_Mo_isArithmetic_453 : decode prog_11_method_23_code 453 = .ok (.lconst 0, 1) := by decide +kernel
theorem d_Mo_isArithmetic_454 : decode prog_11_method_23_code 454 = .ok (.lstore 9, 2) := by decide +kernel
theorem d_Mo_isArithmetic_456 : decode prog_11_method_23_code 456 = .ok (.goto 128, 3) := by decide +kernel
theorem d_Mo_isArithmetic_459 : decode prog_11_method_23_code 459 = .ok (.lload_n 3, 1) := by decide +kernel
theorem d_Mo_isArithmetic_460 : decode prog_11_method_23_code 460 = .ok (.lload 5, 2) := by decide +kernel
theorem d_Mo_isArithmetic_462 : decode prog_11_method_23_code 462 = .ok (.lcmp, 1) := by decide +kernel
theorem d_Mo_isArithmetic_463 : decode prog_11_method_23_code 463 = .ok (.ifCond .ge 7, 3) := by decide +kernel
theorem d_Mo_isArithmetic_466 : decode prog_11_method_23_code 466 = .ok (.lconst 1, 1) := by decide +kernel
theorem d_Mo_isArithmetic_467 : decode prog_11_method_23_code 467 = .ok (.goto 4, 3) := by decide +kernel
theorem d_Mo_isArithmetic_470 : decode prog_11_method_23_code 470 = .ok (.lconst 0, 1) := by decide +kernel
theorem d_Mo_isArithmetic_471 : decode prog_11_method_23_code 471 = .ok (.lstore 9, 2) := by decide +kernel
theorem d_Mo_isArithmetic_473 : decode prog_11_method_23_code 473 = .ok (.goto 111, 3) := by decide +kernel
theorem d_Mo_isArithmetic_476 : decode prog_11_method_23_code 476 = .ok (.lload_n 3, 1) := by decide +kernel
theorem d_Mo_isArithmetic_477 : decode prog_11_method_23_code 477 = .ok (.lload 5, 2) := by decide +kernel
theorem d_Mo_isArithmetic_479 : decode prog_11_method_23_code 479 = .ok (.lcmp, 1) := by decide +kernel
theorem d_Mo_isArithmetic_480 : decode prog_11_method_23_code 480 = .ok (.ifCond .le 7, 3) := by decide +kernel
theorem d_Mo_isArithmetic_483 : decode prog_11_method_23_code 483 = .ok (.lconst 1, 1) := by decide +kernel
theorem d_Mo_isArithmetic_484 : decode prog_11_method_23_code 484 = .ok (.goto 4, 3) := by decide +kernel
theorem d_Mo_isArithmetic_487 : decode prog_11_method_23_code 487 = .ok (.lconst 0, 1) := by decide +kernel
theorem d_Mo_isArithmetic_488 : decode prog_11_method_23_code 488 = .ok (.lstore 9, 2) := by decide +kernel
theorem d_Mo_isArithmetic_490 : decode prog_11_method_23_code 490 = .ok (.goto 94, 3) := by decide +kernel
theorem d_Mo_isArithmetic_493 : decode prog_11_method_23_code 493 = .ok (.lload_n 3, 1) := by decide +kernel
theorem d_Mo_isArithmetic_494 : decode prog_11_method_23_code 494 = .ok (.lload 5, 2) := by decide +kernel
theorem d_Mo_isArithmetic_496 : decode prog_11_method_23_code 496 = .ok (.lcmp, 1) := by decide +kernel
theorem d_Mo_isArithmetic_497 : decode prog_11_method_23_code 497 = .ok (.ifCond .gt 7, 3) := by decide +kernel
theorem d_Mo_isArithmetic_500 : decode prog_11_method_23_code 500 = .ok (.lconst 1, 1) := by decide +kernel
theorem d_Mo_isArithmetic_501 : decode prog_11_method_23_code 501 = .ok (.goto 4, 3) := by decide +kernel
theorem d_Mo_isArithmetic_504 : decode prog_11_method_23_code 504 = .ok (.lconst 0, 1) := by decide +kernel
theorem d_Mo_isArithmetic_505 : decode prog_11_method_23_code 505 = .ok (.lstore 9, 2) := by decide +kernel
theorem d_Mo_isArithmetic_507 : decode prog_11_method_23_code 507 = .ok (.goto 77, 3) := by decide +kernel
theorem d_Mo_isArithmetic_510 : decode prog_11_method_23_code 510 = .ok (.lload_n 3, 1) := by decide +kernel
theorem d_Mo_isArithmetic_511 : decode prog_11_method_23_code 511 = .ok (.lload 5, 2) := by decide +kernel
theorem d_Mo_isArithmetic_513 : decode prog_11_method_23_code 513 = .ok (.lcmp, 1) := by decide +kernel
theorem d_Mo_isArithmetic_514 : decode prog_11_method_23_code 514 = .ok (.ifCond .lt 7, 3) := by decide +kernel
theorem d_Mo_isArithmetic_517 : decode prog_11_method_23_code 517 = .ok (.lconst 1, 1) := by decide +kernel
theorem d_Mo_isArithmetic_518 : decode prog_11_method_23_code 518 = .ok (.goto 4, 3) := by decide +kernel
theorem d_Mo_isArithmetic_521 : decode prog_11_method_23_code 521 = .ok (.lconst 0, 1) := by decide +kernel
theorem d_Mo_isArithmetic_522 : decode prog_11_method_23_code 522 = .ok (.lstore 9, 2) := by decide +kernel
theorem d_Mo_isArithmetic_524 : decode prog_11_method_23_code 524 = .ok (.goto 60, 3) := by decide +kernel
theorem d_Mo_isArithmetic_527 : decode prog_11_method_23_code 527 = .ok (.lload_n 3, 1) := by decide +kernel
theorem d_Mo_isArithmetic_528 : decode prog_11_method_23_code 528 = .ok (.lload 5, 2) := by decide +kernel
theorem d_Mo_isArithmetic_530 : decode prog_11_method_23_code 530 = .ok (.lcmp, 1) := by decide +kernel
theorem d_Mo_isArithmetic_531 : decode prog_11_method_23_code 531 = .ok (.ifCond .ge 7, 3) := by decide +kernel
theorem d_Mo_isArithmetic_534 : decode prog_11_method_23_code 534 = .ok (.lload_n 3, 1) := by decide +kernel
theorem d_Mo_isArithmetic_535 : decode prog_11_method_23_code 535 = .ok (.goto 5, 3) := by decide +kernel
theorem d_Mo_isArithmetic_538 : decode prog_11_method_23_code 538 = .ok (.lload 5, 2) := by decide +kernel
theorem d_Mo_isArithmetic_540 : decode prog_11_method_23_code 540 = .ok (.lstore 9, 2) := by decide +kernel
theorem d_Mo_isArithmetic_542 : decode prog_11_method_23_code 542 = .ok (.goto 42, 3) := by decide +kernel
theorem d_Mo_isArithmetic_545 : decode prog_11_method_23_code 545 = .ok (.lload_n 3, 1) := by decide +kernel
theorem d_Mo_isArithmetic_546 : decode prog_11_method_23_code 546 = .ok (.lload 5, 2) := by decide +kernel
theorem d_Mo_isArithmetic_548 : decode prog_11_method_23_code 548 = .ok (.lcmp, 1) := by decide +kernel
theorem d_Mo_isArithmetic_549 : decode prog_11_method_23_code 549 = .ok (.ifCond .le 7, 3) := by decide +kernel
theorem d_Mo_isArithmetic_552 : decode prog_11_method_23_code 552 = .ok (.lload_n 3, 1) := by decide +kernel
theorem d_Mo_isArithmetic_553 : decode prog_11_method_23_code 553 = .ok (.goto 5, 3) := by decide +kernel
theorem d_Mo_isArithmetic_556 : decode prog_11_method_23_code 556 = .ok (.lload 5, 2) := by decide +kernel
theorem d_Mo_isArithmetic_558 : decode prog_11_method_23_code 558 = .ok (.lstore 9, 2) := by decide +kernel
theorem d_Mo_isArithmetic_560 : decode prog_11_method_23_code 560 = .ok (.goto 24, 3) := by decide +kernel
theorem d_Mo_isArithmetic_563 : decode prog_11_method_23_code 563 = .ok (.lload_n 3, 1) := by decide +kernel
theorem d_Mo_isArithmetic_564 : decode prog_11_method_23_code 564 = .ok (.lload 5, 2) := by decide +kernel
theorem d_Mo_isArithmetic_566 : decode prog_11_method_23_code 566 = .ok (.lcmp, 1) := by decide +kernel
theorem d_Mo_isArithmetic_567 : decode prog_11_method_23_code 567 = .ok (.ifCond .lt 14, 3) := by decide +kernel
theorem d_Mo_isArithmetic_570 : decode prog_11_method_23_code 570 = .ok (.lload_n 3, 1) := by decide +kernel
theorem d_Mo_isArithmetic_571 : decode prog_11_method_23_code 571 = .ok (.lload 7, 2) := by decide +kernel
theorem d_Mo_isArithmetic_573 : decode prog_11_method_23_code 573 = .ok (.lcmp, 1) := by decide +kernel
theorem d_Mo_isArithmetic_574 : decode prog_11_method_23_code 574 = .ok (.ifCond .ge 7, 3) := by decide +kernel
theorem d_Mo_isArithmetic_577 : decode prog_11_method_23_code 577 = .ok (.lconst 1, 1) := by decide +kernel
theorem d_Mo_isArithmetic_578 : decode prog_11_method_23_code 578 = .ok (.goto 4, 3) := by decide +kernel
theorem d_Mo_isArithmetic_581 : decode prog_11_method_23_code 581 = .ok (.lconst 0, 1) := by decide +kernel
theorem d_Mo_isArithmetic_582 : decode prog_11_method_23_code 582 = .ok (.lstore 9, 2) := by decide +kernel
theorem d_Mo_isArithmetic_584 : decode prog_11_method_23_code 584 = .ok (.aload_n 0, 1) := by decide +kernel
theorem d_Mo_isArithmetic_585 : decode prog_11_method_23_code 585 = .ok (.lload 9, 2) := by decide +kernel
theorem d_Mo_isArithmetic_587 : decode prog_11_method_23_code 587 = .ok (.invokevirtual 103, 3) := by decide +kernel
theorem d_Mo_isArithmetic_590 : decode prog_11_method_23_code 590 = .ok (.iconst 1, 1) := by decide +kernel
theorem d_Mo_isArithmetic_591 : decode prog_11_method_23_code 591 = .ok (.ireturn, 1) := by decide +kernel
theorem d_Mo_has_0 : decode prog_11_method_19_code 0 = .ok (.aload_n 0, 1) := by decide +kernel
theorem d_Mo_has_1 : decode prog_11_method_19_code 1 = .ok (.getfield 100, 3) := by decide +kernel
theorem d_Mo_has_4 : decode prog_11_method_19_code 4 = .ok (.iload_n 1, 1) := by decide +kernel
theorem d_Mo_has_5 : decode prog_11_method_19_code 5 = .ok (.if_icmp .lt 7, 3) := by decide +kernel
theorem d_Mo_has_8 : decode prog_11_method_19_code 8 = .ok (.iconst 1, 1) := by decide +kernel
theorem d_Mo_has_9 : decode prog_11_method_19_code 9 = .ok (.goto 4, 3) := by decide +kernel
theorem d_Mo_has_12 : decode prog_11_method_19_code 12 = .ok (.iconst 0, 1) := by decide +kernel
theorem d_Mo_has_13 : decode prog_11_method_19_code 13 = .ok (.ireturn, 1) := by decide +kernel
theorem d_Mo_isNumber_0 : decode prog_11_method_15_code 0 = .ok (.aload_n 0, 1) := by decide +kernel
theorem d_Mo_isNumber_1 : decode prog_11_method_15_code 1 = .ok (.getfield 37, 3) := by decide +kernel
theorem d_Mo_isNumber_4 : decode prog_11_method_15_code 4 = .ok (.iload_n 1, 1) := by decide +kernel
theorem d_Mo_isNumber_5 : decode prog_11_method_15_code 5 = .ok (.iaload, 1) := by decide +kernel
theorem d_Mo_isNumber_6 : decode prog_11_method_15_code 6 = .ok (.iconst 4, 1) := by decide +kernel
theorem d_Mo_isNumber_7 : decode prog_11_method_15_code 7 = .ok (.if_icmp .gt 7, 3) := by decide +kernel
theorem d_Mo_isNumber_10 : decode prog_11_method_15_code 10 = .ok (.iconst 1, 1) := by decide +kernel
theorem d_Mo_isNumber_11 : decode prog_11_method_15_code 11 = .ok (.goto 4, 3) := by decide +kernel
theorem d_Mo_isNumber_14 : decode prog_11_method_15_code 14 = .ok (.iconst 0, 1) := by decide +kernel
theorem d_Mo_isNumber_15 : decode prog_11_method_15_code 15 = .ok (.ireturn, 1) := by decide +kernel
theorem d_Mo_numberAt_0 : decode prog_11_method_16_code 0 = .ok (.lconst 0, 1) := by decide +kernel
theorem d_Mo_numberAt_1 : decode prog_11_method_16_code 1 = .ok (.lstore_n 2, 1) := by decide +kernel
theorem d_Mo_numberAt_2 : decode prog_11_method_16_code 2 = .ok (.aload_n 0, 1) := by decide +kernel
theorem d_Mo_numberAt_3 : decode prog_11_method_16_code 3 = .ok (.getfield 37, 3) := by decide +kernel
theorem d_Mo_numberAt_6 : decode prog_11_method_16_code 6 = .ok (.iload_n 1, 1) := by decide +kernel
theorem d_Mo_numberAt_7 : decode prog_11_method_16_code 7 = .ok (.iaload, 1) := by decide +kernel
theorem d_Mo_numberAt_8 : decode prog_11_method_16_code 8 = .ok (.istore 4, 2) := by decide +kernel
theorem d_Mo_numberAt_10 : decode prog_11_method_16_code 10 = .ok (.iload 4, 2) := by decide +kernel
theorem d_Mo_numberAt_12 : decode prog_11_method_16_code 12 = .ok (.ifCond .ne 5, 3) := by decide +kernel
theorem d_Mo_numberAt_15 : decode prog_11_method_16_code 15 = .ok (.lconst 0, 1) := by decide +kernel
theorem d_Mo_numberAt_16 : decode prog_11_method_16_code 16 = .ok (.lreturn, 1) := by decide +kernel
theorem d_Mo_numberAt_17 : decode prog_11_method_16_code 17 = .ok (.iconst 0, 1) := by decide +kernel
theorem d_Mo_numberAt_18 : decode prog_11_method_16_code 18 = .ok (.istore 5, 2) := by decide +kernel
theorem d_Mo_numberAt_20 : decode prog_11_method_16_code 20 = .ok (.iload 5, 2) := by decide +kernel
theorem d_Mo_numberAt_22 : decode prog_11_method_16_code 22 = .ok (.iload 4, 2) := by decide +kernel
theorem d_Mo_numberAt_24 : decode prog_11_method_16_code 24 = .ok (.if_icmp .ge 36, 3) := by decide +kernel
theorem d_Mo_numberAt_27 : decode prog_11_method_16_code 27 = .ok (.lload_n 2, 1) := by decide +kernel
theorem d_Mo_numberAt_28 : decode prog_11_method_16_code 28 = .ok (.aload_n 0, 1) := by decide +kernel
theorem d_Mo_numberAt_29 : decode prog_11_method_16_code 29 = .ok (.getfield 34, 3) := by decide +kernel
theorem d_Mo_numberAt_32 : decode prog_11_method_16_code 32 = .ok (.sipush 256, 3) := by decide +kernel
theorem d_Mo_numberAt_35 : decode prog_11_method_16_code 35 = .ok (.iload_n 1, 1) := by decide +kernel
theorem d_Mo_numberAt_36 : decode prog_11_method_16_code 36 = .ok (.imul, 1) := by decide +kernel
theorem d_Mo_numberAt_37 : decode prog_11_method_16_code 37 = .ok (.iload 5, 2) := by decide +kernel
theorem d_Mo_numberAt_39 : decode prog_11_method_16_code 39 = .ok (.iadd, 1) := by decide +kernel
theorem d_Mo_numberAt_40 : decode prog_11_method_16_code 40 = .ok (.baload, 1) := by decide +kernel
theorem d_Mo_numberAt_41 : decode prog_11_method_16_code 41 = .ok (.i2l, 1) := by decide +kernel
theorem d_Mo_numberAt_42 : decode prog_11_method_16_code 42 = .ok (.ldc2_w 107, 3) := by decide +kernel
theorem d_Mo_numberAt_45 : decode prog_11_method_16_code 45 = .ok (.land, 1) := by decide +kernel
theorem d_Mo_numberAt_46 : decode prog_11_method_16_code 46 = .ok (.bipush 8, 2) := by decide +kernel
theorem d_Mo_numberAt_48 : decode prog_11_method_16_code 48 = .ok (.iload 5, 2) := by decide +kernel
theorem d_Mo_numberAt_50 : decode prog_11_method_16_code 50 = .ok (.imul, 1) := by decide +kernel
theorem d_Mo_numberAt_51 : decode prog_11_method_16_code 51 = .ok (.lshl, 1) := by decide +kernel
theorem d_Mo_numberAt_52 : decode prog_11_method_16_code 52 = .ok (.lor, 1) := by decide +kernel
theorem d_Mo_numberAt_53 : decode prog_11_method_16_code 53 = .ok (.lstore_n 2, 1) := by decide +kernel
theorem d_Mo_numberAt_54 : decode prog_11_method_16_code 54 = .ok (.iinc 5 1, 3) := by decide +kernel
theorem d_Mo_numberAt_57 : decode prog_11_method_16_code 57 = .ok (.goto (-37), 3) := by decide +kernel
theorem d_Mo_numberAt_60 : decode prog_11_method_16_code 60 = .ok (.lload_n 2, 1) := by decide +kernel
theorem d_Mo_numberAt_61 : decode prog_11_method_16_code 61 = .ok (.bipush 8, 2) := by decide +kernel
theorem d_Mo_numberAt_63 : decode prog_11_method_16_code 63 = .ok (.iload 4, 2) := by decide +kernel
theorem d_Mo_numberAt_65 : decode prog_11_method_16_code 65 = .ok (.imul, 1) := by decide +kernel
theorem d_Mo_numberAt_66 : decode prog_11_method_16_code 66 = .ok (.iconst 1, 1) := by decide +kernel
theorem d_Mo_numberAt_67 : decode prog_11_method_16_code 67 = .ok (.isub, 1) := by decide +kernel
theorem d_Mo_numberAt_68 : decode prog_11_method_16_code 68 = .ok (.lshr, 1) := by decide +kernel
theorem d_Mo_numberAt_69 : decode prog_11_method_16_code 69 = .ok (.lconst 1, 1) := by decide +kernel
theorem d_Mo_numberAt_70 : decode prog_11_method_16_code 70 = .ok (.land, 1) := by decide +kernel
theorem d_Mo_numberAt_71 : decode prog_11_method_16_code 71 = .ok (.lconst 1, 1) := by decide +kernel
theorem d_Mo_numberAt_72 : decode prog_11_method_16_code 72 = .ok (.lcmp, 1) := by decide +kernel
theorem d_Mo_numberAt_73 : decode prog_11_method_16_code 73 = .ok (.ifCond .ne 22, 3) := by decide +kernel
theorem d_Mo_numberAt_76 : decode prog_11_method_16_code 76 = .ok (.lload_n 2, 1) := by decide +kernel
theorem d_Mo_numberAt_77 : decode prog_11_method_16_code 77 = .ok (.lconst 1, 1) := by decide +kernel
theorem d_Mo_numberAt_78 : decode prog_11_method_16_code 78 = .ok (.bipush 8, 2) := by decide +kernel
theorem d_Mo_numberAt_80 : decode prog_11_method_16_code 80 = .ok (.iload 4, 2) := by decide +kernel
theorem d_Mo_numberAt_82 : decode prog_11_method_16_code 82 = .ok (.imul, 1) := by decide +kernel
theorem d_Mo_numberAt_83 : decode prog_11_method_16_code 83 = .ok (.iconst 1, 1) := by decide +kernel
theorem d_Mo_numberAt_84 : decode prog_11_method_16_code 84 = .ok (.isub, 1) := by decide +kernel
theorem d_Mo_numberAt_85 : decode prog_11_method_16_code 85 = .ok (.lshl, 1) := by decide +kernel
theorem d_Mo_numberAt_86 : decode prog_11_method_16_code 86 = .ok (.ldc2_w 109, 3) := by decide +kernel
theorem d_Mo_numberAt_89 : decode prog_11_method_16_code 89 = .ok (.lxor, 1) := by decide +kernel
theorem d_Mo_numberAt_90 : decode prog_11_method_16_code 90 = .ok (.land, 1) := by decide +kernel
theorem d_Mo_numberAt_91 : decode prog_11_method_16_code 91 = .ok (.lneg, 1) := by decide +kernel
theorem d_Mo_numberAt_92 : decode prog_11_method_16_code 92 = .ok (.goto 4, 3) := by decide +kernel
theorem d_Mo_numberAt_95 : decode prog_11_method_16_code 95 = .ok (.lload_n 2, 1) := by decide +kernel
theorem d_Mo_numberAt_96 : decode prog_11_method_16_code 96 = .ok (.lreturn, 1) := by decide +kernel
theorem d_Mo_other_0 : decode prog_11_method_9_code 0 = .ok (.sipush 407, 3) := by decide +kernel
theorem d_Mo_other_3 : decode prog_11_method_9_code 3 = .ok (.iload_n 0, 1) := by decide +kernel
theorem d_Mo_other_4 : decode prog_11_method_9_code 4 = .ok (.isub, 1) := by decide +kernel
theorem d_Mo_other_5 : decode prog_11_method_9_code 5 = .ok (.ireturn, 1) := by decide +kernel
theorem d_Mo_move_0 : decode prog_11_method_10_code 0 = .ok (.aload_n 0, 1) := by decide +kernel
theorem d_Mo_move_1 : decode prog_11_method_10_code 1 = .ok (.getfield 34, 3) := by decide +kernel
theorem d_Mo_move_4 : decode prog_11_method_10_code 4 = .ok (.sipush 256, 3) := by decide +kernel
theorem d_Mo_move_7 : decode prog_11_method_10_code 7 = .ok (.iload_n 1, 1) := by decide +kernel
theorem d_Mo_move_8 : decode prog_11_method_10_code 8 = .ok (.imul, 1) := by decide +kernel
theorem d_Mo_move_9 : decode prog_11_method_10_code 9 = .ok (.aload_n 0, 1) := by decide +kernel
theorem d_Mo_move_10 : decode prog_11_method_10_code 10 = .ok (.getfield 34, 3) := by decide +kernel
theorem d_Mo_move_13 : decode prog_11_method_10_code 13 = .ok (.sipush 256, 3) := by decide +kernel
theorem d_Mo_move_16 : decode prog_11_method_10_code 16 = .ok (.iload_n 2, 1) := by decide +kernel
theorem d_Mo_move_17 : decode prog_11_method_10_code 17 = .ok (.imul, 1) := by decide +kernel
theorem d_Mo_move_18 : decode prog_11_method_10_code 18 = .ok (.aload_n 0, 1) := by decide +kernel
theorem d_Mo_move_19 : decode prog_11_method_10_code 19 = .ok (.getfield 37, 3) := by decide +kernel
theorem d_Mo_move_22 : decode prog_11_method_10_code 22 = .ok (.iload_n 1, 1) := by decide +kernel
theorem d_Mo_move_23 : decode prog_11_method_10_code 23 = .ok (.iaload, 1) := by decide +kernel
theorem d_Mo_move_24 : decode prog_11_method_10_code 24 = .ok (.invokestatic 48, 3) := by decide +kernel
theorem d_Mo_move_27 : decode prog_11_method_10_code 27 = .ok (.aload_n 0, 1) := by decide +kernel
theorem d_Mo_move_28 : decode prog_11_method_10_code 28 = .ok (.getfield 37, 3) := by decide +kernel
theorem d_Mo_move_31 : decode prog_11_method_10_code 31 = .ok (.iload_n 2, 1) := by decide +kernel
theorem d_Mo_move_32 : decode prog_11_method_10_code 32 = .ok (.aload_n 0, 1) := by decide +kernel
theorem d_Mo_move_33 : decode prog_11_method_10_code 33 = .ok (.getfield 37, 3) := by decide +kernel
theorem d_Mo_move_36 : decode prog_11_method_10_code 36 = .ok (.iload_n 1, 1) := by decide +kernel
theorem d_Mo_move_37 : decode prog_11_method_10_code 37 = .ok (.iaload, 1) := by decide +kernel
theorem d_Mo_move_38 : decode prog_11_method_10_code 38 = .ok (.iastore, 1) := by decide +kernel
theorem d_Mo_move_39 : decode prog_11_method_10_code 39 = .ok (.return_, 1) := by decide +kernel
