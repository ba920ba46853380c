theorem d_Mo_again_0 : decode prog_11_method_21_code 0 = .ok (.aload_n 0, 1) := by decide +kernel
theorem d_Mo_again_1 : decode prog_11_method_21_code 1 = .ok (.iload_n 1, 1) := by decide +kernel
theorem d_Mo_again_2 : decode prog_11_method_21_code 2 = .ok (.invokevirtual 131, 3) := by decide +kernel
theorem d_Mo_again_5 : decode prog_11_method_21_code 5 = .ok (.ifCond .ne 5, 3) := by decide +kernel
theorem d_Mo_again_8 : decode prog_11_method_21_code 8 = .ok (.iconst 0, 1) := by decide +kernel
theorem d_Mo_again_9 : decode prog_11_method_21_code 9 = .ok (.ireturn, 1) := by decide +kernel
theorem d_Mo_again_10 : decode prog_11_method_21_code 10 = .ok (.aload_n 0, 1) := by decide +kernel
theorem d_Mo_again_11 : decode prog_11_method_21_code 11 = .ok (.aload_n 0, 1) := by decide +kernel
theorem d_Mo_again_12 : decode prog_11_method_21_code 12 = .ok (.getfield 100, 3) := by decide +kernel
theorem d_Mo_again_15 : decode prog_11_method_21_code 15 = .ok (.iload_n 1, 1) := by decide +kernel
theorem d_Mo_again_16 : decode prog_11_method_21_code 16 = .ok (.isub, 1) := by decide +kernel
theorem d_Mo_again_17 : decode prog_11_method_21_code 17 = .ok (.aload_n 0, 1) := by decide +kernel
theorem d_Mo_again_18 : decode prog_11_method_21_code 18 = .ok (.getfield 100, 3) := by decide +kernel
theorem d_Mo_again_21 : decode prog_11_method_21_code 21 = .ok (.invokevirtual 138, 3) := by decide +kernel
theorem d_Mo_again_24 : decode prog_11_method_21_code 24 = .ok (.aload_n 0, 1) := by decide +kernel
theorem d_Mo_again_25 : decode prog_11_method_21_code 25 = .ok (.dup, 1) := by decide +kernel
theorem d_Mo_again_26 : decode prog_11_method_21_code 26 = .ok (.getfield 100, 3) := by decide +kernel
theorem d_Mo_again_29 : decode prog_11_method_21_code 29 = .ok (.iconst 1, 1) := by decide +kernel
theorem d_Mo_again_30 : decode prog_11_method_21_code 30 = .ok (.iadd, 1) := by decide +kernel
theorem d_Mo_again_31 : decode prog_11_method_21_code 31 = .ok (.putfield 100, 3) := by decide +kernel
theorem d_Mo_again_34 : decode prog_11_method_21_code 34 = .ok (.iconst 1, 1) := by decide +kernel
theorem d_Mo_again_35 : decode prog_11_method_21_code 35 = .ok (.ireturn, 1) := by decide +kernel
theorem d_Mo_takes_0 : decode prog_11_method_22_code 0 = .ok (.aload_n 0, 1) := by decide +kernel
theorem d_Mo_takes_1 : decode prog_11_method_22_code 1 = .ok (.aload_n 0, 1) := by decide +kernel
theorem d_Mo_takes_2 : decode prog_11_method_22_code 2 = .ok (.getfield 100, 3) := by decide +kernel
theorem d_Mo_takes_5 : decode prog_11_method_22_code 5 = .ok (.iload_n 1, 1) := by decide +kernel
theorem d_Mo_takes_6 : decode prog_11_method_22_code 6 = .ok (.isub, 1) := by decide +kernel
theorem d_Mo_takes_7 : decode prog_11_method_22_code 7 = .ok (.aload_n 0, 1) := by decide +kernel
theorem d_Mo_takes_8 : decode prog_11_method_22_code 8 = .ok (.getfield 100, 3) := by decide +kernel
theorem d_Mo_takes_11 : decode prog_11_method_22_code 11 = .ok (.invokevirtual 138, 3) := by decide +kernel
theorem d_Mo_takes_14 : decode prog_11_method_22_code 14 = .ok (.aload_n 0, 1) := by decide +kernel
theorem d_Mo_takes_15 : decode prog_11_method_22_code 15 = .ok (.getfield 100, 3) := by decide +kernel
theorem d_Mo_takes_18 : decode prog_11_method_22_code 18 = .ok (.iload_n 1, 1) := by decide +kernel
theorem d_Mo_takes_19 : decode prog_11_method_22_code 19 = .ok (.isub, 1) := by decide +kernel
theorem d_Mo_takes_20 : decode prog_11_method_22_code 20 = .ok (.istore_n 3, 1) := by decide +kernel
theorem d_Mo_takes_21 : decode prog_11_method_22_code 21 = .ok (.iload_n 3, 1) := by decide +kernel
theorem d_Mo_takes_22 : decode prog_11_method_22_code 22 = .ok (.aload_n 0, 1) := by decide +kernel
theorem d_Mo_takes_23 : decode prog_11_method_22_code 23 = .ok (.getfield 100, 3) := by decide +kernel
theorem d_Mo_takes_26 : decode prog_11_method_22_code 26 = .ok (.iconst 1, 1) := by decide +kernel
theorem d_Mo_takes_27 : decode prog_11_method_22_code 27 = .ok (.isub, 1) := by decide +kernel
theorem d_Mo_takes_28 : decode prog_11_method_22_code 28 = .ok (.if_icmp .ge 17, 3) := by decide +kernel
theorem d_Mo_takes_31 : decode prog_11_method_22_code 31 = .ok (.aload_n 0, 1) := by decide +kernel
theorem d_Mo_takes_32 : decode prog_11_method_22_code 32 = .ok (.iload_n 3, 1) := by decide +kernel
theorem d_Mo_takes_33 : decode prog_11_method_22_code 33 = .ok (.iconst 1, 1) := by decide +kernel
theorem d_Mo_takes_34 : decode prog_11_method_22_code 34 = .ok (.iadd, 1) := by decide +kernel
theorem d_Mo_takes_35 : decode prog_11_method_22_code 35 = .ok (.iload_n 3, 1) := by decide +kernel
theorem d_Mo_takes_36 : decode prog_11_method_22_code 36 = .ok (.invokevirtual 138, 3) := by decide +kernel
theorem d_Mo_takes_39 : decode prog_11_method_22_code 39 = .ok (.iinc 3 1, 3) := by decide +kernel
theorem d_Mo_takes_42 : decode prog_11_method_22_code 42 = .ok (.goto (-21), 3) := by decide +kernel
theorem d_Mo_takes_45 : decode prog_11_method_22_code 45 = .ok (.aload_n 0, 1) := by decide +kernel
theorem d_Mo_takes_46 : decode prog_11_method_22_code 46 = .ok (.aload_n 0, 1) := by decide +kernel
theorem d_Mo_takes_47 : decode prog_11_method_22_code 47 = .ok (.getfield 100, 3) := by decide +kernel
theorem d_Mo_takes_50 : decode prog_11_method_22_code 50 = .ok (.aload_n 0, 1) := by decide +kernel
theorem d_Mo_takes_51 : decode prog_11_method_22_code 51 = .ok (.getfield 100, 3) := by decide +kernel
theorem d_Mo_takes_54 : decode prog_11_method_22_code 54 = .ok (.iconst 1, 1) := by decide +kernel
theorem d_Mo_takes_55 : decode prog_11_method_22_code 55 = .ok (.isub, 1) := by decide +kernel
theorem d_Mo_takes_56 : decode prog_11_method_22_code 56 = .ok (.invokevirtual 138, 3) := by decide +kernel
theorem d_Mo_takes_59 : decode prog_11_method_22_code 59 = .ok (.iload_n 2, 1) := by decide +kernel
theorem d_Mo_takes_60 : decode prog_11_method_22_code 60 = .ok (.ifCond .ne 13, 3) := by decide +kernel
theorem d_Mo_takes_63 : decode prog_11_method_22_code 63 = .ok (.aload_n 0, 1) := by decide +kernel
theorem d_Mo_takes_64 : decode prog_11_method_22_code 64 = .ok (.dup, 1) := by decide +kernel
theorem d_Mo_takes_65 : decode prog_11_method_22_code 65 = .ok (.getfield 100, 3) := by decide +kernel
theorem d_Mo_takes_68 : decode prog_11_method_22_code 68 = .ok (.iconst 1, 1) := by decide +kernel
theorem d_Mo_takes_69 : decode prog_11_method_22_code 69 = .ok (.isub, 1) := by decide +kernel
theorem d_Mo_takes_70 : decode prog_11_method_22_code 70 = .ok (.putfield 100, 3) := by decide +kernel
theorem d_Mo_takes_73 : decode prog_11_method_22_code 73 = .ok (.iconst 1, 1) := by decide +kernel
theorem d_Mo_takes_74 : decode prog_11_method_22_code 74 = .ok (.ireturn, 1) := by decide +kernel
theorem d_Mo_isSame_0 : decode prog_11_method_17_code 0 = .ok (.aload_n 0, 1) := by decide +kernel
theorem d_Mo_isSame_1 : decode prog_11_method_17_code 1 = .ok (.getfield 37, 3) := by decide +kernel
theorem d_Mo_isSame_4 : decode prog_11_method_17_code 4 = .ok (.iload_n 1, 1) := by decide +kernel
theorem d_Mo_isSame_5 : decode prog_11_method_17_code 5 = .ok (.iaload, 1) := by decide +kernel
theorem d_Mo_isSame_6 : decode prog_11_method_17_code 6 = .ok (.aload_n 0, 1) := by decide +kernel
theorem d_Mo_isSame_7 : decode prog_11_method_17_code 7 = .ok (.getfield 37, 3) := by decide +kernel
theorem d_Mo_isSame_10 : decode prog_11_method_17_code 10 = .ok (.iload_n 2, 1) := by decide +kernel
theorem d_Mo_isSame_11 : decode prog_11_method_17_code 11 = .ok (.iaload, 1) := by decide +kernel
theorem d_Mo_isSame_12 : decode prog_11_method_17_code 12 = .ok (.if_icmp .eq 5, 3) := by decide +kernel
theorem d_Mo_isSame_15 : decode prog_11_method_17_code 15 = .ok (.iconst 0, 1) := by decide +kernel
theorem d_Mo_isSame_16 : decode prog_11_method_17_code 16 = .ok (.ireturn, 1) := by decide +kernel
theorem d_Mo_isSame_17 : decode prog_11_method_17_code 17 = .ok (.iconst 0, 1) := by decide +kernel
theorem d_Mo_isSame_18 : decode prog_11_method_17_code 18 = .ok (.istore_n 3, 1) := by decide +kernel
theorem d_Mo_isSame_19 : decode prog_11_method_17_code 19 = .ok (.iload_n 3, 1) := by decide +kernel
theorem d_Mo_isSame_20 : decode prog_11_method_17_code 20 = .ok (.aload_n 0, 1) := by decide +kernel
theorem d_Mo_isSame_21 : decode prog_11_method_17_code 21 = .ok (.getfield 37, 3) := by decide +kernel
theorem d_Mo_isSame_24 : decode prog_11_method_17_code 24 = .ok (.iload_n 1, 1) := by decide +kernel
theorem d_Mo_isSame_25 : decode prog_11_method_17_code 25 = .ok (.iaload, 1) := by decide +kernel
theorem d_Mo_isSame_26 : decode prog_11_method_17_code 26 = .ok (.if_icmp .ge 38, 3) := by decide +kernel
theorem d_Mo_isSame_29 : decode prog_11_method_17_code 29 = .ok (.aload_n 0, 1) := by decide +kernel
theorem d_Mo_isSame_30 : decode prog_11_method_17_code 30 = .ok (.getfield 34, 3) := by decide +kernel
theorem d_Mo_isSame_33 : decode prog_11_method_17_code 33 = .ok (.sipush 256, 3) := by decide +kernel
theorem d_Mo_isSame_36 : decode prog_11_method_17_code 36 = .ok (.iload_n 1, 1) := by decide +kernel
theorem d_Mo_isSame_37 : decode prog_11_method_17_code 37 = .ok (.imul, 1) := by decide +kernel
theorem d_Mo_isSame_38 : decode prog_11_method_17_code 38 = .ok (.iload_n 3, 1) := by decide +kernel
theorem d_Mo_isSame_39 : decode prog_11_method_17_code 39 = .ok (.iadd, 1) := by decide +kernel
theorem d_Mo_isSame_40 : decode prog_11_method_17_code 40 = .ok (.baload, 1) := by decide +kernel
theorem d_Mo_isSame_41 : decode prog_11_method_17_code 41 = .ok (.aload_n 0, 1) := by decide +kernel
theorem d_Mo_isSame_42 : decode prog_11_method_17_code 42 = .ok (.getfield 34, 3) := by decide +kernel
theorem d_Mo_isSame_45 : decode prog_11_method_17_code 45 = .ok (.sipush 256, 3) := by decide +kernel
theorem d_Mo_isSame_48 : decode prog_11_method_17_code 48 = .ok (.iload_n 2, 1) := by decide +kernel
theorem d_Mo_isSame_49 : decode prog_11_method_17_code 49 = .ok (.imul, 1) := by decide +kernel
theorem d_Mo_isSame_50 : decode prog_11_method_17_code 50 = .ok (.iload_n 3, 1) := by decide +kernel
theorem d_Mo_isSame_51 : decode prog_11_method_17_code 51 = .ok (.iadd, 1) := by decide +kernel
theorem d_Mo_isSame_52 : decode prog_11_method_17_code 52 = .ok (.baload, 1) := by decide +kernel
theorem d_Mo_isSame_53 : decode prog_11_method_17_code 53 = .ok (.if_icmp .eq 5, 3) := by decide +kernel
theorem d_Mo_isSame_56 : decode prog_11_method_17_code 56 = .ok (.iconst 0, 1) := by decide +kernel
theorem d_Mo_isSame_57 : decode prog_11_method_17_code 57 = .ok (.ireturn, 1) := by decide +kernel
theorem d_Mo_isSame_58 : decode prog_11_method_17_code 58 = .ok (.iinc 3 1, 3) := by decide +kernel
theorem d_Mo_isSame_61 : decode prog_11_method_17_code 61 = .ok (.goto (-42), 3) := by decide +kernel
theorem d_Mo_isSame_64 : decode prog_11_method_17_code 64 = .ok (.iconst 1, 1) := by decide +kernel
theorem d_Mo_isSame_65 : decode prog_11_method_17_code 65 = .ok (.ireturn, 1) := by decide +kernel
theorem d_Mo_pushTruth_0 : decode prog_11_method_13_code 0 = .ok (.aload_n 0, 1) := by decide +kernel
theorem d_Mo_pushTruth_1 : decode prog_11_method_13_code 1 = .ok (.iload_n 1, 1) := by decide +kernel
theorem d_Mo_pushTruth_2 : decode prog_11_method_13_code 2 = .ok (.ifCond .eq 7, 3) := by decide +kernel
theorem d_Mo_pushTruth_5 : decode prog_11_method_13_code 5 = .ok (.lconst 1, 1) := by decide +kernel
theorem d_Mo_pushTruth_6 : decode prog_11_method_13_code 6 = .ok (.goto 4, 3) := by decide +kernel
theorem d_Mo_pushTruth_9 : decode prog_11_method_13_code 9 = .ok (.lconst 0, 1) := by decide +kernel
theorem d_Mo_pushTruth_10 : decode prog_11_method_13_code 10 = .ok (.invokevirtual 103, 3) := by decide +kernel
theorem d_Mo_pushTruth_13 : decode prog_11_method_13_code 13 = .ok (.return_, 1) := by decide +kernel
theorem d_Mo_hashed_0 : decode prog_11_method_24_code 0 = .ok (.aload_n 0, 1) := by decide +kernel
theorem d_Mo_hashed_1 : decode prog_11_method_24_code 1 = .ok (.iconst 1, 1) := by decide +kernel
theorem d_Mo_hashed_2 : decode prog_11_method_24_code 2 = .ok (.invokevirtual 131, 3) := by decide +kernel
theorem d_Mo_hashed_5 : decode prog_11_method_24_code 5 = .ok (.ifCond .ne 5, 3) := by decide +kernel
theorem d_Mo_hashed_8 : decode prog_11_method_24_code 8 = .ok (.iconst 0, 1) := by decide +kernel
theorem d_Mo_hashed_9 : decode prog_11_method_24_code 9 = .ok (.ireturn, 1) := by decide +kernel
theorem d_Mo_hashed_10 : decode prog_11_method_24_code 10 = .ok (.aload_n 0, 1) := by decide +kernel
theorem d_Mo_hashed_11 : decode prog_11_method_24_code 11 = .ok (.dup, 1) := by decide +kernel
theorem d_Mo_hashed_12 : decode prog_11_method_24_code 12 = .ok (.getfield 100, 3) := by decide +kernel
theorem d_Mo_hashed_15 : decode prog_11_method_24_code 15 = .ok (.iconst 1, 1) := by decide +kernel
theorem d_Mo_hashed_16 : decode prog_11_method_24_code 16 = .ok (.isub, 1) := by decide +kernel
theorem d_Mo_hashed_17 : decode prog_11_method_24_code 17 = .ok (.putfield 100, 3) := by decide +kernel
theorem d_Mo_hashed_20 : decode prog_11_method_24_code 20 = .ok (.sipush 256, 3) := by decide +kernel
theorem d_Mo_hashed_23 : decode prog_11_method_24_code 23 = .ok (.aload_n 0, 1) := by decide +kernel
theorem d_Mo_hashed_24 : decode prog_11_method_24_code 24 = .ok (.getfield 100, 3) := by decide +kernel
theorem d_Mo_hashed_27 : decode prog_11_method_24_code 27 = .ok (.imul, 1) := by decide +kernel
theorem d_Mo_hashed_28 : decode prog_11_method_24_code 28 = .ok (.istore_n 2, 1) := by decide +kernel
theorem d_Mo_hashed_29 : decode prog_11_method_24_code 29 = .ok (.aload_n 0, 1) := by decide +kernel
theorem d_Mo_hashed_30 : decode prog_11_method_24_code 30 = .ok (.getfield 37, 3) := by decide +kernel
theorem d_Mo_hashed_33 : decode prog_11_method_24_code 33 = .ok (.aload_n 0, 1) := by decide +kernel
theorem d_Mo_hashed_34 : decode prog_11_method_24_code 34 = .ok (.getfield 100, 3) := by decide +kernel
theorem d_Mo_hashed_37 : decode prog_11_method_24_code 37 = .ok (.iaload, 1) := by decide +kernel
theorem d_Mo_hashed_38 : decode prog_11_method_24_code 38 = .ok (.istore_n 3, 1) := by decide +kernel
theorem d_Mo_hashed_39 : decode prog_11_method_24_code 39 = .ok (.iload_n 1, 1) := by decide +kernel
theorem d_Mo_hashed_40 : decode prog_11_method_24_code 40 = .ok (.sipush 166, 3) := by decide +kernel
theorem d_Mo_hashed_43 : decode prog_11_method_24_code 43 = .ok (.if_icmp .ne 16, 3) := by decide +kernel
theorem d_Mo_hashed_46 : decode prog_11_method_24_code 46 = .ok (.aload_n 0, 1) := by decide +kernel
theorem d_Mo_hashed_47 : decode prog_11_method_24_code 47 = .ok (.aload_n 0, 1) := by decide +kernel
theorem d_Mo_hashed_48 : decode prog_11_method_24_code 48 = .ok (.getfield 34, 3) := by decide +kernel
theorem d_Mo_hashed_51 : decode prog_11_method_24_code 51 = .ok (.iload_n 2, 1) := by decide +kernel
theorem d_Mo_hashed_52 : decode prog_11_method_24_code 52 = .ok (.iload_n 3, 1) := by decide +kernel
theorem d_Mo_hashed_53 : decode prog_11_method_24_code 53 = .ok (.invokevirtual 171, 3) := by decide +kernel
theorem d_Mo_hashed_56 : decode prog_11_method_24_code 56 = .ok (.goto 49, 3) := by decide +kernel
theorem d_Mo_hashed_59 : decode prog_11_method_24_code 59 = .ok (.aload_n 0, 1) := by decide +kernel
theorem d_Mo_hashed_60 : decode prog_11_method_24_code 60 = .ok (.aload_n 0, 1) := by decide +kernel
theorem d_Mo_hashed_61 : decode prog_11_method_24_code 61 = .ok (.getfield 34, 3) := by decide +kernel
theorem d_Mo_hashed_64 : decode prog_11_method_24_code 64 = .ok (.iload_n 2, 1) := by decide +kernel
theorem d_Mo_hashed_65 : decode prog_11_method_24_code 65 = .ok (.iload_n 3, 1) := by decide +kernel
theorem d_Mo_hashed_66 : decode prog_11_method_24_code 66 = .ok (.invokevirtual 174, 3) := by decide +kernel
theorem d_Mo_hashed_69 : decode prog_11_method_24_code 69 = .ok (.iload_n 1, 1) := by decide +kernel
theorem d_Mo_hashed_70 : decode prog_11_method_24_code 70 = .ok (.sipush 169, 3) := by decide +kernel
theorem d_Mo_hashed_73 : decode prog_11_method_24_code 73 = .ok (.if_icmp .ne 14, 3) := by decide +kernel
theorem d_Mo_hashed_76 : decode prog_11_method_24_code 76 = .ok (.aload_n 0, 1) := by decide +kernel
theorem d_Mo_hashed_77 : decode prog_11_method_24_code 77 = .ok (.aload_n 0, 1) := by decide +kernel
theorem d_Mo_hashed_78 : decode prog_11_method_24_code 78 = .ok (.getfield 27, 3) := by decide +kernel
theorem d_Mo_hashed_81 : decode prog_11_method_24_code 81 = .ok (.iconst 0, 1) := by decide +kernel
theorem d_Mo_hashed_82 : decode prog_11_method_24_code 82 = .ok (.bipush 32, 2) := by decide +kernel
theorem d_Mo_hashed_84 : decode prog_11_method_24_code 84 = .ok (.invokevirtual 171, 3) := by decide +kernel
theorem d_Mo_hashed_87 : decode prog_11_method_24_code 87 = .ok (.iload_n 1, 1) := by decide +kernel
theorem d_Mo_hashed_88 : decode prog_11_method_24_code 88 = .ok (.sipush 170, 3) := by decide +kernel
theorem d_Mo_hashed_91 : decode prog_11_method_24_code 91 = .ok (.if_icmp .ne 14, 3) := by decide +kernel
theorem d_Mo_hashed_94 : decode prog_11_method_24_code 94 = .ok (.aload_n 0, 1) := by decide +kernel
theorem d_Mo_hashed_95 : decode prog_11_method_24_code 95 = .ok (.aload_n 0, 1) := by decide +kernel
theorem d_Mo_hashed_96 : decode prog_11_method_24_code 96 = .ok (.getfield 27, 3) := by decide +kernel
theorem d_Mo_hashed_99 : decode prog_11_method_24_code 99 = .ok (.iconst 0, 1) := by decide +kernel
theorem d_Mo_hashed_100 : decode prog_11_method_24_code 100 = .ok (.bipush 32, 2) := by decide +kernel
theorem d_Mo_hashed_102 : decode prog_11_method_24_code 102 = .ok (.invokevirtual 174, 3) := by decide +kernel
theorem d_Mo_hashed_105 : decode prog_11_method_24_code 105 = .ok (.aload_n 0, 1) := by decide +kernel
theorem d_Mo_hashed_106 : decode prog_11_method_24_code 106 = .ok (.aload_n 0, 1) := by decide +kernel
theorem d_Mo_hashed_107 : decode prog_11_method_24_code 107 = .ok (.getfield 27, 3) := by decide +kernel
theorem d_Mo_hashed_110 : decode prog_11_method_24_code 110 = .ok (.iconst 0, 1) := by decide +kernel
theorem d_Mo_hashed_111 : decode prog_11_method_24_code 111 = .ok (.iload_n 1, 1) := by decide +kernel
theorem d_Mo_hashed_112 : decode prog_11_method_24_code 112 = .ok (.sipush 166, 3) := by decide +kernel
theorem d_Mo_hashed_115 : decode prog_11_method_24_code 115 = .ok (.if_icmp .eq 10, 3) := by decide +kernel
theorem d_Mo_hashed_118 : decode prog_11_method_24_code 118 = .ok (.iload_n 1, 1) := by decide +kernel
theorem d_Mo_hashed_119 : decode prog_11_method_24_code 119 = .ok (.sipush 169, 3) := by decide +kernel
theorem d_Mo_hashed_122 : decode prog_11_method_24_code 122 = .ok (.if_icmp .ne 8, 3) := by decide +kernel
theorem d_Mo_hashed_125 : decode prog_11_method_24_code 125 = .ok (.bipush 20, 2) := by decide +kernel
theorem d_Mo_hashed_127 : decode prog_11_method_24_code 127 = .ok (.goto 5, 3) := by decide +kernel
theorem d_Mo_hashed_130 : decode prog_11_method_24_code 130 = .ok (.bipush 32, 2) := by decide +kernel
theorem d_Mo_hashed_132 : decode prog_11_method_24_code 132 = .ok (.invokevirtual 117, 3) := by decide +kernel
theorem d_Mo_hashed_135 : decode prog_11_method_24_code 135 = .ok (.iconst 1, 1) := by decide +kernel
theorem d_Mo_hashed_136 : decode prog_11_method_24_code 136 = .ok (.ireturn, 1) := by decide +kernel
theorem d_Mo_ripemd_0 : decode prog_11_method_8_code 0 = .ok (.iload_n 3, 1) := by decide +kernel
theorem d_Mo_ripemd_1 : decode prog_11_method_8_code 1 = .ok (.bipush 9, 2) := by decide +kernel
theorem d_Mo_ripemd_3 : decode prog_11_method_8_code 3 = .ok (.iadd, 1) := by decide +kernel
theorem d_Mo_ripemd_4 : decode prog_11_method_8_code 4 = .ok (.bipush 63, 2) := by decide +kernel
theorem d_Mo_ripemd_6 : decode prog_11_method_8_code 6 = .ok (.iadd, 1) := by decide +kernel
theorem d_Mo_ripemd_7 : decode prog_11_method_8_code 7 = .ok (.bipush 64, 2) := by decide +kernel
theorem d_Mo_ripemd_9 : decode prog_11_method_8_code 9 = .ok (.idiv, 1) := by decide +kernel
theorem d_Mo_ripemd_10 : decode prog_11_method_8_code 10 = .ok (.istore 4, 2) := by decide +kernel
theorem d_Mo_ripemd_12 : decode prog_11_method_8_code 12 = .ok (.bipush 64, 2) := by decide +kernel
theorem d_Mo_ripemd_14 : decode prog_11_method_8_code 14 = .ok (.iload 4, 2) := by decide +kernel
theorem d_Mo_ripemd_16 : decode prog_11_method_8_code 16 = .ok (.imul, 1) := by decide +kernel
theorem d_Mo_ripemd_17 : decode prog_11_method_8_code 17 = .ok (.istore 5, 2) := by decide +kernel
theorem d_Mo_ripemd_19 : decode prog_11_method_8_code 19 = .ok (.aload_n 1, 1) := by decide +kernel
theorem d_Mo_ripemd_20 : decode prog_11_method_8_code 20 = .ok (.iload_n 2, 1) := by decide +kernel
theorem d_Mo_ripemd_21 : decode prog_11_method_8_code 21 = .ok (.aload_n 0, 1) := by decide +kernel
theorem d_Mo_ripemd_22 : decode prog_11_method_8_code 22 = .ok (.getfield 30, 3) := by decide +kernel
theorem d_Mo_ripemd_25 : decode prog_11_method_8_code 25 = .ok (.iconst 0, 1) := by decide +kernel
theorem d_Mo_ripemd_26 : decode prog_11_method_8_code 26 = .ok (.iload_n 3, 1) := by decide +kernel
theorem d_Mo_ripemd_27 : decode prog_11_method_8_code 27 = .ok (.invokestatic 48, 3) := by decide +kernel
theorem d_Mo_ripemd_30 : decode prog_11_method_8_code 30 = .ok (.iload_n 3, 1) := by decide +kernel
theorem d_Mo_ripemd_31 : decode prog_11_method_8_code 31 = .ok (.istore 6, 2) := by decide +kernel
theorem d_Mo_ripemd_33 : decode prog_11_method_8_code 33 = .ok (.iload 6, 2) := by decide +kernel
theorem d_Mo_ripemd_35 : decode prog_11_method_8_code 35 = .ok (.iload 5, 2) := by decide +kernel
theorem d_Mo_ripemd_37 : decode prog_11_method_8_code 37 = .ok (.if_icmp .ge 17, 3) := by decide +kernel
theorem d_Mo_ripemd_40 : decode prog_11_method_8_code 40 = .ok (.aload_n 0, 1) := by decide +kernel
theorem d_Mo_ripemd_41 : decode prog_11_method_8_code 41 = .ok (.getfield 30, 3) := by decide +kernel
theorem d_Mo_ripemd_44 : decode prog_11_method_8_code 44 = .ok (.iload 6, 2) := by decide +kernel
theorem d_Mo_ripemd_46 : decode prog_11_method_8_code 46 = .ok (.iconst 0, 1) := by decide +kernel
theorem d_Mo_ripemd_47 : decode prog_11_method_8_code 47 = .ok (.bastore, 1) := by decide +kernel
theorem d_Mo_ripemd_48 : decode prog_11_method_8_code 48 = .ok (.iinc 6 1, 3) := by decide +kernel
theorem d_Mo_ripemd_51 : decode prog_11_method_8_code 51 = .ok (.goto (-18), 3) := by decide +kernel
theorem d_Mo_ripemd_54 : decode prog_11_method_8_code 54 = .ok (.aload_n 0, 1) := by decide +kernel
theorem d_Mo_ripemd_55 : decode prog_11_method_8_code 55 = .ok (.getfield 30, 3) := by decide +kernel
theorem d_Mo_ripemd_58 : decode prog_11_method_8_code 58 = .ok (.iload_n 3, 1) := by decide +kernel
theorem d_Mo_ripemd_59 : decode prog_11_method_8_code 59 = .ok (.bipush (-128), 2) := by decide +kernel
theorem d_Mo_ripemd_61 : decode prog_11_method_8_code 61 = .ok (.bastore, 1) := by decide +kernel
theorem d_Mo_ripemd_62 : decode prog_11_method_8_code 62 = .ok (.iconst 0, 1) := by decide +kernel
theorem d_Mo_ripemd_63 : decode prog_11_method_8_code 63 = .ok (.istore 6, 2) := by decide +kernel
theorem d_Mo_ripemd_65 : decode prog_11_method_8_code 65 = .ok (.iload 6, 2) := by decide +kernel
theorem d_Mo_ripemd_67 : decode prog_11_method_8_code 67 = .ok (.bipush 8, 2) := by decide +kernel
theorem d_Mo_ripemd_69 : decode prog_11_method_8_code 69 = .ok (.if_icmp .ge 36, 3) := by decide +kernel
theorem d_Mo_ripemd_72 : decode prog_11_method_8_code 72 = .ok (.aload_n 0, 1) := by decide +kernel
theorem d_Mo_ripemd_73 : decode prog_11_method_8_code 73 = .ok (.getfield 30, 3) := by decide +kernel
theorem d_Mo_ripemd_76 : decode prog_11_method_8_code 76 = .ok (.iload 5, 2) := by decide +kernel
theorem d_Mo_ripemd_78 : decode prog_11_method_8_code 78 = .ok (.bipush 8, 2) := by decide +kernel
theorem d_Mo_ripemd_80 : decode prog_11_method_8_code 80 = .ok (.isub, 1) := by decide +kernel
theorem d_Mo_ripemd_81 : decode prog_11_method_8_code 81 = .ok (.iload 6, 2) := by decide +kernel
theorem d_Mo_ripemd_83 : decode prog_11_method_8_code 83 = .ok (.iadd, 1) := by decide +kernel
theorem d_Mo_ripemd_84 : decode prog_11_method_8_code 84 = .ok (.ldc2_w 54, 3) := by decide +kernel
theorem d_Mo_ripemd_87 : decode prog_11_method_8_code 87 = .ok (.iload_n 3, 1) := by decide +kernel
theorem d_Mo_ripemd_88 : decode prog_11_method_8_code 88 = .ok (.i2l, 1) := by decide +kernel
theorem d_Mo_ripemd_89 : decode prog_11_method_8_code 89 = .ok (.lmul, 1) := by decide +kernel
theorem d_Mo_ripemd_90 : decode prog_11_method_8_code 90 = .ok (.bipush 8, 2) := by decide +kernel
theorem d_Mo_ripemd_92 : decode prog_11_method_8_code 92 = .ok (.iload 6, 2) := by decide +kernel
theorem d_Mo_ripemd_94 : decode prog_11_method_8_code 94 = .ok (.imul, 1) := by decide +kernel
theorem d_Mo_ripemd_95 : decode prog_11_method_8_code 95 = .ok (.lshr, 1) := by decide +kernel
theorem d_Mo_ripemd_96 : decode prog_11_method_8_code 96 = .ok (.l2i, 1) := by decide +kernel
theorem d_Mo_ripemd_97 : decode prog_11_method_8_code 97 = .ok (.i2b, 1) := by decide +kernel
theorem d_Mo_ripemd_98 : decode prog_11_method_8_code 98 = .ok (.bastore, 1) := by decide +kernel
theorem d_Mo_ripemd_99 : decode prog_11_method_8_code 99 = .ok (.iinc 6 1, 3) := by decide +kernel
theorem d_Mo_ripemd_102 : decode prog_11_method_8_code 102 = .ok (.goto (-37), 3) := by decide +kernel
theorem d_Mo_ripemd_105 : decode prog_11_method_8_code 105 = .ok (.ldc 70, 2) := by decide +kernel
theorem d_Mo_ripemd_107 : decode prog_11_method_8_code 107 = .ok (.istore 6, 2) := by decide +kernel
theorem d_Mo_ripemd_109 : decode prog_11_method_8_code 109 = .ok (.ldc 71, 2) := by decide +kernel
theorem d_Mo_ripemd_111 : decode prog_11_method_8_code 111 = .ok (.istore 7, 2) := by decide +kernel
theorem d_Mo_ripemd_113 : decode prog_11_method_8_code 113 = .ok (.ldc 72, 2) := by decide +kernel
theorem d_Mo_ripemd_115 : decode prog_11_method_8_code 115 = .ok (.istore 8, 2) := by decide +kernel
theorem d_Mo_ripemd_117 : decode prog_11_method_8_code 117 = .ok (.ldc 73, 2) := by decide +kernel
theorem d_Mo_ripemd_119 : decode prog_11_method_8_code 119 = .ok (.istore 9, 2) := by decide +kernel
theorem d_Mo_ripemd_121 : decode prog_11_method_8_code 121 = .ok (.ldc 74, 2) := by decide +kernel
theorem d_Mo_ripemd_123 : decode prog_11_method_8_code 123 = .ok (.istore 10, 2) := by decide +kernel
theorem d_Mo_ripemd_125 : decode prog_11_method_8_code 125 = .ok (.iconst 0, 1) := by decide +kernel
theorem d_Mo_ripemd_126 : decode prog_11_method_8_code 126 = .ok (.istore 11, 2) := by decide +kernel
theorem d_Mo_ripemd_128 : decode prog_11_method_8_code 128 = .ok (.iload 11, 2) := by decide +kernel
theorem d_Mo_ripemd_130 : decode prog_11_method_8_code 130 = .ok (.iload 4, 2) := by decide +kernel
theorem d_Mo_ripemd_132 : decode prog_11_method_8_code 132 = .ok (.if_icmp .ge 330, 3) := by decide +kernel
theorem d_Mo_ripemd_135 : decode prog_11_method_8_code 135 = .ok (.iload 6, 2) := by decide +kernel
theorem d_Mo_ripemd_137 : decode prog_11_method_8_code 137 = .ok (.istore 12, 2) := by decide +kernel
theorem d_Mo_ripemd_139 : decode prog_11_method_8_code 139 = .ok (.iload 7, 2) := by decide +kernel
theorem d_Mo_ripemd_141 : decode prog_11_method_8_code 141 = .ok (.istore 13, 2) := by decide +kernel
theorem d_Mo_ripemd_143 : decode prog_11_method_8_code 143 = .ok (.iload 8, 2) := by decide +kernel
theorem d_Mo_ripemd_145 : decode prog_11_method_8_code 145 = .ok (.istore 14, 2) := by decide +kernel
theorem d_Mo_ripemd_147 : decode prog_11_method_8_code 147 = .ok (.iload 9, 2) := by decide +kernel
theorem d_Mo_ripemd_149 : decode prog_11_method_8_code 149 = .ok (.istore 15, 2) := by decide +kernel
theorem d_Mo_ripemd_151 : decode prog_11_method_8_code 151 = .ok (.iload 10, 2) := by decide +kernel
theorem d_Mo_ripemd_153 : decode prog_11_method_8_code 153 = .ok (.istore 16, 2) := by decide +kernel
theorem d_Mo_ripemd_155 : decode prog_11_method_8_code 155 = .ok (.iload 6, 2) := by decide +kernel
theorem d_Mo_ripemd_157 : decode prog_11_method_8_code 157 = .ok (.istore 17, 2) := by decide +kernel
theorem d_Mo_ripemd_159 : decode prog_11_method_8_code 159 = .ok (.iload 7, 2) := by decide +kernel
theorem d_Mo_ripemd_161 : decode prog_11_method_8_code 161 = .ok (.istore 18, 2) := by decide +kernel
theorem d_Mo_ripemd_163 : decode prog_11_method_8_code 163 = .ok (.iload 8, 2) := by decide +kernel
theorem d_Mo_ripemd_165 : decode prog_11_method_8_code 165 = .ok (.istore 19, 2) := by decide +kernel
theorem d_Mo_ripemd_167 : decode prog_11_method_8_code 167 = .ok (.iload 9, 2) := by decide +kernel
theorem d_Mo_ripemd_169 : decode prog_11_method_8_code 169 = .ok (.istore 20, 2) := by decide +kernel
theorem d_Mo_ripemd_171 : decode prog_11_method_8_code 171 = .ok (.iload 10, 2) := by decide +kernel
theorem d_Mo_ripemd_173 : decode prog_11_method_8_code 173 = .ok (.istore 21, 2) := by decide +kernel
theorem d_Mo_ripemd_175 : decode prog_11_method_8_code 175 = .ok (.iconst 0, 1) := by decide +kernel
theorem d_Mo_ripemd_176 : decode prog_11_method_8_code 176 = .ok (.istore 22, 2) := by decide +kernel
theorem d_Mo_ripemd_178 : decode prog_11_method_8_code 178 = .ok (.iload 22, 2) := by decide +kernel
theorem d_Mo_ripemd_180 : decode prog_11_method_8_code 180 = .ok (.bipush 80, 2) := by decide +kernel
theorem d_Mo_ripemd_182 : decode prog_11_method_8_code 182 = .ok (.if_icmp .ge 220, 3) := by decide +kernel
theorem d_Mo_ripemd_185 : decode prog_11_method_8_code 185 = .ok (.iload 22, 2) := by decide +kernel
theorem d_Mo_ripemd_187 : decode prog_11_method_8_code 187 = .ok (.bipush 16, 2) := by decide +kernel
theorem d_Mo_ripemd_189 : decode prog_11_method_8_code 189 = .ok (.idiv, 1) := by decide +kernel
theorem d_Mo_ripemd_190 : decode prog_11_method_8_code 190 = .ok (.istore 23, 2) := by decide +kernel
theorem d_Mo_ripemd_192 : decode prog_11_method_8_code 192 = .ok (.iload 12, 2) := by decide +kernel
theorem d_Mo_ripemd_194 : decode prog_11_method_8_code 194 = .ok (.iload 23, 2) := by decide +kernel
theorem d_Mo_ripemd_196 : decode prog_11_method_8_code 196 = .ok (.iload 13, 2) := by decide +kernel
theorem d_Mo_ripemd_198 : decode prog_11_method_8_code 198 = .ok (.iload 14, 2) := by decide +kernel
theorem d_Mo_ripemd_200 : decode prog_11_method_8_code 200 = .ok (.iload 15, 2) := by decide +kernel
theorem d_Mo_ripemd_202 : decode prog_11_method_8_code 202 = .ok (.invokestatic 75, 3) := by decide +kernel
theorem d_Mo_ripemd_205 : decode prog_11_method_8_code 205 = .ok (.iadd, 1) := by decide +kernel
theorem d_Mo_ripemd_206 : decode prog_11_method_8_code 206 = .ok (.aload_n 0, 1) := by decide +kernel
theorem d_Mo_ripemd_207 : decode prog_11_method_8_code 207 = .ok (.getfield 30, 3) := by decide +kernel
theorem d_Mo_ripemd_210 : decode prog_11_method_8_code 210 = .ok (.bipush 64, 2) := by decide +kernel
theorem d_Mo_ripemd_212 : decode prog_11_method_8_code 212 = .ok (.iload 11, 2) := by decide +kernel
theorem d_Mo_ripemd_214 : decode prog_11_method_8_code 214 = .ok (.imul, 1) := by decide +kernel
theorem d_Mo_ripemd_215 : decode prog_11_method_8_code 215 = .ok (.iconst 4, 1) := by decide +kernel
theorem d_Mo_ripemd_216 : decode prog_11_method_8_code 216 = .ok (.getstatic 79, 3) := by decide +kernel
theorem d_Mo_ripemd_219 : decode prog_11_method_8_code 219 = .ok (.iload 22, 2) := by decide +kernel
theorem d_Mo_ripemd_221 : decode prog_11_method_8_code 221 = .ok (.iaload, 1) := by decide +kernel
theorem d_Mo_ripemd_222 : decode prog_11_method_8_code 222 = .ok (.imul, 1) := by decide +kernel
theorem d_Mo_ripemd_223 : decode prog_11_method_8_code 223 = .ok (.iadd, 1) := by decide +kernel
theorem d_Mo_ripemd_224 : decode prog_11_method_8_code 224 = .ok (.invokestatic 82, 3) := by decide +kernel
theorem d_Mo_ripemd_227 : decode prog_11_method_8_code 227 = .ok (.iadd, 1) := by decide +kernel
theorem d_Mo_ripemd_228 : decode prog_11_method_8_code 228 = .ok (.getstatic 85, 3) := by decide +kernel
theorem d_Mo_ripemd_231 : decode prog_11_method_8_code 231 = .ok (.iload 23, 2) := by decide +kernel
theorem d_Mo_ripemd_233 : decode prog_11_method_8_code 233 = .ok (.iaload, 1) := by decide +kernel
theorem d_Mo_ripemd_234 : decode prog_11_method_8_code 234 = .ok (.iadd, 1) := by decide +kernel
theorem d_Mo_ripemd_235 : decode prog_11_method_8_code 235 = .ok (.istore 24, 2) := by decide +kernel
theorem d_Mo_ripemd_237 : decode prog_11_method_8_code 237 = .ok (.iload 24, 2) := by decide +kernel
theorem d_Mo_ripemd_239 : decode prog_11_method_8_code 239 = .ok (.getstatic 88, 3) := by decide +kernel
theorem d_Mo_ripemd_242 : decode prog_11_method_8_code 242 = .ok (.iload 22, 2) := by decide +kernel
theorem d_Mo_ripemd_244 : decode prog_11_method_8_code 244 = .ok (.iaload, 1) := by decide +kernel
theorem d_Mo_ripemd_245 : decode prog_11_method_8_code 245 = .ok (.ishl, 1) := by decide +kernel
theorem d_Mo_ripemd_246 : decode prog_11_method_8_code 246 = .ok (.iload 24, 2) := by decide +kernel
theorem d_Mo_ripemd_248 : decode prog_11_method_8_code 248 = .ok (.bipush 32, 2) := by decide +kernel
theorem d_Mo_ripemd_250 : decode prog_11_method_8_code 250 = .ok (.getstatic 88, 3) := by decide +kernel
theorem d_Mo_ripemd_253 : decode prog_11_method_8_code 253 = .ok (.iload 22, 2) := by decide +kernel
theorem d_Mo_ripemd_255 : decode prog_11_method_8_code 255 = .ok (.iaload, 1) := by decide +kernel
theorem d_Mo_ripemd_256 : decode prog_11_method_8_code 256 = .ok (.isub, 1) := by decide +kernel
theorem d_Mo_ripemd_257 : decode prog_11_method_8_code 257 = .ok (.iushr, 1) := by decide +kernel
theorem d_Mo_ripemd_258 : decode prog_11_method_8_code 258 = .ok (.ior, 1) := by decide +kernel
theorem d_Mo_ripemd_259 : decode prog_11_method_8_code 259 = .ok (.iload 16, 2) := by decide +kernel
theorem d_Mo_ripemd_261 : decode prog_11_method_8_code 261 = .ok (.iadd, 1) := by decide +kernel
theorem d_Mo_ripemd_262 : decode prog_11_method_8_code 262 = .ok (.istore 24, 2) := by decide +kernel
theorem d_Mo_ripemd_264 : decode prog_11_method_8_code 264 = .ok (.iload 16, 2) := by decide +kernel
theorem d_Mo_ripemd_266 : decode prog_11_method_8_code 266 = .ok (.istore 12, 2) := by decide +kernel
theorem d_Mo_ripemd_268 : decode prog_11_method_8_code 268 = .ok (.iload 15, 2) := by decide +kernel
theorem d_Mo_ripemd_270 : decode prog_11_method_8_code 270 = .ok (.istore 16, 2) := by decide +kernel
theorem d_Mo_ripemd_272 : decode prog_11_method_8_code 272 = .ok (.iload 14, 2) := by decide +kernel
theorem d_Mo_ripemd_274 : decode prog_11_method_8_code 274 = .ok (.bipush 10, 2) := by decide +kernel
theorem d_Mo_ripemd_276 : decode prog_11_method_8_code 276 = .ok (.ishl, 1) := by decide +kernel
theorem d_Mo_ripemd_277 : decode prog_11_method_8_code 277 = .ok (.iload 14, 2) := by decide +kernel
theorem d_Mo_ripemd_279 : decode prog_11_method_8_code 279 = .ok (.bipush 22, 2) := by decide +kernel
theorem d_Mo_ripemd_281 : decode prog_11_method_8_code 281 = .ok (.iushr, 1) := by decide +kernel
theorem d_Mo_ripemd_282 : decode prog_11_method_8_code 282 = .ok (.ior, 1) := by decide +kernel
theorem d_Mo_ripemd_283 : decode prog_11_method_8_code 283 = .ok (.istore 15, 2) := by decide +kernel
theorem d_Mo_ripemd_285 : decode prog_11_method_8_code 285 = .ok (.iload 13, 2) := by decide +kernel
theorem d_Mo_ripemd_287 : decode prog_11_method_8_code 287 = .ok (.istore 14, 2) := by decide +kernel
theorem d_Mo_ripemd_289 : decode prog_11_method_8_code 289 = .ok (.iload 24, 2) := by decide +kernel
theorem d_Mo_ripemd_291 : decode prog_11_method_8_code 291 = .ok (.istore 13, 2) := by decide +kernel
theorem d_Mo_ripemd_293 : decode prog_11_method_8_code 293 = .ok (.iload 17, 2) := by decide +kernel
theorem d_Mo_ripemd_295 : decode prog_11_method_8_code 295 = .ok (.iconst 4, 1) := by decide +kernel
theorem d_Mo_ripemd_296 : decode prog_11_method_8_code 296 = .ok (.iload 23, 2) := by decide +kernel
theorem d_Mo_ripemd_298 : decode prog_11_method_8_code 298 = .ok (.isub, 1) := by decide +kernel
theorem d_Mo_ripemd_299 : decode prog_11_method_8_code 299 = .ok (.iload 18, 2) := by decide +kernel
theorem d_Mo_ripemd_301 : decode prog_11_method_8_code 301 = .ok (.iload 19, 2) := by decide +kernel
theorem d_Mo_ripemd_303 : decode prog_11_method_8_code 303 = .ok (.iload 20, 2) := by decide +kernel
theorem d_Mo_ripemd_305 : decode prog_11_method_8_code 305 = .ok (.invokestatic 75, 3) := by decide +kernel
theorem d_Mo_ripemd_308 : decode prog_11_method_8_code 308 = .ok (.iadd, 1) := by decide +kernel
theorem d_Mo_ripemd_309 : decode prog_11_method_8_code 309 = .ok (.aload_n 0, 1) := by decide +kernel
theorem d_Mo_ripemd_310 : decode prog_11_method_8_code 310 = .ok (.getfield 30, 3) := by decide +kernel
theorem d_Mo_ripemd_313 : decode prog_11_method_8_code 313 = .ok (.bipush 64, 2) := by decide +kernel
theorem d_Mo_ripemd_315 : decode prog_11_method_8_code 315 = .ok (.iload 11, 2) := by decide +kernel
theorem d_Mo_ripemd_317 : decode prog_11_method_8_code 317 = .ok (.imul, 1) := by decide +kernel
theorem d_Mo_ripemd_318 : decode prog_11_method_8_code 318 = .ok (.iconst 4, 1) := by decide +kernel
theorem d_Mo_ripemd_319 : decode prog_11_method_8_code 319 = .ok (.getstatic 91, 3) := by decide +kernel
theorem d_Mo_ripemd_322 : decode prog_11_method_8_code 322 = .ok (.iload 22, 2) := by decide +kernel
theorem d_Mo_ripemd_324 : decode prog_11_method_8_code 324 = .ok (.iaload, 1) := by decide +kernel
theorem d_Mo_ripemd_325 : decode prog_11_method_8_code 325 = .ok (.imul, 1) := by decide +kernel
theorem d_Mo_ripemd_326 : decode prog_11_method_8_code 326 = .ok (.iadd, 1) := by decide +kernel
theorem d_Mo_ripemd_327 : decode prog_11_method_8_code 327 = .ok (.invokestatic 82, 3) := by decide +kernel
theorem d_Mo_ripemd_330 : decode prog_11_method_8_code 330 = .ok (.iadd, 1) := by decide +kernel
theorem d_Mo_ripemd_331 : decode prog_11_method_8_code 331 = .ok (.getstatic 94, 3) := by decide +kernel
theorem d_Mo_ripemd_334 : decode prog_11_method_8_code 334 = .ok (.iload 23, 2) := by decide +kernel
theorem d_Mo_ripemd_336 : decode prog_11_method_8_code 336 = .ok (.iaload, 1) := by decide +kernel
theorem d_Mo_ripemd_337 : decode prog_11_method_8_code 337 = .ok (.iadd, 1) := by decide +kernel
theorem d_Mo_ripemd_338 : decode prog_11_method_8_code 338 = .ok (.istore 24, 2) := by decide +kernel
theorem d_Mo_ripemd_340 : decode prog_11_method_8_code 340 = .ok (.iload 24, 2) := by decide +kernel
theorem d_Mo_ripemd_342 : decode prog_11_method_8_code 342 = .ok (.getstatic 97, 3) := by decide +kernel
theorem d_Mo_ripemd_345 : decode prog_11_method_8_code 345 = .ok (.iload 22, 2) := by decide +kernel
theorem d_Mo_ripemd_347 : decode prog_11_method_8_code 347 = .ok (.iaload, 1) := by decide +kernel
theorem d_Mo_ripemd_348 : decode prog_11_method_8_code 348 = .ok (.ishl, 1) := by decide +kernel
theorem d_Mo_ripemd_349 : decode prog_11_method_8_code 349 = .ok (.iload 24, 2) := by decide +kernel
theorem d_Mo_ripemd_351 : decode prog_11_method_8_code 351 = .ok (.bipush 32, 2) := by decide +kernel
theorem d_Mo_ripemd_353 : decode prog_11_method_8_code 353 = .ok (.getstatic 97, 3) := by decide +kernel
theorem d_Mo_ripemd_356 : decode prog_11_method_8_code 356 = .ok (.iload 22, 2) := by decide +kernel
theorem d_Mo_ripemd_358 : decode prog_11_method_8_code 358 = .ok (.iaload, 1) := by decide +kernel
theorem d_Mo_ripemd_359 : decode prog_11_method_8_code 359 = .ok (.isub, 1) := by decide +kernel
theorem d_Mo_ripemd_360 : decode prog_11_method_8_code 360 = .ok (.iushr, 1) := by decide +kernel
theorem d_Mo_ripemd_361 : decode prog_11_method_8_code 361 = .ok (.ior, 1) := by decide +kernel
theorem d_Mo_ripemd_362 : decode prog_11_method_8_code 362 = .ok (.iload 21, 2) := by decide +kernel
theorem d_Mo_ripemd_364 : decode prog_11_method_8_code 364 = .ok (.iadd, 1) := by decide +kernel
theorem d_Mo_ripemd_365 : decode prog_11_method_8_code 365 = .ok (.istore 24, 2) := by decide +kernel
theorem d_Mo_ripemd_367 : decode prog_11_method_8_code 367 = .ok (.iload 21, 2) := by decide +kernel
theorem d_Mo_ripemd_369 : decode prog_11_method_8_code 369 = .ok (.istore 17, 2) := by decide +kernel
theorem d_Mo_ripemd_371 : decode prog_11_method_8_code 371 = .ok (.iload 20, 2) := by decide +kernel
theorem d_Mo_ripemd_373 : decode prog_11_method_8_code 373 = .ok (.istore 21, 2) := by decide +kernel
theorem d_Mo_ripemd_375 : decode prog_11_method_8_code 375 = .ok (.iload 19, 2) := by decide +kernel
theorem d_Mo_ripemd_377 : decode prog_11_method_8_code 377 = .ok (.bipush 10, 2) := by decide +kernel
theorem d_Mo_ripemd_379 : decode prog_11_method_8_code 379 = .ok (.ishl, 1) := by decide +kernel
theorem d_Mo_ripemd_380 : decode prog_11_method_8_code 380 = .ok (.iload 19, 2) := by decide +kernel
theorem d_Mo_ripemd_382 : decode prog_11_method_8_code 382 = .ok (.bipush 22, 2) := by decide +kernel
theorem d_Mo_ripemd_384 : decode prog_11_method_8_code 384 = .ok (.iushr, 1) := by decide +kernel
theorem d_Mo_ripemd_385 : decode prog_11_method_8_code 385 = .ok (.ior, 1) := by decide +kernel
theorem d_Mo_ripemd_386 : decode prog_11_method_8_code 386 = .ok (.istore 20, 2) := by decide +kernel
theorem d_Mo_ripemd_388 : decode prog_11_method_8_code 388 = .ok (.iload 18, 2) := by decide +kernel
theorem d_Mo_ripemd_390 : decode prog_11_method_8_code 390 = .ok (.istore 19, 2) := by decide +kernel
theorem d_Mo_ripemd_392 : decode prog_11_method_8_code 392 = .ok (.iload 24, 2) := by decide +kernel
theorem d_Mo_ripemd_394 : decode prog_11_method_8_code 394 = .ok (.istore 18, 2) := by decide +kernel
theorem d_Mo_ripemd_396 : decode prog_11_method_8_code 396 = .ok (.iinc 22 1, 3) := by decide +kernel
theorem d_Mo_ripemd_399 : decode prog_11_method_8_code 399 = .ok (.goto (-221), 3) := by decide +kernel
theorem d_Mo_ripemd_402 : decode prog_11_method_8_code 402 = .ok (.iload 7, 2) := by decide +kernel
theorem d_Mo_ripemd_404 : decode prog_11_method_8_code 404 = .ok (.iload 14, 2) := by decide +kernel
theorem d_Mo_ripemd_406 : decode prog_11_method_8_code 406 = .ok (.iadd, 1) := by decide +kernel
theorem d_Mo_ripemd_407 : decode prog_11_method_8_code 407 = .ok (.iload 20, 2) := by decide +kernel
theorem d_Mo_ripemd_409 : decode prog_11_method_8_code 409 = .ok (.iadd, 1) := by decide +kernel
theorem d_Mo_ripemd_410 : decode prog_11_method_8_code 410 = .ok (.istore 22, 2) := by decide +kernel
theorem d_Mo_ripemd_412 : decode prog_11_method_8_code 412 = .ok (.iload 8, 2) := by decide +kernel
theorem d_Mo_ripemd_414 : decode prog_11_method_8_code 414 = .ok (.iload 15, 2) := by decide +kernel
theorem d_Mo_ripemd_416 : decode prog_11_method_8_code 416 = .ok (.iadd, 1) := by decide +kernel
theorem d_Mo_ripemd_417 : decode prog_11_method_8_code 417 = .ok (.iload 21, 2) := by decide +kernel
theorem d_Mo_ripemd_419 : decode prog_11_method_8_code 419 = .ok (.iadd, 1) := by decide +kernel
theorem d_Mo_ripemd_420 : decode prog_11_method_8_code 420 = .ok (.istore 7, 2) := by decide +kernel
theorem d_Mo_ripemd_422 : decode prog_11_method_8_code 422 = .ok (.iload 9, 2) := by decide +kernel
theorem d_Mo_ripemd_424 : decode prog_11_method_8_code 424 = .ok (.iload 16, 2) := by decide +kernel
theorem d_Mo_ripemd_426 : decode prog_11_method_8_code 426 = .ok (.iadd, 1) := by decide +kernel
theorem d_Mo_ripemd_427 : decode prog_11_method_8_code 427 = .ok (.iload 17, 2) := by decide +kernel
theorem d_Mo_ripemd_429 : decode prog_11_method_8_code 429 = .ok (.iadd, 1) := by decide +kernel
theorem d_Mo_ripemd_430 : decode prog_11_method_8_code 430 = .ok (.istore 8, 2) := by decide +kernel
theorem d_Mo_ripemd_432 : decode prog_11_method_8_code 432 = .ok (.iload 10, 2) := by decide +kernel
theorem d_Mo_ripemd_434 : decode prog_11_method_8_code 434 = .ok (.iload 12, 2) := by decide +kernel
theorem d_Mo_ripemd_436 : decode prog_11_method_8_code 436 = .ok (.iadd, 1) := by decide +kernel
theorem d_Mo_ripemd_437 : decode prog_11_method_8_code 437 = .ok (.iload 18, 2) := by decide +kernel
theorem d_Mo_ripemd_439 : decode prog_11_method_8_code 439 = .ok (.iadd, 1) := by decide +kernel
theorem d_Mo_ripemd_440 : decode prog_11_method_8_code 440 = .ok (.istore 9, 2) := by decide +kernel
theorem d_Mo_ripemd_442 : decode prog_11_method_8_code 442 = .ok (.iload 6, 2) := by decide +kernel
theorem d_Mo_ripemd_444 : decode prog_11_method_8_code 444 = .ok (.iload 13, 2) := by decide +kernel
theorem d_Mo_ripemd_446 : decode prog_11_method_8_code 446 = .ok (.iadd, 1) := by decide +kernel
theorem d_Mo_ripemd_447 : decode prog_11_method_8_code 447 = .ok (.iload 19, 2) := by decide +kernel
theorem d_Mo_ripemd_449 : decode prog_11_method_8_code 449 = .ok (.iadd, 1) := by decide +kernel
theorem d_Mo_ripemd_450 : decode prog_11_method_8_code 450 = .ok (.istore 10, 2) := by decide +kernel
theorem d_Mo_ripemd_452 : decode prog_11_method_8_code 452 = .ok (.iload 22, 2) := by decide +kernel
theorem d_Mo_ripemd_454 : decode prog_11_method_8_code 454 = .ok (.istore 6, 2) := by decide +kernel
theorem d_Mo_ripemd_456 : decode prog_11_method_8_code 456 = .ok (.iinc 11 1, 3) := by decide +kernel
theorem d_Mo_ripemd_459 : decode prog_11_method_8_code 459 = .ok (.goto (-331), 3) := by decide +kernel
theorem d_Mo_ripemd_462 : decode prog_11_method_8_code 462 = .ok (.iconst 0, 1) := by decide +kernel
theorem d_Mo_ripemd_463 : decode prog_11_method_8_code 463 = .ok (.istore 11, 2) := by decide +kernel
theorem d_Mo_ripemd_465 : decode prog_11_method_8_code 465 = .ok (.iload 11, 2) := by decide +kernel
theorem d_Mo_ripemd_467 : decode prog_11_method_8_code 467 = .ok (.bipush 20, 2) := by decide +kernel
theorem d_Mo_ripemd_469 : decode prog_11_method_8_code 469 = .ok (.if_icmp .ge 74, 3) := by decide +kernel
theorem d_Mo_ripemd_472 : decode prog_11_method_8_code 472 = .ok (.aload_n 0, 1) := by decide +kernel
theorem d_Mo_ripemd_473 : decode prog_11_method_8_code 473 = .ok (.getfield 27, 3) := by decide +kernel
theorem d_Mo_ripemd_476 : decode prog_11_method_8_code 476 = .ok (.iload 11, 2) := by decide +kernel
theorem d_Mo_ripemd_478 : decode prog_11_method_8_code 478 = .ok (.iload 11, 2) := by decide +kernel
theorem d_Mo_ripemd_480 : decode prog_11_method_8_code 480 = .ok (.iconst 4, 1) := by decide +kernel
theorem d_Mo_ripemd_481 : decode prog_11_method_8_code 481 = .ok (.if_icmp .ge 8, 3) := by decide +kernel
theorem d_Mo_ripemd_484 : decode prog_11_method_8_code 484 = .ok (.iload 6, 2) := by decide +kernel
theorem d_Mo_ripemd_486 : decode prog_11_method_8_code 486 = .ok (.goto 41, 3) := by decide +kernel
theorem d_Mo_ripemd_489 : decode prog_11_method_8_code 489 = .ok (.iload 11, 2) := by decide +kernel
theorem d_Mo_ripemd_491 : decode prog_11_method_8_code 491 = .ok (.bipush 8, 2) := by decide +kernel
theorem d_Mo_ripemd_493 : decode prog_11_method_8_code 493 = .ok (.if_icmp .ge 8, 3) := by decide +kernel
theorem d_Mo_ripemd_496 : decode prog_11_method_8_code 496 = .ok (.iload 7, 2) := by decide +kernel
theorem d_Mo_ripemd_498 : decode prog_11_method_8_code 498 = .ok (.goto 29, 3) := by decide +kernel
theorem d_Mo_ripemd_501 : decode prog_11_method_8_code 501 = .ok (.iload 11, 2) := by decide +kernel
theorem d_Mo_ripemd_503 : decode prog_11_method_8_code 503 = .ok (.bipush 12, 2) := by decide +kernel
theorem d_Mo_ripemd_505 : decode prog_11_method_8_code 505 = .ok (.if_icmp .ge 8, 3) := by decide +kernel
theorem d_Mo_ripemd_508 : decode prog_11_method_8_code 508 = .ok (.iload 8, 2) := by decide +kernel
theorem d_Mo_ripemd_510 : decode prog_11_method_8_code 510 = .ok (.goto 17, 3) := by decide +kernel
theorem d_Mo_ripemd_513 : decode prog_11_method_8_code 513 = .ok (.iload 11, 2) := by decide +kernel
theorem d_Mo_ripemd_515 : decode prog_11_method_8_code 515 = .ok (.bipush 16, 2) := by decide +kernel
theorem d_Mo_ripemd_517 : decode prog_11_method_8_code 517 = .ok (.if_icmp .ge 8, 3) := by decide +kernel
theorem d_Mo_ripemd_520 : decode prog_11_method_8_code 520 = .ok (.iload 9, 2) := by decide +kernel
theorem d_Mo_ripemd_522 : decode prog_11_method_8_code 522 = .ok (.goto 5, 3) := by decide +kernel
theorem d_Mo_ripemd_525 : decode prog_11_method_8_code 525 = .ok (.iload 10, 2) := by decide +kernel
theorem d_Mo_ripemd_527 : decode prog_11_method_8_code 527 = .ok (.bipush 8, 2) := by decide +kernel
theorem d_Mo_ripemd_529 : decode prog_11_method_8_code 529 = .ok (.iload 11, 2) := by decide +kernel
theorem d_Mo_ripemd_531 : decode prog_11_method_8_code 531 = .ok (.iconst 4, 1) := by decide +kernel
theorem d_Mo_ripemd_532 : decode prog_11_method_8_code 532 = .ok (.irem, 1) := by decide +kernel
theorem d_Mo_ripemd_533 : decode prog_11_method_8_code 533 = .ok (.imul, 1) := by decide +kernel
theorem d_Mo_ripemd_534 : decode prog_11_method_8_code 534 = .ok (.ishr, 1) := by decide +kernel
theorem d_Mo_ripemd_535 : decode prog_11_method_8_code 535 = .ok (.i2b, 1) := by decide +kernel
theorem d_Mo_ripemd_536 : decode prog_11_method_8_code 536 = .ok (.bastore, 1) := by decide +kernel
theorem d_Mo_ripemd_537 : decode prog_11_method_8_code 537 = .ok (.iinc 11 1, 3) := by decide +kernel
theorem d_Mo_ripemd_540 : decode prog_11_method_8_code 540 = .ok (.goto (-75), 3) := by decide +kernel
theorem d_Mo_ripemd_543 : decode prog_11_method_8_code 543 = .ok (.return_, 1) := by decide +kernel
theorem d_Mo_mix_0 : decode prog_11_method_7_code 0 = .ok (.iload_n 0, 1) := by decide +kernel
theorem d_Mo_mix_1 : decode prog_11_method_7_code 1 = .ok (.tableswitch 65 0 3 #[31, 37, 47, 55], 31) := by decide +kernel
theorem d_Mo_mix_32 : decode prog_11_method_7_code 32 = .ok (.iload_n 1, 1) := by decide +kernel
theorem d_Mo_mix_33 : decode prog_11_method_7_code 33 = .ok (.iload_n 2, 1) := by decide +kernel
theorem d_Mo_mix_34 : decode prog_11_method_7_code 34 = .ok (.ixor, 1) := by decide +kernel
theorem d_Mo_mix_35 : decode prog_11_method_7_code 35 = .ok (.iload_n 3, 1) := by decide +kernel
theorem d_Mo_mix_36 : decode prog_11_method_7_code 36 = .ok (.ixor, 1) := by decide +kernel
theorem d_Mo_mix_37 : decode prog_11_method_7_code 37 = .ok (.ireturn, 1) := by decide +kernel
theorem d_Mo_mix_38 : decode prog_11_method_7_code 38 = .ok (.iload_n 1, 1) := by decide +kernel
theorem d_Mo_mix_39 : decode prog_11_method_7_code 39 = .ok (.iload_n 2, 1) := by decide +kernel
theorem d_Mo_mix_40 : decode prog_11_method_7_code 40 = .ok (.iand, 1) := by decide +kernel
theorem d_Mo_mix_41 : decode prog_11_method_7_code 41 = .ok (.iload_n 1, 1) := by decide +kernel
theorem d_Mo_mix_42 : decode prog_11_method_7_code 42 = .ok (.iconst (-1), 1) := by decide +kernel
theorem d_Mo_mix_43 : decode prog_11_method_7_code 43 = .ok (.ixor, 1) := by decide +kernel
theorem d_Mo_mix_44 : decode prog_11_method_7_code 44 = .ok (.iload_n 3, 1) := by decide +kernel
theorem d_Mo_mix_45 : decode prog_11_method_7_code 45 = .ok (.iand, 1) := by decide +kernel
theorem d_Mo_mix_46 : decode prog_11_method_7_code 46 = .ok (.ior, 1) := by decide +kernel
theorem d_Mo_mix_47 : decode prog_11_method_7_code 47 = .ok (.ireturn, 1) := by decide +kernel
theorem d_Mo_mix_48 : decode prog_11_method_7_code 48 = .ok (.iload_n 1, 1) := by decide +kernel
theorem d_Mo_mix_49 : decode prog_11_method_7_code 49 = .ok (.iload_n 2, 1) := by decide +kernel
theorem d_Mo_mix_50 : decode prog_11_method_7_code 50 = .ok (.iconst (-1), 1) := by decide +kernel
theorem d_Mo_mix_51 : decode prog_11_method_7_code 51 = .ok (.ixor, 1) := by decide +kernel
theorem d_Mo_mix_52 : decode prog_11_method_7_code 52 = .ok (.ior, 1) := by decide +kernel
theorem d_Mo_mix_53 : decode prog_11_method_7_code 53 = .ok (.iload_n 3, 1) := by decide +kernel
theorem d_Mo_mix_54 : decode prog_11_method_7_code 54 = .ok (.ixor, 1) := by decide +kernel
theorem d_Mo_mix_55 : decode prog_11_method_7_code 55 = .ok (.ireturn, 1) := by decide +kernel
theorem d_Mo_mix_56 : decode prog_11_method_7_code 56 = .ok (.iload_n 1, 1) := by decide +kernel
theorem d_Mo_mix_57 : decode prog_11_method_7_code 57 = .ok (.iload_n 3, 1) := by decide +kernel
theorem d_Mo_mix_58 : decode prog_11_method_7_code 58 = .ok (.iand, 1) := by decide +kernel
theorem d_Mo_mix_59 : decode prog_11_method_7_code 59 = .ok (.iload_n 2, 1) := by decide +kernel
theorem d_Mo_mix_60 : decode prog_11_method_7_code 60 = .ok (.iload_n 3, 1) := by decide +kernel
theorem d_Mo_mix_61 : decode prog_11_method_7_code 61 = .ok (.iconst (-1), 1) := by decide +kernel
theorem d_Mo_mix_62 : decode prog_11_method_7_code 62 = .ok (.ixor, 1) := by decide +kernel
theorem d_Mo_mix_63 : decode prog_11_method_7_code 63 = .ok (.iand, 1) := by decide +kernel
theorem d_Mo_mix_64 : decode prog_11_method_7_code 64 = .ok (.ior, 1) := by decide +kernel
theorem d_Mo_mix_65 : decode prog_11_method_7_code 65 = .ok (.ireturn, 1) := by decide +kernel
theorem d_Mo_mix_66 : decode prog_11_method_7_code 66 = .ok (.iload_n 1, 1) := by decide +kernel
theorem d_Mo_mix_67 : decode prog_11_method_7_code 67 = .ok (.iload_n 2, 1) := by decide +kernel
theorem d_Mo_mix_68 : decode prog_11_method_7_code 68 = .ok (.iload_n 3, 1) := by decide +kernel
theorem d_Mo_mix_69 : decode prog_11_method_7_code 69 = .ok (.iconst (-1), 1) := by decide +kernel
theorem d_Mo_mix_70 : decode prog_11_method_7_code 70 = .ok (.ixor, 1) := by decide +kernel
theorem d_Mo_mix_71 : decode prog_11_method_7_code 71 = .ok (.ior, 1) := by decide +kernel
theorem d_Mo_mix_72 : decode prog_11_method_7_code 72 = .ok (.ixor, 1) := by decide +kernel
theorem d_Mo_mix_73 : decode prog_11_method_7_code 73 = .ok (.ireturn, 1) := by decide +kernel
theorem d_Mo_small_0 : decode prog_11_method_6_code 0 = .ok (.aload_n 0, 1) := by decide +kernel
theorem d_Mo_small_1 : decode prog_11_method_6_code 1 = .ok (.iload_n 1, 1) := by decide +kernel
theorem d_Mo_small_2 : decode prog_11_method_6_code 2 = .ok (.baload, 1) := by decide +kernel
theorem d_Mo_small_3 : decode prog_11_method_6_code 3 = .ok (.sipush 255, 3) := by decide +kernel
theorem d_Mo_small_6 : decode prog_11_method_6_code 6 = .ok (.iand, 1) := by decide +kernel
theorem d_Mo_small_7 : decode prog_11_method_6_code 7 = .ok (.aload_n 0, 1) := by decide +kernel
theorem d_Mo_small_8 : decode prog_11_method_6_code 8 = .ok (.iload_n 1, 1) := by decide +kernel
theorem d_Mo_small_9 : decode prog_11_method_6_code 9 = .ok (.iconst 1, 1) := by decide +kernel
theorem d_Mo_small_10 : decode prog_11_method_6_code 10 = .ok (.iadd, 1) := by decide +kernel
theorem d_Mo_small_11 : decode prog_11_method_6_code 11 = .ok (.baload, 1) := by decide +kernel
theorem d_Mo_small_12 : decode prog_11_method_6_code 12 = .ok (.sipush 255, 3) := by decide +kernel
theorem d_Mo_small_15 : decode prog_11_method_6_code 15 = .ok (.iand, 1) := by decide +kernel
theorem d_Mo_small_16 : decode prog_11_method_6_code 16 = .ok (.bipush 8, 2) := by decide +kernel
theorem d_Mo_small_18 : decode prog_11_method_6_code 18 = .ok (.ishl, 1) := by decide +kernel
theorem d_Mo_small_19 : decode prog_11_method_6_code 19 = .ok (.ior, 1) := by decide +kernel
theorem d_Mo_small_20 : decode prog_11_method_6_code 20 = .ok (.aload_n 0, 1) := by decide +kernel
theorem d_Mo_small_21 : decode prog_11_method_6_code 21 = .ok (.iload_n 1, 1) := by decide +kernel
theorem d_Mo_small_22 : decode prog_11_method_6_code 22 = .ok (.iconst 2, 1) := by decide +kernel
theorem d_Mo_small_23 : decode prog_11_method_6_code 23 = .ok (.iadd, 1) := by decide +kernel
theorem d_Mo_small_24 : decode prog_11_method_6_code 24 = .ok (.baload, 1) := by decide +kernel
theorem d_Mo_small_25 : decode prog_11_method_6_code 25 = .ok (.sipush 255, 3) := by decide +kernel
theorem d_Mo_small_28 : decode prog_11_method_6_code 28 = .ok (.iand, 1) := by decide +kernel
theorem d_Mo_small_29 : decode prog_11_method_6_code 29 = .ok (.bipush 16, 2) := by decide +kernel
theorem d_Mo_small_31 : decode prog_11_method_6_code 31 = .ok (.ishl, 1) := by decide +kernel
theorem d_Mo_small_32 : decode prog_11_method_6_code 32 = .ok (.ior, 1) := by decide +kernel
theorem d_Mo_small_33 : decode prog_11_method_6_code 33 = .ok (.aload_n 0, 1) := by decide +kernel
theorem d_Mo_small_34 : decode prog_11_method_6_code 34 = .ok (.iload_n 1, 1) := by decide +kernel
theorem d_Mo_small_35 : decode prog_11_method_6_code 35 = .ok (.iconst 3, 1) := by decide +kernel
theorem d_Mo_small_36 : decode prog_11_method_6_code 36 = .ok (.iadd, 1) := by decide +kernel
theorem d_Mo_small_37 : decode prog_11_method_6_code 37 = .ok (.baload, 1) := by decide +kernel
theorem d_Mo_small_38 : decode prog_11_method_6_code 38 = .ok (.sipush 255, 3) := by decide +kernel
theorem d_Mo_small_41 : decode prog_11_method_6_code 41 = .ok (.iand, 1) := by decide +kernel
theorem d_Mo_small_42 : decode prog_11_method_6_code 42 = .ok (.bipush 24, 2) := by decide +kernel
theorem d_Mo_small_44 : decode prog_11_method_6_code 44 = .ok (.ishl, 1) := by decide +kernel
theorem d_Mo_small_45 : decode prog_11_method_6_code 45 = .ok (.ior, 1) := by decide +kernel
theorem d_Mo_small_46 : decode prog_11_method_6_code 46 = .ok (.ireturn, 1) := by decide +kernel
theorem d_Mo_sha_0 : decode prog_11_method_4_code 0 = .ok (.iload_n 3, 1) := by decide +kernel
theorem d_Mo_sha_1 : decode prog_11_method_4_code 1 = .ok (.bipush 9, 2) := by decide +kernel
theorem d_Mo_sha_3 : decode prog_11_method_4_code 3 = .ok (.iadd, 1) := by decide +kernel
theorem d_Mo_sha_4 : decode prog_11_method_4_code 4 = .ok (.bipush 63, 2) := by decide +kernel
theorem d_Mo_sha_6 : decode prog_11_method_4_code 6 = .ok (.iadd, 1) := by decide +kernel
theorem d_Mo_sha_7 : decode prog_11_method_4_code 7 = .ok (.bipush 64, 2) := by decide +kernel
theorem d_Mo_sha_9 : decode prog_11_method_4_code 9 = .ok (.idiv, 1) := by decide +kernel
theorem d_Mo_sha_10 : decode prog_11_method_4_code 10 = .ok (.istore 4, 2) := by decide +kernel
theorem d_Mo_sha_12 : decode prog_11_method_4_code 12 = .ok (.bipush 64, 2) := by decide +kernel
theorem d_Mo_sha_14 : decode prog_11_method_4_code 14 = .ok (.iload 4, 2) := by decide +kernel
theorem d_Mo_sha_16 : decode prog_11_method_4_code 16 = .ok (.imul, 1) := by decide +kernel
theorem d_Mo_sha_17 : decode prog_11_method_4_code 17 = .ok (.istore 5, 2) := by decide +kernel
theorem d_Mo_sha_19 : decode prog_11_method_4_code 19 = .ok (.aload_n 1, 1) := by decide +kernel
theorem d_Mo_sha_20 : decode prog_11_method_4_code 20 = .ok (.iload_n 2, 1) := by decide +kernel
theorem d_Mo_sha_21 : decode prog_11_method_4_code 21 = .ok (.aload_n 0, 1) := by decide +kernel
theorem d_Mo_sha_22 : decode prog_11_method_4_code 22 = .ok (.getfield 30, 3) := by decide +kernel
theorem d_Mo_sha_25 : decode prog_11_method_4_code 25 = .ok (.iconst 0, 1) := by decide +kernel
theorem d_Mo_sha_26 : decode prog_11_method_4_code 26 = .ok (.iload_n 3, 1) := by decide +kernel
theorem d_Mo_sha_27 : decode prog_11_method_4_code 27 = .ok (.invokestatic 48, 3) := by decide +kernel
theorem d_Mo_sha_30 : decode prog_11_method_4_code 30 = .ok (.iload_n 3, 1) := by decide +kernel
theorem d_Mo_sha_31 : decode prog_11_method_4_code 31 = .ok (.istore 6, 2) := by decide +kernel
theorem d_Mo_sha_33 : decode prog_11_method_4_code 33 = .ok (.iload 6, 2) := by decide +kernel
theorem d_Mo_sha_35 : decode prog_11_method_4_code 35 = .ok (.iload 5, 2) := by decide +kernel
theorem d_Mo_sha_37 : decode prog_11_method_4_code 37 = .ok (.if_icmp .ge 17, 3) := by decide +kernel
theorem d_Mo_sha_40 : decode prog_11_method_4_code 40 = .ok (.aload_n 0, 1) := by decide +kernel
theorem d_Mo_sha_41 : decode prog_11_method_4_code 41 = .ok (.getfield 30, 3) := by decide +kernel
theorem d_Mo_sha_44 : decode prog_11_method_4_code 44 = .ok (.iload 6, 2) := by decide +kernel
theorem d_Mo_sha_46 : decode prog_11_method_4_code 46 = .ok (.iconst 0, 1) := by decide +kernel
theorem d_Mo_sha_47 : decode prog_11_method_4_code 47 = .ok (.bastore, 1) := by decide +kernel
theorem d_Mo_sha_48 : decode prog_11_method_4_code 48 = .ok (.iinc 6 1, 3) := by decide +kernel
theorem d_Mo_sha_51 : decode prog_11_method_4_code 51 = .ok (.goto (-18), 3) := by decide +kernel
theorem d_Mo_sha_54 : decode prog_11_method_4_code 54 = .ok (.aload_n 0, 1) := by decide +kernel
theorem d_Mo_sha_55 : decode prog_11_method_4_code 55 = .ok (.getfield 30, 3) := by decide +kernel
theorem d_Mo_sha_58 : decode prog_11_method_4_code 58 = .ok (.iload_n 3, 1) := by decide +kernel
theorem d_Mo_sha_59 : decode prog_11_method_4_code 59 = .ok (.bipush (-128), 2) := by decide +kernel
theorem d_Mo_sha_61 : decode prog_11_method_4_code 61 = .ok (.bastore, 1) := by decide +kernel
theorem d_Mo_sha_62 : decode prog_11_method_4_code 62 = .ok (.iconst 0, 1) := by decide +kernel
theorem d_Mo_sha_63 : decode prog_11_method_4_code 63 = .ok (.istore 6, 2) := by decide +kernel
theorem d_Mo_sha_65 : decode prog_11_method_4_code 65 = .ok (.iload 6, 2) := by decide +kernel
theorem d_Mo_sha_67 : decode prog_11_method_4_code 67 = .ok (.bipush 8, 2) := by decide +kernel
theorem d_Mo_sha_69 : decode prog_11_method_4_code 69 = .ok (.if_icmp .ge 35, 3) := by decide +kernel
theorem d_Mo_sha_72 : decode prog_11_method_4_code 72 = .ok (.aload_n 0, 1) := by decide +kernel
theorem d_Mo_sha_73 : decode prog_11_method_4_code 73 = .ok (.getfield 30, 3) := by decide +kernel
theorem d_Mo_sha_76 : decode prog_11_method_4_code 76 = .ok (.iload 5, 2) := by decide +kernel
theorem d_Mo_sha_78 : decode prog_11_method_4_code 78 = .ok (.iconst 1, 1) := by decide +kernel
theorem d_Mo_sha_79 : decode prog_11_method_4_code 79 = .ok (.isub, 1) := by decide +kernel
theorem d_Mo_sha_80 : decode prog_11_method_4_code 80 = .ok (.iload 6, 2) := by decide +kernel
theorem d_Mo_sha_82 : decode prog_11_method_4_code 82 = .ok (.isub, 1) := by decide +kernel
theorem d_Mo_sha_83 : decode prog_11_method_4_code 83 = .ok (.ldc2_w 54, 3) := by decide +kernel
theorem d_Mo_sha_86 : decode prog_11_method_4_code 86 = .ok (.iload_n 3, 1) := by decide +kernel
theorem d_Mo_sha_87 : decode prog_11_method_4_code 87 = .ok (.i2l, 1) := by decide +kernel
theorem d_Mo_sha_88 : decode prog_11_method_4_code 88 = .ok (.lmul, 1) := by decide +kernel
theorem d_Mo_sha_89 : decode prog_11_method_4_code 89 = .ok (.bipush 8, 2) := by decide +kernel
theorem d_Mo_sha_91 : decode prog_11_method_4_code 91 = .ok (.iload 6, 2) := by decide +kernel
theorem d_Mo_sha_93 : decode prog_11_method_4_code 93 = .ok (.imul, 1) := by decide +kernel
theorem d_Mo_sha_94 : decode prog_11_method_4_code 94 = .ok (.lshr, 1) := by decide +kernel
theorem d_Mo_sha_95 : decode prog_11_method_4_code 95 = .ok (.l2i, 1) := by decide +kernel
theorem d_Mo_sha_96 : decode prog_11_method_4_code 96 = .ok (.i2b, 1) := by decide +kernel
theorem d_Mo_sha_97 : decode prog_11_method_4_code 97 = .ok (.bastore, 1) := by decide +kernel
theorem d_Mo_sha_98 : decode prog_11_method_4_code 98 = .ok (.iinc 6 1, 3) := by decide +kernel
theorem d_Mo_sha_101 : decode prog_11_method_4_code 101 = .ok (.goto (-36), 3) := by decide +kernel
theorem d_Mo_sha_104 : decode prog_11_method_4_code 104 = .ok (.getstatic 56, 3) := by decide +kernel
theorem d_Mo_sha_107 : decode prog_11_method_4_code 107 = .ok (.iconst 0, 1) := by decide +kernel
theorem d_Mo_sha_108 : decode prog_11_method_4_code 108 = .ok (.aload_n 0, 1) := by decide +kernel
theorem d_Mo_sha_109 : decode prog_11_method_4_code 109 = .ok (.getfield 21, 3) := by decide +kernel
theorem d_Mo_sha_112 : decode prog_11_method_4_code 112 = .ok (.iconst 0, 1) := by decide +kernel
theorem d_Mo_sha_113 : decode prog_11_method_4_code 113 = .ok (.bipush 8, 2) := by decide +kernel
theorem d_Mo_sha_115 : decode prog_11_method_4_code 115 = .ok (.invokestatic 48, 3) := by decide +kernel
theorem d_Mo_sha_118 : decode prog_11_method_4_code 118 = .ok (.iconst 0, 1) := by decide +kernel
theorem d_Mo_sha_119 : decode prog_11_method_4_code 119 = .ok (.istore 6, 2) := by decide +kernel
theorem d_Mo_sha_121 : decode prog_11_method_4_code 121 = .ok (.iload 6, 2) := by decide +kernel
theorem d_Mo_sha_123 : decode prog_11_method_4_code 123 = .ok (.iload 4, 2) := by decide +kernel
theorem d_Mo_sha_125 : decode prog_11_method_4_code 125 = .ok (.if_icmp .ge 469, 3) := by decide +kernel
theorem d_Mo_sha_128 : decode prog_11_method_4_code 128 = .ok (.iconst 0, 1) := by decide +kernel
theorem d_Mo_sha_129 : decode prog_11_method_4_code 129 = .ok (.istore 7, 2) := by decide +kernel
theorem d_Mo_sha_131 : decode prog_11_method_4_code 131 = .ok (.iload 7, 2) := by decide +kernel
theorem d_Mo_sha_133 : decode prog_11_method_4_code 133 = .ok (.bipush 16, 2) := by decide +kernel
theorem d_Mo_sha_135 : decode prog_11_method_4_code 135 = .ok (.if_icmp .ge 33, 3) := by decide +kernel
theorem d_Mo_sha_138 : decode prog_11_method_4_code 138 = .ok (.aload_n 0, 1) := by decide +kernel
theorem d_Mo_sha_139 : decode prog_11_method_4_code 139 = .ok (.getfield 24, 3) := by decide +kernel
theorem d_Mo_sha_142 : decode prog_11_method_4_code 142 = .ok (.iload 7, 2) := by decide +kernel
theorem d_Mo_sha_144 : decode prog_11_method_4_code 144 = .ok (.aload_n 0, 1) := by decide +kernel
theorem d_Mo_sha_145 : decode prog_11_method_4_code 145 = .ok (.getfield 30, 3) := by decide +kernel
theorem d_Mo_sha_148 : decode prog_11_method_4_code 148 = .ok (.bipush 64, 2) := by decide +kernel
theorem d_Mo_sha_150 : decode prog_11_method_4_code 150 = .ok (.iload 6, 2) := by decide +kernel
theorem d_Mo_sha_152 : decode prog_11_method_4_code 152 = .ok (.imul, 1) := by decide +kernel
theorem d_Mo_sha_153 : decode prog_11_method_4_code 153 = .ok (.iconst 4, 1) := by decide +kernel
theorem d_Mo_sha_154 : decode prog_11_method_4_code 154 = .ok (.iload 7, 2) := by decide +kernel
theorem d_Mo_sha_156 : decode prog_11_method_4_code 156 = .ok (.imul, 1) := by decide +kernel
theorem d_Mo_sha_157 : decode prog_11_method_4_code 157 = .ok (.iadd, 1) := by decide +kernel
theorem d_Mo_sha_158 : decode prog_11_method_4_code 158 = .ok (.invokestatic 59, 3) := by decide +kernel
theorem d_Mo_sha_161 : decode prog_11_method_4_code 161 = .ok (.iastore, 1) := by decide +kernel
theorem d_Mo_sha_162 : decode prog_11_method_4_code 162 = .ok (.iinc 7 1, 3) := by decide +kernel
theorem d_Mo_sha_165 : decode prog_11_method_4_code 165 = .ok (.goto (-34), 3) := by decide +kernel
theorem d_Mo_sha_168 : decode prog_11_method_4_code 168 = .ok (.bipush 16, 2) := by decide +kernel
theorem d_Mo_sha_170 : decode prog_11_method_4_code 170 = .ok (.istore 7, 2) := by decide +kernel
theorem d_Mo_sha_172 : decode prog_11_method_4_code 172 = .ok (.iload 7, 2) := by decide +kernel
theorem d_Mo_sha_174 : decode prog_11_method_4_code 174 = .ok (.bipush 64, 2) := by decide +kernel
theorem d_Mo_sha_176 : decode prog_11_method_4_code 176 = .ok (.if_icmp .ge 103, 3) := by decide +kernel
theorem d_Mo_sha_179 : decode prog_11_method_4_code 179 = .ok (.aload_n 0, 1) := by decide +kernel
theorem d_Mo_sha_180 : decode prog_11_method_4_code 180 = .ok (.getfield 24, 3) := by decide +kernel
theorem d_Mo_sha_183 : decode prog_11_method_4_code 183 = .ok (.iload 7, 2) := by decide +kernel
theorem d_Mo_sha_185 : decode prog_11_method_4_code 185 = .ok (.bipush 15, 2) := by decide +kernel
theorem d_Mo_sha_187 : decode prog_11_method_4_code 187 = .ok (.isub, 1) := by decide +kernel
theorem d_Mo_sha_188 : decode prog_11_method_4_code 188 = .ok (.iaload, 1) := by decide +kernel
theorem d_Mo_sha_189 : decode prog_11_method_4_code 189 = .ok (.istore 8, 2) := by decide +kernel
theorem d_Mo_sha_191 : decode prog_11_method_4_code 191 = .ok (.aload_n 0, 1) := by decide +kernel
theorem d_Mo_sha_192 : decode prog_11_method_4_code 192 = .ok (.getfield 24, 3) := by decide +kernel
theorem d_Mo_sha_195 : decode prog_11_method_4_code 195 = .ok (.iload 7, 2) := by decide +kernel
theorem d_Mo_sha_197 : decode prog_11_method_4_code 197 = .ok (.iconst 2, 1) := by decide +kernel
theorem d_Mo_sha_198 : decode prog_11_method_4_code 198 = .ok (.isub, 1) := by decide +kernel
theorem d_Mo_sha_199 : decode prog_11_method_4_code 199 = .ok (.iaload, 1) := by decide +kernel
theorem d_Mo_sha_200 : decode prog_11_method_4_code 200 = .ok (.istore 9, 2) := by decide +kernel
theorem d_Mo_sha_202 : decode prog_11_method_4_code 202 = .ok (.aload_n 0, 1) := by decide +kernel
theorem d_Mo_sha_203 : decode prog_11_method_4_code 203 = .ok (.getfield 24, 3) := by decide +kernel
theorem d_Mo_sha_206 : decode prog_11_method_4_code 206 = .ok (.iload 7, 2) := by decide +kernel
theorem d_Mo_sha_208 : decode prog_11_method_4_code 208 = .ok (.aload_n 0, 1) := by decide +kernel
theorem d_Mo_sha_209 : decode prog_11_method_4_code 209 = .ok (.getfield 24, 3) := by decide +kernel
theorem d_Mo_sha_212 : decode prog_11_method_4_code 212 = .ok (.iload 7, 2) := by decide +kernel
theorem d_Mo_sha_214 : decode prog_11_method_4_code 214 = .ok (.bipush 16, 2) := by decide +kernel
theorem d_Mo_sha_216 : decode prog_11_method_4_code 216 = .ok (.isub, 1) := by decide +kernel
theorem d_Mo_sha_217 : decode prog_11_method_4_code 217 = .ok (.iaload, 1) := by decide +kernel
theorem d_Mo_sha_218 : decode prog_11_method_4_code 218 = .ok (.iload 8, 2) := by decide +kernel
theorem d_Mo_sha_220 : decode prog_11_method_4_code 220 = .ok (.bipush 7, 2) := by decide +kernel
theorem d_Mo_sha_222 : decode prog_11_method_4_code 222 = .ok (.invokestatic 63, 3) := by decide +kernel
theorem d_Mo_sha_225 : decode prog_11_method_4_code 225 = .ok (.iload 8, 2) := by decide +kernel
theorem d_Mo_sha_227 : decode prog_11_method_4_code 227 = .ok (.bipush 18, 2) := by decide +kernel
theorem d_Mo_sha_229 : decode prog_11_method_4_code 229 = .ok (.invokestatic 63, 3) := by decide +kernel
theorem d_Mo_sha_232 : decode prog_11_method_4_code 232 = .ok (.ixor, 1) := by decide +kernel
theorem d_Mo_sha_233 : decode prog_11_method_4_code 233 = .ok (.iload 8, 2) := by decide +kernel
theorem d_Mo_sha_235 : decode prog_11_method_4_code 235 = .ok (.iconst 3, 1) := by decide +kernel
theorem d_Mo_sha_236 : decode prog_11_method_4_code 236 = .ok (.iushr, 1) := by decide +kernel
theorem d_Mo_sha_237 : decode prog_11_method_4_code 237 = .ok (.ixor, 1) := by decide +kernel
theorem d_Mo_sha_238 : decode prog_11_method_4_code 238 = .ok (.iadd, 1) := by decide +kernel
theorem d_Mo_sha_239 : decode prog_11_method_4_code 239 = .ok (.aload_n 0, 1) := by decide +kernel
theorem d_Mo_sha_240 : decode prog_11_method_4_code 240 = .ok (.getfield 24, 3) := by decide +kernel
theorem d_Mo_sha_243 : decode prog_11_method_4_code 243 = .ok (.iload 7, 2) := by decide +kernel
theorem d_Mo_sha_245 : decode prog_11_method_4_code 245 = .ok (.bipush 7, 2) := by decide +kernel
theorem d_Mo_sha_247 : decode prog_11_method_4_code 247 = .ok (.isub, 1) := by decide +kernel
theorem d_Mo_sha_248 : decode prog_11_method_4_code 248 = .ok (.iaload, 1) := by decide +kernel
theorem d_Mo_sha_249 : decode prog_11_method_4_code 249 = .ok (.iadd, 1) := by decide +kernel
theorem d_Mo_sha_250 : decode prog_11_method_4_code 250 = .ok (.iload 9, 2) := by decide +kernel
theorem d_Mo_sha_252 : decode prog_11_method_4_code 252 = .ok (.bipush 17, 2) := by decide +kernel
theorem d_Mo_sha_254 : decode prog_11_method_4_code 254 = .ok (.invokestatic 63, 3) := by decide +kernel
theorem d_Mo_sha_257 : decode prog_11_method_4_code 257 = .ok (.iload 9, 2) := by decide +kernel
theorem d_Mo_sha_259 : decode prog_11_method_4_code 259 = .ok (.bipush 19, 2) := by decide +kernel
theorem d_Mo_sha_261 : decode prog_11_method_4_code 261 = .ok (.invokestatic 63, 3) := by decide +kernel
theorem d_Mo_sha_264 : decode prog_11_method_4_code 264 = .ok (.ixor, 1) := by decide +kernel
theorem d_Mo_sha_265 : decode prog_11_method_4_code 265 = .ok (.iload 9, 2) := by decide +kernel
theorem d_Mo_sha_267 : decode prog_11_method_4_code 267 = .ok (.bipush 10, 2) := by decide +kernel
theorem d_Mo_sha_269 : decode prog_11_method_4_code 269 = .ok (.iushr, 1) := by decide +kernel
theorem d_Mo_sha_270 : decode prog_11_method_4_code 270 = .ok (.ixor, 1) := by decide +kernel
theorem d_Mo_sha_271 : decode prog_11_method_4_code 271 = .ok (.iadd, 1) := by decide +kernel
theorem d_Mo_sha_272 : decode prog_11_method_4_code 272 = .ok (.iastore, 1) := by decide +kernel
theorem d_Mo_sha_273 : decode prog_11_method_4_code 273 = .ok (.iinc 7 1, 3) := by decide +kernel
theorem d_Mo_sha_276 : decode prog_11_method_4_code 276 = .ok (.goto (-104), 3) := by decide +kernel
theorem d_Mo_sha_279 : decode prog_11_method_4_code 279 = .ok (.aload_n 0, 1) := by decide +kernel
theorem d_Mo_sha_280 : decode prog_11_method_4_code 280 = .ok (.getfield 21, 3) := by decide +kernel
theorem d_Mo_sha_283 : decode prog_11_method_4_code 283 = .ok (.iconst 0, 1) := by decide +kernel
theorem d_Mo_sha_284 : decode prog_11_method_4_code 284 = .ok (.iaload, 1) := by decide +kernel
theorem d_Mo_sha_285 : decode prog_11_method_4_code 285 = .ok (.istore 7, 2) := by decide +kernel
theorem d_Mo_sha_287 : decode prog_11_method_4_code 287 = .ok (.aload_n 0, 1) := by decide +kernel
theorem d_Mo_sha_288 : decode prog_11_method_4_code 288 = .ok (.getfield 21, 3) := by decide +kernel
theorem d_Mo_sha_291 : decode prog_11_method_4_code 291 = .ok (.iconst 1, 1) := by decide +kernel
theorem d_Mo_sha_292 : decode prog_11_method_4_code 292 = .ok (.iaload, 1) := by decide +kernel
theorem d_Mo_sha_293 : decode prog_11_method_4_code 293 = .ok (.istore 8, 2) := by decide +kernel
theorem d_Mo_sha_295 : decode prog_11_method_4_code 295 = .ok (.aload_n 0, 1) := by decide +kernel
theorem d_Mo_sha_296 : decode prog_11_method_4_code 296 = .ok (.getfield 21, 3) := by decide +kernel
theorem d_Mo_sha_299 : decode prog_11_method_4_code 299 = .ok (.iconst 2, 1) := by decide +kernel
theorem d_Mo_sha_300 : decode prog_11_method_4_code 300 = .ok (.iaload, 1) := by decide +kernel
theorem d_Mo_sha_301 : decode prog_11_method_4_code 301 = .ok (.istore 9, 2) := by decide +kernel
theorem d_Mo_sha_303 : decode prog_11_method_4_code 303 = .ok (.aload_n 0, 1) := by decide +kernel
theorem d_Mo_sha_304 : decode prog_11_method_4_code 304 = .ok (.getfield 21, 3) := by decide +kernel
theorem d_Mo_sha_307 : decode prog_11_method_4_code 307 = .ok (.iconst 3, 1) := by decide +kernel
theorem d_Mo_sha_308 : decode prog_11_method_4_code 308 = .ok (.iaload, 1) := by decide +kernel
theorem d_Mo_sha_309 : decode prog_11_method_4_code 309 = .ok (.istore 10, 2) := by decide +kernel
theorem d_Mo_sha_311 : decode prog_11_method_4_code 311 = .ok (.aload_n 0, 1) := by decide +kernel
theorem d_Mo_sha_312 : decode prog_11_method_4_code 312 = .ok (.getfield 21, 3) := by decide +kernel
theorem d_Mo_sha_315 : decode prog_11_method_4_code 315 = .ok (.iconst 4, 1) := by decide +kernel
theorem d_Mo_sha_316 : decode prog_11_method_4_code 316 = .ok (.iaload, 1) := by decide +kernel
theorem d_Mo_sha_317 : decode prog_11_method_4_code 317 = .ok (.istore 11, 2) := by decide +kernel
theorem d_Mo_sha_319 : decode prog_11_method_4_code 319 = .ok (.aload_n 0, 1) := by decide +kernel
theorem d_Mo_sha_320 : decode prog_11_method_4_code 320 = .ok (.getfield 21, 3) := by decide +kernel
theorem d_Mo_sha_323 : decode prog_11_method_4_code 323 = .ok (.iconst 5, 1) := by decide +kernel
theorem d_Mo_sha_324 : decode prog_11_method_4_code 324 = .ok (.iaload, 1) := by decide +kernel
theorem d_Mo_sha_325 : decode prog_11_method_4_code 325 = .ok (.istore 12, 2) := by decide +kernel
theorem d_Mo_sha_327 : decode prog_11_method_4_code 327 = .ok (.aload_n 0, 1) := by decide +kernel
theorem d_Mo_sha_328 : decode prog_11_method_4_code 328 = .ok (.getfield 21, 3) := by decide +kernel
theorem d_Mo_sha_331 : decode prog_11_method_4_code 331 = .ok (.bipush 6, 2) := by decide +kernel
theorem d_Mo_sha_333 : decode prog_11_method_4_code 333 = .ok (.iaload, 1) := by decide +kernel
theorem d_Mo_sha_334 : decode prog_11_method_4_code 334 = .ok (.istore 13, 2) := by decide +kernel
theorem d_Mo_sha_336 : decode prog_11_method_4_code 336 = .ok (.aload_n 0, 1) := by decide +kernel
theorem d_Mo_sha_337 : decode prog_11_method_4_code 337 = .ok (.getfield 21, 3) := by decide +kernel
theorem d_Mo_sha_340 : decode prog_11_method_4_code 340 = .ok (.bipush 7, 2) := by decide +kernel
theorem d_Mo_sha_342 : decode prog_11_method_4_code 342 = .ok (.iaload, 1) := by decide +kernel
theorem d_Mo_sha_343 : decode prog_11_method_4_code 343 = .ok (.istore 14, 2) := by decide +kernel
theorem d_Mo_sha_345 : decode prog_11_method_4_code 345 = .ok (.iconst 0, 1) := by decide +kernel
theorem d_Mo_sha_346 : decode prog_11_method_4_code 346 = .ok (.istore 15, 2) := by decide +kernel
theorem d_Mo_sha_348 : decode prog_11_method_4_code 348 = .ok (.iload 15, 2) := by decide +kernel
theorem d_Mo_sha_350 : decode prog_11_method_4_code 350 = .ok (.bipush 64, 2) := by decide +kernel
theorem d_Mo_sha_352 : decode prog_11_method_4_code 352 = .ok (.if_icmp .ge 146, 3) := by decide +kernel
theorem d_Mo_sha_355 : decode prog_11_method_4_code 355 = .ok (.iload 14, 2) := by decide +kernel
theorem d_Mo_sha_357 : decode prog_11_method_4_code 357 = .ok (.iload 11, 2) := by decide +kernel
theorem d_Mo_sha_359 : decode prog_11_method_4_code 359 = .ok (.bipush 6, 2) := by decide +kernel
theorem d_Mo_sha_361 : decode prog_11_method_4_code 361 = .ok (.invokestatic 63, 3) := by decide +kernel
theorem d_Mo_sha_364 : decode prog_11_method_4_code 364 = .ok (.iload 11, 2) := by decide +kernel
theorem d_Mo_sha_366 : decode prog_11_method_4_code 366 = .ok (.bipush 11, 2) := by decide +kernel
theorem d_Mo_sha_368 : decode prog_11_method_4_code 368 = .ok (.invokestatic 63, 3) := by decide +kernel
theorem d_Mo_sha_371 : decode prog_11_method_4_code 371 = .ok (.ixor, 1) := by decide +kernel
theorem d_Mo_sha_372 : decode prog_11_method_4_code 372 = .ok (.iload 11, 2) := by decide +kernel
theorem d_Mo_sha_374 : decode prog_11_method_4_code 374 = .ok (.bipush 25, 2) := by decide +kernel
theorem d_Mo_sha_376 : decode prog_11_method_4_code 376 = .ok (.invokestatic 63, 3) := by decide +kernel
theorem d_Mo_sha_379 : decode prog_11_method_4_code 379 = .ok (.ixor, 1) := by decide +kernel
theorem d_Mo_sha_380 : decode prog_11_method_4_code 380 = .ok (.iadd, 1) := by decide +kernel
theorem d_Mo_sha_381 : decode prog_11_method_4_code 381 = .ok (.iload 11, 2) := by decide +kernel
theorem d_Mo_sha_383 : decode prog_11_method_4_code 383 = .ok (.iload 12, 2) := by decide +kernel
theorem d_Mo_sha_385 : decode prog_11_method_4_code 385 = .ok (.iand, 1) := by decide +kernel
theorem d_Mo_sha_386 : decode prog_11_method_4_code 386 = .ok (.iload 11, 2) := by decide +kernel
theorem d_Mo_sha_388 : decode prog_11_method_4_code 388 = .ok (.iconst (-1), 1) := by decide +kernel
theorem d_Mo_sha_389 : decode prog_11_method_4_code 389 = .ok (.ixor, 1) := by decide +kernel
theorem d_Mo_sha_390 : decode prog_11_method_4_code 390 = .ok (.iload 13, 2) := by decide +kernel
theorem d_Mo_sha_392 : decode prog_11_method_4_code 392 = .ok (.iand, 1) := by decide +kernel
theorem d_Mo_sha_393 : decode prog_11_method_4_code 393 = .ok (.ixor, 1) := by decide +kernel
theorem d_Mo_sha_394 : decode prog_11_method_4_code 394 = .ok (.iadd, 1) := by decide +kernel
theorem d_Mo_sha_395 : decode prog_11_method_4_code 395 = .ok (.getstatic 67, 3) := by decide +kernel
theorem d_Mo_sha_398 : decode prog_11_method_4_code 398 = .ok (.iload 15, 2) := by decide +kernel
theorem d_Mo_sha_400 : decode prog_11_method_4_code 400 = .ok (.iaload, 1) := by decide +kernel
theorem d_Mo_sha_401 : decode prog_11_method_4_code 401 = .ok (.iadd, 1) := by decide +kernel
theorem d_Mo_sha_402 : decode prog_11_method_4_code 402 = .ok (.aload_n 0, 1) := by decide +kernel
theorem d_Mo_sha_403 : decode prog_11_method_4_code 403 = .ok (.getfield 24, 3) := by decide +kernel
theorem d_Mo_sha_406 : decode prog_11_method_4_code 406 = .ok (.iload 15, 2) := by decide +kernel
theorem d_Mo_sha_408 : decode prog_11_method_4_code 408 = .ok (.iaload, 1) := by decide +kernel
theorem d_Mo_sha_409 : decode prog_11_method_4_code 409 = .ok (.iadd, 1) := by decide +kernel
theorem d_Mo_sha_410 : decode prog_11_method_4_code 410 = .ok (.istore 16, 2) := by decide +kernel
theorem d_Mo_sha_412 : decode prog_11_method_4_code 412 = .ok (.iload 7, 2) := by decide +kernel
theorem d_Mo_sha_414 : decode prog_11_method_4_code 414 = .ok (.iconst 2, 1) := by decide +kernel
theorem d_Mo_sha_415 : decode prog_11_method_4_code 415 = .ok (.invokestatic 63, 3) := by decide +kernel
theorem d_Mo_sha_418 : decode prog_11_method_4_code 418 = .ok (.iload 7, 2) := by decide +kernel
theorem d_Mo_sha_420 : decode prog_11_method_4_code 420 = .ok (.bipush 13, 2) := by decide +kernel
theorem d_Mo_sha_422 : decode prog_11_method_4_code 422 = .ok (.invokestatic 63, 3) := by decide +kernel
theorem d_Mo_sha_425 : decode prog_11_method_4_code 425 = .ok (.ixor, 1) := by decide +kernel
theorem d_Mo_sha_426 : decode prog_11_method_4_code 426 = .ok (.iload 7, 2) := by decide +kernel
theorem d_Mo_sha_428 : decode prog_11_method_4_code 428 = .ok (.bipush 22, 2) := by decide +kernel
theorem d_Mo_sha_430 : decode prog_11_method_4_code 430 = .ok (.invokestatic 63, 3) := by decide +kernel
theorem d_Mo_sha_433 : decode prog_11_method_4_code 433 = .ok (.ixor, 1) := by decide +kernel
theorem d_Mo_sha_434 : decode prog_11_method_4_code 434 = .ok (.iload 7, 2) := by decide +kernel
theorem d_Mo_sha_436 : decode prog_11_method_4_code 436 = .ok (.iload 8, 2) := by decide +kernel
theorem d_Mo_sha_438 : decode prog_11_method_4_code 438 = .ok (.iand, 1) := by decide +kernel
theorem d_Mo_sha_439 : decode prog_11_method_4_code 439 = .ok (.iload 7, 2) := by decide +kernel
theorem d_Mo_sha_441 : decode prog_11_method_4_code 441 = .ok (.iload 9, 2) := by decide +kernel
theorem d_Mo_sha_443 : decode prog_11_method_4_code 443 = .ok (.iand, 1) := by decide +kernel
theorem d_Mo_sha_444 : decode prog_11_method_4_code 444 = .ok (.ixor, 1) := by decide +kernel
theorem d_Mo_sha_445 : decode prog_11_method_4_code 445 = .ok (.iload 8, 2) := by decide +kernel
theorem d_Mo_sha_447 : decode prog_11_method_4_code 447 = .ok (.iload 9, 2) := by decide +kernel
theorem d_Mo_sha_449 : decode prog_11_method_4_code 449 = .ok (.iand, 1) := by decide +kernel
theorem d_Mo_sha_450 : decode prog_11_method_4_code 450 = .ok (.ixor, 1) := by decide +kernel
theorem d_Mo_sha_451 : decode prog_11_method_4_code 451 = .ok (.iadd, 1) := by decide +kernel
theorem d_Mo_sha_452 : decode prog_11_method_4_code 452 = .ok (.istore 17, 2) := by decide +kernel
theorem d_Mo_sha_454 : decode prog_11_method_4_code 454 = .ok (.iload 13, 2) := by decide +kernel
theorem d_Mo_sha_456 : decode prog_11_method_4_code 456 = .ok (.istore 14, 2) := by decide +kernel
theorem d_Mo_sha_458 : decode prog_11_method_4_code 458 = .ok (.iload 12, 2) := by decide +kernel
theorem d_Mo_sha_460 : decode prog_11_method_4_code 460 = .ok (.istore 13, 2) := by decide +kernel
theorem d_Mo_sha_462 : decode prog_11_method_4_code 462 = .ok (.iload 11, 2) := by decide +kernel
theorem d_Mo_sha_464 : decode prog_11_method_4_code 464 = .ok (.istore 12, 2) := by decide +kernel
theorem d_Mo_sha_466 : decode prog_11_method_4_code 466 = .ok (.iload 10, 2) := by decide +kernel
theorem d_Mo_sha_468 : decode prog_11_method_4_code 468 = .ok (.iload 16, 2) := by decide +kernel
theorem d_Mo_sha_470 : decode prog_11_method_4_code 470 = .ok (.iadd, 1) := by decide +kernel
theorem d_Mo_sha_471 : decode prog_11_method_4_code 471 = .ok (.istore 11, 2) := by decide +kernel
theorem d_Mo_sha_473 : decode prog_11_method_4_code 473 = .ok (.iload 9, 2) := by decide +kernel
theorem d_Mo_sha_475 : decode prog_11_method_4_code 475 = .ok (.istore 10, 2) := by decide +kernel
theorem d_Mo_sha_477 : decode prog_11_method_4_code 477 = .ok (.iload 8, 2) := by decide +kernel
theorem d_Mo_sha_479 : decode prog_11_method_4_code 479 = .ok (.istore 9, 2) := by decide +kernel
theorem d_Mo_sha_481 : decode prog_11_method_4_code 481 = .ok (.iload 7, 2) := by decide +kernel
theorem d_Mo_sha_483 : decode prog_11_method_4_code 483 = .ok (.istore 8, 2) := by decide +kernel
theorem d_Mo_sha_485 : decode prog_11_method_4_code 485 = .ok (.iload 16, 2) := by decide +kernel
theorem d_Mo_sha_487 : decode prog_11_method_4_code 487 = .ok (.iload 17, 2) := by decide +kernel
theorem d_Mo_sha_489 : decode prog_11_method_4_code 489 = .ok (.iadd, 1) := by decide +kernel
theorem d_Mo_sha_490 : decode prog_11_method_4_code 490 = .ok (.istore 7, 2) := by decide +kernel
theorem d_Mo_sha_492 : decode prog_11_method_4_code 492 = .ok (.iinc 15 1, 3) := by decide +kernel
theorem d_Mo_sha_495 : decode prog_11_method_4_code 495 = .ok (.goto (-147), 3) := by decide +kernel
theorem d_Mo_sha_498 : decode prog_11_method_4_code 498 = .ok (.aload_n 0, 1) := by decide +kernel
theorem d_Mo_sha_499 : decode prog_11_method_4_code 499 = .ok (.getfield 21, 3) := by decide +kernel
theorem d_Mo_sha_502 : decode prog_11_method_4_code 502 = .ok (.iconst 0, 1) := by decide +kernel
theorem d_Mo_sha_503 : decode prog_11_method_4_code 503 = .ok (.dup2, 1) := by decide +kernel
theorem d_Mo_sha_504 : decode prog_11_method_4_code 504 = .ok (.iaload, 1) := by decide +kernel
theorem d_Mo_sha_505 : decode prog_11_method_4_code 505 = .ok (.iload 7, 2) := by decide +kernel
theorem d_Mo_sha_507 : decode prog_11_method_4_code 507 = .ok (.iadd, 1) := by decide +kernel
theorem d_Mo_sha_508 : decode prog_11_method_4_code 508 = .ok (.iastore, 1) := by decide +kernel
theorem d_Mo_sha_509 : decode prog_11_method_4_code 509 = .ok (.aload_n 0, 1) := by decide +kernel
theorem d_Mo_sha_510 : decode prog_11_method_4_code 510 = .ok (.getfield 21, 3) := by decide +kernel
theorem d_Mo_sha_513 : decode prog_11_method_4_code 513 = .ok (.iconst 1, 1) := by decide +kernel
theorem d_Mo_sha_514 : decode prog_11_method_4_code 514 = .ok (.dup2, 1) := by decide +kernel
theorem d_Mo_sha_515 : decode prog_11_method_4_code 515 = .ok (.iaload, 1) := by decide +kernel
theorem d_Mo_sha_516 : decode prog_11_method_4_code 516 = .ok (.iload 8, 2) := by decide +kernel
theorem d_Mo_sha_518 : decode prog_11_method_4_code 518 = .ok (.iadd, 1) := by decide +kernel
theorem d_Mo_sha_519 : decode prog_11_method_4_code 519 = .ok (.iastore, 1) := by decide +kernel
theorem d_Mo_sha_520 : decode prog_11_method_4_code 520 = .ok (.aload_n 0, 1) := by decide +kernel
theorem d_Mo_sha_521 : decode prog_11_method_4_code 521 = .ok (.getfield 21, 3) := by decide +kernel
theorem d_Mo_sha_524 : decode prog_11_method_4_code 524 = .ok (.iconst 2, 1) := by decide +kernel
theorem d_Mo_sha_525 : decode prog_11_method_4_code 525 = .ok (.dup2, 1) := by decide +kernel
theorem d_Mo_sha_526 : decode prog_11_method_4_code 526 = .ok (.iaload, 1) := by decide +kernel
theorem d_Mo_sha_527 : decode prog_11_method_4_code 527 = .ok (.iload 9, 2) := by decide +kernel
theorem d_Mo_sha_529 : decode prog_11_method_4_code 529 = .ok (.iadd, 1) := by decide +kernel
theorem d_Mo_sha_530 : decode prog_11_method_4_code 530 = .ok (.iastore, 1) := by decide +kernel
theorem d_Mo_sha_531 : decode prog_11_method_4_code 531 = .ok (.aload_n 0, 1) := by decide +kernel
theorem d_Mo_sha_532 : decode prog_11_method_4_code 532 = .ok (.getfield 21, 3) := by decide +kernel
theorem d_Mo_sha_535 : decode prog_11_method_4_code 535 = .ok (.iconst 3, 1) := by decide +kernel
theorem d_Mo_sha_536 : decode prog_11_method_4_code 536 = .ok (.dup2, 1) := by decide +kernel
theorem d_Mo_sha_537 : decode prog_11_method_4_code 537 = .ok (.iaload, 1) := by decide +kernel
theorem d_Mo_sha_538 : decode prog_11_method_4_code 538 = .ok (.iload 10, 2) := by decide +kernel
theorem d_Mo_sha_540 : decode prog_11_method_4_code 540 = .ok (.iadd, 1) := by decide +kernel
theorem d_Mo_sha_541 : decode prog_11_method_4_code 541 = .ok (.iastore, 1) := by decide +kernel
theorem d_Mo_sha_542 : decode prog_11_method_4_code 542 = .ok (.aload_n 0, 1) := by decide +kernel
theorem d_Mo_sha_543 : decode prog_11_method_4_code 543 = .ok (.getfield 21, 3) := by decide +kernel
theorem d_Mo_sha_546 : decode prog_11_method_4_code 546 = .ok (.iconst 4, 1) := by decide +kernel
theorem d_Mo_sha_547 : decode prog_11_method_4_code 547 = .ok (.dup2, 1) := by decide +kernel
theorem d_Mo_sha_548 : decode prog_11_method_4_code 548 = .ok (.iaload, 1) := by decide +kernel
theorem d_Mo_sha_549 : decode prog_11_method_4_code 549 = .ok (.iload 11, 2) := by decide +kernel
theorem d_Mo_sha_551 : decode prog_11_method_4_code 551 = .ok (.iadd, 1) := by decide +kernel
theorem d_Mo_sha_552 : decode prog_11_method_4_code 552 = .ok (.iastore, 1) := by decide +kernel
theorem d_Mo_sha_553 : decode prog_11_method_4_code 553 = .ok (.aload_n 0, 1) := by decide +kernel
theorem d_Mo_sha_554 : decode prog_11_method_4_code 554 = .ok (.getfield 21, 3) := by decide +kernel
theorem d_Mo_sha_557 : decode prog_11_method_4_code 557 = .ok (.iconst 5, 1) := by decide +kernel
theorem d_Mo_sha_558 : decode prog_11_method_4_code 558 = .ok (.dup2, 1) := by decide +kernel
theorem d_Mo_sha_559 : decode prog_11_method_4_code 559 = .ok (.iaload, 1) := by decide +kernel
theorem d_Mo_sha_560 : decode prog_11_method_4_code 560 = .ok (.iload 12, 2) := by decide +kernel
theorem d_Mo_sha_562 : decode prog_11_method_4_code 562 = .ok (.iadd, 1) := by decide +kernel
theorem d_Mo_sha_563 : decode prog_11_method_4_code 563 = .ok (.iastore, 1) := by decide +kernel
theorem d_Mo_sha_564 : decode prog_11_method_4_code 564 = .ok (.aload_n 0, 1) := by decide +kernel
theorem d_Mo_sha_565 : decode prog_11_method_4_code 565 = .ok (.getfield 21, 3) := by decide +kernel
theorem d_Mo_sha_568 : decode prog_11_method_4_code 568 = .ok (.bipush 6, 2) := by decide +kernel
theorem d_Mo_sha_570 : decode prog_11_method_4_code 570 = .ok (.dup2, 1) := by decide +kernel
theorem d_Mo_sha_571 : decode prog_11_method_4_code 571 = .ok (.iaload, 1) := by decide +kernel
theorem d_Mo_sha_572 : decode prog_11_method_4_code 572 = .ok (.iload 13, 2) := by decide +kernel
theorem d_Mo_sha_574 : decode prog_11_method_4_code 574 = .ok (.iadd, 1) := by decide +kernel
theorem d_Mo_sha_575 : decode prog_11_method_4_code 575 = .ok (.iastore, 1) := by decide +kernel
theorem d_Mo_sha_576 : decode prog_11_method_4_code 576 = .ok (.aload_n 0, 1) := by decide +kernel
theorem d_Mo_sha_577 : decode prog_11_method_4_code 577 = .ok (.getfield 21, 3) := by decide +kernel
theorem d_Mo_sha_580 : decode prog_11_method_4_code 580 = .ok (.bipush 7, 2) := by decide +kernel
theorem d_Mo_sha_582 : decode prog_11_method_4_code 582 = .ok (.dup2, 1) := by decide +kernel
theorem d_Mo_sha_583 : decode prog_11_method_4_code 583 = .ok (.iaload, 1) := by decide +kernel
theorem d_Mo_sha_584 : decode prog_11_method_4_code 584 = .ok (.iload 14, 2) := by decide +kernel
theorem d_Mo_sha_586 : decode prog_11_method_4_code 586 = .ok (.iadd, 1) := by decide +kernel
theorem d_Mo_sha_587 : decode prog_11_method_4_code 587 = .ok (.iastore, 1) := by decide +kernel
theorem d_Mo_sha_588 : decode prog_11_method_4_code 588 = .ok (.iinc 6 1, 3) := by decide +kernel
theorem d_Mo_sha_591 : decode prog_11_method_4_code 591 = .ok (.goto (-470), 3) := by decide +kernel
theorem d_Mo_sha_594 : decode prog_11_method_4_code 594 = .ok (.iconst 0, 1) := by decide +kernel
theorem d_Mo_sha_595 : decode prog_11_method_4_code 595 = .ok (.istore 6, 2) := by decide +kernel
theorem d_Mo_sha_597 : decode prog_11_method_4_code 597 = .ok (.iload 6, 2) := by decide +kernel
theorem d_Mo_sha_599 : decode prog_11_method_4_code 599 = .ok (.bipush 8, 2) := by decide +kernel
theorem d_Mo_sha_601 : decode prog_11_method_4_code 601 = .ok (.if_icmp .ge 53, 3) := by decide +kernel
theorem d_Mo_sha_604 : decode prog_11_method_4_code 604 = .ok (.iconst 0, 1) := by decide +kernel
theorem d_Mo_sha_605 : decode prog_11_method_4_code 605 = .ok (.istore 7, 2) := by decide +kernel
theorem d_Mo_sha_607 : decode prog_11_method_4_code 607 = .ok (.iload 7, 2) := by decide +kernel
theorem d_Mo_sha_609 : decode prog_11_method_4_code 609 = .ok (.iconst 4, 1) := by decide +kernel
theorem d_Mo_sha_610 : decode prog_11_method_4_code 610 = .ok (.if_icmp .ge 38, 3) := by decide +kernel
theorem d_Mo_sha_613 : decode prog_11_method_4_code 613 = .ok (.aload_n 0, 1) := by decide +kernel
theorem d_Mo_sha_614 : decode prog_11_method_4_code 614 = .ok (.getfield 27, 3) := by decide +kernel
theorem d_Mo_sha_617 : decode prog_11_method_4_code 617 = .ok (.iconst 4, 1) := by decide +kernel
theorem d_Mo_sha_618 : decode prog_11_method_4_code 618 = .ok (.iload 6, 2) := by decide +kernel
theorem d_Mo_sha_620 : decode prog_11_method_4_code 620 = .ok (.imul, 1) := by decide +kernel
theorem d_Mo_sha_621 : decode prog_11_method_4_code 621 = .ok (.iload 7, 2) := by decide +kernel
theorem d_Mo_sha_623 : decode prog_11_method_4_code 623 = .ok (.iadd, 1) := by decide +kernel
theorem d_Mo_sha_624 : decode prog_11_method_4_code 624 = .ok (.aload_n 0, 1) := by decide +kernel
theorem d_Mo_sha_625 : decode prog_11_method_4_code 625 = .ok (.getfield 21, 3) := by decide +kernel
theorem d_Mo_sha_628 : decode prog_11_method_4_code 628 = .ok (.iload 6, 2) := by decide +kernel
theorem d_Mo_sha_630 : decode prog_11_method_4_code 630 = .ok (.iaload, 1) := by decide +kernel
theorem d_Mo_sha_631 : decode prog_11_method_4_code 631 = .ok (.bipush 24, 2) := by decide +kernel
theorem d_Mo_sha_633 : decode prog_11_method_4_code 633 = .ok (.bipush 8, 2) := by decide +kernel
theorem d_Mo_sha_635 : decode prog_11_method_4_code 635 = .ok (.iload 7, 2) := by decide +kernel
theorem d_Mo_sha_637 : decode prog_11_method_4_code 637 = .ok (.imul, 1) := by decide +kernel
theorem d_Mo_sha_638 : decode prog_11_method_4_code 638 = .ok (.isub, 1) := by decide +kernel
theorem d_Mo_sha_639 : decode prog_11_method_4_code 639 = .ok (.ishr, 1) := by decide +kernel
theorem d_Mo_sha_640 : decode prog_11_method_4_code 640 = .ok (.i2b, 1) := by decide +kernel
theorem d_Mo_sha_641 : decode prog_11_method_4_code 641 = .ok (.bastore, 1) := by decide +kernel
theorem d_Mo_sha_642 : decode prog_11_method_4_code 642 = .ok (.iinc 7 1, 3) := by decide +kernel
theorem d_Mo_sha_645 : decode prog_11_method_4_code 645 = .ok (.goto (-38), 3) := by decide +kernel
theorem d_Mo_sha_648 : decode prog_11_method_4_code 648 = .ok (.iinc 6 1, 3) := by decide +kernel
theorem d_Mo_sha_651 : decode prog_11_method_4_code 651 = .ok (.goto (-54), 3) := by decide +kernel
theorem d_Mo_sha_654 : decode prog_11_method_4_code 654 = .ok (.return_, 1) := by decide +kernel
theorem d_Mo_big_0 : decode prog_11_method_5_code 0 = .ok (.aload_n 0, 1) := by decide +kernel
theorem d_Mo_big_1 : decode prog_11_method_5_code 1 = .ok (.iload_n 1, 1) := by decide +kernel
theorem d_Mo_big_2 : decode prog_11_method_5_code 2 = .ok (.baload, 1) := by decide +kernel
theorem d_Mo_big_3 : decode prog_11_method_5_code 3 = .ok (.sipush 255, 3) := by decide +kernel
theorem d_Mo_big_6 : decode prog_11_method_5_code 6 = .ok (.iand, 1) := by decide +kernel
theorem d_Mo_big_7 : decode prog_11_method_5_code 7 = .ok (.bipush 24, 2) := by decide +kernel
theorem d_Mo_big_9 : decode prog_11_method_5_code 9 = .ok (.ishl, 1) := by decide +kernel
theorem d_Mo_big_10 : decode prog_11_method_5_code 10 = .ok (.aload_n 0, 1) := by decide +kernel
theorem d_Mo_big_11 : decode prog_11_method_5_code 11 = .ok (.iload_n 1, 1) := by decide +kernel
theorem d_Mo_big_12 : decode prog_11_method_5_code 12 = .ok (.iconst 1, 1) := by decide +kernel
theorem d_Mo_big_13 : decode prog_11_method_5_code 13 = .ok (.iadd, 1) := by decide +kernel
theorem d_Mo_big_14 : decode prog_11_method_5_code 14 = .ok (.baload, 1) := by decide +kernel
theorem d_Mo_big_15 : decode prog_11_method_5_code 15 = .ok (.sipush 255, 3) := by decide +kernel
theorem d_Mo_big_18 : decode prog_11_method_5_code 18 = .ok (.iand, 1) := by decide +kernel
theorem d_Mo_big_19 : decode prog_11_method_5_code 19 = .ok (.bipush 16, 2) := by decide +kernel
theorem d_Mo_big_21 : decode prog_11_method_5_code 21 = .ok (.ishl, 1) := by decide +kernel
theorem d_Mo_big_22 : decode prog_11_method_5_code 22 = .ok (.ior, 1) := by decide +kernel
theorem d_Mo_big_23 : decode prog_11_method_5_code 23 = .ok (.aload_n 0, 1) := by decide +kernel
theorem d_Mo_big_24 : decode prog_11_method_5_code 24 = .ok (.iload_n 1, 1) := by decide +kernel
theorem d_Mo_big_25 : decode prog_11_method_5_code 25 = .ok (.iconst 2, 1) := by decide +kernel
theorem d_Mo_big_26 : decode prog_11_method_5_code 26 = .ok (.iadd, 1) := by decide +kernel
theorem d_Mo_big_27 : decode prog_11_method_5_code 27 = .ok (.baload, 1) := by decide +kernel
theorem d_Mo_big_28 : decode prog_11_method_5_code 28 = .ok (.sipush 255, 3) := by decide +kernel
theorem d_Mo_big_31 : decode prog_11_method_5_code 31 = .ok (.iand, 1) := by decide +kernel
theorem d_Mo_big_32 : decode prog_11_method_5_code 32 = .ok (.bipush 8, 2) := by decide +kernel
theorem d_Mo_big_34 : decode prog_11_method_5_code 34 = .ok (.ishl, 1) := by decide +kernel
theorem d_Mo_big_35 : decode prog_11_method_5_code 35 = .ok (.ior, 1) := by decide +kernel
theorem d_Mo_big_36 : decode prog_11_method_5_code 36 = .ok (.aload_n 0, 1) := by decide +kernel
theorem d_Mo_big_37 : decode prog_11_method_5_code 37 = .ok (.iload_n 1, 1) := by decide +kernel
theorem d_Mo_big_38 : decode prog_11_method_5_code 38 = .ok (.iconst 3, 1) := by decide +kernel
theorem d_Mo_big_39 : decode prog_11_method_5_code 39 = .ok (.iadd, 1) := by decide +kernel
theorem d_Mo_big_40 : decode prog_11_method_5_code 40 = .ok (.baload, 1) := by decide +kernel
theorem d_Mo_big_41 : decode prog_11_method_5_code 41 = .ok (.sipush 255, 3) := by decide +kernel
theorem d_Mo_big_44 : decode prog_11_method_5_code 44 = .ok (.iand, 1) := by decide +kernel
theorem d_Mo_big_45 : decode prog_11_method_5_code 45 = .ok (.ior, 1) := by decide +kernel
theorem d_Mo_big_46 : decode prog_11_method_5_code 46 = .ok (.ireturn, 1) := by decide +kernel
theorem d_Mo_turn_0 : decode prog_11_method_3_code 0 = .ok (.iload_n 0, 1) := by decide +kernel
theorem d_Mo_turn_1 : decode prog_11_method_3_code 1 = .ok (.iload_n 1, 1) := by decide +kernel
theorem d_Mo_turn_2 : decode prog_11_method_3_code 2 = .ok (.iushr, 1) := by decide +kernel
theorem d_Mo_turn_3 : decode prog_11_method_3_code 3 = .ok (.iload_n 0, 1) := by decide +kernel
theorem d_Mo_turn_4 : decode prog_11_method_3_code 4 = .ok (.bipush 32, 2) := by decide +kernel
theorem d_Mo_turn_6 : decode prog_11_method_3_code 6 = .ok (.iload_n 1, 1) := by decide +kernel
theorem d_Mo_turn_7 : decode prog_11_method_3_code 7 = .ok (.isub, 1) := by decide +kernel
theorem d_Mo_turn_8 : decode prog_11_method_3_code 8 = .ok (.ishl, 1) := by decide +kernel
theorem d_Mo_turn_9 : decode prog_11_method_3_code 9 = .ok (.ior, 1) := by decide +kernel
theorem d_Mo_turn_10 : decode prog_11_method_3_code 10 = .ok (.ireturn, 1) := by decide +kernel
theorem d_Mo_many_0 : decode prog_11_method_25_code 0 = .ok (.aload_n 0, 1) := by decide +kernel
theorem d_Mo_many_1 : decode prog_11_method_25_code 1 = .ok (.iconst 1, 1) := by decide +kernel
theorem d_Mo_many_2 : decode prog_11_method_25_code 2 = .ok (.invokevirtual 131, 3) := by decide +kernel
theorem d_Mo_many_5 : decode prog_11_method_25_code 5 = .ok (.ifCond .eq 16, 3) := by decide +kernel
theorem d_Mo_many_8 : decode prog_11_method_25_code 8 = .ok (.aload_n 0, 1) := by decide +kernel
theorem d_Mo_many_9 : decode prog_11_method_25_code 9 = .ok (.aload_n 0, 1) := by decide +kernel
theorem d_Mo_many_10 : decode prog_11_method_25_code 10 = .ok (.getfield 100, 3) := by decide +kernel
theorem d_Mo_many_13 : decode prog_11_method_25_code 13 = .ok (.iconst 1, 1) := by decide +kernel
theorem d_Mo_many_14 : decode prog_11_method_25_code 14 = .ok (.isub, 1) := by decide +kernel
theorem d_Mo_many_15 : decode prog_11_method_25_code 15 = .ok (.invokevirtual 149, 3) := by decide +kernel
theorem d_Mo_many_18 : decode prog_11_method_25_code 18 = .ok (.ifCond .ne 5, 3) := by decide +kernel
theorem d_Mo_many_21 : decode prog_11_method_25_code 21 = .ok (.iconst 0, 1) := by decide +kernel
theorem d_Mo_many_22 : decode prog_11_method_25_code 22 = .ok (.ireturn, 1) := by decide +kernel
theorem d_Mo_many_23 : decode prog_11_method_25_code 23 = .ok (.aload_n 0, 1) := by decide +kernel
theorem d_Mo_many_24 : decode prog_11_method_25_code 24 = .ok (.aload_n 0, 1) := by decide +kernel
theorem d_Mo_many_25 : decode prog_11_method_25_code 25 = .ok (.getfield 100, 3) := by decide +kernel
theorem d_Mo_many_28 : decode prog_11_method_25_code 28 = .ok (.iconst 1, 1) := by decide +kernel
theorem d_Mo_many_29 : decode prog_11_method_25_code 29 = .ok (.isub, 1) := by decide +kernel
theorem d_Mo_many_30 : decode prog_11_method_25_code 30 = .ok (.invokevirtual 152, 3) := by decide +kernel
theorem d_Mo_many_33 : decode prog_11_method_25_code 33 = .ok (.lstore_n 2, 1) := by decide +kernel
theorem d_Mo_many_34 : decode prog_11_method_25_code 34 = .ok (.lload_n 2, 1) := by decide +kernel
theorem d_Mo_many_35 : decode prog_11_method_25_code 35 = .ok (.lconst 0, 1) := by decide +kernel
theorem d_Mo_many_36 : decode prog_11_method_25_code 36 = .ok (.lcmp, 1) := by decide +kernel
theorem d_Mo_many_37 : decode prog_11_method_25_code 37 = .ok (.ifCond .lt 11, 3) := by decide +kernel
theorem d_Mo_many_40 : decode prog_11_method_25_code 40 = .ok (.lload_n 2, 1) := by decide +kernel
theorem d_Mo_many_41 : decode prog_11_method_25_code 41 = .ok (.ldc2_w 177, 3) := by decide +kernel
theorem d_Mo_many_44 : decode prog_11_method_25_code 44 = .ok (.lcmp, 1) := by decide +kernel
theorem d_Mo_many_45 : decode prog_11_method_25_code 45 = .ok (.ifCond .le 5, 3) := by decide +kernel
theorem d_Mo_many_48 : decode prog_11_method_25_code 48 = .ok (.iconst 0, 1) := by decide +kernel
theorem d_Mo_many_49 : decode prog_11_method_25_code 49 = .ok (.ireturn, 1) := by decide +kernel
theorem d_Mo_many_50 : decode prog_11_method_25_code 50 = .ok (.aload_n 0, 1) := by decide +kernel
theorem d_Mo_many_51 : decode prog_11_method_25_code 51 = .ok (.dup, 1) := by decide +kernel
theorem d_Mo_many_52 : decode prog_11_method_25_code 52 = .ok (.getfield 114, 3) := by decide +kernel
theorem d_Mo_many_55 : decode prog_11_method_25_code 55 = .ok (.lload_n 2, 1) := by decide +kernel
theorem d_Mo_many_56 : decode prog_11_method_25_code 56 = .ok (.l2i, 1) := by decide +kernel
theorem d_Mo_many_57 : decode prog_11_method_25_code 57 = .ok (.iadd, 1) := by decide +kernel
theorem d_Mo_many_58 : decode prog_11_method_25_code 58 = .ok (.putfield 114, 3) := by decide +kernel
theorem d_Mo_many_61 : decode prog_11_method_25_code 61 = .ok (.aload_n 0, 1) := by decide +kernel
theorem d_Mo_many_62 : decode prog_11_method_25_code 62 = .ok (.getfield 114, 3) := by decide +kernel
theorem d_Mo_many_65 : decode prog_11_method_25_code 65 = .ok (.sipush 201, 3) := by decide +kernel
theorem d_Mo_many_68 : decode prog_11_method_25_code 68 = .ok (.if_icmp .gt 14, 3) := by decide +kernel
theorem d_Mo_many_71 : decode prog_11_method_25_code 71 = .ok (.aload_n 0, 1) := by decide +kernel
theorem d_Mo_many_72 : decode prog_11_method_25_code 72 = .ok (.lload_n 2, 1) := by decide +kernel
theorem d_Mo_many_73 : decode prog_11_method_25_code 73 = .ok (.l2i, 1) := by decide +kernel
theorem d_Mo_many_74 : decode prog_11_method_25_code 74 = .ok (.iconst 2, 1) := by decide +kernel
theorem d_Mo_many_75 : decode prog_11_method_25_code 75 = .ok (.iadd, 1) := by decide +kernel
theorem d_Mo_many_76 : decode prog_11_method_25_code 76 = .ok (.invokevirtual 131, 3) := by decide +kernel
theorem d_Mo_many_79 : decode prog_11_method_25_code 79 = .ok (.ifCond .ne 5, 3) := by decide +kernel
theorem d_Mo_many_82 : decode prog_11_method_25_code 82 = .ok (.iconst 0, 1) := by decide +kernel
theorem d_Mo_many_83 : decode prog_11_method_25_code 83 = .ok (.ireturn, 1) := by decide +kernel
theorem d_Mo_many_84 : decode prog_11_method_25_code 84 = .ok (.aload_n 0, 1) := by decide +kernel
theorem d_Mo_many_85 : decode prog_11_method_25_code 85 = .ok (.getfield 100, 3) := by decide +kernel
theorem d_Mo_many_88 : decode prog_11_method_25_code 88 = .ok (.iconst 2, 1) := by decide +kernel
theorem d_Mo_many_89 : decode prog_11_method_25_code 89 = .ok (.isub, 1) := by decide +kernel
theorem d_Mo_many_90 : decode prog_11_method_25_code 90 = .ok (.lload_n 2, 1) := by decide +kernel
theorem d_Mo_many_91 : decode prog_11_method_25_code 91 = .ok (.l2i, 1) := by decide +kernel
theorem d_Mo_many_92 : decode prog_11_method_25_code 92 = .ok (.isub, 1) := by decide +kernel
theorem d_Mo_many_93 : decode prog_11_method_25_code 93 = .ok (.istore 4, 2) := by decide +kernel
theorem d_Mo_many_95 : decode prog_11_method_25_code 95 = .ok (.aload_n 0, 1) := by decide +kernel
theorem d_Mo_many_96 : decode prog_11_method_25_code 96 = .ok (.iload 4, 2) := by decide +kernel
theorem d_Mo_many_98 : decode prog_11_method_25_code 98 = .ok (.invokevirtual 149, 3) := by decide +kernel
theorem d_Mo_many_101 : decode prog_11_method_25_code 101 = .ok (.ifCond .ne 5, 3) := by decide +kernel
theorem d_Mo_many_104 : decode prog_11_method_25_code 104 = .ok (.iconst 0, 1) := by decide +kernel
theorem d_Mo_many_105 : decode prog_11_method_25_code 105 = .ok (.ireturn, 1) := by decide +kernel
theorem d_Mo_many_106 : decode prog_11_method_25_code 106 = .ok (.aload_n 0, 1) := by decide +kernel
theorem d_Mo_many_107 : decode prog_11_method_25_code 107 = .ok (.iload 4, 2) := by decide +kernel
theorem d_Mo_many_109 : decode prog_11_method_25_code 109 = .ok (.invokevirtual 152, 3) := by decide +kernel
theorem d_Mo_many_112 : decode prog_11_method_25_code 112 = .ok (.lstore 5, 2) := by decide +kernel
theorem d_Mo_many_114 : decode prog_11_method_25_code 114 = .ok (.lload 5, 2) := by decide +kernel
theorem d_Mo_many_116 : decode prog_11_method_25_code 116 = .ok (.lconst 0, 1) := by decide +kernel
theorem d_Mo_many_117 : decode prog_11_method_25_code 117 = .ok (.lcmp, 1) := by decide +kernel
theorem d_Mo_many_118 : decode prog_11_method_25_code 118 = .ok (.ifCond .lt 23, 3) := by decide +kernel
theorem d_Mo_many_121 : decode prog_11_method_25_code 121 = .ok (.lload 5, 2) := by decide +kernel
theorem d_Mo_many_123 : decode prog_11_method_25_code 123 = .ok (.lload_n 2, 1) := by decide +kernel
theorem d_Mo_many_124 : decode prog_11_method_25_code 124 = .ok (.lcmp, 1) := by decide +kernel
theorem d_Mo_many_125 : decode prog_11_method_25_code 125 = .ok (.ifCond .gt 16, 3) := by decide +kernel
theorem d_Mo_many_128 : decode prog_11_method_25_code 128 = .ok (.iload 4, 2) := by decide +kernel
theorem d_Mo_many_130 : decode prog_11_method_25_code 130 = .ok (.i2l, 1) := by decide +kernel
theorem d_Mo_many_131 : decode prog_11_method_25_code 131 = .ok (.lload 5, 2) := by decide +kernel
theorem d_Mo_many_133 : decode prog_11_method_25_code 133 = .ok (.lsub, 1) := by decide +kernel
theorem d_Mo_many_134 : decode prog_11_method_25_code 134 = .ok (.lconst 1, 1) := by decide +kernel
theorem d_Mo_many_135 : decode prog_11_method_25_code 135 = .ok (.lsub, 1) := by decide +kernel
theorem d_Mo_many_136 : decode prog_11_method_25_code 136 = .ok (.lconst 0, 1) := by decide +kernel
theorem d_Mo_many_137 : decode prog_11_method_25_code 137 = .ok (.lcmp, 1) := by decide +kernel
theorem d_Mo_many_138 : decode prog_11_method_25_code 138 = .ok (.ifCond .ge 5, 3) := by decide +kernel
theorem d_Mo_many_141 : decode prog_11_method_25_code 141 = .ok (.iconst 0, 1) := by decide +kernel
theorem d_Mo_many_142 : decode prog_11_method_25_code 142 = .ok (.ireturn, 1) := by decide +kernel
theorem d_Mo_many_143 : decode prog_11_method_25_code 143 = .ok (.lload 5, 2) := by decide +kernel
theorem d_Mo_many_145 : decode prog_11_method_25_code 145 = .ok (.lconst 0, 1) := by decide +kernel
theorem d_Mo_many_146 : decode prog_11_method_25_code 146 = .ok (.lcmp, 1) := by decide +kernel
theorem d_Mo_many_147 : decode prog_11_method_25_code 147 = .ok (.ifCond .ne 7, 3) := by decide +kernel
theorem d_Mo_many_150 : decode prog_11_method_25_code 150 = .ok (.iconst 1, 1) := by decide +kernel
theorem d_Mo_many_151 : decode prog_11_method_25_code 151 = .ok (.goto 4, 3) := by decide +kernel
theorem d_Mo_many_154 : decode prog_11_method_25_code 154 = .ok (.iconst 0, 1) := by decide +kernel
theorem d_Mo_many_155 : decode prog_11_method_25_code 155 = .ok (.istore 7, 2) := by decide +kernel
theorem d_Mo_many_157 : decode prog_11_method_25_code 157 = .ok (.aload_n 0, 1) := by decide +kernel
theorem d_Mo_many_158 : decode prog_11_method_25_code 158 = .ok (.iload 4, 2) := by decide +kernel
theorem d_Mo_many_160 : decode prog_11_method_25_code 160 = .ok (.lload 5, 2) := by decide +kernel
theorem d_Mo_many_162 : decode prog_11_method_25_code 162 = .ok (.l2i, 1) := by decide +kernel
theorem d_Mo_many_163 : decode prog_11_method_25_code 163 = .ok (.isub, 1) := by decide +kernel
theorem d_Mo_many_164 : decode prog_11_method_25_code 164 = .ok (.iconst 1, 1) := by decide +kernel
theorem d_Mo_many_165 : decode prog_11_method_25_code 165 = .ok (.isub, 1) := by decide +kernel
theorem d_Mo_many_166 : decode prog_11_method_25_code 166 = .ok (.putfield 100, 3) := by decide +kernel
theorem d_Mo_many_169 : decode prog_11_method_25_code 169 = .ok (.iload_n 1, 1) := by decide +kernel
theorem d_Mo_many_170 : decode prog_11_method_25_code 170 = .ok (.ifCond .eq 6, 3) := by decide +kernel
theorem d_Mo_many_173 : decode prog_11_method_25_code 173 = .ok (.iload 7, 2) := by decide +kernel
theorem d_Mo_many_175 : decode prog_11_method_25_code 175 = .ok (.ireturn, 1) := by decide +kernel
theorem d_Mo_many_176 : decode prog_11_method_25_code 176 = .ok (.aload_n 0, 1) := by decide +kernel
theorem d_Mo_many_177 : decode prog_11_method_25_code 177 = .ok (.iload 7, 2) := by decide +kernel
theorem d_Mo_many_179 : decode prog_11_method_25_code 179 = .ok (.invokevirtual 160, 3) := by decide +kernel
theorem d_Mo_many_182 : decode prog_11_method_25_code 182 = .ok (.iconst 1, 1) := by decide +kernel
theorem d_Mo_many_183 : decode prog_11_method_25_code 183 = .ok (.ireturn, 1) := by decide +kernel
theorem d_Mo_depth_0 : decode prog_11_method_31_code 0 = .ok (.aload_n 0, 1) := by decide +kernel
theorem d_Mo_depth_1 : decode prog_11_method_31_code 1 = .ok (.iconst 0, 1) := by decide +kernel
theorem d_Mo_depth_2 : decode prog_11_method_31_code 2 = .ok (.putfield 44, 3) := by decide +kernel
theorem d_Mo_depth_5 : decode prog_11_method_31_code 5 = .ok (.aload_n 0, 1) := by decide +kernel
theorem d_Mo_depth_6 : decode prog_11_method_31_code 6 = .ok (.getfield 100, 3) := by decide +kernel
theorem d_Mo_depth_9 : decode prog_11_method_31_code 9 = .ok (.ireturn, 1) := by decide +kernel
theorem d_Mo_size_0 : decode prog_11_method_33_code 0 = .ok (.aload_n 0, 1) := by decide +kernel
theorem d_Mo_size_1 : decode prog_11_method_33_code 1 = .ok (.iload_n 1, 1) := by decide +kernel
theorem d_Mo_size_2 : decode prog_11_method_33_code 2 = .ok (.invokevirtual 193, 3) := by decide +kernel
theorem d_Mo_size_5 : decode prog_11_method_33_code 5 = .ok (.ifCond .eq 19, 3) := by decide +kernel
theorem d_Mo_size_8 : decode prog_11_method_33_code 8 = .ok (.aload_n 0, 1) := by decide +kernel
theorem d_Mo_size_9 : decode prog_11_method_33_code 9 = .ok (.getfield 37, 3) := by decide +kernel
theorem d_Mo_size_12 : decode prog_11_method_33_code 12 = .ok (.aload_n 0, 1) := by decide +kernel
theorem d_Mo_size_13 : decode prog_11_method_33_code 13 = .ok (.getfield 100, 3) := by decide +kernel
theorem d_Mo_size_16 : decode prog_11_method_33_code 16 = .ok (.iconst 1, 1) := by decide +kernel
theorem d_Mo_size_17 : decode prog_11_method_33_code 17 = .ok (.isub, 1) := by decide +kernel
theorem d_Mo_size_18 : decode prog_11_method_33_code 18 = .ok (.iload_n 1, 1) := by decide +kernel
theorem d_Mo_size_19 : decode prog_11_method_33_code 19 = .ok (.isub, 1) := by decide +kernel
theorem d_Mo_size_20 : decode prog_11_method_33_code 20 = .ok (.iaload, 1) := by decide +kernel
theorem d_Mo_size_21 : decode prog_11_method_33_code 21 = .ok (.goto 4, 3) := by decide +kernel
theorem d_Mo_size_24 : decode prog_11_method_33_code 24 = .ok (.iconst 0, 1) := by decide +kernel
theorem d_Mo_size_25 : decode prog_11_method_33_code 25 = .ok (.ireturn, 1) := by decide +kernel
theorem d_Mo_isThing_0 : decode prog_11_method_32_code 0 = .ok (.aload_n 0, 1) := by decide +kernel
theorem d_Mo_isThing_1 : decode prog_11_method_32_code 1 = .ok (.iload_n 1, 1) := by decide +kernel
theorem d_Mo_isThing_2 : decode prog_11_method_32_code 2 = .ok (.ifCond .lt 11, 3) := by decide +kernel
theorem d_Mo_isThing_5 : decode prog_11_method_32_code 5 = .ok (.iload_n 1, 1) := by decide +kernel
theorem d_Mo_isThing_6 : decode prog_11_method_32_code 6 = .ok (.aload_n 0, 1) := by decide +kernel
theorem d_Mo_isThing_7 : decode prog_11_method_32_code 7 = .ok (.getfield 100, 3) := by decide +kernel
theorem d_Mo_isThing_10 : decode prog_11_method_32_code 10 = .ok (.if_icmp .lt 7, 3) := by decide +kernel
theorem d_Mo_isThing_13 : decode prog_11_method_32_code 13 = .ok (.iconst 1, 1) := by decide +kernel
theorem d_Mo_isThing_14 : decode prog_11_method_32_code 14 = .ok (.goto 4, 3) := by decide +kernel
theorem d_Mo_isThing_17 : decode prog_11_method_32_code 17 = .ok (.iconst 0, 1) := by decide +kernel
theorem d_Mo_isThing_18 : decode prog_11_method_32_code 18 = .ok (.putfield 44, 3) := by decide +kernel
theorem d_Mo_isThing_21 : decode prog_11_method_32_code 21 = .ok (.aload_n 0, 1) := by decide +kernel
theorem d_Mo_isThing_22 : decode prog_11_method_32_code 22 = .ok (.getfield 44, 3) := by decide +kernel
theorem d_Mo_isThing_25 : decode prog_11_method_32_code 25 = .ok (.ifCond .ne 7, 3) := by decide +kernel
theorem d_Mo_isThing_28 : decode prog_11_method_32_code 28 = .ok (.iconst 1, 1) := by decide +kernel
theorem d_Mo_isThing_29 : decode prog_11_method_32_code 29 = .ok (.goto 4, 3) := by decide +kernel
theorem d_Mo_isThing_32 : decode prog_11_method_32_code 32 = .ok (.iconst 0, 1) := by decide +kernel
theorem d_Mo_isThing_33 : decode prog_11_method_32_code 33 = .ok (.ireturn, 1) := by decide +kernel
theorem d_Mo_at_0 : decode prog_11_method_34_code 0 = .ok (.aload_n 0, 1) := by decide +kernel
theorem d_Mo_at_1 : decode prog_11_method_34_code 1 = .ok (.iload_n 1, 1) := by decide +kernel
theorem d_Mo_at_2 : decode prog_11_method_34_code 2 = .ok (.invokevirtual 193, 3) := by decide +kernel
theorem d_Mo_at_5 : decode prog_11_method_34_code 5 = .ok (.ifCond .ne 5, 3) := by decide +kernel
theorem d_Mo_at_8 : decode prog_11_method_34_code 8 = .ok (.iconst 0, 1) := by decide +kernel
theorem d_Mo_at_9 : decode prog_11_method_34_code 9 = .ok (.ireturn, 1) := by decide +kernel
theorem d_Mo_at_10 : decode prog_11_method_34_code 10 = .ok (.aload_n 0, 1) := by decide +kernel
theorem d_Mo_at_11 : decode prog_11_method_34_code 11 = .ok (.getfield 100, 3) := by decide +kernel
theorem d_Mo_at_14 : decode prog_11_method_34_code 14 = .ok (.iconst 1, 1) := by decide +kernel
theorem d_Mo_at_15 : decode prog_11_method_34_code 15 = .ok (.isub, 1) := by decide +kernel
theorem d_Mo_at_16 : decode prog_11_method_34_code 16 = .ok (.iload_n 1, 1) := by decide +kernel
theorem d_Mo_at_17 : decode prog_11_method_34_code 17 = .ok (.isub, 1) := by decide +kernel
theorem d_Mo_at_18 : decode prog_11_method_34_code 18 = .ok (.istore_n 3, 1) := by decide +kernel
theorem d_Mo_at_19 : decode prog_11_method_34_code 19 = .ok (.aload_n 0, 1) := by decide +kernel
theorem d_Mo_at_20 : decode prog_11_method_34_code 20 = .ok (.iload_n 2, 1) := by decide +kernel
theorem d_Mo_at_21 : decode prog_11_method_34_code 21 = .ok (.ifCond .lt 13, 3) := by decide +kernel
theorem d_Mo_at_24 : decode prog_11_method_34_code 24 = .ok (.iload_n 2, 1) := by decide +kernel
theorem d_Mo_at_25 : decode prog_11_method_34_code 25 = .ok (.aload_n 0, 1) := by decide +kernel
theorem d_Mo_at_26 : decode prog_11_method_34_code 26 = .ok (.getfield 37, 3) := by decide +kernel
theorem d_Mo_at_29 : decode prog_11_method_34_code 29 = .ok (.iload_n 3, 1) := by decide +kernel
theorem d_Mo_at_30 : decode prog_11_method_34_code 30 = .ok (.iaload, 1) := by decide +kernel
theorem d_Mo_at_31 : decode prog_11_method_34_code 31 = .ok (.if_icmp .lt 7, 3) := by decide +kernel
theorem d_Mo_at_34 : decode prog_11_method_34_code 34 = .ok (.iconst 1, 1) := by decide +kernel
theorem d_Mo_at_35 : decode prog_11_method_34_code 35 = .ok (.goto 4, 3) := by decide +kernel
theorem d_Mo_at_38 : decode prog_11_method_34_code 38 = .ok (.iconst 0, 1) := by decide +kernel
theorem d_Mo_at_39 : decode prog_11_method_34_code 39 = .ok (.putfield 44, 3) := by decide +kernel
theorem d_Mo_at_42 : decode prog_11_method_34_code 42 = .ok (.aload_n 0, 1) := by decide +kernel
theorem d_Mo_at_43 : decode prog_11_method_34_code 43 = .ok (.getfield 44, 3) := by decide +kernel
theorem d_Mo_at_46 : decode prog_11_method_34_code 46 = .ok (.ifCond .le 7, 3) := by decide +kernel
theorem d_Mo_at_49 : decode prog_11_method_34_code 49 = .ok (.iconst 0, 1) := by decide +kernel
theorem d_Mo_at_50 : decode prog_11_method_34_code 50 = .ok (.goto 19, 3) := by decide +kernel
theorem d_Mo_at_53 : decode prog_11_method_34_code 53 = .ok (.aload_n 0, 1) := by decide +kernel
theorem d_Mo_at_54 : decode prog_11_method_34_code 54 = .ok (.getfield 34, 3) := by decide +kernel
theorem d_Mo_at_57 : decode prog_11_method_34_code 57 = .ok (.sipush 256, 3) := by decide +kernel
theorem d_Mo_at_60 : decode prog_11_method_34_code 60 = .ok (.iload_n 3, 1) := by decide +kernel
theorem d_Mo_at_61 : decode prog_11_method_34_code 61 = .ok (.imul, 1) := by decide +kernel
theorem d_Mo_at_62 : decode prog_11_method_34_code 62 = .ok (.iload_n 2, 1) := by decide +kernel
theorem d_Mo_at_63 : decode prog_11_method_34_code 63 = .ok (.iadd, 1) := by decide +kernel
theorem d_Mo_at_64 : decode prog_11_method_34_code 64 = .ok (.baload, 1) := by decide +kernel
theorem d_Mo_at_65 : decode prog_11_method_34_code 65 = .ok (.sipush 255, 3) := by decide +kernel
theorem d_Mo_at_68 : decode prog_11_method_34_code 68 = .ok (.iand, 1) := by decide +kernel
theorem d_Mo_at_69 : decode prog_11_method_34_code 69 = .ok (.ireturn, 1) := by decide +kernel
theorem d_Mo_number_0 : decode prog_11_method_35_code 0 = .ok (.aload_n 0, 1) := by decide +kernel
theorem d_Mo_number_1 : decode prog_11_method_35_code 1 = .ok (.iload_n 1, 1) := by decide +kernel
theorem d_Mo_number_2 : decode prog_11_method_35_code 2 = .ok (.invokevirtual 193, 3) := by decide +kernel
theorem d_Mo_number_5 : decode prog_11_method_35_code 5 = .ok (.ifCond .ne 5, 3) := by decide +kernel
theorem d_Mo_number_8 : decode prog_11_method_35_code 8 = .ok (.iconst 0, 1) := by decide +kernel
theorem d_Mo_number_9 : decode prog_11_method_35_code 9 = .ok (.ireturn, 1) := by decide +kernel
theorem d_Mo_number_10 : decode prog_11_method_35_code 10 = .ok (.aload_n 0, 1) := by decide +kernel
theorem d_Mo_number_11 : decode prog_11_method_35_code 11 = .ok (.getfield 100, 3) := by decide +kernel
theorem d_Mo_number_14 : decode prog_11_method_35_code 14 = .ok (.iconst 1, 1) := by decide +kernel
theorem d_Mo_number_15 : decode prog_11_method_35_code 15 = .ok (.isub, 1) := by decide +kernel
theorem d_Mo_number_16 : decode prog_11_method_35_code 16 = .ok (.iload_n 1, 1) := by decide +kernel
theorem d_Mo_number_17 : decode prog_11_method_35_code 17 = .ok (.isub, 1) := by decide +kernel
theorem d_Mo_number_18 : decode prog_11_method_35_code 18 = .ok (.istore_n 2, 1) := by decide +kernel
theorem d_Mo_number_19 : decode prog_11_method_35_code 19 = .ok (.aload_n 0, 1) := by decide +kernel
theorem d_Mo_number_20 : decode prog_11_method_35_code 20 = .ok (.aload_n 0, 1) := by decide +kernel
theorem d_Mo_number_21 : decode prog_11_method_35_code 21 = .ok (.iload_n 2, 1) := by decide +kernel
theorem d_Mo_number_22 : decode prog_11_method_35_code 22 = .ok (.invokevirtual 149, 3) := by decide +kernel
theorem d_Mo_number_25 : decode prog_11_method_35_code 25 = .ok (.ifCond .eq 7, 3) := by decide +kernel
theorem d_Mo_number_28 : decode prog_11_method_35_code 28 = .ok (.iconst 0, 1) := by decide +kernel
theorem d_Mo_number_29 : decode prog_11_method_35_code 29 = .ok (.goto 4, 3) := by decide +kernel
theorem d_Mo_number_32 : decode prog_11_method_35_code 32 = .ok (.iconst 2, 1) := by decide +kernel
theorem d_Mo_number_33 : decode prog_11_method_35_code 33 = .ok (.putfield 44, 3) := by decide +kernel
theorem d_Mo_number_36 : decode prog_11_method_35_code 36 = .ok (.aload_n 0, 1) := by decide +kernel
theorem d_Mo_number_37 : decode prog_11_method_35_code 37 = .ok (.getfield 44, 3) := by decide +kernel
theorem d_Mo_number_40 : decode prog_11_method_35_code 40 = .ok (.ifCond .le 7, 3) := by decide +kernel
theorem d_Mo_number_43 : decode prog_11_method_35_code 43 = .ok (.iconst 0, 1) := by decide +kernel
theorem d_Mo_number_44 : decode prog_11_method_35_code 44 = .ok (.goto 9, 3) := by decide +kernel
theorem d_Mo_number_47 : decode prog_11_method_35_code 47 = .ok (.aload_n 0, 1) := by decide +kernel
theorem d_Mo_number_48 : decode prog_11_method_35_code 48 = .ok (.iload_n 2, 1) := by decide +kernel
theorem d_Mo_number_49 : decode prog_11_method_35_code 49 = .ok (.invokevirtual 152, 3) := by decide +kernel
theorem d_Mo_number_52 : decode prog_11_method_35_code 52 = .ok (.l2i, 1) := by decide +kernel
theorem d_Mo_number_53 : decode prog_11_method_35_code 53 = .ok (.ireturn, 1) := by decide +kernel
theorem d_Mo_sigs_0 : decode prog_11_method_36_code 0 = .ok (.aload_n 0, 1) := by decide +kernel
theorem d_Mo_sigs_1 : decode prog_11_method_36_code 1 = .ok (.iload_n 1, 1) := by decide +kernel
theorem d_Mo_sigs_2 : decode prog_11_method_36_code 2 = .ok (.invokevirtual 186, 3) := by decide +kernel
theorem d_Mo_sigs_5 : decode prog_11_method_36_code 5 = .ok (.ifCond .ne 5, 3) := by decide +kernel
theorem d_Mo_sigs_8 : decode prog_11_method_36_code 8 = .ok (.iconst 0, 1) := by decide +kernel
theorem d_Mo_sigs_9 : decode prog_11_method_36_code 9 = .ok (.ireturn, 1) := by decide +kernel
theorem d_Mo_sigs_10 : decode prog_11_method_36_code 10 = .ok (.iconst 0, 1) := by decide +kernel
theorem d_Mo_sigs_11 : decode prog_11_method_36_code 11 = .ok (.istore_n 2, 1) := by decide +kernel
theorem d_Mo_sigs_12 : decode prog_11_method_36_code 12 = .ok (.iconst 0, 1) := by decide +kernel
theorem d_Mo_sigs_13 : decode prog_11_method_36_code 13 = .ok (.istore_n 3, 1) := by decide +kernel
theorem d_Mo_sigs_14 : decode prog_11_method_36_code 14 = .ok (.iload_n 3, 1) := by decide +kernel
theorem d_Mo_sigs_15 : decode prog_11_method_36_code 15 = .ok (.iload_n 1, 1) := by decide +kernel
theorem d_Mo_sigs_16 : decode prog_11_method_36_code 16 = .ok (.if_icmp .ge 118, 3) := by decide +kernel
theorem d_Mo_sigs_19 : decode prog_11_method_36_code 19 = .ok (.aload_n 0, 1) := by decide +kernel
theorem d_Mo_sigs_20 : decode prog_11_method_36_code 20 = .ok (.getfield 9, 3) := by decide +kernel
theorem d_Mo_sigs_23 : decode prog_11_method_36_code 23 = .ok (.iload_n 3, 1) := by decide +kernel
theorem d_Mo_sigs_24 : decode prog_11_method_36_code 24 = .ok (.baload, 1) := by decide +kernel
theorem d_Mo_sigs_25 : decode prog_11_method_36_code 25 = .ok (.sipush 255, 3) := by decide +kernel
theorem d_Mo_sigs_28 : decode prog_11_method_36_code 28 = .ok (.iand, 1) := by decide +kernel
theorem d_Mo_sigs_29 : decode prog_11_method_36_code 29 = .ok (.istore 4, 2) := by decide +kernel
theorem d_Mo_sigs_31 : decode prog_11_method_36_code 31 = .ok (.iconst 0, 1) := by decide +kernel
theorem d_Mo_sigs_32 : decode prog_11_method_36_code 32 = .ok (.istore 5, 2) := by decide +kernel
theorem d_Mo_sigs_34 : decode prog_11_method_36_code 34 = .ok (.iinc 3 1, 3) := by decide +kernel
theorem d_Mo_sigs_37 : decode prog_11_method_36_code 37 = .ok (.iload 4, 2) := by decide +kernel
theorem d_Mo_sigs_39 : decode prog_11_method_36_code 39 = .ok (.bipush 76, 2) := by decide +kernel
theorem d_Mo_sigs_41 : decode prog_11_method_36_code 41 = .ok (.if_icmp .ge 10, 3) := by decide +kernel
theorem d_Mo_sigs_44 : decode prog_11_method_36_code 44 = .ok (.iload 4, 2) := by decide +kernel
theorem d_Mo_sigs_46 : decode prog_11_method_36_code 46 = .ok (.istore 5, 2) := by decide +kernel
theorem d_Mo_sigs_48 : decode prog_11_method_36_code 48 = .ok (.goto 68, 3) := by decide +kernel
theorem d_Mo_sigs_51 : decode prog_11_method_36_code 51 = .ok (.iload 4, 2) := by decide +kernel
theorem d_Mo_sigs_53 : decode prog_11_method_36_code 53 = .ok (.bipush 76, 2) := by decide +kernel
theorem d_Mo_sigs_55 : decode prog_11_method_36_code 55 = .ok (.if_icmp .ne 28, 3) := by decide +kernel
theorem d_Mo_sigs_58 : decode prog_11_method_36_code 58 = .ok (.iload_n 3, 1) := by decide +kernel
theorem d_Mo_sigs_59 : decode prog_11_method_36_code 59 = .ok (.iload_n 1, 1) := by decide +kernel
theorem d_Mo_sigs_60 : decode prog_11_method_36_code 60 = .ok (.if_icmp .ne 5, 3) := by decide +kernel
theorem d_Mo_sigs_63 : decode prog_11_method_36_code 63 = .ok (.iload_n 2, 1) := by decide +kernel
theorem d_Mo_sigs_64 : decode prog_11_method_36_code 64 = .ok (.ireturn, 1) := by decide +kernel
theorem d_Mo_sigs_65 : decode prog_11_method_36_code 65 = .ok (.aload_n 0, 1) := by decide +kernel
theorem d_Mo_sigs_66 : decode prog_11_method_36_code 66 = .ok (.getfield 9, 3) := by decide +kernel
theorem d_Mo_sigs_69 : decode prog_11_method_36_code 69 = .ok (.iload_n 3, 1) := by decide +kernel
theorem d_Mo_sigs_70 : decode prog_11_method_36_code 70 = .ok (.baload, 1) := by decide +kernel
theorem d_Mo_sigs_71 : decode prog_11_method_36_code 71 = .ok (.sipush 255, 3) := by decide +kernel
theorem d_Mo_sigs_74 : decode prog_11_method_36_code 74 = .ok (.iand, 1) := by decide +kernel
theorem d_Mo_sigs_75 : decode prog_11_method_36_code 75 = .ok (.istore 5, 2) := by decide +kernel
theorem d_Mo_sigs_77 : decode prog_11_method_36_code 77 = .ok (.iinc 3 1, 3) := by decide +kernel
theorem d_Mo_sigs_80 : decode prog_11_method_36_code 80 = .ok (.goto 36, 3) := by decide +kernel
theorem d_Mo_sigs_83 : decode prog_11_method_36_code 83 = .ok (.iload 4, 2) := by decide +kernel
theorem d_Mo_sigs_85 : decode prog_11_method_36_code 85 = .ok (.sipush 172, 3) := by decide +kernel
theorem d_Mo_sigs_88 : decode prog_11_method_36_code 88 = .ok (.if_icmp .lt 28, 3) := by decide +kernel
theorem d_Mo_sigs_91 : decode prog_11_method_36_code 91 = .ok (.iload 4, 2) := by decide +kernel
theorem d_Mo_sigs_93 : decode prog_11_method_36_code 93 = .ok (.sipush 175, 3) := by decide +kernel
theorem d_Mo_sigs_96 : decode prog_11_method_36_code 96 = .ok (.if_icmp .gt 20, 3) := by decide +kernel
theorem d_Mo_sigs_99 : decode prog_11_method_36_code 99 = .ok (.iload_n 2, 1) := by decide +kernel
theorem d_Mo_sigs_100 : decode prog_11_method_36_code 100 = .ok (.iload 4, 2) := by decide +kernel
theorem d_Mo_sigs_102 : decode prog_11_method_36_code 102 = .ok (.sipush 174, 3) := by decide +kernel
theorem d_Mo_sigs_105 : decode prog_11_method_36_code 105 = .ok (.if_icmp .ge 7, 3) := by decide +kernel
theorem d_Mo_sigs_108 : decode prog_11_method_36_code 108 = .ok (.iconst 1, 1) := by decide +kernel
theorem d_Mo_sigs_109 : decode prog_11_method_36_code 109 = .ok (.goto 5, 3) := by decide +kernel
theorem d_Mo_sigs_112 : decode prog_11_method_36_code 112 = .ok (.bipush 20, 2) := by decide +kernel
theorem d_Mo_sigs_114 : decode prog_11_method_36_code 114 = .ok (.iadd, 1) := by decide +kernel
theorem d_Mo_sigs_115 : decode prog_11_method_36_code 115 = .ok (.istore_n 2, 1) := by decide +kernel
theorem d_Mo_sigs_116 : decode prog_11_method_36_code 116 = .ok (.iload 5, 2) := by decide +kernel
theorem d_Mo_sigs_118 : decode prog_11_method_36_code 118 = .ok (.iload_n 1, 1) := by decide +kernel
theorem d_Mo_sigs_119 : decode prog_11_method_36_code 119 = .ok (.iload_n 3, 1) := by decide +kernel
theorem d_Mo_sigs_120 : decode prog_11_method_36_code 120 = .ok (.isub, 1) := by decide +kernel
theorem d_Mo_sigs_121 : decode prog_11_method_36_code 121 = .ok (.if_icmp .le 5, 3) := by decide +kernel
theorem d_Mo_sigs_124 : decode prog_11_method_36_code 124 = .ok (.iload_n 2, 1) := by decide +kernel
theorem d_Mo_sigs_125 : decode prog_11_method_36_code 125 = .ok (.ireturn, 1) := by decide +kernel
theorem d_Mo_sigs_126 : decode prog_11_method_36_code 126 = .ok (.iload_n 3, 1) := by decide +kernel
theorem d_Mo_sigs_127 : decode prog_11_method_36_code 127 = .ok (.iload 5, 2) := by decide +kernel
theorem d_Mo_sigs_129 : decode prog_11_method_36_code 129 = .ok (.iadd, 1) := by decide +kernel
theorem d_Mo_sigs_130 : decode prog_11_method_36_code 130 = .ok (.istore_n 3, 1) := by decide +kernel
theorem d_Mo_sigs_131 : decode prog_11_method_36_code 131 = .ok (.goto (-117), 3) := by decide +kernel
theorem d_Mo_sigs_134 : decode prog_11_method_36_code 134 = .ok (.iload_n 2, 1) := by decide +kernel
theorem d_Mo_sigs_135 : decode prog_11_method_36_code 135 = .ok (.ireturn, 1) := by decide +kernel
theorem d_Mo_hash_0 : decode prog_11_method_37_code 0 = .ok (.aload_n 0, 1) := by decide +kernel
theorem d_Mo_hash_1 : decode prog_11_method_37_code 1 = .ok (.iload_n 1, 1) := by decide +kernel
theorem d_Mo_hash_2 : decode prog_11_method_37_code 2 = .ok (.ifCond .lt 27, 3) := by decide +kernel
theorem d_Mo_hash_5 : decode prog_11_method_37_code 5 = .ok (.iload_n 1, 1) := by decide +kernel
theorem d_Mo_hash_6 : decode prog_11_method_37_code 6 = .ok (.iconst 2, 1) := by decide +kernel
theorem d_Mo_hash_7 : decode prog_11_method_37_code 7 = .ok (.if_icmp .gt 22, 3) := by decide +kernel
theorem d_Mo_hash_10 : decode prog_11_method_37_code 10 = .ok (.iload_n 2, 1) := by decide +kernel
theorem d_Mo_hash_11 : decode prog_11_method_37_code 11 = .ok (.ifCond .lt 18, 3) := by decide +kernel
theorem d_Mo_hash_14 : decode prog_11_method_37_code 14 = .ok (.iload_n 2, 1) := by decide +kernel
theorem d_Mo_hash_15 : decode prog_11_method_37_code 15 = .ok (.iload_n 1, 1) := by decide +kernel
theorem d_Mo_hash_16 : decode prog_11_method_37_code 16 = .ok (.iconst 2, 1) := by decide +kernel
theorem d_Mo_hash_17 : decode prog_11_method_37_code 17 = .ok (.if_icmp .ne 7, 3) := by decide +kernel
theorem d_Mo_hash_20 : decode prog_11_method_37_code 20 = .ok (.iconst 4, 1) := by decide +kernel
theorem d_Mo_hash_21 : decode prog_11_method_37_code 21 = .ok (.goto 5, 3) := by decide +kernel
theorem d_Mo_hash_24 : decode prog_11_method_37_code 24 = .ok (.bipush 7, 2) := by decide +kernel
theorem d_Mo_hash_26 : decode prog_11_method_37_code 26 = .ok (.if_icmp .le 7, 3) := by decide +kernel
theorem d_Mo_hash_29 : decode prog_11_method_37_code 29 = .ok (.iconst 1, 1) := by decide +kernel
theorem d_Mo_hash_30 : decode prog_11_method_37_code 30 = .ok (.goto 4, 3) := by decide +kernel
theorem d_Mo_hash_33 : decode prog_11_method_37_code 33 = .ok (.iconst 0, 1) := by decide +kernel
theorem d_Mo_hash_34 : decode prog_11_method_37_code 34 = .ok (.putfield 44, 3) := by decide +kernel
theorem d_Mo_hash_37 : decode prog_11_method_37_code 37 = .ok (.aload_n 0, 1) := by decide +kernel
theorem d_Mo_hash_38 : decode prog_11_method_37_code 38 = .ok (.getfield 44, 3) := by decide +kernel
theorem d_Mo_hash_41 : decode prog_11_method_37_code 41 = .ok (.ifCond .le 5, 3) := by decide +kernel
theorem d_Mo_hash_44 : decode prog_11_method_37_code 44 = .ok (.iconst 0, 1) := by decide +kernel
theorem d_Mo_hash_45 : decode prog_11_method_37_code 45 = .ok (.ireturn, 1) := by decide +kernel
theorem d_Mo_hash_46 : decode prog_11_method_37_code 46 = .ok (.iload_n 1, 1) := by decide +kernel
theorem d_Mo_hash_47 : decode prog_11_method_37_code 47 = .ok (.iconst 2, 1) := by decide +kernel
theorem d_Mo_hash_48 : decode prog_11_method_37_code 48 = .ok (.if_icmp .ne 19, 3) := by decide +kernel
theorem d_Mo_hash_51 : decode prog_11_method_37_code 51 = .ok (.aload_n 0, 1) := by decide +kernel
theorem d_Mo_hash_52 : decode prog_11_method_37_code 52 = .ok (.aload_n 0, 1) := by decide +kernel
theorem d_Mo_hash_53 : decode prog_11_method_37_code 53 = .ok (.getfield 9, 3) := by decide +kernel
theorem d_Mo_hash_56 : decode prog_11_method_37_code 56 = .ok (.iconst 0, 1) := by decide +kernel
theorem d_Mo_hash_57 : decode prog_11_method_37_code 57 = .ok (.aload_n 0, 1) := by decide +kernel
theorem d_Mo_hash_58 : decode prog_11_method_37_code 58 = .ok (.getfield 179, 3) := by decide +kernel
theorem d_Mo_hash_61 : decode prog_11_method_37_code 61 = .ok (.invokevirtual 171, 3) := by decide +kernel
theorem d_Mo_hash_64 : decode prog_11_method_37_code 64 = .ok (.goto 16, 3) := by decide +kernel
theorem d_Mo_hash_67 : decode prog_11_method_37_code 67 = .ok (.aload_n 0, 1) := by decide +kernel
theorem d_Mo_hash_68 : decode prog_11_method_37_code 68 = .ok (.aload_n 0, 1) := by decide +kernel
theorem d_Mo_hash_69 : decode prog_11_method_37_code 69 = .ok (.getfield 9, 3) := by decide +kernel
theorem d_Mo_hash_72 : decode prog_11_method_37_code 72 = .ok (.iconst 0, 1) := by decide +kernel
theorem d_Mo_hash_73 : decode prog_11_method_37_code 73 = .ok (.aload_n 0, 1) := by decide +kernel
theorem d_Mo_hash_74 : decode prog_11_method_37_code 74 = .ok (.getfield 179, 3) := by decide +kernel
theorem d_Mo_hash_77 : decode prog_11_method_37_code 77 = .ok (.invokevirtual 174, 3) := by decide +kernel
theorem d_Mo_hash_80 : decode prog_11_method_37_code 80 = .ok (.iload_n 1, 1) := by decide +kernel
theorem d_Mo_hash_81 : decode prog_11_method_37_code 81 = .ok (.iconst 1, 1) := by decide +kernel
theorem d_Mo_hash_82 : decode prog_11_method_37_code 82 = .ok (.if_icmp .ne 14, 3) := by decide +kernel
theorem d_Mo_hash_85 : decode prog_11_method_37_code 85 = .ok (.aload_n 0, 1) := by decide +kernel
theorem d_Mo_hash_86 : decode prog_11_method_37_code 86 = .ok (.aload_n 0, 1) := by decide +kernel
theorem d_Mo_hash_87 : decode prog_11_method_37_code 87 = .ok (.getfield 27, 3) := by decide +kernel
theorem d_Mo_hash_90 : decode prog_11_method_37_code 90 = .ok (.iconst 0, 1) := by decide +kernel
theorem d_Mo_hash_91 : decode prog_11_method_37_code 91 = .ok (.bipush 32, 2) := by decide +kernel
theorem d_Mo_hash_93 : decode prog_11_method_37_code 93 = .ok (.invokevirtual 174, 3) := by decide +kernel
theorem d_Mo_hash_96 : decode prog_11_method_37_code 96 = .ok (.aload_n 0, 1) := by decide +kernel
theorem d_Mo_hash_97 : decode prog_11_method_37_code 97 = .ok (.getfield 27, 3) := by decide +kernel
theorem d_Mo_hash_100 : decode prog_11_method_37_code 100 = .ok (.iconst 4, 1) := by decide +kernel
theorem d_Mo_hash_101 : decode prog_11_method_37_code 101 = .ok (.iload_n 2, 1) := by decide +kernel
theorem d_Mo_hash_102 : decode prog_11_method_37_code 102 = .ok (.imul, 1) := by decide +kernel
theorem d_Mo_hash_103 : decode prog_11_method_37_code 103 = .ok (.invokestatic 82, 3) := by decide +kernel
theorem d_Mo_hash_106 : decode prog_11_method_37_code 106 = .ok (.ireturn, 1) := by decide +kernel
