theorem d_De_init_0 : decode prog_1_method_1_code 0 = .ok (.aload_n 0, 1) := by decide +kernel
theorem d_De_init_1 : decode prog_1_method_1_code 1 = .ok (.invokespecial 1, 3) := by decide +kernel
theorem d_De_init_4 : decode prog_1_method_1_code 4 = .ok (.aload_n 0, 1) := by decide +kernel
theorem d_De_init_5 : decode prog_1_method_1_code 5 = .ok (.sipush 1000, 3) := by decide +kernel
theorem d_De_init_8 : decode prog_1_method_1_code 8 = .ok (.newarray .byte, 2) := by decide +kernel
theorem d_De_init_10 : decode prog_1_method_1_code 10 = .ok (.putfield 9, 3) := by decide +kernel
theorem d_De_init_13 : decode prog_1_method_1_code 13 = .ok (.aload_n 0, 1) := by decide +kernel
theorem d_De_init_14 : decode prog_1_method_1_code 14 = .ok (.iconst 0, 1) := by decide +kernel
theorem d_De_init_15 : decode prog_1_method_1_code 15 = .ok (.putfield 13, 3) := by decide +kernel
theorem d_De_init_18 : decode prog_1_method_1_code 18 = .ok (.aload_n 0, 1) := by decide +kernel
theorem d_De_init_19 : decode prog_1_method_1_code 19 = .ok (.new 17, 3) := by decide +kernel
theorem d_De_init_22 : decode prog_1_method_1_code 22 = .ok (.dup, 1) := by decide +kernel
theorem d_De_init_23 : decode prog_1_method_1_code 23 = .ok (.invokespecial 19, 3) := by decide +kernel
theorem d_De_init_26 : decode prog_1_method_1_code 26 = .ok (.putfield 20, 3) := by decide +kernel
theorem d_De_init_29 : decode prog_1_method_1_code 29 = .ok (.aload_n 0, 1) := by decide +kernel
theorem d_De_init_30 : decode prog_1_method_1_code 30 = .ok (.new 24, 3) := by decide +kernel
theorem d_De_init_33 : decode prog_1_method_1_code 33 = .ok (.dup, 1) := by decide +kernel
theorem d_De_init_34 : decode prog_1_method_1_code 34 = .ok (.invokespecial 26, 3) := by decide +kernel
theorem d_De_init_37 : decode prog_1_method_1_code 37 = .ok (.putfield 27, 3) := by decide +kernel
theorem d_De_init_40 : decode prog_1_method_1_code 40 = .ok (.aload_n 0, 1) := by decide +kernel
theorem d_De_init_41 : decode prog_1_method_1_code 41 = .ok (.new 30, 3) := by decide +kernel
theorem d_De_init_44 : decode prog_1_method_1_code 44 = .ok (.dup, 1) := by decide +kernel
theorem d_De_init_45 : decode prog_1_method_1_code 45 = .ok (.aload_n 0, 1) := by decide +kernel
theorem d_De_init_46 : decode prog_1_method_1_code 46 = .ok (.getfield 20, 3) := by decide +kernel
theorem d_De_init_49 : decode prog_1_method_1_code 49 = .ok (.aload_n 0, 1) := by decide +kernel
theorem d_De_init_50 : decode prog_1_method_1_code 50 = .ok (.getfield 27, 3) := by decide +kernel
theorem d_De_init_53 : decode prog_1_method_1_code 53 = .ok (.invokespecial 32, 3) := by decide +kernel
theorem d_De_init_56 : decode prog_1_method_1_code 56 = .ok (.putfield 35, 3) := by decide +kernel
theorem d_De_init_59 : decode prog_1_method_1_code 59 = .ok (.aload_n 0, 1) := by decide +kernel
theorem d_De_init_60 : decode prog_1_method_1_code 60 = .ok (.new 39, 3) := by decide +kernel
theorem d_De_init_63 : decode prog_1_method_1_code 63 = .ok (.dup, 1) := by decide +kernel
theorem d_De_init_64 : decode prog_1_method_1_code 64 = .ok (.invokespecial 41, 3) := by decide +kernel
theorem d_De_init_67 : decode prog_1_method_1_code 67 = .ok (.putfield 42, 3) := by decide +kernel
theorem d_De_init_70 : decode prog_1_method_1_code 70 = .ok (.return_, 1) := by decide +kernel
theorem d_Sh_init_0 : decode prog_6_method_1_code 0 = .ok (.aload_n 0, 1) := by decide +kernel
theorem d_Sh_init_1 : decode prog_6_method_1_code 1 = .ok (.getstatic 1, 3) := by decide +kernel
theorem d_Sh_init_4 : decode prog_6_method_1_code 4 = .ok (.bipush 64, 2) := by decide +kernel
theorem d_Sh_init_6 : decode prog_6_method_1_code 6 = .ok (.iconst 1, 1) := by decide +kernel
theorem d_Sh_init_7 : decode prog_6_method_1_code 7 = .ok (.invokespecial 7, 3) := by decide +kernel
theorem d_Sh_init_10 : decode prog_6_method_1_code 10 = .ok (.aload_n 0, 1) := by decide +kernel
theorem d_Sh_init_11 : decode prog_6_method_1_code 11 = .ok (.getstatic 1, 3) := by decide +kernel
theorem d_Sh_init_14 : decode prog_6_method_1_code 14 = .ok (.arraylength, 1) := by decide +kernel
theorem d_Sh_init_15 : decode prog_6_method_1_code 15 = .ok (.newarray .int, 2) := by decide +kernel
theorem d_Sh_init_17 : decode prog_6_method_1_code 17 = .ok (.putfield 13, 3) := by decide +kernel
theorem d_Sh_init_20 : decode prog_6_method_1_code 20 = .ok (.return_, 1) := by decide +kernel
theorem d_Su_init_0 : decode prog_8_method_1_code 0 = .ok (.aload_n 0, 1) := by decide +kernel
theorem d_Su_init_1 : decode prog_8_method_1_code 1 = .ok (.invokespecial 1, 3) := by decide +kernel
theorem d_Su_init_4 : decode prog_8_method_1_code 4 = .ok (.aload_n 0, 1) := by decide +kernel
theorem d_Su_init_5 : decode prog_8_method_1_code 5 = .ok (.aload_n 1, 1) := by decide +kernel
theorem d_Su_init_6 : decode prog_8_method_1_code 6 = .ok (.putfield 7, 3) := by decide +kernel
theorem d_Su_init_9 : decode prog_8_method_1_code 9 = .ok (.aload_n 0, 1) := by decide +kernel
theorem d_Su_init_10 : decode prog_8_method_1_code 10 = .ok (.iload_n 3, 1) := by decide +kernel
theorem d_Su_init_11 : decode prog_8_method_1_code 11 = .ok (.putfield 13, 3) := by decide +kernel
theorem d_Su_init_14 : decode prog_8_method_1_code 14 = .ok (.aload_n 0, 1) := by decide +kernel
theorem d_Su_init_15 : decode prog_8_method_1_code 15 = .ok (.aload_n 1, 1) := by decide +kernel
theorem d_Su_init_16 : decode prog_8_method_1_code 16 = .ok (.arraylength, 1) := by decide +kernel
theorem d_Su_init_17 : decode prog_8_method_1_code 17 = .ok (.newarray .int, 2) := by decide +kernel
theorem d_Su_init_19 : decode prog_8_method_1_code 19 = .ok (.putfield 17, 3) := by decide +kernel
theorem d_Su_init_22 : decode prog_8_method_1_code 22 = .ok (.aload_n 0, 1) := by decide +kernel
theorem d_Su_init_23 : decode prog_8_method_1_code 23 = .ok (.iload_n 2, 1) := by decide +kernel
theorem d_Su_init_24 : decode prog_8_method_1_code 24 = .ok (.bipush 16, 2) := by decide +kernel
theorem d_Su_init_26 : decode prog_8_method_1_code 26 = .ok (.invokestatic 20, 3) := by decide +kernel
theorem d_Su_init_29 : decode prog_8_method_1_code 29 = .ok (.newarray .int, 2) := by decide +kernel
theorem d_Su_init_31 : decode prog_8_method_1_code 31 = .ok (.putfield 26, 3) := by decide +kernel
theorem d_Su_init_34 : decode prog_8_method_1_code 34 = .ok (.return_, 1) := by decide +kernel
theorem d_Ri_init_0 : decode prog_5_method_1_code 0 = .ok (.aload_n 0, 1) := by decide +kernel
theorem d_Ri_init_1 : decode prog_5_method_1_code 1 = .ok (.getstatic 1, 3) := by decide +kernel
theorem d_Ri_init_4 : decode prog_5_method_1_code 4 = .ok (.bipush 16, 2) := by decide +kernel
theorem d_Ri_init_6 : decode prog_5_method_1_code 6 = .ok (.iconst 0, 1) := by decide +kernel
theorem d_Ri_init_7 : decode prog_5_method_1_code 7 = .ok (.invokespecial 7, 3) := by decide +kernel
theorem d_Ri_init_10 : decode prog_5_method_1_code 10 = .ok (.aload_n 0, 1) := by decide +kernel
theorem d_Ri_init_11 : decode prog_5_method_1_code 11 = .ok (.getstatic 1, 3) := by decide +kernel
theorem d_Ri_init_14 : decode prog_5_method_1_code 14 = .ok (.arraylength, 1) := by decide +kernel
theorem d_Ri_init_15 : decode prog_5_method_1_code 15 = .ok (.newarray .int, 2) := by decide +kernel
theorem d_Ri_init_17 : decode prog_5_method_1_code 17 = .ok (.putfield 13, 3) := by decide +kernel
theorem d_Ri_init_20 : decode prog_5_method_1_code 20 = .ok (.aload_n 0, 1) := by decide +kernel
theorem d_Ri_init_21 : decode prog_5_method_1_code 21 = .ok (.getstatic 1, 3) := by decide +kernel
theorem d_Ri_init_24 : decode prog_5_method_1_code 24 = .ok (.arraylength, 1) := by decide +kernel
theorem d_Ri_init_25 : decode prog_5_method_1_code 25 = .ok (.newarray .int, 2) := by decide +kernel
theorem d_Ri_init_27 : decode prog_5_method_1_code 27 = .ok (.putfield 16, 3) := by decide +kernel
theorem d_Ri_init_30 : decode prog_5_method_1_code 30 = .ok (.return_, 1) := by decide +kernel
theorem d_St_init_0 : decode prog_7_method_1_code 0 = .ok (.aload_n 0, 1) := by decide +kernel
theorem d_St_init_1 : decode prog_7_method_1_code 1 = .ok (.invokespecial 1, 3) := by decide +kernel
theorem d_St_init_4 : decode prog_7_method_1_code 4 = .ok (.aload_n 0, 1) := by decide +kernel
theorem d_St_init_5 : decode prog_7_method_1_code 5 = .ok (.sipush 200, 3) := by decide +kernel
theorem d_St_init_8 : decode prog_7_method_1_code 8 = .ok (.anewarray 9, 3) := by decide +kernel
theorem d_St_init_11 : decode prog_7_method_1_code 11 = .ok (.putfield 11, 3) := by decide +kernel
theorem d_St_init_14 : decode prog_7_method_1_code 14 = .ok (.aload_n 0, 1) := by decide +kernel
theorem d_St_init_15 : decode prog_7_method_1_code 15 = .ok (.new 9, 3) := by decide +kernel
theorem d_St_init_18 : decode prog_7_method_1_code 18 = .ok (.dup, 1) := by decide +kernel
theorem d_St_init_19 : decode prog_7_method_1_code 19 = .ok (.iconst 0, 1) := by decide +kernel
theorem d_St_init_20 : decode prog_7_method_1_code 20 = .ok (.newarray .byte, 2) := by decide +kernel
theorem d_St_init_22 : decode prog_7_method_1_code 22 = .ok (.invokespecial 15, 3) := by decide +kernel
theorem d_St_init_25 : decode prog_7_method_1_code 25 = .ok (.putfield 18, 3) := by decide +kernel
theorem d_St_init_28 : decode prog_7_method_1_code 28 = .ok (.iconst 0, 1) := by decide +kernel
theorem d_St_init_29 : decode prog_7_method_1_code 29 = .ok (.istore_n 1, 1) := by decide +kernel
theorem d_St_init_30 : decode prog_7_method_1_code 30 = .ok (.iload_n 1, 1) := by decide +kernel
theorem d_St_init_31 : decode prog_7_method_1_code 31 = .ok (.sipush 200, 3) := by decide +kernel
theorem d_St_init_34 : decode prog_7_method_1_code 34 = .ok (.if_icmp .ge 19, 3) := by decide +kernel
theorem d_St_init_37 : decode prog_7_method_1_code 37 = .ok (.aload_n 0, 1) := by decide +kernel
theorem d_St_init_38 : decode prog_7_method_1_code 38 = .ok (.getfield 11, 3) := by decide +kernel
theorem d_St_init_41 : decode prog_7_method_1_code 41 = .ok (.iload_n 1, 1) := by decide +kernel
theorem d_St_init_42 : decode prog_7_method_1_code 42 = .ok (.aload_n 0, 1) := by decide +kernel
theorem d_St_init_43 : decode prog_7_method_1_code 43 = .ok (.getfield 18, 3) := by decide +kernel
theorem d_St_init_46 : decode prog_7_method_1_code 46 = .ok (.aastore, 1) := by decide +kernel
theorem d_St_init_47 : decode prog_7_method_1_code 47 = .ok (.iinc 1 1, 3) := by decide +kernel
theorem d_St_init_50 : decode prog_7_method_1_code 50 = .ok (.goto (-20), 3) := by decide +kernel
theorem d_St_init_53 : decode prog_7_method_1_code 53 = .ok (.aload_n 0, 1) := by decide +kernel
theorem d_St_init_54 : decode prog_7_method_1_code 54 = .ok (.iconst 0, 1) := by decide +kernel
theorem d_St_init_55 : decode prog_7_method_1_code 55 = .ok (.putfield 22, 3) := by decide +kernel
theorem d_St_init_58 : decode prog_7_method_1_code 58 = .ok (.return_, 1) := by decide +kernel
theorem d_Th_init_0 : decode prog_9_method_1_code 0 = .ok (.aload_n 0, 1) := by decide +kernel
theorem d_Th_init_1 : decode prog_9_method_1_code 1 = .ok (.invokespecial 1, 3) := by decide +kernel
theorem d_Th_init_4 : decode prog_9_method_1_code 4 = .ok (.aload_n 0, 1) := by decide +kernel
theorem d_Th_init_5 : decode prog_9_method_1_code 5 = .ok (.aload_n 1, 1) := by decide +kernel
theorem d_Th_init_6 : decode prog_9_method_1_code 6 = .ok (.putfield 7, 3) := by decide +kernel
theorem d_Th_init_9 : decode prog_9_method_1_code 9 = .ok (.return_, 1) := by decide +kernel
theorem d_Br_init_0 : decode prog_2_method_1_code 0 = .ok (.aload_n 0, 1) := by decide +kernel
theorem d_Br_init_1 : decode prog_2_method_1_code 1 = .ok (.invokespecial 1, 3) := by decide +kernel
theorem d_Br_init_4 : decode prog_2_method_1_code 4 = .ok (.aload_n 0, 1) := by decide +kernel
theorem d_Br_init_5 : decode prog_2_method_1_code 5 = .ok (.iconst 0, 1) := by decide +kernel
theorem d_Br_init_6 : decode prog_2_method_1_code 6 = .ok (.putfield 7, 3) := by decide +kernel
theorem d_Br_init_9 : decode prog_2_method_1_code 9 = .ok (.aload_n 0, 1) := by decide +kernel
theorem d_Br_init_10 : decode prog_2_method_1_code 10 = .ok (.iconst (-1), 1) := by decide +kernel
theorem d_Br_init_11 : decode prog_2_method_1_code 11 = .ok (.putfield 13, 3) := by decide +kernel
theorem d_Br_init_14 : decode prog_2_method_1_code 14 = .ok (.return_, 1) := by decide +kernel
theorem d_Th_ofNumber_0 : decode prog_9_method_2_code 0 = .ok (.lload_n 0, 1) := by decide +kernel
theorem d_Th_ofNumber_1 : decode prog_9_method_2_code 1 = .ok (.invokestatic 13, 3) := by decide +kernel
theorem d_Th_ofNumber_4 : decode prog_9_method_2_code 4 = .ok (.lstore_n 2, 1) := by decide +kernel
theorem d_Th_ofNumber_5 : decode prog_9_method_2_code 5 = .ok (.lload_n 2, 1) := by decide +kernel
theorem d_Th_ofNumber_6 : decode prog_9_method_2_code 6 = .ok (.invokestatic 19, 3) := by decide +kernel
theorem d_Th_ofNumber_9 : decode prog_9_method_2_code 9 = .ok (.newarray .byte, 2) := by decide +kernel
theorem d_Th_ofNumber_11 : decode prog_9_method_2_code 11 = .ok (.astore 4, 2) := by decide +kernel
theorem d_Th_ofNumber_13 : decode prog_9_method_2_code 13 = .ok (.iconst 0, 1) := by decide +kernel
theorem d_Th_ofNumber_14 : decode prog_9_method_2_code 14 = .ok (.istore 5, 2) := by decide +kernel
theorem d_Th_ofNumber_16 : decode prog_9_method_2_code 16 = .ok (.iload 5, 2) := by decide +kernel
theorem d_Th_ofNumber_18 : decode prog_9_method_2_code 18 = .ok (.aload 4, 2) := by decide +kernel
theorem d_Th_ofNumber_20 : decode prog_9_method_2_code 20 = .ok (.arraylength, 1) := by decide +kernel
theorem d_Th_ofNumber_21 : decode prog_9_method_2_code 21 = .ok (.if_icmp .ge 23, 3) := by decide +kernel
theorem d_Th_ofNumber_24 : decode prog_9_method_2_code 24 = .ok (.aload 4, 2) := by decide +kernel
theorem d_Th_ofNumber_26 : decode prog_9_method_2_code 26 = .ok (.iload 5, 2) := by decide +kernel
theorem d_Th_ofNumber_28 : decode prog_9_method_2_code 28 = .ok (.lload_n 2, 1) := by decide +kernel
theorem d_Th_ofNumber_29 : decode prog_9_method_2_code 29 = .ok (.bipush 8, 2) := by decide +kernel
theorem d_Th_ofNumber_31 : decode prog_9_method_2_code 31 = .ok (.iload 5, 2) := by decide +kernel
theorem d_Th_ofNumber_33 : decode prog_9_method_2_code 33 = .ok (.imul, 1) := by decide +kernel
theorem d_Th_ofNumber_34 : decode prog_9_method_2_code 34 = .ok (.lshr, 1) := by decide +kernel
theorem d_Th_ofNumber_35 : decode prog_9_method_2_code 35 = .ok (.l2i, 1) := by decide +kernel
theorem d_Th_ofNumber_36 : decode prog_9_method_2_code 36 = .ok (.i2b, 1) := by decide +kernel
theorem d_Th_ofNumber_37 : decode prog_9_method_2_code 37 = .ok (.bastore, 1) := by decide +kernel
theorem d_Th_ofNumber_38 : decode prog_9_method_2_code 38 = .ok (.iinc 5 1, 3) := by decide +kernel
theorem d_Th_ofNumber_41 : decode prog_9_method_2_code 41 = .ok (.goto (-25), 3) := by decide +kernel
theorem d_Th_ofNumber_44 : decode prog_9_method_2_code 44 = .ok (.lload_n 0, 1) := by decide +kernel
theorem d_Th_ofNumber_45 : decode prog_9_method_2_code 45 = .ok (.lconst 0, 1) := by decide +kernel
theorem d_Th_ofNumber_46 : decode prog_9_method_2_code 46 = .ok (.lcmp, 1) := by decide +kernel
theorem d_Th_ofNumber_47 : decode prog_9_method_2_code 47 = .ok (.ifCond .ge 23, 3) := by decide +kernel
theorem d_Th_ofNumber_50 : decode prog_9_method_2_code 50 = .ok (.aload 4, 2) := by decide +kernel
theorem d_Th_ofNumber_52 : decode prog_9_method_2_code 52 = .ok (.arraylength, 1) := by decide +kernel
theorem d_Th_ofNumber_53 : decode prog_9_method_2_code 53 = .ok (.ifCond .le 17, 3) := by decide +kernel
theorem d_Th_ofNumber_56 : decode prog_9_method_2_code 56 = .ok (.aload 4, 2) := by decide +kernel
theorem d_Th_ofNumber_58 : decode prog_9_method_2_code 58 = .ok (.aload 4, 2) := by decide +kernel
theorem d_Th_ofNumber_60 : decode prog_9_method_2_code 60 = .ok (.arraylength, 1) := by decide +kernel
theorem d_Th_ofNumber_61 : decode prog_9_method_2_code 61 = .ok (.iconst 1, 1) := by decide +kernel
theorem d_Th_ofNumber_62 : decode prog_9_method_2_code 62 = .ok (.isub, 1) := by decide +kernel
theorem d_Th_ofNumber_63 : decode prog_9_method_2_code 63 = .ok (.dup2, 1) := by decide +kernel
theorem d_Th_ofNumber_64 : decode prog_9_method_2_code 64 = .ok (.baload, 1) := by decide +kernel
theorem d_Th_ofNumber_65 : decode prog_9_method_2_code 65 = .ok (.bipush (-128), 2) := by decide +kernel
theorem d_Th_ofNumber_67 : decode prog_9_method_2_code 67 = .ok (.ior, 1) := by decide +kernel
theorem d_Th_ofNumber_68 : decode prog_9_method_2_code 68 = .ok (.i2b, 1) := by decide +kernel
theorem d_Th_ofNumber_69 : decode prog_9_method_2_code 69 = .ok (.bastore, 1) := by decide +kernel
theorem d_Th_ofNumber_70 : decode prog_9_method_2_code 70 = .ok (.new 8, 3) := by decide +kernel
theorem d_Th_ofNumber_73 : decode prog_9_method_2_code 73 = .ok (.dup, 1) := by decide +kernel
theorem d_Th_ofNumber_74 : decode prog_9_method_2_code 74 = .ok (.aload 4, 2) := by decide +kernel
theorem d_Th_ofNumber_76 : decode prog_9_method_2_code 76 = .ok (.invokespecial 23, 3) := by decide +kernel
theorem d_Th_ofNumber_79 : decode prog_9_method_2_code 79 = .ok (.areturn, 1) := by decide +kernel
theorem d_Th_bytesFor_0 : decode prog_9_method_3_code 0 = .ok (.lload_n 0, 1) := by decide +kernel
theorem d_Th_bytesFor_1 : decode prog_9_method_3_code 1 = .ok (.lconst 0, 1) := by decide +kernel
theorem d_Th_bytesFor_2 : decode prog_9_method_3_code 2 = .ok (.lcmp, 1) := by decide +kernel
theorem d_Th_bytesFor_3 : decode prog_9_method_3_code 3 = .ok (.ifCond .ne 7, 3) := by decide +kernel
theorem d_Th_bytesFor_6 : decode prog_9_method_3_code 6 = .ok (.iconst 0, 1) := by decide +kernel
theorem d_Th_bytesFor_7 : decode prog_9_method_3_code 7 = .ok (.goto 15, 3) := by decide +kernel
theorem d_Th_bytesFor_10 : decode prog_9_method_3_code 10 = .ok (.bipush 64, 2) := by decide +kernel
theorem d_Th_bytesFor_12 : decode prog_9_method_3_code 12 = .ok (.lload_n 0, 1) := by decide +kernel
theorem d_Th_bytesFor_13 : decode prog_9_method_3_code 13 = .ok (.invokestatic 26, 3) := by decide +kernel
theorem d_Th_bytesFor_16 : decode prog_9_method_3_code 16 = .ok (.isub, 1) := by decide +kernel
theorem d_Th_bytesFor_17 : decode prog_9_method_3_code 17 = .ok (.bipush 8, 2) := by decide +kernel
theorem d_Th_bytesFor_19 : decode prog_9_method_3_code 19 = .ok (.idiv, 1) := by decide +kernel
theorem d_Th_bytesFor_20 : decode prog_9_method_3_code 20 = .ok (.iconst 1, 1) := by decide +kernel
theorem d_Th_bytesFor_21 : decode prog_9_method_3_code 21 = .ok (.iadd, 1) := by decide +kernel
theorem d_Th_bytesFor_22 : decode prog_9_method_3_code 22 = .ok (.ireturn, 1) := by decide +kernel
theorem d_Lo_numberOfLeadingZeros_0 : decode prog_20_method_48_code 0 = .ok (.lload_n 0, 1) := by decide +kernel
theorem d_Lo_numberOfLeadingZeros_1 : decode prog_20_method_48_code 1 = .ok (.bipush 32, 2) := by decide +kernel
theorem d_Lo_numberOfLeadingZeros_3 : decode prog_20_method_48_code 3 = .ok (.lushr, 1) := by decide +kernel
theorem d_Lo_numberOfLeadingZeros_4 : decode prog_20_method_48_code 4 = .ok (.l2i, 1) := by decide +kernel
theorem d_Lo_numberOfLeadingZeros_5 : decode prog_20_method_48_code 5 = .ok (.istore_n 2, 1) := by decide +kernel
theorem d_Lo_numberOfLeadingZeros_6 : decode prog_20_method_48_code 6 = .ok (.iload_n 2, 1) := by decide +kernel
theorem d_Lo_numberOfLeadingZeros_7 : decode prog_20_method_48_code 7 = .ok (.ifCond .ne 14, 3) := by decide +kernel
theorem d_Lo_numberOfLeadingZeros_10 : decode prog_20_method_48_code 10 = .ok (.bipush 32, 2) := by decide +kernel
theorem d_Lo_numberOfLeadingZeros_12 : decode prog_20_method_48_code 12 = .ok (.lload_n 0, 1) := by decide +kernel
theorem d_Lo_numberOfLeadingZeros_13 : decode prog_20_method_48_code 13 = .ok (.l2i, 1) := by decide +kernel
theorem d_Lo_numberOfLeadingZeros_14 : decode prog_20_method_48_code 14 = .ok (.invokestatic 308, 3) := by decide +kernel
theorem d_Lo_numberOfLeadingZeros_17 : decode prog_20_method_48_code 17 = .ok (.iadd, 1) := by decide +kernel
theorem d_Lo_numberOfLeadingZeros_18 : decode prog_20_method_48_code 18 = .ok (.goto 7, 3) := by decide +kernel
theorem d_Lo_numberOfLeadingZeros_21 : decode prog_20_method_48_code 21 = .ok (.iload_n 2, 1) := by decide +kernel
theorem d_Lo_numberOfLeadingZeros_22 : decode prog_20_method_48_code 22 = .ok (.invokestatic 308, 3) := by decide +kernel
theorem d_Lo_numberOfLeadingZeros_25 : decode prog_20_method_48_code 25 = .ok (.ireturn, 1) := by decide +kernel
theorem d_In_numberOfLeadingZeros_0 : decode prog_19_method_47_code 0 = .ok (.iload_n 0, 1) := by decide +kernel
theorem d_In_numberOfLeadingZeros_1 : decode prog_19_method_47_code 1 = .ok (.ifCond .gt 14, 3) := by decide +kernel
theorem d_In_numberOfLeadingZeros_4 : decode prog_19_method_47_code 4 = .ok (.iload_n 0, 1) := by decide +kernel
theorem d_In_numberOfLeadingZeros_5 : decode prog_19_method_47_code 5 = .ok (.ifCond .ne 8, 3) := by decide +kernel
theorem d_In_numberOfLeadingZeros_8 : decode prog_19_method_47_code 8 = .ok (.bipush 32, 2) := by decide +kernel
theorem d_In_numberOfLeadingZeros_10 : decode prog_19_method_47_code 10 = .ok (.goto 4, 3) := by decide +kernel
theorem d_In_numberOfLeadingZeros_13 : decode prog_19_method_47_code 13 = .ok (.iconst 0, 1) := by decide +kernel
theorem d_In_numberOfLeadingZeros_14 : decode prog_19_method_47_code 14 = .ok (.ireturn, 1) := by decide +kernel
theorem d_In_numberOfLeadingZeros_15 : decode prog_19_method_47_code 15 = .ok (.bipush 31, 2) := by decide +kernel
theorem d_In_numberOfLeadingZeros_17 : decode prog_19_method_47_code 17 = .ok (.istore_n 1, 1) := by decide +kernel
theorem d_In_numberOfLeadingZeros_18 : decode prog_19_method_47_code 18 = .ok (.iload_n 0, 1) := by decide +kernel
theorem d_In_numberOfLeadingZeros_19 : decode prog_19_method_47_code 19 = .ok (.ldc_w 264, 3) := by decide +kernel
theorem d_In_numberOfLeadingZeros_22 : decode prog_19_method_47_code 22 = .ok (.if_icmp .lt 11, 3) := by decide +kernel
theorem d_In_numberOfLeadingZeros_25 : decode prog_19_method_47_code 25 = .ok (.iinc 1 (-16), 3) := by decide +kernel
theorem d_In_numberOfLeadingZeros_28 : decode prog_19_method_47_code 28 = .ok (.iload_n 0, 1) := by decide +kernel
theorem d_In_numberOfLeadingZeros_29 : decode prog_19_method_47_code 29 = .ok (.bipush 16, 2) := by decide +kernel
theorem d_In_numberOfLeadingZeros_31 : decode prog_19_method_47_code 31 = .ok (.iushr, 1) := by decide +kernel
theorem d_In_numberOfLeadingZeros_32 : decode prog_19_method_47_code 32 = .ok (.istore_n 0, 1) := by decide +kernel
theorem d_In_numberOfLeadingZeros_33 : decode prog_19_method_47_code 33 = .ok (.iload_n 0, 1) := by decide +kernel
theorem d_In_numberOfLeadingZeros_34 : decode prog_19_method_47_code 34 = .ok (.sipush 256, 3) := by decide +kernel
theorem d_In_numberOfLeadingZeros_37 : decode prog_19_method_47_code 37 = .ok (.if_icmp .lt 11, 3) := by decide +kernel
theorem d_In_numberOfLeadingZeros_40 : decode prog_19_method_47_code 40 = .ok (.iinc 1 (-8), 3) := by decide +kernel
theorem d_In_numberOfLeadingZeros_43 : decode prog_19_method_47_code 43 = .ok (.iload_n 0, 1) := by decide +kernel
theorem d_In_numberOfLeadingZeros_44 : decode prog_19_method_47_code 44 = .ok (.bipush 8, 2) := by decide +kernel
theorem d_In_numberOfLeadingZeros_46 : decode prog_19_method_47_code 46 = .ok (.iushr, 1) := by decide +kernel
theorem d_In_numberOfLeadingZeros_47 : decode prog_19_method_47_code 47 = .ok (.istore_n 0, 1) := by decide +kernel
theorem d_In_numberOfLeadingZeros_48 : decode prog_19_method_47_code 48 = .ok (.iload_n 0, 1) := by decide +kernel
theorem d_In_numberOfLeadingZeros_49 : decode prog_19_method_47_code 49 = .ok (.bipush 16, 2) := by decide +kernel
theorem d_In_numberOfLeadingZeros_51 : decode prog_19_method_47_code 51 = .ok (.if_icmp .lt 10, 3) := by decide +kernel
theorem d_In_numberOfLeadingZeros_54 : decode prog_19_method_47_code 54 = .ok (.iinc 1 (-4), 3) := by decide +kernel
theorem d_In_numberOfLeadingZeros_57 : decode prog_19_method_47_code 57 = .ok (.iload_n 0, 1) := by decide +kernel
theorem d_In_numberOfLeadingZeros_58 : decode prog_19_method_47_code 58 = .ok (.iconst 4, 1) := by decide +kernel
theorem d_In_numberOfLeadingZeros_59 : decode prog_19_method_47_code 59 = .ok (.iushr, 1) := by decide +kernel
theorem d_In_numberOfLeadingZeros_60 : decode prog_19_method_47_code 60 = .ok (.istore_n 0, 1) := by decide +kernel
theorem d_In_numberOfLeadingZeros_61 : decode prog_19_method_47_code 61 = .ok (.iload_n 0, 1) := by decide +kernel
theorem d_In_numberOfLeadingZeros_62 : decode prog_19_method_47_code 62 = .ok (.iconst 4, 1) := by decide +kernel
theorem d_In_numberOfLeadingZeros_63 : decode prog_19_method_47_code 63 = .ok (.if_icmp .lt 10, 3) := by decide +kernel
theorem d_In_numberOfLeadingZeros_66 : decode prog_19_method_47_code 66 = .ok (.iinc 1 (-2), 3) := by decide +kernel
theorem d_In_numberOfLeadingZeros_69 : decode prog_19_method_47_code 69 = .ok (.iload_n 0, 1) := by decide +kernel
theorem d_In_numberOfLeadingZeros_70 : decode prog_19_method_47_code 70 = .ok (.iconst 2, 1) := by decide +kernel
theorem d_In_numberOfLeadingZeros_71 : decode prog_19_method_47_code 71 = .ok (.iushr, 1) := by decide +kernel
theorem d_In_numberOfLeadingZeros_72 : decode prog_19_method_47_code 72 = .ok (.istore_n 0, 1) := by decide +kernel
theorem d_In_numberOfLeadingZeros_73 : decode prog_19_method_47_code 73 = .ok (.iload_n 1, 1) := by decide +kernel
theorem d_In_numberOfLeadingZeros_74 : decode prog_19_method_47_code 74 = .ok (.iload_n 0, 1) := by decide +kernel
theorem d_In_numberOfLeadingZeros_75 : decode prog_19_method_47_code 75 = .ok (.iconst 1, 1) := by decide +kernel
theorem d_In_numberOfLeadingZeros_76 : decode prog_19_method_47_code 76 = .ok (.iushr, 1) := by decide +kernel
theorem d_In_numberOfLeadingZeros_77 : decode prog_19_method_47_code 77 = .ok (.isub, 1) := by decide +kernel
theorem d_In_numberOfLeadingZeros_78 : decode prog_19_method_47_code 78 = .ok (.ireturn, 1) := by decide +kernel
theorem d_De_depth_0 : decode prog_1_method_5_code 0 = .ok (.aload_n 0, 1) := by decide +kernel
theorem d_De_depth_1 : decode prog_1_method_5_code 1 = .ok (.getfield 42, 3) := by decide +kernel
theorem d_De_depth_4 : decode prog_1_method_5_code 4 = .ok (.invokevirtual 81, 3) := by decide +kernel
theorem d_De_depth_7 : decode prog_1_method_5_code 7 = .ok (.ireturn, 1) := by decide +kernel
theorem d_St_count_0 : decode prog_7_method_3_code 0 = .ok (.aload_n 0, 1) := by decide +kernel
theorem d_St_count_1 : decode prog_7_method_3_code 1 = .ok (.getfield 22, 3) := by decide +kernel
theorem d_St_count_4 : decode prog_7_method_3_code 4 = .ok (.ireturn, 1) := by decide +kernel
theorem d_De_feed_0 : decode prog_1_method_2_code 0 = .ok (.aload_n 0, 1) := by decide +kernel
theorem d_De_feed_1 : decode prog_1_method_2_code 1 = .ok (.getfield 13, 3) := by decide +kernel
theorem d_De_feed_4 : decode prog_1_method_2_code 4 = .ok (.sipush 980, 3) := by decide +kernel
theorem d_De_feed_7 : decode prog_1_method_2_code 7 = .ok (.if_icmp .le 11, 3) := by decide +kernel
theorem d_De_feed_10 : decode prog_1_method_2_code 10 = .ok (.new 46, 3) := by decide +kernel
theorem d_De_feed_13 : decode prog_1_method_2_code 13 = .ok (.dup, 1) := by decide +kernel
theorem d_De_feed_14 : decode prog_1_method_2_code 14 = .ok (.invokespecial 48, 3) := by decide +kernel
theorem d_De_feed_17 : decode prog_1_method_2_code 17 = .ok (.athrow, 1) := by decide +kernel
theorem d_De_feed_18 : decode prog_1_method_2_code 18 = .ok (.aload_n 0, 1) := by decide +kernel
theorem d_De_feed_19 : decode prog_1_method_2_code 19 = .ok (.iload_n 1, 1) := by decide +kernel
theorem d_De_feed_20 : decode prog_1_method_2_code 20 = .ok (.invokevirtual 49, 3) := by decide +kernel
theorem d_De_feed_23 : decode prog_1_method_2_code 23 = .ok (.aload_n 0, 1) := by decide +kernel
theorem d_De_feed_24 : decode prog_1_method_2_code 24 = .ok (.iload_n 2, 1) := by decide +kernel
theorem d_De_feed_25 : decode prog_1_method_2_code 25 = .ok (.invokevirtual 49, 3) := by decide +kernel
theorem d_De_feed_28 : decode prog_1_method_2_code 28 = .ok (.aload_n 0, 1) := by decide +kernel
theorem d_De_feed_29 : decode prog_1_method_2_code 29 = .ok (.iload_n 3, 1) := by decide +kernel
theorem d_De_feed_30 : decode prog_1_method_2_code 30 = .ok (.invokevirtual 49, 3) := by decide +kernel
theorem d_De_feed_33 : decode prog_1_method_2_code 33 = .ok (.aload_n 0, 1) := by decide +kernel
theorem d_De_feed_34 : decode prog_1_method_2_code 34 = .ok (.iload 4, 2) := by decide +kernel
theorem d_De_feed_36 : decode prog_1_method_2_code 36 = .ok (.invokevirtual 49, 3) := by decide +kernel
theorem d_De_feed_39 : decode prog_1_method_2_code 39 = .ok (.aload_n 0, 1) := by decide +kernel
theorem d_De_feed_40 : decode prog_1_method_2_code 40 = .ok (.iload 5, 2) := by decide +kernel
theorem d_De_feed_42 : decode prog_1_method_2_code 42 = .ok (.invokevirtual 49, 3) := by decide +kernel
theorem d_De_feed_45 : decode prog_1_method_2_code 45 = .ok (.aload_n 0, 1) := by decide +kernel
theorem d_De_feed_46 : decode prog_1_method_2_code 46 = .ok (.getfield 13, 3) := by decide +kernel
theorem d_De_feed_49 : decode prog_1_method_2_code 49 = .ok (.ireturn, 1) := by decide +kernel
theorem d_De_append_0 : decode prog_1_method_12_code 0 = .ok (.bipush 24, 2) := by decide +kernel
theorem d_De_append_2 : decode prog_1_method_12_code 2 = .ok (.istore_n 2, 1) := by decide +kernel
theorem d_De_append_3 : decode prog_1_method_12_code 3 = .ok (.iload_n 2, 1) := by decide +kernel
theorem d_De_append_4 : decode prog_1_method_12_code 4 = .ok (.ifCond .lt 32, 3) := by decide +kernel
theorem d_De_append_7 : decode prog_1_method_12_code 7 = .ok (.aload_n 0, 1) := by decide +kernel
theorem d_De_append_8 : decode prog_1_method_12_code 8 = .ok (.getfield 9, 3) := by decide +kernel
theorem d_De_append_11 : decode prog_1_method_12_code 11 = .ok (.aload_n 0, 1) := by decide +kernel
theorem d_De_append_12 : decode prog_1_method_12_code 12 = .ok (.getfield 13, 3) := by decide +kernel
theorem d_De_append_15 : decode prog_1_method_12_code 15 = .ok (.iload_n 1, 1) := by decide +kernel
theorem d_De_append_16 : decode prog_1_method_12_code 16 = .ok (.iload_n 2, 1) := by decide +kernel
theorem d_De_append_17 : decode prog_1_method_12_code 17 = .ok (.ishr, 1) := by decide +kernel
theorem d_De_append_18 : decode prog_1_method_12_code 18 = .ok (.i2b, 1) := by decide +kernel
theorem d_De_append_19 : decode prog_1_method_12_code 19 = .ok (.bastore, 1) := by decide +kernel
theorem d_De_append_20 : decode prog_1_method_12_code 20 = .ok (.aload_n 0, 1) := by decide +kernel
theorem d_De_append_21 : decode prog_1_method_12_code 21 = .ok (.dup, 1) := by decide +kernel
theorem d_De_append_22 : decode prog_1_method_12_code 22 = .ok (.getfield 13, 3) := by decide +kernel
theorem d_De_append_25 : decode prog_1_method_12_code 25 = .ok (.iconst 1, 1) := by decide +kernel
theorem d_De_append_26 : decode prog_1_method_12_code 26 = .ok (.iadd, 1) := by decide +kernel
theorem d_De_append_27 : decode prog_1_method_12_code 27 = .ok (.putfield 13, 3) := by decide +kernel
theorem d_De_append_30 : decode prog_1_method_12_code 30 = .ok (.iinc 2 (-8), 3) := by decide +kernel
theorem d_De_append_33 : decode prog_1_method_12_code 33 = .ok (.goto (-30), 3) := by decide +kernel
theorem d_De_append_36 : decode prog_1_method_12_code 36 = .ok (.return_, 1) := by decide +kernel
theorem d_De_end_0 : decode prog_1_method_3_code 0 = .ok (.aload_n 0, 1) := by decide +kernel
theorem d_De_end_1 : decode prog_1_method_3_code 1 = .ok (.iload_n 1, 1) := by decide +kernel
theorem d_De_end_2 : decode prog_1_method_3_code 2 = .ok (.invokevirtual 53, 3) := by decide +kernel
theorem d_De_end_5 : decode prog_1_method_3_code 5 = .ok (.ifCond .ne 11, 3) := by decide +kernel
theorem d_De_end_8 : decode prog_1_method_3_code 8 = .ok (.new 57, 3) := by decide +kernel
theorem d_De_end_11 : decode prog_1_method_3_code 11 = .ok (.dup, 1) := by decide +kernel
theorem d_De_end_12 : decode prog_1_method_3_code 12 = .ok (.invokespecial 59, 3) := by decide +kernel
theorem d_De_end_15 : decode prog_1_method_3_code 15 = .ok (.athrow, 1) := by decide +kernel
theorem d_De_end_16 : decode prog_1_method_3_code 16 = .ok (.aload_n 0, 1) := by decide +kernel
theorem d_De_end_17 : decode prog_1_method_3_code 17 = .ok (.iload_n 1, 1) := by decide +kernel
theorem d_De_end_18 : decode prog_1_method_3_code 18 = .ok (.putfield 13, 3) := by decide +kernel
theorem d_De_end_21 : decode prog_1_method_3_code 21 = .ok (.iload_n 1, 1) := by decide +kernel
theorem d_De_end_22 : decode prog_1_method_3_code 22 = .ok (.ireturn, 1) := by decide +kernel
theorem d_De_rowHas_0 : decode prog_1_method_11_code 0 = .ok (.iload_n 1, 1) := by decide +kernel
theorem d_De_rowHas_1 : decode prog_1_method_11_code 1 = .ok (.ifCond .lt 15, 3) := by decide +kernel
theorem d_De_rowHas_4 : decode prog_1_method_11_code 4 = .ok (.iload_n 1, 1) := by decide +kernel
theorem d_De_rowHas_5 : decode prog_1_method_11_code 5 = .ok (.aload_n 0, 1) := by decide +kernel
theorem d_De_rowHas_6 : decode prog_1_method_11_code 6 = .ok (.getfield 13, 3) := by decide +kernel
theorem d_De_rowHas_9 : decode prog_1_method_11_code 9 = .ok (.if_icmp .gt 7, 3) := by decide +kernel
theorem d_De_rowHas_12 : decode prog_1_method_11_code 12 = .ok (.iconst 1, 1) := by decide +kernel
theorem d_De_rowHas_13 : decode prog_1_method_11_code 13 = .ok (.goto 4, 3) := by decide +kernel
theorem d_De_rowHas_16 : decode prog_1_method_11_code 16 = .ok (.iconst 0, 1) := by decide +kernel
theorem d_De_rowHas_17 : decode prog_1_method_11_code 17 = .ok (.ireturn, 1) := by decide +kernel
theorem d_De_run_0 : decode prog_1_method_4_code 0 = .ok (.aload_n 0, 1) := by decide +kernel
theorem d_De_run_1 : decode prog_1_method_4_code 1 = .ok (.iload_n 1, 1) := by decide +kernel
theorem d_De_run_2 : decode prog_1_method_4_code 2 = .ok (.invokevirtual 53, 3) := by decide +kernel
theorem d_De_run_5 : decode prog_1_method_4_code 5 = .ok (.ifCond .ne 11, 3) := by decide +kernel
theorem d_De_run_8 : decode prog_1_method_4_code 8 = .ok (.new 57, 3) := by decide +kernel
theorem d_De_run_11 : decode prog_1_method_4_code 11 = .ok (.dup, 1) := by decide +kernel
theorem d_De_run_12 : decode prog_1_method_4_code 12 = .ok (.invokespecial 59, 3) := by decide +kernel
theorem d_De_run_15 : decode prog_1_method_4_code 15 = .ok (.athrow, 1) := by decide +kernel
theorem d_De_run_16 : decode prog_1_method_4_code 16 = .ok (.aload_n 0, 1) := by decide +kernel
theorem d_De_run_17 : decode prog_1_method_4_code 17 = .ok (.getfield 13, 3) := by decide +kernel
theorem d_De_run_20 : decode prog_1_method_4_code 20 = .ok (.istore_n 2, 1) := by decide +kernel
theorem d_De_run_21 : decode prog_1_method_4_code 21 = .ok (.aload_n 0, 1) := by decide +kernel
theorem d_De_run_22 : decode prog_1_method_4_code 22 = .ok (.iconst 0, 1) := by decide +kernel
theorem d_De_run_23 : decode prog_1_method_4_code 23 = .ok (.putfield 13, 3) := by decide +kernel
theorem d_De_run_26 : decode prog_1_method_4_code 26 = .ok (.aload_n 0, 1) := by decide +kernel
theorem d_De_run_27 : decode prog_1_method_4_code 27 = .ok (.getfield 35, 3) := by decide +kernel
theorem d_De_run_30 : decode prog_1_method_4_code 30 = .ok (.invokevirtual 60, 3) := by decide +kernel
theorem d_De_run_33 : decode prog_1_method_4_code 33 = .ok (.aload_n 0, 1) := by decide +kernel
theorem d_De_run_34 : decode prog_1_method_4_code 34 = .ok (.getfield 35, 3) := by decide +kernel
theorem d_De_run_37 : decode prog_1_method_4_code 37 = .ok (.aload_n 0, 1) := by decide +kernel
theorem d_De_run_38 : decode prog_1_method_4_code 38 = .ok (.getfield 9, 3) := by decide +kernel
theorem d_De_run_41 : decode prog_1_method_4_code 41 = .ok (.iconst 0, 1) := by decide +kernel
theorem d_De_run_42 : decode prog_1_method_4_code 42 = .ok (.iload_n 1, 1) := by decide +kernel
theorem d_De_run_43 : decode prog_1_method_4_code 43 = .ok (.invokevirtual 63, 3) := by decide +kernel
theorem d_De_run_46 : decode prog_1_method_4_code 46 = .ok (.ifCond .eq 19, 3) := by decide +kernel
theorem d_De_run_49 : decode prog_1_method_4_code 49 = .ok (.aload_n 0, 1) := by decide +kernel
theorem d_De_run_50 : decode prog_1_method_4_code 50 = .ok (.getfield 35, 3) := by decide +kernel
theorem d_De_run_53 : decode prog_1_method_4_code 53 = .ok (.aload_n 0, 1) := by decide +kernel
theorem d_De_run_54 : decode prog_1_method_4_code 54 = .ok (.getfield 9, 3) := by decide +kernel
theorem d_De_run_57 : decode prog_1_method_4_code 57 = .ok (.iload_n 1, 1) := by decide +kernel
theorem d_De_run_58 : decode prog_1_method_4_code 58 = .ok (.iload_n 2, 1) := by decide +kernel
theorem d_De_run_59 : decode prog_1_method_4_code 59 = .ok (.invokevirtual 63, 3) := by decide +kernel
theorem d_De_run_62 : decode prog_1_method_4_code 62 = .ok (.ifCond .ne 5, 3) := by decide +kernel
theorem d_De_run_65 : decode prog_1_method_4_code 65 = .ok (.iconst 0, 1) := by decide +kernel
theorem d_De_run_66 : decode prog_1_method_4_code 66 = .ok (.ireturn, 1) := by decide +kernel
theorem d_De_run_67 : decode prog_1_method_4_code 67 = .ok (.aload_n 0, 1) := by decide +kernel
theorem d_De_run_68 : decode prog_1_method_4_code 68 = .ok (.aload_n 0, 1) := by decide +kernel
theorem d_De_run_69 : decode prog_1_method_4_code 69 = .ok (.getfield 35, 3) := by decide +kernel
theorem d_De_run_72 : decode prog_1_method_4_code 72 = .ok (.aload_n 0, 1) := by decide +kernel
theorem d_De_run_73 : decode prog_1_method_4_code 73 = .ok (.getfield 42, 3) := by decide +kernel
theorem d_De_run_76 : decode prog_1_method_4_code 76 = .ok (.invokevirtual 67, 3) := by decide +kernel
theorem d_De_run_79 : decode prog_1_method_4_code 79 = .ok (.putfield 42, 3) := by decide +kernel
theorem d_De_run_82 : decode prog_1_method_4_code 82 = .ok (.aload_n 0, 1) := by decide +kernel
theorem d_De_run_83 : decode prog_1_method_4_code 83 = .ok (.getfield 42, 3) := by decide +kernel
theorem d_De_run_86 : decode prog_1_method_4_code 86 = .ok (.iconst 0, 1) := by decide +kernel
theorem d_De_run_87 : decode prog_1_method_4_code 87 = .ok (.invokevirtual 71, 3) := by decide +kernel
theorem d_De_run_90 : decode prog_1_method_4_code 90 = .ok (.invokevirtual 75, 3) := by decide +kernel
theorem d_De_run_93 : decode prog_1_method_4_code 93 = .ok (.ifCond .eq 7, 3) := by decide +kernel
theorem d_De_run_96 : decode prog_1_method_4_code 96 = .ok (.iconst 2, 1) := by decide +kernel
theorem d_De_run_97 : decode prog_1_method_4_code 97 = .ok (.goto 4, 3) := by decide +kernel
theorem d_De_run_100 : decode prog_1_method_4_code 100 = .ok (.iconst 1, 1) := by decide +kernel
theorem d_De_run_101 : decode prog_1_method_4_code 101 = .ok (.ireturn, 1) := by decide +kernel
theorem d_St_clear_0 : decode prog_7_method_2_code 0 = .ok (.aload_n 0, 1) := by decide +kernel
theorem d_St_clear_1 : decode prog_7_method_2_code 1 = .ok (.iconst 0, 1) := by decide +kernel
theorem d_St_clear_2 : decode prog_7_method_2_code 2 = .ok (.putfield 22, 3) := by decide +kernel
theorem d_St_clear_5 : decode prog_7_method_2_code 5 = .ok (.return_, 1) := by decide +kernel
theorem d_Br_clear_0 : decode prog_2_method_2_code 0 = .ok (.aload_n 0, 1) := by decide +kernel
theorem d_Br_clear_1 : decode prog_2_method_2_code 1 = .ok (.iconst 0, 1) := by decide +kernel
theorem d_Br_clear_2 : decode prog_2_method_2_code 2 = .ok (.putfield 7, 3) := by decide +kernel
theorem d_Br_clear_5 : decode prog_2_method_2_code 5 = .ok (.aload_n 0, 1) := by decide +kernel
theorem d_Br_clear_6 : decode prog_2_method_2_code 6 = .ok (.iconst (-1), 1) := by decide +kernel
theorem d_Br_clear_7 : decode prog_2_method_2_code 7 = .ok (.putfield 13, 3) := by decide +kernel
theorem d_Br_clear_10 : decode prog_2_method_2_code 10 = .ok (.return_, 1) := by decide +kernel
theorem d_Co_carried_0 : decode prog_3_method_2_code 0 = .ok (.aload_n 0, 1) := by decide +kernel
theorem d_Co_carried_1 : decode prog_3_method_2_code 1 = .ok (.iload_n 1, 1) := by decide +kernel
theorem d_Co_carried_2 : decode prog_3_method_2_code 2 = .ok (.baload, 1) := by decide +kernel
theorem d_Co_carried_3 : decode prog_3_method_2_code 3 = .ok (.sipush 255, 3) := by decide +kernel
theorem d_Co_carried_6 : decode prog_3_method_2_code 6 = .ok (.iand, 1) := by decide +kernel
theorem d_Co_carried_7 : decode prog_3_method_2_code 7 = .ok (.istore_n 3, 1) := by decide +kernel
theorem d_Co_carried_8 : decode prog_3_method_2_code 8 = .ok (.iload_n 3, 1) := by decide +kernel
theorem d_Co_carried_9 : decode prog_3_method_2_code 9 = .ok (.bipush 76, 2) := by decide +kernel
theorem d_Co_carried_11 : decode prog_3_method_2_code 11 = .ok (.if_icmp .le 5, 3) := by decide +kernel
theorem d_Co_carried_14 : decode prog_3_method_2_code 14 = .ok (.iconst 0, 1) := by decide +kernel
theorem d_Co_carried_15 : decode prog_3_method_2_code 15 = .ok (.ireturn, 1) := by decide +kernel
theorem d_Co_carried_16 : decode prog_3_method_2_code 16 = .ok (.iload_n 3, 1) := by decide +kernel
theorem d_Co_carried_17 : decode prog_3_method_2_code 17 = .ok (.bipush 76, 2) := by decide +kernel
theorem d_Co_carried_19 : decode prog_3_method_2_code 19 = .ok (.if_icmp .ge 5, 3) := by decide +kernel
theorem d_Co_carried_22 : decode prog_3_method_2_code 22 = .ok (.iload_n 3, 1) := by decide +kernel
theorem d_Co_carried_23 : decode prog_3_method_2_code 23 = .ok (.ireturn, 1) := by decide +kernel
theorem d_Co_carried_24 : decode prog_3_method_2_code 24 = .ok (.iload_n 1, 1) := by decide +kernel
theorem d_Co_carried_25 : decode prog_3_method_2_code 25 = .ok (.iconst 1, 1) := by decide +kernel
theorem d_Co_carried_26 : decode prog_3_method_2_code 26 = .ok (.iadd, 1) := by decide +kernel
theorem d_Co_carried_27 : decode prog_3_method_2_code 27 = .ok (.iload_n 2, 1) := by decide +kernel
theorem d_Co_carried_28 : decode prog_3_method_2_code 28 = .ok (.if_icmp .ge 17, 3) := by decide +kernel
theorem d_Co_carried_31 : decode prog_3_method_2_code 31 = .ok (.iconst 1, 1) := by decide +kernel
theorem d_Co_carried_32 : decode prog_3_method_2_code 32 = .ok (.aload_n 0, 1) := by decide +kernel
theorem d_Co_carried_33 : decode prog_3_method_2_code 33 = .ok (.iload_n 1, 1) := by decide +kernel
theorem d_Co_carried_34 : decode prog_3_method_2_code 34 = .ok (.iconst 1, 1) := by decide +kernel
theorem d_Co_carried_35 : decode prog_3_method_2_code 35 = .ok (.iadd, 1) := by decide +kernel
theorem d_Co_carried_36 : decode prog_3_method_2_code 36 = .ok (.baload, 1) := by decide +kernel
theorem d_Co_carried_37 : decode prog_3_method_2_code 37 = .ok (.sipush 255, 3) := by decide +kernel
theorem d_Co_carried_40 : decode prog_3_method_2_code 40 = .ok (.iand, 1) := by decide +kernel
theorem d_Co_carried_41 : decode prog_3_method_2_code 41 = .ok (.iadd, 1) := by decide +kernel
theorem d_Co_carried_42 : decode prog_3_method_2_code 42 = .ok (.goto 4, 3) := by decide +kernel
theorem d_Co_carried_45 : decode prog_3_method_2_code 45 = .ok (.iconst 1, 1) := by decide +kernel
theorem d_Co_carried_46 : decode prog_3_method_2_code 46 = .ok (.ireturn, 1) := by decide +kernel
theorem d_Co_isBranch_0 : decode prog_3_method_4_code 0 = .ok (.iload_n 0, 1) := by decide +kernel
theorem d_Co_isBranch_1 : decode prog_3_method_4_code 1 = .ok (.bipush 99, 2) := by decide +kernel
theorem d_Co_isBranch_3 : decode prog_3_method_4_code 3 = .ok (.if_icmp .eq 21, 3) := by decide +kernel
theorem d_Co_isBranch_6 : decode prog_3_method_4_code 6 = .ok (.iload_n 0, 1) := by decide +kernel
theorem d_Co_isBranch_7 : decode prog_3_method_4_code 7 = .ok (.bipush 100, 2) := by decide +kernel
theorem d_Co_isBranch_9 : decode prog_3_method_4_code 9 = .ok (.if_icmp .eq 15, 3) := by decide +kernel
theorem d_Co_isBranch_12 : decode prog_3_method_4_code 12 = .ok (.iload_n 0, 1) := by decide +kernel
theorem d_Co_isBranch_13 : decode prog_3_method_4_code 13 = .ok (.bipush 103, 2) := by decide +kernel
theorem d_Co_isBranch_15 : decode prog_3_method_4_code 15 = .ok (.if_icmp .eq 9, 3) := by decide +kernel
theorem d_Co_isBranch_18 : decode prog_3_method_4_code 18 = .ok (.iload_n 0, 1) := by decide +kernel
theorem d_Co_isBranch_19 : decode prog_3_method_4_code 19 = .ok (.bipush 104, 2) := by decide +kernel
theorem d_Co_isBranch_21 : decode prog_3_method_4_code 21 = .ok (.if_icmp .ne 7, 3) := by decide +kernel
theorem d_Co_isBranch_24 : decode prog_3_method_4_code 24 = .ok (.iconst 1, 1) := by decide +kernel
theorem d_Co_isBranch_25 : decode prog_3_method_4_code 25 = .ok (.goto 4, 3) := by decide +kernel
theorem d_Co_isBranch_28 : decode prog_3_method_4_code 28 = .ok (.iconst 0, 1) := by decide +kernel
theorem d_Co_isBranch_29 : decode prog_3_method_4_code 29 = .ok (.ireturn, 1) := by decide +kernel
theorem d_Br_taken_0 : decode prog_2_method_4_code 0 = .ok (.aload_n 0, 1) := by decide +kernel
theorem d_Br_taken_1 : decode prog_2_method_4_code 1 = .ok (.getfield 13, 3) := by decide +kernel
theorem d_Br_taken_4 : decode prog_2_method_4_code 4 = .ok (.iconst (-1), 1) := by decide +kernel
theorem d_Br_taken_5 : decode prog_2_method_4_code 5 = .ok (.if_icmp .ne 7, 3) := by decide +kernel
theorem d_Br_taken_8 : decode prog_2_method_4_code 8 = .ok (.iconst 1, 1) := by decide +kernel
theorem d_Br_taken_9 : decode prog_2_method_4_code 9 = .ok (.goto 4, 3) := by decide +kernel
theorem d_Br_taken_12 : decode prog_2_method_4_code 12 = .ok (.iconst 0, 1) := by decide +kernel
theorem d_Br_taken_13 : decode prog_2_method_4_code 13 = .ok (.ireturn, 1) := by decide +kernel
theorem d_Br_enter_0 : decode prog_2_method_5_code 0 = .ok (.iload_n 1, 1) := by decide +kernel
theorem d_Br_enter_1 : decode prog_2_method_5_code 1 = .ok (.ifCond .ne 19, 3) := by decide +kernel
theorem d_Br_enter_4 : decode prog_2_method_5_code 4 = .ok (.aload_n 0, 1) := by decide +kernel
theorem d_Br_enter_5 : decode prog_2_method_5_code 5 = .ok (.getfield 13, 3) := by decide +kernel
theorem d_Br_enter_8 : decode prog_2_method_5_code 8 = .ok (.iconst (-1), 1) := by decide +kernel
theorem d_Br_enter_9 : decode prog_2_method_5_code 9 = .ok (.if_icmp .ne 11, 3) := by decide +kernel
theorem d_Br_enter_12 : decode prog_2_method_5_code 12 = .ok (.aload_n 0, 1) := by decide +kernel
theorem d_Br_enter_13 : decode prog_2_method_5_code 13 = .ok (.aload_n 0, 1) := by decide +kernel
theorem d_Br_enter_14 : decode prog_2_method_5_code 14 = .ok (.getfield 7, 3) := by decide +kernel
theorem d_Br_enter_17 : decode prog_2_method_5_code 17 = .ok (.putfield 13, 3) := by decide +kernel
theorem d_Br_enter_20 : decode prog_2_method_5_code 20 = .ok (.aload_n 0, 1) := by decide +kernel
theorem d_Br_enter_21 : decode prog_2_method_5_code 21 = .ok (.dup, 1) := by decide +kernel
theorem d_Br_enter_22 : decode prog_2_method_5_code 22 = .ok (.getfield 7, 3) := by decide +kernel
theorem d_Br_enter_25 : decode prog_2_method_5_code 25 = .ok (.iconst 1, 1) := by decide +kernel
theorem d_Br_enter_26 : decode prog_2_method_5_code 26 = .ok (.iadd, 1) := by decide +kernel
theorem d_Br_enter_27 : decode prog_2_method_5_code 27 = .ok (.putfield 7, 3) := by decide +kernel
theorem d_Br_enter_30 : decode prog_2_method_5_code 30 = .ok (.return_, 1) := by decide +kernel
theorem d_St_holds_0 : decode prog_7_method_4_code 0 = .ok (.iload_n 1, 1) := by decide +kernel
theorem d_St_holds_1 : decode prog_7_method_4_code 1 = .ok (.ifCond .lt 15, 3) := by decide +kernel
theorem d_St_holds_4 : decode prog_7_method_4_code 4 = .ok (.iload_n 1, 1) := by decide +kernel
theorem d_St_holds_5 : decode prog_7_method_4_code 5 = .ok (.aload_n 0, 1) := by decide +kernel
theorem d_St_holds_6 : decode prog_7_method_4_code 6 = .ok (.getfield 22, 3) := by decide +kernel
theorem d_St_holds_9 : decode prog_7_method_4_code 9 = .ok (.if_icmp .ge 7, 3) := by decide +kernel
theorem d_St_holds_12 : decode prog_7_method_4_code 12 = .ok (.iconst 1, 1) := by decide +kernel
theorem d_St_holds_13 : decode prog_7_method_4_code 13 = .ok (.goto 4, 3) := by decide +kernel
theorem d_St_holds_16 : decode prog_7_method_4_code 16 = .ok (.iconst 0, 1) := by decide +kernel
theorem d_St_holds_17 : decode prog_7_method_4_code 17 = .ok (.ireturn, 1) := by decide +kernel
theorem d_St_pop_0 : decode prog_7_method_7_code 0 = .ok (.aload_n 0, 1) := by decide +kernel
theorem d_St_pop_1 : decode prog_7_method_7_code 1 = .ok (.getfield 22, 3) := by decide +kernel
theorem d_St_pop_4 : decode prog_7_method_7_code 4 = .ok (.ifCond .ne 8, 3) := by decide +kernel
theorem d_St_pop_7 : decode prog_7_method_7_code 7 = .ok (.aload_n 0, 1) := by decide +kernel
theorem d_St_pop_8 : decode prog_7_method_7_code 8 = .ok (.getfield 18, 3) := by decide +kernel
theorem d_St_pop_11 : decode prog_7_method_7_code 11 = .ok (.areturn, 1) := by decide +kernel
theorem d_St_pop_12 : decode prog_7_method_7_code 12 = .ok (.aload_n 0, 1) := by decide +kernel
theorem d_St_pop_13 : decode prog_7_method_7_code 13 = .ok (.dup, 1) := by decide +kernel
theorem d_St_pop_14 : decode prog_7_method_7_code 14 = .ok (.getfield 22, 3) := by decide +kernel
theorem d_St_pop_17 : decode prog_7_method_7_code 17 = .ok (.iconst 1, 1) := by decide +kernel
theorem d_St_pop_18 : decode prog_7_method_7_code 18 = .ok (.isub, 1) := by decide +kernel
theorem d_St_pop_19 : decode prog_7_method_7_code 19 = .ok (.putfield 22, 3) := by decide +kernel
theorem d_St_pop_22 : decode prog_7_method_7_code 22 = .ok (.aload_n 0, 1) := by decide +kernel
theorem d_St_pop_23 : decode prog_7_method_7_code 23 = .ok (.getfield 11, 3) := by decide +kernel
theorem d_St_pop_26 : decode prog_7_method_7_code 26 = .ok (.aload_n 0, 1) := by decide +kernel
theorem d_St_pop_27 : decode prog_7_method_7_code 27 = .ok (.getfield 22, 3) := by decide +kernel
theorem d_St_pop_30 : decode prog_7_method_7_code 30 = .ok (.aaload, 1) := by decide +kernel
theorem d_St_pop_31 : decode prog_7_method_7_code 31 = .ok (.areturn, 1) := by decide +kernel
theorem d_Th_isTrue_0 : decode prog_9_method_7_code 0 = .ok (.iconst 0, 1) := by decide +kernel
theorem d_Th_isTrue_1 : decode prog_9_method_7_code 1 = .ok (.istore_n 1, 1) := by decide +kernel
theorem d_Th_isTrue_2 : decode prog_9_method_7_code 2 = .ok (.iload_n 1, 1) := by decide +kernel
theorem d_Th_isTrue_3 : decode prog_9_method_7_code 3 = .ok (.aload_n 0, 1) := by decide +kernel
theorem d_Th_isTrue_4 : decode prog_9_method_7_code 4 = .ok (.getfield 7, 3) := by decide +kernel
theorem d_Th_isTrue_7 : decode prog_9_method_7_code 7 = .ok (.arraylength, 1) := by decide +kernel
theorem d_Th_isTrue_8 : decode prog_9_method_7_code 8 = .ok (.if_icmp .ge 52, 3) := by decide +kernel
theorem d_Th_isTrue_11 : decode prog_9_method_7_code 11 = .ok (.iload_n 1, 1) := by decide +kernel
theorem d_Th_isTrue_12 : decode prog_9_method_7_code 12 = .ok (.aload_n 0, 1) := by decide +kernel
theorem d_Th_isTrue_13 : decode prog_9_method_7_code 13 = .ok (.getfield 7, 3) := by decide +kernel
theorem d_Th_isTrue_16 : decode prog_9_method_7_code 16 = .ok (.arraylength, 1) := by decide +kernel
theorem d_Th_isTrue_17 : decode prog_9_method_7_code 17 = .ok (.iconst 1, 1) := by decide +kernel
theorem d_Th_isTrue_18 : decode prog_9_method_7_code 18 = .ok (.isub, 1) := by decide +kernel
theorem d_Th_isTrue_19 : decode prog_9_method_7_code 19 = .ok (.if_icmp .ne 7, 3) := by decide +kernel
theorem d_Th_isTrue_22 : decode prog_9_method_7_code 22 = .ok (.iconst 1, 1) := by decide +kernel
theorem d_Th_isTrue_23 : decode prog_9_method_7_code 23 = .ok (.goto 4, 3) := by decide +kernel
theorem d_Th_isTrue_26 : decode prog_9_method_7_code 26 = .ok (.iconst 0, 1) := by decide +kernel
theorem d_Th_isTrue_27 : decode prog_9_method_7_code 27 = .ok (.istore_n 2, 1) := by decide +kernel
theorem d_Th_isTrue_28 : decode prog_9_method_7_code 28 = .ok (.aload_n 0, 1) := by decide +kernel
theorem d_Th_isTrue_29 : decode prog_9_method_7_code 29 = .ok (.getfield 7, 3) := by decide +kernel
theorem d_Th_isTrue_32 : decode prog_9_method_7_code 32 = .ok (.iload_n 1, 1) := by decide +kernel
theorem d_Th_isTrue_33 : decode prog_9_method_7_code 33 = .ok (.baload, 1) := by decide +kernel
theorem d_Th_isTrue_34 : decode prog_9_method_7_code 34 = .ok (.ifCond .eq 20, 3) := by decide +kernel
theorem d_Th_isTrue_37 : decode prog_9_method_7_code 37 = .ok (.iload_n 2, 1) := by decide +kernel
theorem d_Th_isTrue_38 : decode prog_9_method_7_code 38 = .ok (.ifCond .eq 14, 3) := by decide +kernel
theorem d_Th_isTrue_41 : decode prog_9_method_7_code 41 = .ok (.aload_n 0, 1) := by decide +kernel
theorem d_Th_isTrue_42 : decode prog_9_method_7_code 42 = .ok (.iload_n 1, 1) := by decide +kernel
theorem d_Th_isTrue_43 : decode prog_9_method_7_code 43 = .ok (.invokevirtual 31, 3) := by decide +kernel
theorem d_Th_isTrue_46 : decode prog_9_method_7_code 46 = .ok (.sipush 128, 3) := by decide +kernel
theorem d_Th_isTrue_49 : decode prog_9_method_7_code 49 = .ok (.if_icmp .eq 5, 3) := by decide +kernel
theorem d_Th_isTrue_52 : decode prog_9_method_7_code 52 = .ok (.iconst 1, 1) := by decide +kernel
theorem d_Th_isTrue_53 : decode prog_9_method_7_code 53 = .ok (.ireturn, 1) := by decide +kernel
theorem d_Th_isTrue_54 : decode prog_9_method_7_code 54 = .ok (.iinc 1 1, 3) := by decide +kernel
theorem d_Th_isTrue_57 : decode prog_9_method_7_code 57 = .ok (.goto (-55), 3) := by decide +kernel
theorem d_Th_isTrue_60 : decode prog_9_method_7_code 60 = .ok (.iconst 0, 1) := by decide +kernel
theorem d_Th_isTrue_61 : decode prog_9_method_7_code 61 = .ok (.ireturn, 1) := by decide +kernel
theorem d_Th_byteAt_0 : decode prog_9_method_5_code 0 = .ok (.iload_n 1, 1) := by decide +kernel
theorem d_Th_byteAt_1 : decode prog_9_method_5_code 1 = .ok (.ifCond .lt 25, 3) := by decide +kernel
theorem d_Th_byteAt_4 : decode prog_9_method_5_code 4 = .ok (.iload_n 1, 1) := by decide +kernel
theorem d_Th_byteAt_5 : decode prog_9_method_5_code 5 = .ok (.aload_n 0, 1) := by decide +kernel
theorem d_Th_byteAt_6 : decode prog_9_method_5_code 6 = .ok (.getfield 7, 3) := by decide +kernel
theorem d_Th_byteAt_9 : decode prog_9_method_5_code 9 = .ok (.arraylength, 1) := by decide +kernel
theorem d_Th_byteAt_10 : decode prog_9_method_5_code 10 = .ok (.if_icmp .ge 16, 3) := by decide +kernel
theorem d_Th_byteAt_13 : decode prog_9_method_5_code 13 = .ok (.aload_n 0, 1) := by decide +kernel
theorem d_Th_byteAt_14 : decode prog_9_method_5_code 14 = .ok (.getfield 7, 3) := by decide +kernel
theorem d_Th_byteAt_17 : decode prog_9_method_5_code 17 = .ok (.iload_n 1, 1) := by decide +kernel
theorem d_Th_byteAt_18 : decode prog_9_method_5_code 18 = .ok (.baload, 1) := by decide +kernel
theorem d_Th_byteAt_19 : decode prog_9_method_5_code 19 = .ok (.sipush 255, 3) := by decide +kernel
theorem d_Th_byteAt_22 : decode prog_9_method_5_code 22 = .ok (.iand, 1) := by decide +kernel
theorem d_Th_byteAt_23 : decode prog_9_method_5_code 23 = .ok (.goto 4, 3) := by decide +kernel
theorem d_Th_byteAt_26 : decode prog_9_method_5_code 26 = .ok (.iconst 0, 1) := by decide +kernel
theorem d_Th_byteAt_27 : decode prog_9_method_5_code 27 = .ok (.ireturn, 1) := by decide +kernel
theorem d_Br_anyOpen_0 : decode prog_2_method_3_code 0 = .ok (.aload_n 0, 1) := by decide +kernel
theorem d_Br_anyOpen_1 : decode prog_2_method_3_code 1 = .ok (.getfield 7, 3) := by decide +kernel
theorem d_Br_anyOpen_4 : decode prog_2_method_3_code 4 = .ok (.ifCond .le 7, 3) := by decide +kernel
theorem d_Br_anyOpen_7 : decode prog_2_method_3_code 7 = .ok (.iconst 1, 1) := by decide +kernel
theorem d_Br_anyOpen_8 : decode prog_2_method_3_code 8 = .ok (.goto 4, 3) := by decide +kernel
theorem d_Br_anyOpen_11 : decode prog_2_method_3_code 11 = .ok (.iconst 0, 1) := by decide +kernel
theorem d_Br_anyOpen_12 : decode prog_2_method_3_code 12 = .ok (.ireturn, 1) := by decide +kernel
theorem d_Br_turn_0 : decode prog_2_method_6_code 0 = .ok (.aload_n 0, 1) := by decide +kernel
theorem d_Br_turn_1 : decode prog_2_method_6_code 1 = .ok (.getfield 13, 3) := by decide +kernel
theorem d_Br_turn_4 : decode prog_2_method_6_code 4 = .ok (.iconst (-1), 1) := by decide +kernel
theorem d_Br_turn_5 : decode prog_2_method_6_code 5 = .ok (.if_icmp .ne 16, 3) := by decide +kernel
theorem d_Br_turn_8 : decode prog_2_method_6_code 8 = .ok (.aload_n 0, 1) := by decide +kernel
theorem d_Br_turn_9 : decode prog_2_method_6_code 9 = .ok (.aload_n 0, 1) := by decide +kernel
theorem d_Br_turn_10 : decode prog_2_method_6_code 10 = .ok (.getfield 7, 3) := by decide +kernel
theorem d_Br_turn_13 : decode prog_2_method_6_code 13 = .ok (.iconst 1, 1) := by decide +kernel
theorem d_Br_turn_14 : decode prog_2_method_6_code 14 = .ok (.isub, 1) := by decide +kernel
theorem d_Br_turn_15 : decode prog_2_method_6_code 15 = .ok (.putfield 13, 3) := by decide +kernel
theorem d_Br_turn_18 : decode prog_2_method_6_code 18 = .ok (.goto 21, 3) := by decide +kernel
theorem d_Br_turn_21 : decode prog_2_method_6_code 21 = .ok (.aload_n 0, 1) := by decide +kernel
theorem d_Br_turn_22 : decode prog_2_method_6_code 22 = .ok (.getfield 13, 3) := by decide +kernel
theorem d_Br_turn_25 : decode prog_2_method_6_code 25 = .ok (.aload_n 0, 1) := by decide +kernel
theorem d_Br_turn_26 : decode prog_2_method_6_code 26 = .ok (.getfield 7, 3) := by decide +kernel
theorem d_Br_turn_29 : decode prog_2_method_6_code 29 = .ok (.iconst 1, 1) := by decide +kernel
theorem d_Br_turn_30 : decode prog_2_method_6_code 30 = .ok (.isub, 1) := by decide +kernel
theorem d_Br_turn_31 : decode prog_2_method_6_code 31 = .ok (.if_icmp .ne 8, 3) := by decide +kernel
theorem d_Br_turn_34 : decode prog_2_method_6_code 34 = .ok (.aload_n 0, 1) := by decide +kernel
theorem d_Br_turn_35 : decode prog_2_method_6_code 35 = .ok (.iconst (-1), 1) := by decide +kernel
theorem d_Br_turn_36 : decode prog_2_method_6_code 36 = .ok (.putfield 13, 3) := by decide +kernel
theorem d_Br_turn_39 : decode prog_2_method_6_code 39 = .ok (.return_, 1) := by decide +kernel
theorem d_Br_leave_0 : decode prog_2_method_7_code 0 = .ok (.aload_n 0, 1) := by decide +kernel
theorem d_Br_leave_1 : decode prog_2_method_7_code 1 = .ok (.dup, 1) := by decide +kernel
theorem d_Br_leave_2 : decode prog_2_method_7_code 2 = .ok (.getfield 7, 3) := by decide +kernel
theorem d_Br_leave_5 : decode prog_2_method_7_code 5 = .ok (.iconst 1, 1) := by decide +kernel
theorem d_Br_leave_6 : decode prog_2_method_7_code 6 = .ok (.isub, 1) := by decide +kernel
theorem d_Br_leave_7 : decode prog_2_method_7_code 7 = .ok (.putfield 7, 3) := by decide +kernel
theorem d_Br_leave_10 : decode prog_2_method_7_code 10 = .ok (.aload_n 0, 1) := by decide +kernel
theorem d_Br_leave_11 : decode prog_2_method_7_code 11 = .ok (.getfield 13, 3) := by decide +kernel
theorem d_Br_leave_14 : decode prog_2_method_7_code 14 = .ok (.aload_n 0, 1) := by decide +kernel
theorem d_Br_leave_15 : decode prog_2_method_7_code 15 = .ok (.getfield 7, 3) := by decide +kernel
theorem d_Br_leave_18 : decode prog_2_method_7_code 18 = .ok (.if_icmp .ne 8, 3) := by decide +kernel
theorem d_Br_leave_21 : decode prog_2_method_7_code 21 = .ok (.aload_n 0, 1) := by decide +kernel
theorem d_Br_leave_22 : decode prog_2_method_7_code 22 = .ok (.iconst (-1), 1) := by decide +kernel
theorem d_Br_leave_23 : decode prog_2_method_7_code 23 = .ok (.putfield 13, 3) := by decide +kernel
theorem d_Br_leave_26 : decode prog_2_method_7_code 26 = .ok (.return_, 1) := by decide +kernel
theorem d_Co_isPush_0 : decode prog_3_method_3_code 0 = .ok (.iload_n 0, 1) := by decide +kernel
theorem d_Co_isPush_1 : decode prog_3_method_3_code 1 = .ok (.bipush 76, 2) := by decide +kernel
theorem d_Co_isPush_3 : decode prog_3_method_3_code 3 = .ok (.if_icmp .gt 7, 3) := by decide +kernel
theorem d_Co_isPush_6 : decode prog_3_method_3_code 6 = .ok (.iconst 1, 1) := by decide +kernel
theorem d_Co_isPush_7 : decode prog_3_method_3_code 7 = .ok (.goto 4, 3) := by decide +kernel
theorem d_Co_isPush_10 : decode prog_3_method_3_code 10 = .ok (.iconst 0, 1) := by decide +kernel
theorem d_Co_isPush_11 : decode prog_3_method_3_code 11 = .ok (.ireturn, 1) := by decide +kernel
