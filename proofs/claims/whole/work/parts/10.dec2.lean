theorem d_Ar_copyOfRange_0 : decode prog_29_method_132_code 0 = .ok (.iload_n 1, 1) := by decide +kernel
theorem d_Ar_copyOfRange_1 : decode prog_29_method_132_code 1 = .ok (.ifCond .ne 9, 3) := by decide +kernel
theorem d_Ar_copyOfRange_4 : decode prog_29_method_132_code 4 = .ok (.iload_n 2, 1) := by decide +kernel
theorem d_Ar_copyOfRange_5 : decode prog_29_method_132_code 5 = .ok (.aload_n 0, 1) := by decide +kernel
theorem d_Ar_copyOfRange_6 : decode prog_29_method_132_code 6 = .ok (.arraylength, 1) := by decide +kernel
theorem d_Ar_copyOfRange_7 : decode prog_29_method_132_code 7 = .ok (.if_icmp .eq 10, 3) := by decide +kernel
theorem d_Ar_copyOfRange_10 : decode prog_29_method_132_code 10 = .ok (.aload_n 0, 1) := by decide +kernel
theorem d_Ar_copyOfRange_11 : decode prog_29_method_132_code 11 = .ok (.iload_n 1, 1) := by decide +kernel
theorem d_Ar_copyOfRange_12 : decode prog_29_method_132_code 12 = .ok (.iload_n 2, 1) := by decide +kernel
theorem d_Ar_copyOfRange_13 : decode prog_29_method_132_code 13 = .ok (.invokestatic 339, 3) := by decide +kernel
theorem d_Ar_copyOfRange_16 : decode prog_29_method_132_code 16 = .ok (.areturn, 1) := by decide +kernel
theorem d_Ar_copyOfRange_17 : decode prog_29_method_132_code 17 = .ok (.aload_n 0, 1) := by decide +kernel
theorem d_Ar_copyOfRange_18 : decode prog_29_method_132_code 18 = .ok (.invokevirtual 310, 3) := by decide +kernel
theorem d_Ar_copyOfRange_21 : decode prog_29_method_132_code 21 = .ok (.checkcast 311, 3) := by decide +kernel
theorem d_Ar_copyOfRange_24 : decode prog_29_method_132_code 24 = .ok (.areturn, 1) := by decide +kernel
theorem d_Ar_copyOfRangeByte_0 : decode prog_29_method_133_code 0 = .ok (.iload_n 1, 1) := by decide +kernel
theorem d_Ar_copyOfRangeByte_1 : decode prog_29_method_133_code 1 = .ok (.iload_n 2, 1) := by decide +kernel
theorem d_Ar_copyOfRangeByte_2 : decode prog_29_method_133_code 2 = .ok (.invokestatic 343, 3) := by decide +kernel
theorem d_Ar_copyOfRangeByte_5 : decode prog_29_method_133_code 5 = .ok (.iload_n 2, 1) := by decide +kernel
theorem d_Ar_copyOfRangeByte_6 : decode prog_29_method_133_code 6 = .ok (.iload_n 1, 1) := by decide +kernel
theorem d_Ar_copyOfRangeByte_7 : decode prog_29_method_133_code 7 = .ok (.isub, 1) := by decide +kernel
theorem d_Ar_copyOfRangeByte_8 : decode prog_29_method_133_code 8 = .ok (.istore_n 3, 1) := by decide +kernel
theorem d_Ar_copyOfRangeByte_9 : decode prog_29_method_133_code 9 = .ok (.iload_n 3, 1) := by decide +kernel
theorem d_Ar_copyOfRangeByte_10 : decode prog_29_method_133_code 10 = .ok (.newarray .byte, 2) := by decide +kernel
theorem d_Ar_copyOfRangeByte_12 : decode prog_29_method_133_code 12 = .ok (.astore 4, 2) := by decide +kernel
theorem d_Ar_copyOfRangeByte_14 : decode prog_29_method_133_code 14 = .ok (.aload_n 0, 1) := by decide +kernel
theorem d_Ar_copyOfRangeByte_15 : decode prog_29_method_133_code 15 = .ok (.iload_n 1, 1) := by decide +kernel
theorem d_Ar_copyOfRangeByte_16 : decode prog_29_method_133_code 16 = .ok (.aload 4, 2) := by decide +kernel
theorem d_Ar_copyOfRangeByte_18 : decode prog_29_method_133_code 18 = .ok (.iconst 0, 1) := by decide +kernel
theorem d_Ar_copyOfRangeByte_19 : decode prog_29_method_133_code 19 = .ok (.aload_n 0, 1) := by decide +kernel
theorem d_Ar_copyOfRangeByte_20 : decode prog_29_method_133_code 20 = .ok (.arraylength, 1) := by decide +kernel
theorem d_Ar_copyOfRangeByte_21 : decode prog_29_method_133_code 21 = .ok (.iload_n 1, 1) := by decide +kernel
theorem d_Ar_copyOfRangeByte_22 : decode prog_29_method_133_code 22 = .ok (.isub, 1) := by decide +kernel
theorem d_Ar_copyOfRangeByte_23 : decode prog_29_method_133_code 23 = .ok (.iload_n 3, 1) := by decide +kernel
theorem d_Ar_copyOfRangeByte_24 : decode prog_29_method_133_code 24 = .ok (.invokestatic 304, 3) := by decide +kernel
theorem d_Ar_copyOfRangeByte_27 : decode prog_29_method_133_code 27 = .ok (.invokestatic 150, 3) := by decide +kernel
theorem d_Ar_copyOfRangeByte_30 : decode prog_29_method_133_code 30 = .ok (.aload 4, 2) := by decide +kernel
theorem d_Ar_copyOfRangeByte_32 : decode prog_29_method_133_code 32 = .ok (.areturn, 1) := by decide +kernel
theorem d_St_push_0 : decode prog_7_method_6_code 0 = .ok (.aload_n 0, 1) := by decide +kernel
theorem d_St_push_1 : decode prog_7_method_6_code 1 = .ok (.getfield 22, 3) := by decide +kernel
theorem d_St_push_4 : decode prog_7_method_6_code 4 = .ok (.sipush 200, 3) := by decide +kernel
theorem d_St_push_7 : decode prog_7_method_6_code 7 = .ok (.if_icmp .lt 5, 3) := by decide +kernel
theorem d_St_push_10 : decode prog_7_method_6_code 10 = .ok (.iconst 0, 1) := by decide +kernel
theorem d_St_push_11 : decode prog_7_method_6_code 11 = .ok (.ireturn, 1) := by decide +kernel
theorem d_St_push_12 : decode prog_7_method_6_code 12 = .ok (.aload_n 0, 1) := by decide +kernel
theorem d_St_push_13 : decode prog_7_method_6_code 13 = .ok (.getfield 11, 3) := by decide +kernel
theorem d_St_push_16 : decode prog_7_method_6_code 16 = .ok (.aload_n 0, 1) := by decide +kernel
theorem d_St_push_17 : decode prog_7_method_6_code 17 = .ok (.getfield 22, 3) := by decide +kernel
theorem d_St_push_20 : decode prog_7_method_6_code 20 = .ok (.aload_n 1, 1) := by decide +kernel
theorem d_St_push_21 : decode prog_7_method_6_code 21 = .ok (.aastore, 1) := by decide +kernel
theorem d_St_push_22 : decode prog_7_method_6_code 22 = .ok (.aload_n 0, 1) := by decide +kernel
theorem d_St_push_23 : decode prog_7_method_6_code 23 = .ok (.dup, 1) := by decide +kernel
theorem d_St_push_24 : decode prog_7_method_6_code 24 = .ok (.getfield 22, 3) := by decide +kernel
theorem d_St_push_27 : decode prog_7_method_6_code 27 = .ok (.iconst 1, 1) := by decide +kernel
theorem d_St_push_28 : decode prog_7_method_6_code 28 = .ok (.iadd, 1) := by decide +kernel
theorem d_St_push_29 : decode prog_7_method_6_code 29 = .ok (.putfield 22, 3) := by decide +kernel
theorem d_St_push_32 : decode prog_7_method_6_code 32 = .ok (.iconst 1, 1) := by decide +kernel
theorem d_St_push_33 : decode prog_7_method_6_code 33 = .ok (.ireturn, 1) := by decide +kernel
theorem d_Co_needs_0 : decode prog_3_method_5_code 0 = .ok (.iload_n 0, 1) := by decide +kernel
theorem d_Co_needs_1 : decode prog_3_method_5_code 1 = .ok (.tableswitch 143 97 125 #[131, 143, 143, 143, 143, 143, 143, 143, 143, 143, 143, 131, 135, 135, 143, 143, 143, 143, 143, 131, 143, 143, 135, 135, 135, 135, 139, 135, 135], 131) := by decide +kernel
theorem d_Co_needs_132 : decode prog_3_method_5_code 132 = .ok (.iconst 0, 1) := by decide +kernel
theorem d_Co_needs_133 : decode prog_3_method_5_code 133 = .ok (.goto 12, 3) := by decide +kernel
theorem d_Co_needs_136 : decode prog_3_method_5_code 136 = .ok (.iconst 2, 1) := by decide +kernel
theorem d_Co_needs_137 : decode prog_3_method_5_code 137 = .ok (.goto 8, 3) := by decide +kernel
theorem d_Co_needs_140 : decode prog_3_method_5_code 140 = .ok (.iconst 3, 1) := by decide +kernel
theorem d_Co_needs_141 : decode prog_3_method_5_code 141 = .ok (.goto 4, 3) := by decide +kernel
theorem d_Co_needs_144 : decode prog_3_method_5_code 144 = .ok (.iconst 1, 1) := by decide +kernel
theorem d_Co_needs_145 : decode prog_3_method_5_code 145 = .ok (.ireturn, 1) := by decide +kernel
theorem d_St_drop_0 : decode prog_7_method_9_code 0 = .ok (.iload_n 1, 1) := by decide +kernel
theorem d_St_drop_1 : decode prog_7_method_9_code 1 = .ok (.ifCond .lt 11, 3) := by decide +kernel
theorem d_St_drop_4 : decode prog_7_method_9_code 4 = .ok (.iload_n 1, 1) := by decide +kernel
theorem d_St_drop_5 : decode prog_7_method_9_code 5 = .ok (.aload_n 0, 1) := by decide +kernel
theorem d_St_drop_6 : decode prog_7_method_9_code 6 = .ok (.getfield 22, 3) := by decide +kernel
theorem d_St_drop_9 : decode prog_7_method_9_code 9 = .ok (.if_icmp .le 5, 3) := by decide +kernel
theorem d_St_drop_12 : decode prog_7_method_9_code 12 = .ok (.iconst 0, 1) := by decide +kernel
theorem d_St_drop_13 : decode prog_7_method_9_code 13 = .ok (.ireturn, 1) := by decide +kernel
theorem d_St_drop_14 : decode prog_7_method_9_code 14 = .ok (.aload_n 0, 1) := by decide +kernel
theorem d_St_drop_15 : decode prog_7_method_9_code 15 = .ok (.dup, 1) := by decide +kernel
theorem d_St_drop_16 : decode prog_7_method_9_code 16 = .ok (.getfield 22, 3) := by decide +kernel
theorem d_St_drop_19 : decode prog_7_method_9_code 19 = .ok (.iload_n 1, 1) := by decide +kernel
theorem d_St_drop_20 : decode prog_7_method_9_code 20 = .ok (.isub, 1) := by decide +kernel
theorem d_St_drop_21 : decode prog_7_method_9_code 21 = .ok (.putfield 22, 3) := by decide +kernel
theorem d_St_drop_24 : decode prog_7_method_9_code 24 = .ok (.iconst 1, 1) := by decide +kernel
theorem d_St_drop_25 : decode prog_7_method_9_code 25 = .ok (.ireturn, 1) := by decide +kernel
theorem d_St_peek_0 : decode prog_7_method_5_code 0 = .ok (.aload_n 0, 1) := by decide +kernel
theorem d_St_peek_1 : decode prog_7_method_5_code 1 = .ok (.iload_n 1, 1) := by decide +kernel
theorem d_St_peek_2 : decode prog_7_method_5_code 2 = .ok (.invokevirtual 26, 3) := by decide +kernel
theorem d_St_peek_5 : decode prog_7_method_5_code 5 = .ok (.ifCond .eq 19, 3) := by decide +kernel
theorem d_St_peek_8 : decode prog_7_method_5_code 8 = .ok (.aload_n 0, 1) := by decide +kernel
theorem d_St_peek_9 : decode prog_7_method_5_code 9 = .ok (.getfield 11, 3) := by decide +kernel
theorem d_St_peek_12 : decode prog_7_method_5_code 12 = .ok (.aload_n 0, 1) := by decide +kernel
theorem d_St_peek_13 : decode prog_7_method_5_code 13 = .ok (.getfield 22, 3) := by decide +kernel
theorem d_St_peek_16 : decode prog_7_method_5_code 16 = .ok (.iconst 1, 1) := by decide +kernel
theorem d_St_peek_17 : decode prog_7_method_5_code 17 = .ok (.isub, 1) := by decide +kernel
theorem d_St_peek_18 : decode prog_7_method_5_code 18 = .ok (.iload_n 1, 1) := by decide +kernel
theorem d_St_peek_19 : decode prog_7_method_5_code 19 = .ok (.isub, 1) := by decide +kernel
theorem d_St_peek_20 : decode prog_7_method_5_code 20 = .ok (.aaload, 1) := by decide +kernel
theorem d_St_peek_21 : decode prog_7_method_5_code 21 = .ok (.goto 7, 3) := by decide +kernel
theorem d_St_peek_24 : decode prog_7_method_5_code 24 = .ok (.aload_n 0, 1) := by decide +kernel
theorem d_St_peek_25 : decode prog_7_method_5_code 25 = .ok (.getfield 18, 3) := by decide +kernel
theorem d_St_peek_28 : decode prog_7_method_5_code 28 = .ok (.areturn, 1) := by decide +kernel
theorem d_St_take_0 : decode prog_7_method_8_code 0 = .ok (.aload_n 0, 1) := by decide +kernel
theorem d_St_take_1 : decode prog_7_method_8_code 1 = .ok (.iload_n 1, 1) := by decide +kernel
theorem d_St_take_2 : decode prog_7_method_8_code 2 = .ok (.invokevirtual 30, 3) := by decide +kernel
theorem d_St_take_5 : decode prog_7_method_8_code 5 = .ok (.astore_n 2, 1) := by decide +kernel
theorem d_St_take_6 : decode prog_7_method_8_code 6 = .ok (.aload_n 0, 1) := by decide +kernel
theorem d_St_take_7 : decode prog_7_method_8_code 7 = .ok (.iload_n 1, 1) := by decide +kernel
theorem d_St_take_8 : decode prog_7_method_8_code 8 = .ok (.invokevirtual 26, 3) := by decide +kernel
theorem d_St_take_11 : decode prog_7_method_8_code 11 = .ok (.ifCond .eq 52, 3) := by decide +kernel
theorem d_St_take_14 : decode prog_7_method_8_code 14 = .ok (.aload_n 0, 1) := by decide +kernel
theorem d_St_take_15 : decode prog_7_method_8_code 15 = .ok (.getfield 22, 3) := by decide +kernel
theorem d_St_take_18 : decode prog_7_method_8_code 18 = .ok (.iconst 1, 1) := by decide +kernel
theorem d_St_take_19 : decode prog_7_method_8_code 19 = .ok (.isub, 1) := by decide +kernel
theorem d_St_take_20 : decode prog_7_method_8_code 20 = .ok (.iload_n 1, 1) := by decide +kernel
theorem d_St_take_21 : decode prog_7_method_8_code 21 = .ok (.isub, 1) := by decide +kernel
theorem d_St_take_22 : decode prog_7_method_8_code 22 = .ok (.istore_n 3, 1) := by decide +kernel
theorem d_St_take_23 : decode prog_7_method_8_code 23 = .ok (.iload_n 3, 1) := by decide +kernel
theorem d_St_take_24 : decode prog_7_method_8_code 24 = .ok (.aload_n 0, 1) := by decide +kernel
theorem d_St_take_25 : decode prog_7_method_8_code 25 = .ok (.getfield 22, 3) := by decide +kernel
theorem d_St_take_28 : decode prog_7_method_8_code 28 = .ok (.iconst 1, 1) := by decide +kernel
theorem d_St_take_29 : decode prog_7_method_8_code 29 = .ok (.isub, 1) := by decide +kernel
theorem d_St_take_30 : decode prog_7_method_8_code 30 = .ok (.if_icmp .ge 23, 3) := by decide +kernel
theorem d_St_take_33 : decode prog_7_method_8_code 33 = .ok (.aload_n 0, 1) := by decide +kernel
theorem d_St_take_34 : decode prog_7_method_8_code 34 = .ok (.getfield 11, 3) := by decide +kernel
theorem d_St_take_37 : decode prog_7_method_8_code 37 = .ok (.iload_n 3, 1) := by decide +kernel
theorem d_St_take_38 : decode prog_7_method_8_code 38 = .ok (.aload_n 0, 1) := by decide +kernel
theorem d_St_take_39 : decode prog_7_method_8_code 39 = .ok (.getfield 11, 3) := by decide +kernel
theorem d_St_take_42 : decode prog_7_method_8_code 42 = .ok (.iload_n 3, 1) := by decide +kernel
theorem d_St_take_43 : decode prog_7_method_8_code 43 = .ok (.iconst 1, 1) := by decide +kernel
theorem d_St_take_44 : decode prog_7_method_8_code 44 = .ok (.iadd, 1) := by decide +kernel
theorem d_St_take_45 : decode prog_7_method_8_code 45 = .ok (.aaload, 1) := by decide +kernel
theorem d_St_take_46 : decode prog_7_method_8_code 46 = .ok (.aastore, 1) := by decide +kernel
theorem d_St_take_47 : decode prog_7_method_8_code 47 = .ok (.iinc 3 1, 3) := by decide +kernel
theorem d_St_take_50 : decode prog_7_method_8_code 50 = .ok (.goto (-27), 3) := by decide +kernel
theorem d_St_take_53 : decode prog_7_method_8_code 53 = .ok (.aload_n 0, 1) := by decide +kernel
theorem d_St_take_54 : decode prog_7_method_8_code 54 = .ok (.dup, 1) := by decide +kernel
theorem d_St_take_55 : decode prog_7_method_8_code 55 = .ok (.getfield 22, 3) := by decide +kernel
theorem d_St_take_58 : decode prog_7_method_8_code 58 = .ok (.iconst 1, 1) := by decide +kernel
theorem d_St_take_59 : decode prog_7_method_8_code 59 = .ok (.isub, 1) := by decide +kernel
theorem d_St_take_60 : decode prog_7_method_8_code 60 = .ok (.putfield 22, 3) := by decide +kernel
theorem d_St_take_63 : decode prog_7_method_8_code 63 = .ok (.aload_n 2, 1) := by decide +kernel
theorem d_St_take_64 : decode prog_7_method_8_code 64 = .ok (.areturn, 1) := by decide +kernel
theorem d_Th_isNumber_0 : decode prog_9_method_8_code 0 = .ok (.aload_n 0, 1) := by decide +kernel
theorem d_Th_isNumber_1 : decode prog_9_method_8_code 1 = .ok (.getfield 7, 3) := by decide +kernel
theorem d_Th_isNumber_4 : decode prog_9_method_8_code 4 = .ok (.arraylength, 1) := by decide +kernel
theorem d_Th_isNumber_5 : decode prog_9_method_8_code 5 = .ok (.iconst 4, 1) := by decide +kernel
theorem d_Th_isNumber_6 : decode prog_9_method_8_code 6 = .ok (.if_icmp .gt 7, 3) := by decide +kernel
theorem d_Th_isNumber_9 : decode prog_9_method_8_code 9 = .ok (.iconst 1, 1) := by decide +kernel
theorem d_Th_isNumber_10 : decode prog_9_method_8_code 10 = .ok (.goto 4, 3) := by decide +kernel
theorem d_Th_isNumber_13 : decode prog_9_method_8_code 13 = .ok (.iconst 0, 1) := by decide +kernel
theorem d_Th_isNumber_14 : decode prog_9_method_8_code 14 = .ok (.ireturn, 1) := by decide +kernel
theorem d_Th_toNumber_0 : decode prog_9_method_9_code 0 = .ok (.aload_n 0, 1) := by decide +kernel
theorem d_Th_toNumber_1 : decode prog_9_method_9_code 1 = .ok (.getfield 7, 3) := by decide +kernel
theorem d_Th_toNumber_4 : decode prog_9_method_9_code 4 = .ok (.arraylength, 1) := by decide +kernel
theorem d_Th_toNumber_5 : decode prog_9_method_9_code 5 = .ok (.iconst 1, 1) := by decide +kernel
theorem d_Th_toNumber_6 : decode prog_9_method_9_code 6 = .ok (.isub, 1) := by decide +kernel
theorem d_Th_toNumber_7 : decode prog_9_method_9_code 7 = .ok (.istore_n 1, 1) := by decide +kernel
theorem d_Th_toNumber_8 : decode prog_9_method_9_code 8 = .ok (.lconst 0, 1) := by decide +kernel
theorem d_Th_toNumber_9 : decode prog_9_method_9_code 9 = .ok (.lstore_n 2, 1) := by decide +kernel
theorem d_Th_toNumber_10 : decode prog_9_method_9_code 10 = .ok (.iconst 0, 1) := by decide +kernel
theorem d_Th_toNumber_11 : decode prog_9_method_9_code 11 = .ok (.istore 4, 2) := by decide +kernel
theorem d_Th_toNumber_13 : decode prog_9_method_9_code 13 = .ok (.iload 4, 2) := by decide +kernel
theorem d_Th_toNumber_15 : decode prog_9_method_9_code 15 = .ok (.iload_n 1, 1) := by decide +kernel
theorem d_Th_toNumber_16 : decode prog_9_method_9_code 16 = .ok (.if_icmp .ge 25, 3) := by decide +kernel
theorem d_Th_toNumber_19 : decode prog_9_method_9_code 19 = .ok (.lload_n 2, 1) := by decide +kernel
theorem d_Th_toNumber_20 : decode prog_9_method_9_code 20 = .ok (.aload_n 0, 1) := by decide +kernel
theorem d_Th_toNumber_21 : decode prog_9_method_9_code 21 = .ok (.iload 4, 2) := by decide +kernel
theorem d_Th_toNumber_23 : decode prog_9_method_9_code 23 = .ok (.invokevirtual 31, 3) := by decide +kernel
theorem d_Th_toNumber_26 : decode prog_9_method_9_code 26 = .ok (.i2l, 1) := by decide +kernel
theorem d_Th_toNumber_27 : decode prog_9_method_9_code 27 = .ok (.bipush 8, 2) := by decide +kernel
theorem d_Th_toNumber_29 : decode prog_9_method_9_code 29 = .ok (.iload 4, 2) := by decide +kernel
theorem d_Th_toNumber_31 : decode prog_9_method_9_code 31 = .ok (.imul, 1) := by decide +kernel
theorem d_Th_toNumber_32 : decode prog_9_method_9_code 32 = .ok (.lshl, 1) := by decide +kernel
theorem d_Th_toNumber_33 : decode prog_9_method_9_code 33 = .ok (.lor, 1) := by decide +kernel
theorem d_Th_toNumber_34 : decode prog_9_method_9_code 34 = .ok (.lstore_n 2, 1) := by decide +kernel
theorem d_Th_toNumber_35 : decode prog_9_method_9_code 35 = .ok (.iinc 4 1, 3) := by decide +kernel
theorem d_Th_toNumber_38 : decode prog_9_method_9_code 38 = .ok (.goto (-25), 3) := by decide +kernel
theorem d_Th_toNumber_41 : decode prog_9_method_9_code 41 = .ok (.iload_n 1, 1) := by decide +kernel
theorem d_Th_toNumber_42 : decode prog_9_method_9_code 42 = .ok (.ifCond .lt 20, 3) := by decide +kernel
theorem d_Th_toNumber_45 : decode prog_9_method_9_code 45 = .ok (.lload_n 2, 1) := by decide +kernel
theorem d_Th_toNumber_46 : decode prog_9_method_9_code 46 = .ok (.aload_n 0, 1) := by decide +kernel
theorem d_Th_toNumber_47 : decode prog_9_method_9_code 47 = .ok (.iload_n 1, 1) := by decide +kernel
theorem d_Th_toNumber_48 : decode prog_9_method_9_code 48 = .ok (.invokevirtual 31, 3) := by decide +kernel
theorem d_Th_toNumber_51 : decode prog_9_method_9_code 51 = .ok (.bipush 127, 2) := by decide +kernel
theorem d_Th_toNumber_53 : decode prog_9_method_9_code 53 = .ok (.iand, 1) := by decide +kernel
theorem d_Th_toNumber_54 : decode prog_9_method_9_code 54 = .ok (.i2l, 1) := by decide +kernel
theorem d_Th_toNumber_55 : decode prog_9_method_9_code 55 = .ok (.bipush 8, 2) := by decide +kernel
theorem d_Th_toNumber_57 : decode prog_9_method_9_code 57 = .ok (.iload_n 1, 1) := by decide +kernel
theorem d_Th_toNumber_58 : decode prog_9_method_9_code 58 = .ok (.imul, 1) := by decide +kernel
theorem d_Th_toNumber_59 : decode prog_9_method_9_code 59 = .ok (.lshl, 1) := by decide +kernel
theorem d_Th_toNumber_60 : decode prog_9_method_9_code 60 = .ok (.lor, 1) := by decide +kernel
theorem d_Th_toNumber_61 : decode prog_9_method_9_code 61 = .ok (.lstore_n 2, 1) := by decide +kernel
theorem d_Th_toNumber_62 : decode prog_9_method_9_code 62 = .ok (.aload_n 0, 1) := by decide +kernel
theorem d_Th_toNumber_63 : decode prog_9_method_9_code 63 = .ok (.iload_n 1, 1) := by decide +kernel
theorem d_Th_toNumber_64 : decode prog_9_method_9_code 64 = .ok (.invokevirtual 31, 3) := by decide +kernel
theorem d_Th_toNumber_67 : decode prog_9_method_9_code 67 = .ok (.sipush 128, 3) := by decide +kernel
theorem d_Th_toNumber_70 : decode prog_9_method_9_code 70 = .ok (.iand, 1) := by decide +kernel
theorem d_Th_toNumber_71 : decode prog_9_method_9_code 71 = .ok (.ifCond .eq 8, 3) := by decide +kernel
theorem d_Th_toNumber_74 : decode prog_9_method_9_code 74 = .ok (.lload_n 2, 1) := by decide +kernel
theorem d_Th_toNumber_75 : decode prog_9_method_9_code 75 = .ok (.lneg, 1) := by decide +kernel
theorem d_Th_toNumber_76 : decode prog_9_method_9_code 76 = .ok (.goto 4, 3) := by decide +kernel
theorem d_Th_toNumber_79 : decode prog_9_method_9_code 79 = .ok (.lload_n 2, 1) := by decide +kernel
theorem d_Th_toNumber_80 : decode prog_9_method_9_code 80 = .ok (.lreturn, 1) := by decide +kernel
theorem d_Th_length_0 : decode prog_9_method_4_code 0 = .ok (.aload_n 0, 1) := by decide +kernel
theorem d_Th_length_1 : decode prog_9_method_4_code 1 = .ok (.getfield 7, 3) := by decide +kernel
theorem d_Th_length_4 : decode prog_9_method_4_code 4 = .ok (.arraylength, 1) := by decide +kernel
theorem d_Th_length_5 : decode prog_9_method_4_code 5 = .ok (.ireturn, 1) := by decide +kernel
theorem d_Th_same_0 : decode prog_9_method_10_code 0 = .ok (.aload_n 0, 1) := by decide +kernel
theorem d_Th_same_1 : decode prog_9_method_10_code 1 = .ok (.getfield 7, 3) := by decide +kernel
theorem d_Th_same_4 : decode prog_9_method_10_code 4 = .ok (.arraylength, 1) := by decide +kernel
theorem d_Th_same_5 : decode prog_9_method_10_code 5 = .ok (.aload_n 1, 1) := by decide +kernel
theorem d_Th_same_6 : decode prog_9_method_10_code 6 = .ok (.getfield 7, 3) := by decide +kernel
theorem d_Th_same_9 : decode prog_9_method_10_code 9 = .ok (.arraylength, 1) := by decide +kernel
theorem d_Th_same_10 : decode prog_9_method_10_code 10 = .ok (.if_icmp .eq 5, 3) := by decide +kernel
theorem d_Th_same_13 : decode prog_9_method_10_code 13 = .ok (.iconst 0, 1) := by decide +kernel
theorem d_Th_same_14 : decode prog_9_method_10_code 14 = .ok (.ireturn, 1) := by decide +kernel
theorem d_Th_same_15 : decode prog_9_method_10_code 15 = .ok (.iconst 0, 1) := by decide +kernel
theorem d_Th_same_16 : decode prog_9_method_10_code 16 = .ok (.istore_n 2, 1) := by decide +kernel
theorem d_Th_same_17 : decode prog_9_method_10_code 17 = .ok (.iload_n 2, 1) := by decide +kernel
theorem d_Th_same_18 : decode prog_9_method_10_code 18 = .ok (.aload_n 0, 1) := by decide +kernel
theorem d_Th_same_19 : decode prog_9_method_10_code 19 = .ok (.getfield 7, 3) := by decide +kernel
theorem d_Th_same_22 : decode prog_9_method_10_code 22 = .ok (.arraylength, 1) := by decide +kernel
theorem d_Th_same_23 : decode prog_9_method_10_code 23 = .ok (.if_icmp .ge 26, 3) := by decide +kernel
theorem d_Th_same_26 : decode prog_9_method_10_code 26 = .ok (.aload_n 0, 1) := by decide +kernel
theorem d_Th_same_27 : decode prog_9_method_10_code 27 = .ok (.getfield 7, 3) := by decide +kernel
theorem d_Th_same_30 : decode prog_9_method_10_code 30 = .ok (.iload_n 2, 1) := by decide +kernel
theorem d_Th_same_31 : decode prog_9_method_10_code 31 = .ok (.baload, 1) := by decide +kernel
theorem d_Th_same_32 : decode prog_9_method_10_code 32 = .ok (.aload_n 1, 1) := by decide +kernel
theorem d_Th_same_33 : decode prog_9_method_10_code 33 = .ok (.getfield 7, 3) := by decide +kernel
theorem d_Th_same_36 : decode prog_9_method_10_code 36 = .ok (.iload_n 2, 1) := by decide +kernel
theorem d_Th_same_37 : decode prog_9_method_10_code 37 = .ok (.baload, 1) := by decide +kernel
theorem d_Th_same_38 : decode prog_9_method_10_code 38 = .ok (.if_icmp .eq 5, 3) := by decide +kernel
theorem d_Th_same_41 : decode prog_9_method_10_code 41 = .ok (.iconst 0, 1) := by decide +kernel
theorem d_Th_same_42 : decode prog_9_method_10_code 42 = .ok (.ireturn, 1) := by decide +kernel
theorem d_Th_same_43 : decode prog_9_method_10_code 43 = .ok (.iinc 2 1, 3) := by decide +kernel
theorem d_Th_same_46 : decode prog_9_method_10_code 46 = .ok (.goto (-29), 3) := by decide +kernel
theorem d_Th_same_49 : decode prog_9_method_10_code 49 = .ok (.iconst 1, 1) := by decide +kernel
theorem d_Th_same_50 : decode prog_9_method_10_code 50 = .ok (.ireturn, 1) := by decide +kernel
theorem d_St_holdsNumbers_0 : decode prog_7_method_10_code 0 = .ok (.aload_n 0, 1) := by decide +kernel
theorem d_St_holdsNumbers_1 : decode prog_7_method_10_code 1 = .ok (.getfield 22, 3) := by decide +kernel
theorem d_St_holdsNumbers_4 : decode prog_7_method_10_code 4 = .ok (.iload_n 1, 1) := by decide +kernel
theorem d_St_holdsNumbers_5 : decode prog_7_method_10_code 5 = .ok (.if_icmp .ge 5, 3) := by decide +kernel
theorem d_St_holdsNumbers_8 : decode prog_7_method_10_code 8 = .ok (.iconst 0, 1) := by decide +kernel
theorem d_St_holdsNumbers_9 : decode prog_7_method_10_code 9 = .ok (.ireturn, 1) := by decide +kernel
theorem d_St_holdsNumbers_10 : decode prog_7_method_10_code 10 = .ok (.iconst 0, 1) := by decide +kernel
theorem d_St_holdsNumbers_11 : decode prog_7_method_10_code 11 = .ok (.istore_n 2, 1) := by decide +kernel
theorem d_St_holdsNumbers_12 : decode prog_7_method_10_code 12 = .ok (.iload_n 2, 1) := by decide +kernel
theorem d_St_holdsNumbers_13 : decode prog_7_method_10_code 13 = .ok (.iload_n 1, 1) := by decide +kernel
theorem d_St_holdsNumbers_14 : decode prog_7_method_10_code 14 = .ok (.if_icmp .ge 22, 3) := by decide +kernel
theorem d_St_holdsNumbers_17 : decode prog_7_method_10_code 17 = .ok (.aload_n 0, 1) := by decide +kernel
theorem d_St_holdsNumbers_18 : decode prog_7_method_10_code 18 = .ok (.iload_n 2, 1) := by decide +kernel
theorem d_St_holdsNumbers_19 : decode prog_7_method_10_code 19 = .ok (.invokevirtual 30, 3) := by decide +kernel
theorem d_St_holdsNumbers_22 : decode prog_7_method_10_code 22 = .ok (.invokevirtual 34, 3) := by decide +kernel
theorem d_St_holdsNumbers_25 : decode prog_7_method_10_code 25 = .ok (.ifCond .ne 5, 3) := by decide +kernel
theorem d_St_holdsNumbers_28 : decode prog_7_method_10_code 28 = .ok (.iconst 0, 1) := by decide +kernel
theorem d_St_holdsNumbers_29 : decode prog_7_method_10_code 29 = .ok (.ireturn, 1) := by decide +kernel
theorem d_St_holdsNumbers_30 : decode prog_7_method_10_code 30 = .ok (.iinc 2 1, 3) := by decide +kernel
theorem d_St_holdsNumbers_33 : decode prog_7_method_10_code 33 = .ok (.goto (-21), 3) := by decide +kernel
theorem d_St_holdsNumbers_36 : decode prog_7_method_10_code 36 = .ok (.iconst 1, 1) := by decide +kernel
theorem d_St_holdsNumbers_37 : decode prog_7_method_10_code 37 = .ok (.ireturn, 1) := by decide +kernel
theorem d_Su_of_0 : decode prog_8_method_3_code 0 = .ok (.aload_n 0, 1) := by decide +kernel
theorem d_Su_of_1 : decode prog_8_method_3_code 1 = .ok (.getfield 7, 3) := by decide +kernel
theorem d_Su_of_4 : decode prog_8_method_3_code 4 = .ok (.iconst 0, 1) := by decide +kernel
theorem d_Su_of_5 : decode prog_8_method_3_code 5 = .ok (.aload_n 0, 1) := by decide +kernel
theorem d_Su_of_6 : decode prog_8_method_3_code 6 = .ok (.getfield 17, 3) := by decide +kernel
theorem d_Su_of_9 : decode prog_8_method_3_code 9 = .ok (.iconst 0, 1) := by decide +kernel
theorem d_Su_of_10 : decode prog_8_method_3_code 10 = .ok (.aload_n 0, 1) := by decide +kernel
theorem d_Su_of_11 : decode prog_8_method_3_code 11 = .ok (.getfield 17, 3) := by decide +kernel
theorem d_Su_of_14 : decode prog_8_method_3_code 14 = .ok (.arraylength, 1) := by decide +kernel
theorem d_Su_of_15 : decode prog_8_method_3_code 15 = .ok (.invokestatic 29, 3) := by decide +kernel
theorem d_Su_of_18 : decode prog_8_method_3_code 18 = .ok (.iload_n 2, 1) := by decide +kernel
theorem d_Su_of_19 : decode prog_8_method_3_code 19 = .ok (.bipush 8, 2) := by decide +kernel
theorem d_Su_of_21 : decode prog_8_method_3_code 21 = .ok (.iadd, 1) := by decide +kernel
theorem d_Su_of_22 : decode prog_8_method_3_code 22 = .ok (.bipush 64, 2) := by decide +kernel
theorem d_Su_of_24 : decode prog_8_method_3_code 24 = .ok (.idiv, 1) := by decide +kernel
theorem d_Su_of_25 : decode prog_8_method_3_code 25 = .ok (.iconst 1, 1) := by decide +kernel
theorem d_Su_of_26 : decode prog_8_method_3_code 26 = .ok (.iadd, 1) := by decide +kernel
theorem d_Su_of_27 : decode prog_8_method_3_code 27 = .ok (.istore_n 3, 1) := by decide +kernel
theorem d_Su_of_28 : decode prog_8_method_3_code 28 = .ok (.iconst 0, 1) := by decide +kernel
theorem d_Su_of_29 : decode prog_8_method_3_code 29 = .ok (.istore 4, 2) := by decide +kernel
theorem d_Su_of_31 : decode prog_8_method_3_code 31 = .ok (.iload 4, 2) := by decide +kernel
theorem d_Su_of_33 : decode prog_8_method_3_code 33 = .ok (.iload_n 3, 1) := by decide +kernel
theorem d_Su_of_34 : decode prog_8_method_3_code 34 = .ok (.if_icmp .ge 55, 3) := by decide +kernel
theorem d_Su_of_37 : decode prog_8_method_3_code 37 = .ok (.aload_n 0, 1) := by decide +kernel
theorem d_Su_of_38 : decode prog_8_method_3_code 38 = .ok (.aload_n 1, 1) := by decide +kernel
theorem d_Su_of_39 : decode prog_8_method_3_code 39 = .ok (.iload_n 2, 1) := by decide +kernel
theorem d_Su_of_40 : decode prog_8_method_3_code 40 = .ok (.iload 4, 2) := by decide +kernel
theorem d_Su_of_42 : decode prog_8_method_3_code 42 = .ok (.bipush 64, 2) := by decide +kernel
theorem d_Su_of_44 : decode prog_8_method_3_code 44 = .ok (.imul, 1) := by decide +kernel
theorem d_Su_of_45 : decode prog_8_method_3_code 45 = .ok (.invokevirtual 35, 3) := by decide +kernel
theorem d_Su_of_48 : decode prog_8_method_3_code 48 = .ok (.iload 4, 2) := by decide +kernel
theorem d_Su_of_50 : decode prog_8_method_3_code 50 = .ok (.iload_n 3, 1) := by decide +kernel
theorem d_Su_of_51 : decode prog_8_method_3_code 51 = .ok (.iconst 1, 1) := by decide +kernel
theorem d_Su_of_52 : decode prog_8_method_3_code 52 = .ok (.isub, 1) := by decide +kernel
theorem d_Su_of_53 : decode prog_8_method_3_code 53 = .ok (.if_icmp .ne 26, 3) := by decide +kernel
theorem d_Su_of_56 : decode prog_8_method_3_code 56 = .ok (.aload_n 0, 1) := by decide +kernel
theorem d_Su_of_57 : decode prog_8_method_3_code 57 = .ok (.getfield 26, 3) := by decide +kernel
theorem d_Su_of_60 : decode prog_8_method_3_code 60 = .ok (.aload_n 0, 1) := by decide +kernel
theorem d_Su_of_61 : decode prog_8_method_3_code 61 = .ok (.getfield 13, 3) := by decide +kernel
theorem d_Su_of_64 : decode prog_8_method_3_code 64 = .ok (.ifCond .eq 8, 3) := by decide +kernel
theorem d_Su_of_67 : decode prog_8_method_3_code 67 = .ok (.bipush 15, 2) := by decide +kernel
theorem d_Su_of_69 : decode prog_8_method_3_code 69 = .ok (.goto 5, 3) := by decide +kernel
theorem d_Su_of_72 : decode prog_8_method_3_code 72 = .ok (.bipush 14, 2) := by decide +kernel
theorem d_Su_of_74 : decode prog_8_method_3_code 74 = .ok (.iload_n 2, 1) := by decide +kernel
theorem d_Su_of_75 : decode prog_8_method_3_code 75 = .ok (.bipush 8, 2) := by decide +kernel
theorem d_Su_of_77 : decode prog_8_method_3_code 77 = .ok (.imul, 1) := by decide +kernel
theorem d_Su_of_78 : decode prog_8_method_3_code 78 = .ok (.iastore, 1) := by decide +kernel
theorem d_Su_of_79 : decode prog_8_method_3_code 79 = .ok (.aload_n 0, 1) := by decide +kernel
theorem d_Su_of_80 : decode prog_8_method_3_code 80 = .ok (.invokevirtual 39, 3) := by decide +kernel
theorem d_Su_of_83 : decode prog_8_method_3_code 83 = .ok (.iinc 4 1, 3) := by decide +kernel
theorem d_Su_of_86 : decode prog_8_method_3_code 86 = .ok (.goto (-55), 3) := by decide +kernel
theorem d_Su_of_89 : decode prog_8_method_3_code 89 = .ok (.aload_n 0, 1) := by decide +kernel
theorem d_Su_of_90 : decode prog_8_method_3_code 90 = .ok (.invokevirtual 42, 3) := by decide +kernel
theorem d_Su_of_93 : decode prog_8_method_3_code 93 = .ok (.areturn, 1) := by decide +kernel
theorem d_Su_load_0 : decode prog_8_method_4_code 0 = .ok (.iconst 0, 1) := by decide +kernel
theorem d_Su_load_1 : decode prog_8_method_4_code 1 = .ok (.istore 4, 2) := by decide +kernel
theorem d_Su_load_3 : decode prog_8_method_4_code 3 = .ok (.iload 4, 2) := by decide +kernel
theorem d_Su_load_5 : decode prog_8_method_4_code 5 = .ok (.bipush 16, 2) := by decide +kernel
theorem d_Su_load_7 : decode prog_8_method_4_code 7 = .ok (.if_icmp .ge 62, 3) := by decide +kernel
theorem d_Su_load_10 : decode prog_8_method_4_code 10 = .ok (.iconst 0, 1) := by decide +kernel
theorem d_Su_load_11 : decode prog_8_method_4_code 11 = .ok (.istore 5, 2) := by decide +kernel
theorem d_Su_load_13 : decode prog_8_method_4_code 13 = .ok (.iconst 0, 1) := by decide +kernel
theorem d_Su_load_14 : decode prog_8_method_4_code 14 = .ok (.istore 6, 2) := by decide +kernel
theorem d_Su_load_16 : decode prog_8_method_4_code 16 = .ok (.iload 6, 2) := by decide +kernel
theorem d_Su_load_18 : decode prog_8_method_4_code 18 = .ok (.iconst 4, 1) := by decide +kernel
theorem d_Su_load_19 : decode prog_8_method_4_code 19 = .ok (.if_icmp .ge 35, 3) := by decide +kernel
theorem d_Su_load_22 : decode prog_8_method_4_code 22 = .ok (.iload 5, 2) := by decide +kernel
theorem d_Su_load_24 : decode prog_8_method_4_code 24 = .ok (.aload_n 1, 1) := by decide +kernel
theorem d_Su_load_25 : decode prog_8_method_4_code 25 = .ok (.iload_n 2, 1) := by decide +kernel
theorem d_Su_load_26 : decode prog_8_method_4_code 26 = .ok (.iload_n 3, 1) := by decide +kernel
theorem d_Su_load_27 : decode prog_8_method_4_code 27 = .ok (.iconst 4, 1) := by decide +kernel
theorem d_Su_load_28 : decode prog_8_method_4_code 28 = .ok (.iload 4, 2) := by decide +kernel
theorem d_Su_load_30 : decode prog_8_method_4_code 30 = .ok (.imul, 1) := by decide +kernel
theorem d_Su_load_31 : decode prog_8_method_4_code 31 = .ok (.iadd, 1) := by decide +kernel
theorem d_Su_load_32 : decode prog_8_method_4_code 32 = .ok (.iload 6, 2) := by decide +kernel
theorem d_Su_load_34 : decode prog_8_method_4_code 34 = .ok (.iadd, 1) := by decide +kernel
theorem d_Su_load_35 : decode prog_8_method_4_code 35 = .ok (.invokestatic 46, 3) := by decide +kernel
theorem d_Su_load_38 : decode prog_8_method_4_code 38 = .ok (.aload_n 0, 1) := by decide +kernel
theorem d_Su_load_39 : decode prog_8_method_4_code 39 = .ok (.iload 6, 2) := by decide +kernel
theorem d_Su_load_41 : decode prog_8_method_4_code 41 = .ok (.invokevirtual 50, 3) := by decide +kernel
theorem d_Su_load_44 : decode prog_8_method_4_code 44 = .ok (.ishl, 1) := by decide +kernel
theorem d_Su_load_45 : decode prog_8_method_4_code 45 = .ok (.ior, 1) := by decide +kernel
theorem d_Su_load_46 : decode prog_8_method_4_code 46 = .ok (.istore 5, 2) := by decide +kernel
theorem d_Su_load_48 : decode prog_8_method_4_code 48 = .ok (.iinc 6 1, 3) := by decide +kernel
theorem d_Su_load_51 : decode prog_8_method_4_code 51 = .ok (.goto (-35), 3) := by decide +kernel
theorem d_Su_load_54 : decode prog_8_method_4_code 54 = .ok (.aload_n 0, 1) := by decide +kernel
theorem d_Su_load_55 : decode prog_8_method_4_code 55 = .ok (.getfield 26, 3) := by decide +kernel
theorem d_Su_load_58 : decode prog_8_method_4_code 58 = .ok (.iload 4, 2) := by decide +kernel
theorem d_Su_load_60 : decode prog_8_method_4_code 60 = .ok (.iload 5, 2) := by decide +kernel
theorem d_Su_load_62 : decode prog_8_method_4_code 62 = .ok (.iastore, 1) := by decide +kernel
theorem d_Su_load_63 : decode prog_8_method_4_code 63 = .ok (.iinc 4 1, 3) := by decide +kernel
theorem d_Su_load_66 : decode prog_8_method_4_code 66 = .ok (.goto (-63), 3) := by decide +kernel
theorem d_Su_load_69 : decode prog_8_method_4_code 69 = .ok (.return_, 1) := by decide +kernel
theorem d_Su_filled_0 : decode prog_8_method_5_code 0 = .ok (.iload_n 2, 1) := by decide +kernel
theorem d_Su_filled_1 : decode prog_8_method_5_code 1 = .ok (.iload_n 1, 1) := by decide +kernel
theorem d_Su_filled_2 : decode prog_8_method_5_code 2 = .ok (.if_icmp .ge 17, 3) := by decide +kernel
theorem d_Su_filled_5 : decode prog_8_method_5_code 5 = .ok (.iload_n 2, 1) := by decide +kernel
theorem d_Su_filled_6 : decode prog_8_method_5_code 6 = .ok (.aload_n 0, 1) := by decide +kernel
theorem d_Su_filled_7 : decode prog_8_method_5_code 7 = .ok (.arraylength, 1) := by decide +kernel
theorem d_Su_filled_8 : decode prog_8_method_5_code 8 = .ok (.if_icmp .ge 11, 3) := by decide +kernel
theorem d_Su_filled_11 : decode prog_8_method_5_code 11 = .ok (.aload_n 0, 1) := by decide +kernel
theorem d_Su_filled_12 : decode prog_8_method_5_code 12 = .ok (.iload_n 2, 1) := by decide +kernel
theorem d_Su_filled_13 : decode prog_8_method_5_code 13 = .ok (.baload, 1) := by decide +kernel
theorem d_Su_filled_14 : decode prog_8_method_5_code 14 = .ok (.sipush 255, 3) := by decide +kernel
theorem d_Su_filled_17 : decode prog_8_method_5_code 17 = .ok (.iand, 1) := by decide +kernel
theorem d_Su_filled_18 : decode prog_8_method_5_code 18 = .ok (.ireturn, 1) := by decide +kernel
theorem d_Su_filled_19 : decode prog_8_method_5_code 19 = .ok (.iload_n 2, 1) := by decide +kernel
theorem d_Su_filled_20 : decode prog_8_method_5_code 20 = .ok (.iload_n 1, 1) := by decide +kernel
theorem d_Su_filled_21 : decode prog_8_method_5_code 21 = .ok (.if_icmp .ne 9, 3) := by decide +kernel
theorem d_Su_filled_24 : decode prog_8_method_5_code 24 = .ok (.sipush 128, 3) := by decide +kernel
theorem d_Su_filled_27 : decode prog_8_method_5_code 27 = .ok (.goto 4, 3) := by decide +kernel
theorem d_Su_filled_30 : decode prog_8_method_5_code 30 = .ok (.iconst 0, 1) := by decide +kernel
theorem d_Su_filled_31 : decode prog_8_method_5_code 31 = .ok (.ireturn, 1) := by decide +kernel
theorem d_Su_shift_0 : decode prog_8_method_6_code 0 = .ok (.aload_n 0, 1) := by decide +kernel
theorem d_Su_shift_1 : decode prog_8_method_6_code 1 = .ok (.getfield 13, 3) := by decide +kernel
theorem d_Su_shift_4 : decode prog_8_method_6_code 4 = .ok (.ifCond .eq 13, 3) := by decide +kernel
theorem d_Su_shift_7 : decode prog_8_method_6_code 7 = .ok (.bipush 24, 2) := by decide +kernel
theorem d_Su_shift_9 : decode prog_8_method_6_code 9 = .ok (.bipush 8, 2) := by decide +kernel
theorem d_Su_shift_11 : decode prog_8_method_6_code 11 = .ok (.iload_n 1, 1) := by decide +kernel
theorem d_Su_shift_12 : decode prog_8_method_6_code 12 = .ok (.imul, 1) := by decide +kernel
theorem d_Su_shift_13 : decode prog_8_method_6_code 13 = .ok (.isub, 1) := by decide +kernel
theorem d_Su_shift_14 : decode prog_8_method_6_code 14 = .ok (.goto 7, 3) := by decide +kernel
theorem d_Su_shift_17 : decode prog_8_method_6_code 17 = .ok (.bipush 8, 2) := by decide +kernel
theorem d_Su_shift_19 : decode prog_8_method_6_code 19 = .ok (.iload_n 1, 1) := by decide +kernel
theorem d_Su_shift_20 : decode prog_8_method_6_code 20 = .ok (.imul, 1) := by decide +kernel
theorem d_Su_shift_21 : decode prog_8_method_6_code 21 = .ok (.ireturn, 1) := by decide +kernel
theorem d_Ri_mix_0 : decode prog_5_method_2_code 0 = .ok (.aload_n 0, 1) := by decide +kernel
theorem d_Ri_mix_1 : decode prog_5_method_2_code 1 = .ok (.getfield 19, 3) := by decide +kernel
theorem d_Ri_mix_4 : decode prog_5_method_2_code 4 = .ok (.iconst 0, 1) := by decide +kernel
theorem d_Ri_mix_5 : decode prog_5_method_2_code 5 = .ok (.aload_n 0, 1) := by decide +kernel
theorem d_Ri_mix_6 : decode prog_5_method_2_code 6 = .ok (.getfield 13, 3) := by decide +kernel
theorem d_Ri_mix_9 : decode prog_5_method_2_code 9 = .ok (.iconst 0, 1) := by decide +kernel
theorem d_Ri_mix_10 : decode prog_5_method_2_code 10 = .ok (.aload_n 0, 1) := by decide +kernel
theorem d_Ri_mix_11 : decode prog_5_method_2_code 11 = .ok (.getfield 19, 3) := by decide +kernel
theorem d_Ri_mix_14 : decode prog_5_method_2_code 14 = .ok (.arraylength, 1) := by decide +kernel
theorem d_Ri_mix_15 : decode prog_5_method_2_code 15 = .ok (.invokestatic 22, 3) := by decide +kernel
theorem d_Ri_mix_18 : decode prog_5_method_2_code 18 = .ok (.aload_n 0, 1) := by decide +kernel
theorem d_Ri_mix_19 : decode prog_5_method_2_code 19 = .ok (.getfield 19, 3) := by decide +kernel
theorem d_Ri_mix_22 : decode prog_5_method_2_code 22 = .ok (.iconst 0, 1) := by decide +kernel
theorem d_Ri_mix_23 : decode prog_5_method_2_code 23 = .ok (.aload_n 0, 1) := by decide +kernel
theorem d_Ri_mix_24 : decode prog_5_method_2_code 24 = .ok (.getfield 16, 3) := by decide +kernel
theorem d_Ri_mix_27 : decode prog_5_method_2_code 27 = .ok (.iconst 0, 1) := by decide +kernel
theorem d_Ri_mix_28 : decode prog_5_method_2_code 28 = .ok (.aload_n 0, 1) := by decide +kernel
theorem d_Ri_mix_29 : decode prog_5_method_2_code 29 = .ok (.getfield 19, 3) := by decide +kernel
theorem d_Ri_mix_32 : decode prog_5_method_2_code 32 = .ok (.arraylength, 1) := by decide +kernel
theorem d_Ri_mix_33 : decode prog_5_method_2_code 33 = .ok (.invokestatic 22, 3) := by decide +kernel
theorem d_Ri_mix_36 : decode prog_5_method_2_code 36 = .ok (.iconst 0, 1) := by decide +kernel
theorem d_Ri_mix_37 : decode prog_5_method_2_code 37 = .ok (.istore_n 1, 1) := by decide +kernel
theorem d_Ri_mix_38 : decode prog_5_method_2_code 38 = .ok (.iload_n 1, 1) := by decide +kernel
theorem d_Ri_mix_39 : decode prog_5_method_2_code 39 = .ok (.bipush 80, 2) := by decide +kernel
theorem d_Ri_mix_41 : decode prog_5_method_2_code 41 = .ok (.if_icmp .ge 74, 3) := by decide +kernel
theorem d_Ri_mix_44 : decode prog_5_method_2_code 44 = .ok (.iload_n 1, 1) := by decide +kernel
theorem d_Ri_mix_45 : decode prog_5_method_2_code 45 = .ok (.bipush 16, 2) := by decide +kernel
theorem d_Ri_mix_47 : decode prog_5_method_2_code 47 = .ok (.idiv, 1) := by decide +kernel
theorem d_Ri_mix_48 : decode prog_5_method_2_code 48 = .ok (.istore_n 2, 1) := by decide +kernel
theorem d_Ri_mix_49 : decode prog_5_method_2_code 49 = .ok (.aload_n 0, 1) := by decide +kernel
theorem d_Ri_mix_50 : decode prog_5_method_2_code 50 = .ok (.getfield 13, 3) := by decide +kernel
theorem d_Ri_mix_53 : decode prog_5_method_2_code 53 = .ok (.iload_n 2, 1) := by decide +kernel
theorem d_Ri_mix_54 : decode prog_5_method_2_code 54 = .ok (.aload_n 0, 1) := by decide +kernel
theorem d_Ri_mix_55 : decode prog_5_method_2_code 55 = .ok (.getfield 28, 3) := by decide +kernel
theorem d_Ri_mix_58 : decode prog_5_method_2_code 58 = .ok (.getstatic 31, 3) := by decide +kernel
theorem d_Ri_mix_61 : decode prog_5_method_2_code 61 = .ok (.iload_n 1, 1) := by decide +kernel
theorem d_Ri_mix_62 : decode prog_5_method_2_code 62 = .ok (.iaload, 1) := by decide +kernel
theorem d_Ri_mix_63 : decode prog_5_method_2_code 63 = .ok (.iaload, 1) := by decide +kernel
theorem d_Ri_mix_64 : decode prog_5_method_2_code 64 = .ok (.getstatic 34, 3) := by decide +kernel
theorem d_Ri_mix_67 : decode prog_5_method_2_code 67 = .ok (.iload_n 2, 1) := by decide +kernel
theorem d_Ri_mix_68 : decode prog_5_method_2_code 68 = .ok (.iaload, 1) := by decide +kernel
theorem d_Ri_mix_69 : decode prog_5_method_2_code 69 = .ok (.iadd, 1) := by decide +kernel
theorem d_Ri_mix_70 : decode prog_5_method_2_code 70 = .ok (.getstatic 37, 3) := by decide +kernel
theorem d_Ri_mix_73 : decode prog_5_method_2_code 73 = .ok (.iload_n 1, 1) := by decide +kernel
theorem d_Ri_mix_74 : decode prog_5_method_2_code 74 = .ok (.iaload, 1) := by decide +kernel
theorem d_Ri_mix_75 : decode prog_5_method_2_code 75 = .ok (.invokestatic 40, 3) := by decide +kernel
theorem d_Ri_mix_78 : decode prog_5_method_2_code 78 = .ok (.aload_n 0, 1) := by decide +kernel
theorem d_Ri_mix_79 : decode prog_5_method_2_code 79 = .ok (.getfield 16, 3) := by decide +kernel
theorem d_Ri_mix_82 : decode prog_5_method_2_code 82 = .ok (.iconst 4, 1) := by decide +kernel
theorem d_Ri_mix_83 : decode prog_5_method_2_code 83 = .ok (.iload_n 2, 1) := by decide +kernel
theorem d_Ri_mix_84 : decode prog_5_method_2_code 84 = .ok (.isub, 1) := by decide +kernel
theorem d_Ri_mix_85 : decode prog_5_method_2_code 85 = .ok (.aload_n 0, 1) := by decide +kernel
theorem d_Ri_mix_86 : decode prog_5_method_2_code 86 = .ok (.getfield 28, 3) := by decide +kernel
theorem d_Ri_mix_89 : decode prog_5_method_2_code 89 = .ok (.getstatic 44, 3) := by decide +kernel
theorem d_Ri_mix_92 : decode prog_5_method_2_code 92 = .ok (.iload_n 1, 1) := by decide +kernel
theorem d_Ri_mix_93 : decode prog_5_method_2_code 93 = .ok (.iaload, 1) := by decide +kernel
theorem d_Ri_mix_94 : decode prog_5_method_2_code 94 = .ok (.iaload, 1) := by decide +kernel
theorem d_Ri_mix_95 : decode prog_5_method_2_code 95 = .ok (.getstatic 47, 3) := by decide +kernel
theorem d_Ri_mix_98 : decode prog_5_method_2_code 98 = .ok (.iload_n 2, 1) := by decide +kernel
theorem d_Ri_mix_99 : decode prog_5_method_2_code 99 = .ok (.iaload, 1) := by decide +kernel
theorem d_Ri_mix_100 : decode prog_5_method_2_code 100 = .ok (.iadd, 1) := by decide +kernel
theorem d_Ri_mix_101 : decode prog_5_method_2_code 101 = .ok (.getstatic 50, 3) := by decide +kernel
theorem d_Ri_mix_104 : decode prog_5_method_2_code 104 = .ok (.iload_n 1, 1) := by decide +kernel
theorem d_Ri_mix_105 : decode prog_5_method_2_code 105 = .ok (.iaload, 1) := by decide +kernel
theorem d_Ri_mix_106 : decode prog_5_method_2_code 106 = .ok (.invokestatic 40, 3) := by decide +kernel
theorem d_Ri_mix_109 : decode prog_5_method_2_code 109 = .ok (.iinc 1 1, 3) := by decide +kernel
theorem d_Ri_mix_112 : decode prog_5_method_2_code 112 = .ok (.goto (-74), 3) := by decide +kernel
theorem d_Ri_mix_115 : decode prog_5_method_2_code 115 = .ok (.aload_n 0, 1) := by decide +kernel
theorem d_Ri_mix_116 : decode prog_5_method_2_code 116 = .ok (.getfield 19, 3) := by decide +kernel
theorem d_Ri_mix_119 : decode prog_5_method_2_code 119 = .ok (.iconst 1, 1) := by decide +kernel
theorem d_Ri_mix_120 : decode prog_5_method_2_code 120 = .ok (.iaload, 1) := by decide +kernel
theorem d_Ri_mix_121 : decode prog_5_method_2_code 121 = .ok (.aload_n 0, 1) := by decide +kernel
theorem d_Ri_mix_122 : decode prog_5_method_2_code 122 = .ok (.getfield 13, 3) := by decide +kernel
theorem d_Ri_mix_125 : decode prog_5_method_2_code 125 = .ok (.iconst 2, 1) := by decide +kernel
theorem d_Ri_mix_126 : decode prog_5_method_2_code 126 = .ok (.iaload, 1) := by decide +kernel
theorem d_Ri_mix_127 : decode prog_5_method_2_code 127 = .ok (.iadd, 1) := by decide +kernel
theorem d_Ri_mix_128 : decode prog_5_method_2_code 128 = .ok (.aload_n 0, 1) := by decide +kernel
theorem d_Ri_mix_129 : decode prog_5_method_2_code 129 = .ok (.getfield 16, 3) := by decide +kernel
theorem d_Ri_mix_132 : decode prog_5_method_2_code 132 = .ok (.iconst 3, 1) := by decide +kernel
theorem d_Ri_mix_133 : decode prog_5_method_2_code 133 = .ok (.iaload, 1) := by decide +kernel
theorem d_Ri_mix_134 : decode prog_5_method_2_code 134 = .ok (.iadd, 1) := by decide +kernel
theorem d_Ri_mix_135 : decode prog_5_method_2_code 135 = .ok (.istore_n 1, 1) := by decide +kernel
theorem d_Ri_mix_136 : decode prog_5_method_2_code 136 = .ok (.aload_n 0, 1) := by decide +kernel
theorem d_Ri_mix_137 : decode prog_5_method_2_code 137 = .ok (.getfield 19, 3) := by decide +kernel
theorem d_Ri_mix_140 : decode prog_5_method_2_code 140 = .ok (.iconst 1, 1) := by decide +kernel
theorem d_Ri_mix_141 : decode prog_5_method_2_code 141 = .ok (.aload_n 0, 1) := by decide +kernel
theorem d_Ri_mix_142 : decode prog_5_method_2_code 142 = .ok (.getfield 19, 3) := by decide +kernel
theorem d_Ri_mix_145 : decode prog_5_method_2_code 145 = .ok (.iconst 2, 1) := by decide +kernel
theorem d_Ri_mix_146 : decode prog_5_method_2_code 146 = .ok (.iaload, 1) := by decide +kernel
theorem d_Ri_mix_147 : decode prog_5_method_2_code 147 = .ok (.aload_n 0, 1) := by decide +kernel
theorem d_Ri_mix_148 : decode prog_5_method_2_code 148 = .ok (.getfield 13, 3) := by decide +kernel
theorem d_Ri_mix_151 : decode prog_5_method_2_code 151 = .ok (.iconst 3, 1) := by decide +kernel
theorem d_Ri_mix_152 : decode prog_5_method_2_code 152 = .ok (.iaload, 1) := by decide +kernel
theorem d_Ri_mix_153 : decode prog_5_method_2_code 153 = .ok (.iadd, 1) := by decide +kernel
theorem d_Ri_mix_154 : decode prog_5_method_2_code 154 = .ok (.aload_n 0, 1) := by decide +kernel
theorem d_Ri_mix_155 : decode prog_5_method_2_code 155 = .ok (.getfield 16, 3) := by decide +kernel
theorem d_Ri_mix_158 : decode prog_5_method_2_code 158 = .ok (.iconst 4, 1) := by decide +kernel
theorem d_Ri_mix_159 : decode prog_5_method_2_code 159 = .ok (.iaload, 1) := by decide +kernel
theorem d_Ri_mix_160 : decode prog_5_method_2_code 160 = .ok (.iadd, 1) := by decide +kernel
theorem d_Ri_mix_161 : decode prog_5_method_2_code 161 = .ok (.iastore, 1) := by decide +kernel
theorem d_Ri_mix_162 : decode prog_5_method_2_code 162 = .ok (.aload_n 0, 1) := by decide +kernel
theorem d_Ri_mix_163 : decode prog_5_method_2_code 163 = .ok (.getfield 19, 3) := by decide +kernel
theorem d_Ri_mix_166 : decode prog_5_method_2_code 166 = .ok (.iconst 2, 1) := by decide +kernel
theorem d_Ri_mix_167 : decode prog_5_method_2_code 167 = .ok (.aload_n 0, 1) := by decide +kernel
theorem d_Ri_mix_168 : decode prog_5_method_2_code 168 = .ok (.getfield 19, 3) := by decide +kernel
theorem d_Ri_mix_171 : decode prog_5_method_2_code 171 = .ok (.iconst 3, 1) := by decide +kernel
theorem d_Ri_mix_172 : decode prog_5_method_2_code 172 = .ok (.iaload, 1) := by decide +kernel
theorem d_Ri_mix_173 : decode prog_5_method_2_code 173 = .ok (.aload_n 0, 1) := by decide +kernel
theorem d_Ri_mix_174 : decode prog_5_method_2_code 174 = .ok (.getfield 13, 3) := by decide +kernel
theorem d_Ri_mix_177 : decode prog_5_method_2_code 177 = .ok (.iconst 4, 1) := by decide +kernel
theorem d_Ri_mix_178 : decode prog_5_method_2_code 178 = .ok (.iaload, 1) := by decide +kernel
theorem d_Ri_mix_179 : decode prog_5_method_2_code 179 = .ok (.iadd, 1) := by decide +kernel
theorem d_Ri_mix_180 : decode prog_5_method_2_code 180 = .ok (.aload_n 0, 1) := by decide +kernel
theorem d_Ri_mix_181 : decode prog_5_method_2_code 181 = .ok (.getfield 16, 3) := by decide +kernel
theorem d_Ri_mix_184 : decode prog_5_method_2_code 184 = .ok (.iconst 0, 1) := by decide +kernel
theorem d_Ri_mix_185 : decode prog_5_method_2_code 185 = .ok (.iaload, 1) := by decide +kernel
theorem d_Ri_mix_186 : decode prog_5_method_2_code 186 = .ok (.iadd, 1) := by decide +kernel
theorem d_Ri_mix_187 : decode prog_5_method_2_code 187 = .ok (.iastore, 1) := by decide +kernel
theorem d_Ri_mix_188 : decode prog_5_method_2_code 188 = .ok (.aload_n 0, 1) := by decide +kernel
theorem d_Ri_mix_189 : decode prog_5_method_2_code 189 = .ok (.getfield 19, 3) := by decide +kernel
theorem d_Ri_mix_192 : decode prog_5_method_2_code 192 = .ok (.iconst 3, 1) := by decide +kernel
theorem d_Ri_mix_193 : decode prog_5_method_2_code 193 = .ok (.aload_n 0, 1) := by decide +kernel
theorem d_Ri_mix_194 : decode prog_5_method_2_code 194 = .ok (.getfield 19, 3) := by decide +kernel
theorem d_Ri_mix_197 : decode prog_5_method_2_code 197 = .ok (.iconst 4, 1) := by decide +kernel
theorem d_Ri_mix_198 : decode prog_5_method_2_code 198 = .ok (.iaload, 1) := by decide +kernel
theorem d_Ri_mix_199 : decode prog_5_method_2_code 199 = .ok (.aload_n 0, 1) := by decide +kernel
theorem d_Ri_mix_200 : decode prog_5_method_2_code 200 = .ok (.getfield 13, 3) := by decide +kernel
theorem d_Ri_mix_203 : decode prog_5_method_2_code 203 = .ok (.iconst 0, 1) := by decide +kernel
theorem d_Ri_mix_204 : decode prog_5_method_2_code 204 = .ok (.iaload, 1) := by decide +kernel
theorem d_Ri_mix_205 : decode prog_5_method_2_code 205 = .ok (.iadd, 1) := by decide +kernel
theorem d_Ri_mix_206 : decode prog_5_method_2_code 206 = .ok (.aload_n 0, 1) := by decide +kernel
theorem d_Ri_mix_207 : decode prog_5_method_2_code 207 = .ok (.getfield 16, 3) := by decide +kernel
theorem d_Ri_mix_210 : decode prog_5_method_2_code 210 = .ok (.iconst 1, 1) := by decide +kernel
theorem d_Ri_mix_211 : decode prog_5_method_2_code 211 = .ok (.iaload, 1) := by decide +kernel
theorem d_Ri_mix_212 : decode prog_5_method_2_code 212 = .ok (.iadd, 1) := by decide +kernel
theorem d_Ri_mix_213 : decode prog_5_method_2_code 213 = .ok (.iastore, 1) := by decide +kernel
theorem d_Ri_mix_214 : decode prog_5_method_2_code 214 = .ok (.aload_n 0, 1) := by decide +kernel
theorem d_Ri_mix_215 : decode prog_5_method_2_code 215 = .ok (.getfield 19, 3) := by decide +kernel
theorem d_Ri_mix_218 : decode prog_5_method_2_code 218 = .ok (.iconst 4, 1) := by decide +kernel
theorem d_Ri_mix_219 : decode prog_5_method_2_code 219 = .ok (.aload_n 0, 1) := by decide +kernel
theorem d_Ri_mix_220 : decode prog_5_method_2_code 220 = .ok (.getfield 19, 3) := by decide +kernel
theorem d_Ri_mix_223 : decode prog_5_method_2_code 223 = .ok (.iconst 0, 1) := by decide +kernel
theorem d_Ri_mix_224 : decode prog_5_method_2_code 224 = .ok (.iaload, 1) := by decide +kernel
theorem d_Ri_mix_225 : decode prog_5_method_2_code 225 = .ok (.aload_n 0, 1) := by decide +kernel
theorem d_Ri_mix_226 : decode prog_5_method_2_code 226 = .ok (.getfield 13, 3) := by decide +kernel
theorem d_Ri_mix_229 : decode prog_5_method_2_code 229 = .ok (.iconst 1, 1) := by decide +kernel
theorem d_Ri_mix_230 : decode prog_5_method_2_code 230 = .ok (.iaload, 1) := by decide +kernel
theorem d_Ri_mix_231 : decode prog_5_method_2_code 231 = .ok (.iadd, 1) := by decide +kernel
theorem d_Ri_mix_232 : decode prog_5_method_2_code 232 = .ok (.aload_n 0, 1) := by decide +kernel
theorem d_Ri_mix_233 : decode prog_5_method_2_code 233 = .ok (.getfield 16, 3) := by decide +kernel
theorem d_Ri_mix_236 : decode prog_5_method_2_code 236 = .ok (.iconst 2, 1) := by decide +kernel
theorem d_Ri_mix_237 : decode prog_5_method_2_code 237 = .ok (.iaload, 1) := by decide +kernel
theorem d_Ri_mix_238 : decode prog_5_method_2_code 238 = .ok (.iadd, 1) := by decide +kernel
theorem d_Ri_mix_239 : decode prog_5_method_2_code 239 = .ok (.iastore, 1) := by decide +kernel
theorem d_Ri_mix_240 : decode prog_5_method_2_code 240 = .ok (.aload_n 0, 1) := by decide +kernel
theorem d_Ri_mix_241 : decode prog_5_method_2_code 241 = .ok (.getfield 19, 3) := by decide +kernel
theorem d_Ri_mix_244 : decode prog_5_method_2_code 244 = .ok (.iconst 0, 1) := by decide +kernel
theorem d_Ri_mix_245 : decode prog_5_method_2_code 245 = .ok (.iload_n 1, 1) := by decide +kernel
theorem d_Ri_mix_246 : decode prog_5_method_2_code 246 = .ok (.iastore, 1) := by decide +kernel
theorem d_Ri_mix_247 : decode prog_5_method_2_code 247 = .ok (.return_, 1) := by decide +kernel
theorem d_Ri_turn_0 : decode prog_5_method_3_code 0 = .ok (.aload_n 0, 1) := by decide +kernel
theorem d_Ri_turn_1 : decode prog_5_method_3_code 1 = .ok (.iconst 0, 1) := by decide +kernel
theorem d_Ri_turn_2 : decode prog_5_method_3_code 2 = .ok (.iaload, 1) := by decide +kernel
theorem d_Ri_turn_3 : decode prog_5_method_3_code 3 = .ok (.iload_n 1, 1) := by decide +kernel
theorem d_Ri_turn_4 : decode prog_5_method_3_code 4 = .ok (.aload_n 0, 1) := by decide +kernel
theorem d_Ri_turn_5 : decode prog_5_method_3_code 5 = .ok (.iconst 1, 1) := by decide +kernel
theorem d_Ri_turn_6 : decode prog_5_method_3_code 6 = .ok (.iaload, 1) := by decide +kernel
theorem d_Ri_turn_7 : decode prog_5_method_3_code 7 = .ok (.aload_n 0, 1) := by decide +kernel
theorem d_Ri_turn_8 : decode prog_5_method_3_code 8 = .ok (.iconst 2, 1) := by decide +kernel
theorem d_Ri_turn_9 : decode prog_5_method_3_code 9 = .ok (.iaload, 1) := by decide +kernel
theorem d_Ri_turn_10 : decode prog_5_method_3_code 10 = .ok (.aload_n 0, 1) := by decide +kernel
theorem d_Ri_turn_11 : decode prog_5_method_3_code 11 = .ok (.iconst 3, 1) := by decide +kernel
theorem d_Ri_turn_12 : decode prog_5_method_3_code 12 = .ok (.iaload, 1) := by decide +kernel
theorem d_Ri_turn_13 : decode prog_5_method_3_code 13 = .ok (.invokestatic 53, 3) := by decide +kernel
theorem d_Ri_turn_16 : decode prog_5_method_3_code 16 = .ok (.iadd, 1) := by decide +kernel
theorem d_Ri_turn_17 : decode prog_5_method_3_code 17 = .ok (.iload_n 2, 1) := by decide +kernel
theorem d_Ri_turn_18 : decode prog_5_method_3_code 18 = .ok (.iadd, 1) := by decide +kernel
theorem d_Ri_turn_19 : decode prog_5_method_3_code 19 = .ok (.istore 4, 2) := by decide +kernel
theorem d_Ri_turn_21 : decode prog_5_method_3_code 21 = .ok (.iload 4, 2) := by decide +kernel
theorem d_Ri_turn_23 : decode prog_5_method_3_code 23 = .ok (.iload_n 3, 1) := by decide +kernel
theorem d_Ri_turn_24 : decode prog_5_method_3_code 24 = .ok (.invokestatic 57, 3) := by decide +kernel
theorem d_Ri_turn_27 : decode prog_5_method_3_code 27 = .ok (.aload_n 0, 1) := by decide +kernel
theorem d_Ri_turn_28 : decode prog_5_method_3_code 28 = .ok (.iconst 4, 1) := by decide +kernel
theorem d_Ri_turn_29 : decode prog_5_method_3_code 29 = .ok (.iaload, 1) := by decide +kernel
theorem d_Ri_turn_30 : decode prog_5_method_3_code 30 = .ok (.iadd, 1) := by decide +kernel
theorem d_Ri_turn_31 : decode prog_5_method_3_code 31 = .ok (.istore 5, 2) := by decide +kernel
theorem d_Ri_turn_33 : decode prog_5_method_3_code 33 = .ok (.aload_n 0, 1) := by decide +kernel
theorem d_Ri_turn_34 : decode prog_5_method_3_code 34 = .ok (.iconst 0, 1) := by decide +kernel
theorem d_Ri_turn_35 : decode prog_5_method_3_code 35 = .ok (.aload_n 0, 1) := by decide +kernel
theorem d_Ri_turn_36 : decode prog_5_method_3_code 36 = .ok (.iconst 4, 1) := by decide +kernel
theorem d_Ri_turn_37 : decode prog_5_method_3_code 37 = .ok (.iaload, 1) := by decide +kernel
theorem d_Ri_turn_38 : decode prog_5_method_3_code 38 = .ok (.iastore, 1) := by decide +kernel
theorem d_Ri_turn_39 : decode prog_5_method_3_code 39 = .ok (.aload_n 0, 1) := by decide +kernel
theorem d_Ri_turn_40 : decode prog_5_method_3_code 40 = .ok (.iconst 4, 1) := by decide +kernel
theorem d_Ri_turn_41 : decode prog_5_method_3_code 41 = .ok (.aload_n 0, 1) := by decide +kernel
theorem d_Ri_turn_42 : decode prog_5_method_3_code 42 = .ok (.iconst 3, 1) := by decide +kernel
theorem d_Ri_turn_43 : decode prog_5_method_3_code 43 = .ok (.iaload, 1) := by decide +kernel
theorem d_Ri_turn_44 : decode prog_5_method_3_code 44 = .ok (.iastore, 1) := by decide +kernel
theorem d_Ri_turn_45 : decode prog_5_method_3_code 45 = .ok (.aload_n 0, 1) := by decide +kernel
theorem d_Ri_turn_46 : decode prog_5_method_3_code 46 = .ok (.iconst 3, 1) := by decide +kernel
theorem d_Ri_turn_47 : decode prog_5_method_3_code 47 = .ok (.aload_n 0, 1) := by decide +kernel
theorem d_Ri_turn_48 : decode prog_5_method_3_code 48 = .ok (.iconst 2, 1) := by decide +kernel
theorem d_Ri_turn_49 : decode prog_5_method_3_code 49 = .ok (.iaload, 1) := by decide +kernel
theorem d_Ri_turn_50 : decode prog_5_method_3_code 50 = .ok (.bipush 10, 2) := by decide +kernel
theorem d_Ri_turn_52 : decode prog_5_method_3_code 52 = .ok (.invokestatic 57, 3) := by decide +kernel
theorem d_Ri_turn_55 : decode prog_5_method_3_code 55 = .ok (.iastore, 1) := by decide +kernel
theorem d_Ri_turn_56 : decode prog_5_method_3_code 56 = .ok (.aload_n 0, 1) := by decide +kernel
theorem d_Ri_turn_57 : decode prog_5_method_3_code 57 = .ok (.iconst 2, 1) := by decide +kernel
theorem d_Ri_turn_58 : decode prog_5_method_3_code 58 = .ok (.aload_n 0, 1) := by decide +kernel
theorem d_Ri_turn_59 : decode prog_5_method_3_code 59 = .ok (.iconst 1, 1) := by decide +kernel
theorem d_Ri_turn_60 : decode prog_5_method_3_code 60 = .ok (.iaload, 1) := by decide +kernel
theorem d_Ri_turn_61 : decode prog_5_method_3_code 61 = .ok (.iastore, 1) := by decide +kernel
theorem d_Ri_turn_62 : decode prog_5_method_3_code 62 = .ok (.aload_n 0, 1) := by decide +kernel
theorem d_Ri_turn_63 : decode prog_5_method_3_code 63 = .ok (.iconst 1, 1) := by decide +kernel
theorem d_Ri_turn_64 : decode prog_5_method_3_code 64 = .ok (.iload 5, 2) := by decide +kernel
theorem d_Ri_turn_66 : decode prog_5_method_3_code 66 = .ok (.iastore, 1) := by decide +kernel
theorem d_Ri_turn_67 : decode prog_5_method_3_code 67 = .ok (.return_, 1) := by decide +kernel
theorem d_Ri_join_0 : decode prog_5_method_4_code 0 = .ok (.iload_n 0, 1) := by decide +kernel
theorem d_Ri_join_1 : decode prog_5_method_4_code 1 = .ok (.tableswitch 73 0 3 #[31, 39, 51, 61], 31) := by decide +kernel
theorem d_Ri_join_32 : decode prog_5_method_4_code 32 = .ok (.iload_n 1, 1) := by decide +kernel
theorem d_Ri_join_33 : decode prog_5_method_4_code 33 = .ok (.iload_n 2, 1) := by decide +kernel
theorem d_Ri_join_34 : decode prog_5_method_4_code 34 = .ok (.ixor, 1) := by decide +kernel
theorem d_Ri_join_35 : decode prog_5_method_4_code 35 = .ok (.iload_n 3, 1) := by decide +kernel
theorem d_Ri_join_36 : decode prog_5_method_4_code 36 = .ok (.ixor, 1) := by decide +kernel
theorem d_Ri_join_37 : decode prog_5_method_4_code 37 = .ok (.goto 44, 3) := by decide +kernel
theorem d_Ri_join_40 : decode prog_5_method_4_code 40 = .ok (.iload_n 1, 1) := by decide +kernel
theorem d_Ri_join_41 : decode prog_5_method_4_code 41 = .ok (.iload_n 2, 1) := by decide +kernel
theorem d_Ri_join_42 : decode prog_5_method_4_code 42 = .ok (.iand, 1) := by decide +kernel
theorem d_Ri_join_43 : decode prog_5_method_4_code 43 = .ok (.iload_n 1, 1) := by decide +kernel
theorem d_Ri_join_44 : decode prog_5_method_4_code 44 = .ok (.iconst (-1), 1) := by decide +kernel
theorem d_Ri_join_45 : decode prog_5_method_4_code 45 = .ok (.ixor, 1) := by decide +kernel
theorem d_Ri_join_46 : decode prog_5_method_4_code 46 = .ok (.iload_n 3, 1) := by decide +kernel
theorem d_Ri_join_47 : decode prog_5_method_4_code 47 = .ok (.iand, 1) := by decide +kernel
theorem d_Ri_join_48 : decode prog_5_method_4_code 48 = .ok (.ior, 1) := by decide +kernel
theorem d_Ri_join_49 : decode prog_5_method_4_code 49 = .ok (.goto 32, 3) := by decide +kernel
theorem d_Ri_join_52 : decode prog_5_method_4_code 52 = .ok (.iload_n 1, 1) := by decide +kernel
theorem d_Ri_join_53 : decode prog_5_method_4_code 53 = .ok (.iload_n 2, 1) := by decide +kernel
theorem d_Ri_join_54 : decode prog_5_method_4_code 54 = .ok (.iconst (-1), 1) := by decide +kernel
theorem d_Ri_join_55 : decode prog_5_method_4_code 55 = .ok (.ixor, 1) := by decide +kernel
theorem d_Ri_join_56 : decode prog_5_method_4_code 56 = .ok (.ior, 1) := by decide +kernel
theorem d_Ri_join_57 : decode prog_5_method_4_code 57 = .ok (.iload_n 3, 1) := by decide +kernel
theorem d_Ri_join_58 : decode prog_5_method_4_code 58 = .ok (.ixor, 1) := by decide +kernel
theorem d_Ri_join_59 : decode prog_5_method_4_code 59 = .ok (.goto 22, 3) := by decide +kernel
theorem d_Ri_join_62 : decode prog_5_method_4_code 62 = .ok (.iload_n 1, 1) := by decide +kernel
theorem d_Ri_join_63 : decode prog_5_method_4_code 63 = .ok (.iload_n 3, 1) := by decide +kernel
theorem d_Ri_join_64 : decode prog_5_method_4_code 64 = .ok (.iand, 1) := by decide +kernel
theorem d_Ri_join_65 : decode prog_5_method_4_code 65 = .ok (.iload_n 2, 1) := by decide +kernel
theorem d_Ri_join_66 : decode prog_5_method_4_code 66 = .ok (.iload_n 3, 1) := by decide +kernel
theorem d_Ri_join_67 : decode prog_5_method_4_code 67 = .ok (.iconst (-1), 1) := by decide +kernel
theorem d_Ri_join_68 : decode prog_5_method_4_code 68 = .ok (.ixor, 1) := by decide +kernel
theorem d_Ri_join_69 : decode prog_5_method_4_code 69 = .ok (.iand, 1) := by decide +kernel
theorem d_Ri_join_70 : decode prog_5_method_4_code 70 = .ok (.ior, 1) := by decide +kernel
theorem d_Ri_join_71 : decode prog_5_method_4_code 71 = .ok (.goto 10, 3) := by decide +kernel
theorem d_Ri_join_74 : decode prog_5_method_4_code 74 = .ok (.iload_n 1, 1) := by decide +kernel
theorem d_Ri_join_75 : decode prog_5_method_4_code 75 = .ok (.iload_n 2, 1) := by decide +kernel
theorem d_Ri_join_76 : decode prog_5_method_4_code 76 = .ok (.iload_n 3, 1) := by decide +kernel
theorem d_Ri_join_77 : decode prog_5_method_4_code 77 = .ok (.iconst (-1), 1) := by decide +kernel
theorem d_Ri_join_78 : decode prog_5_method_4_code 78 = .ok (.ixor, 1) := by decide +kernel
theorem d_Ri_join_79 : decode prog_5_method_4_code 79 = .ok (.ior, 1) := by decide +kernel
theorem d_Ri_join_80 : decode prog_5_method_4_code 80 = .ok (.ixor, 1) := by decide +kernel
theorem d_Ri_join_81 : decode prog_5_method_4_code 81 = .ok (.ireturn, 1) := by decide +kernel
theorem d_In_rotateLeft_0 : decode prog_19_method_50_code 0 = .ok (.iload_n 0, 1) := by decide +kernel
theorem d_In_rotateLeft_1 : decode prog_19_method_50_code 1 = .ok (.iload_n 1, 1) := by decide +kernel
theorem d_In_rotateLeft_2 : decode prog_19_method_50_code 2 = .ok (.ishl, 1) := by decide +kernel
theorem d_In_rotateLeft_3 : decode prog_19_method_50_code 3 = .ok (.iload_n 0, 1) := by decide +kernel
theorem d_In_rotateLeft_4 : decode prog_19_method_50_code 4 = .ok (.iload_n 1, 1) := by decide +kernel
theorem d_In_rotateLeft_5 : decode prog_19_method_50_code 5 = .ok (.ineg, 1) := by decide +kernel
theorem d_In_rotateLeft_6 : decode prog_19_method_50_code 6 = .ok (.iushr, 1) := by decide +kernel
theorem d_In_rotateLeft_7 : decode prog_19_method_50_code 7 = .ok (.ior, 1) := by decide +kernel
theorem d_In_rotateLeft_8 : decode prog_19_method_50_code 8 = .ok (.ireturn, 1) := by decide +kernel
theorem d_Sh_mix_0 : decode prog_6_method_2_code 0 = .ok (.aload_n 0, 1) := by decide +kernel
theorem d_Sh_mix_1 : decode prog_6_method_2_code 1 = .ok (.invokevirtual 16, 3) := by decide +kernel
theorem d_Sh_mix_4 : decode prog_6_method_2_code 4 = .ok (.aload_n 0, 1) := by decide +kernel
theorem d_Sh_mix_5 : decode prog_6_method_2_code 5 = .ok (.getfield 20, 3) := by decide +kernel
theorem d_Sh_mix_8 : decode prog_6_method_2_code 8 = .ok (.iconst 0, 1) := by decide +kernel
theorem d_Sh_mix_9 : decode prog_6_method_2_code 9 = .ok (.aload_n 0, 1) := by decide +kernel
theorem d_Sh_mix_10 : decode prog_6_method_2_code 10 = .ok (.getfield 13, 3) := by decide +kernel
theorem d_Sh_mix_13 : decode prog_6_method_2_code 13 = .ok (.iconst 0, 1) := by decide +kernel
theorem d_Sh_mix_14 : decode prog_6_method_2_code 14 = .ok (.aload_n 0, 1) := by decide +kernel
theorem d_Sh_mix_15 : decode prog_6_method_2_code 15 = .ok (.getfield 20, 3) := by decide +kernel
theorem d_Sh_mix_18 : decode prog_6_method_2_code 18 = .ok (.arraylength, 1) := by decide +kernel
theorem d_Sh_mix_19 : decode prog_6_method_2_code 19 = .ok (.invokestatic 23, 3) := by decide +kernel
theorem d_Sh_mix_22 : decode prog_6_method_2_code 22 = .ok (.iconst 0, 1) := by decide +kernel
theorem d_Sh_mix_23 : decode prog_6_method_2_code 23 = .ok (.istore_n 1, 1) := by decide +kernel
theorem d_Sh_mix_24 : decode prog_6_method_2_code 24 = .ok (.iload_n 1, 1) := by decide +kernel
theorem d_Sh_mix_25 : decode prog_6_method_2_code 25 = .ok (.bipush 64, 2) := by decide +kernel
theorem d_Sh_mix_27 : decode prog_6_method_2_code 27 = .ok (.if_icmp .ge 25, 3) := by decide +kernel
theorem d_Sh_mix_30 : decode prog_6_method_2_code 30 = .ok (.aload_n 0, 1) := by decide +kernel
theorem d_Sh_mix_31 : decode prog_6_method_2_code 31 = .ok (.getstatic 29, 3) := by decide +kernel
theorem d_Sh_mix_34 : decode prog_6_method_2_code 34 = .ok (.iload_n 1, 1) := by decide +kernel
theorem d_Sh_mix_35 : decode prog_6_method_2_code 35 = .ok (.iaload, 1) := by decide +kernel
theorem d_Sh_mix_36 : decode prog_6_method_2_code 36 = .ok (.aload_n 0, 1) := by decide +kernel
theorem d_Sh_mix_37 : decode prog_6_method_2_code 37 = .ok (.getfield 32, 3) := by decide +kernel
theorem d_Sh_mix_40 : decode prog_6_method_2_code 40 = .ok (.iload_n 1, 1) := by decide +kernel
theorem d_Sh_mix_41 : decode prog_6_method_2_code 41 = .ok (.iaload, 1) := by decide +kernel
theorem d_Sh_mix_42 : decode prog_6_method_2_code 42 = .ok (.iadd, 1) := by decide +kernel
theorem d_Sh_mix_43 : decode prog_6_method_2_code 43 = .ok (.invokevirtual 35, 3) := by decide +kernel
theorem d_Sh_mix_46 : decode prog_6_method_2_code 46 = .ok (.iinc 1 1, 3) := by decide +kernel
theorem d_Sh_mix_49 : decode prog_6_method_2_code 49 = .ok (.goto (-25), 3) := by decide +kernel
theorem d_Sh_mix_52 : decode prog_6_method_2_code 52 = .ok (.iconst 0, 1) := by decide +kernel
theorem d_Sh_mix_53 : decode prog_6_method_2_code 53 = .ok (.istore_n 1, 1) := by decide +kernel
theorem d_Sh_mix_54 : decode prog_6_method_2_code 54 = .ok (.iload_n 1, 1) := by decide +kernel
theorem d_Sh_mix_55 : decode prog_6_method_2_code 55 = .ok (.aload_n 0, 1) := by decide +kernel
theorem d_Sh_mix_56 : decode prog_6_method_2_code 56 = .ok (.getfield 20, 3) := by decide +kernel
theorem d_Sh_mix_59 : decode prog_6_method_2_code 59 = .ok (.arraylength, 1) := by decide +kernel
theorem d_Sh_mix_60 : decode prog_6_method_2_code 60 = .ok (.if_icmp .ge 24, 3) := by decide +kernel
theorem d_Sh_mix_63 : decode prog_6_method_2_code 63 = .ok (.aload_n 0, 1) := by decide +kernel
theorem d_Sh_mix_64 : decode prog_6_method_2_code 64 = .ok (.getfield 20, 3) := by decide +kernel
theorem d_Sh_mix_67 : decode prog_6_method_2_code 67 = .ok (.iload_n 1, 1) := by decide +kernel
theorem d_Sh_mix_68 : decode prog_6_method_2_code 68 = .ok (.dup2, 1) := by decide +kernel
theorem d_Sh_mix_69 : decode prog_6_method_2_code 69 = .ok (.iaload, 1) := by decide +kernel
theorem d_Sh_mix_70 : decode prog_6_method_2_code 70 = .ok (.aload_n 0, 1) := by decide +kernel
theorem d_Sh_mix_71 : decode prog_6_method_2_code 71 = .ok (.getfield 13, 3) := by decide +kernel
theorem d_Sh_mix_74 : decode prog_6_method_2_code 74 = .ok (.iload_n 1, 1) := by decide +kernel
theorem d_Sh_mix_75 : decode prog_6_method_2_code 75 = .ok (.iaload, 1) := by decide +kernel
theorem d_Sh_mix_76 : decode prog_6_method_2_code 76 = .ok (.iadd, 1) := by decide +kernel
theorem d_Sh_mix_77 : decode prog_6_method_2_code 77 = .ok (.iastore, 1) := by decide +kernel
theorem d_Sh_mix_78 : decode prog_6_method_2_code 78 = .ok (.iinc 1 1, 3) := by decide +kernel
theorem d_Sh_mix_81 : decode prog_6_method_2_code 81 = .ok (.goto (-27), 3) := by decide +kernel
theorem d_Sh_mix_84 : decode prog_6_method_2_code 84 = .ok (.return_, 1) := by decide +kernel
theorem d_Sh_stretch_0 : decode prog_6_method_3_code 0 = .ok (.bipush 16, 2) := by decide +kernel
theorem d_Sh_stretch_2 : decode prog_6_method_3_code 2 = .ok (.istore_n 1, 1) := by decide +kernel
theorem d_Sh_stretch_3 : decode prog_6_method_3_code 3 = .ok (.iload_n 1, 1) := by decide +kernel
theorem d_Sh_stretch_4 : decode prog_6_method_3_code 4 = .ok (.bipush 64, 2) := by decide +kernel
theorem d_Sh_stretch_6 : decode prog_6_method_3_code 6 = .ok (.if_icmp .ge 98, 3) := by decide +kernel
theorem d_Sh_stretch_9 : decode prog_6_method_3_code 9 = .ok (.aload_n 0, 1) := by decide +kernel
theorem d_Sh_stretch_10 : decode prog_6_method_3_code 10 = .ok (.getfield 32, 3) := by decide +kernel
theorem d_Sh_stretch_13 : decode prog_6_method_3_code 13 = .ok (.iload_n 1, 1) := by decide +kernel
theorem d_Sh_stretch_14 : decode prog_6_method_3_code 14 = .ok (.bipush 15, 2) := by decide +kernel
theorem d_Sh_stretch_16 : decode prog_6_method_3_code 16 = .ok (.isub, 1) := by decide +kernel
theorem d_Sh_stretch_17 : decode prog_6_method_3_code 17 = .ok (.iaload, 1) := by decide +kernel
theorem d_Sh_stretch_18 : decode prog_6_method_3_code 18 = .ok (.istore_n 2, 1) := by decide +kernel
theorem d_Sh_stretch_19 : decode prog_6_method_3_code 19 = .ok (.aload_n 0, 1) := by decide +kernel
theorem d_Sh_stretch_20 : decode prog_6_method_3_code 20 = .ok (.getfield 32, 3) := by decide +kernel
theorem d_Sh_stretch_23 : decode prog_6_method_3_code 23 = .ok (.iload_n 1, 1) := by decide +kernel
theorem d_Sh_stretch_24 : decode prog_6_method_3_code 24 = .ok (.iconst 2, 1) := by decide +kernel
theorem d_Sh_stretch_25 : decode prog_6_method_3_code 25 = .ok (.isub, 1) := by decide +kernel
theorem d_Sh_stretch_26 : decode prog_6_method_3_code 26 = .ok (.iaload, 1) := by decide +kernel
theorem d_Sh_stretch_27 : decode prog_6_method_3_code 27 = .ok (.istore_n 3, 1) := by decide +kernel
theorem d_Sh_stretch_28 : decode prog_6_method_3_code 28 = .ok (.iload_n 2, 1) := by decide +kernel
theorem d_Sh_stretch_29 : decode prog_6_method_3_code 29 = .ok (.bipush 7, 2) := by decide +kernel
theorem d_Sh_stretch_31 : decode prog_6_method_3_code 31 = .ok (.invokestatic 39, 3) := by decide +kernel
theorem d_Sh_stretch_34 : decode prog_6_method_3_code 34 = .ok (.iload_n 2, 1) := by decide +kernel
theorem d_Sh_stretch_35 : decode prog_6_method_3_code 35 = .ok (.bipush 18, 2) := by decide +kernel
theorem d_Sh_stretch_37 : decode prog_6_method_3_code 37 = .ok (.invokestatic 39, 3) := by decide +kernel
theorem d_Sh_stretch_40 : decode prog_6_method_3_code 40 = .ok (.ixor, 1) := by decide +kernel
theorem d_Sh_stretch_41 : decode prog_6_method_3_code 41 = .ok (.iload_n 2, 1) := by decide +kernel
theorem d_Sh_stretch_42 : decode prog_6_method_3_code 42 = .ok (.iconst 3, 1) := by decide +kernel
theorem d_Sh_stretch_43 : decode prog_6_method_3_code 43 = .ok (.iushr, 1) := by decide +kernel
theorem d_Sh_stretch_44 : decode prog_6_method_3_code 44 = .ok (.ixor, 1) := by decide +kernel
theorem d_Sh_stretch_45 : decode prog_6_method_3_code 45 = .ok (.istore 4, 2) := by decide +kernel
theorem d_Sh_stretch_47 : decode prog_6_method_3_code 47 = .ok (.iload_n 3, 1) := by decide +kernel
theorem d_Sh_stretch_48 : decode prog_6_method_3_code 48 = .ok (.bipush 17, 2) := by decide +kernel
theorem d_Sh_stretch_50 : decode prog_6_method_3_code 50 = .ok (.invokestatic 39, 3) := by decide +kernel
theorem d_Sh_stretch_53 : decode prog_6_method_3_code 53 = .ok (.iload_n 3, 1) := by decide +kernel
theorem d_Sh_stretch_54 : decode prog_6_method_3_code 54 = .ok (.bipush 19, 2) := by decide +kernel
theorem d_Sh_stretch_56 : decode prog_6_method_3_code 56 = .ok (.invokestatic 39, 3) := by decide +kernel
theorem d_Sh_stretch_59 : decode prog_6_method_3_code 59 = .ok (.ixor, 1) := by decide +kernel
theorem d_Sh_stretch_60 : decode prog_6_method_3_code 60 = .ok (.iload_n 3, 1) := by decide +kernel
theorem d_Sh_stretch_61 : decode prog_6_method_3_code 61 = .ok (.bipush 10, 2) := by decide +kernel
theorem d_Sh_stretch_63 : decode prog_6_method_3_code 63 = .ok (.iushr, 1) := by decide +kernel
theorem d_Sh_stretch_64 : decode prog_6_method_3_code 64 = .ok (.ixor, 1) := by decide +kernel
theorem d_Sh_stretch_65 : decode prog_6_method_3_code 65 = .ok (.istore 5, 2) := by decide +kernel
theorem d_Sh_stretch_67 : decode prog_6_method_3_code 67 = .ok (.aload_n 0, 1) := by decide +kernel
theorem d_Sh_stretch_68 : decode prog_6_method_3_code 68 = .ok (.getfield 32, 3) := by decide +kernel
theorem d_Sh_stretch_71 : decode prog_6_method_3_code 71 = .ok (.iload_n 1, 1) := by decide +kernel
theorem d_Sh_stretch_72 : decode prog_6_method_3_code 72 = .ok (.aload_n 0, 1) := by decide +kernel
theorem d_Sh_stretch_73 : decode prog_6_method_3_code 73 = .ok (.getfield 32, 3) := by decide +kernel
theorem d_Sh_stretch_76 : decode prog_6_method_3_code 76 = .ok (.iload_n 1, 1) := by decide +kernel
theorem d_Sh_stretch_77 : decode prog_6_method_3_code 77 = .ok (.bipush 16, 2) := by decide +kernel
theorem d_Sh_stretch_79 : decode prog_6_method_3_code 79 = .ok (.isub, 1) := by decide +kernel
theorem d_Sh_stretch_80 : decode prog_6_method_3_code 80 = .ok (.iaload, 1) := by decide +kernel
theorem d_Sh_stretch_81 : decode prog_6_method_3_code 81 = .ok (.iload 4, 2) := by decide +kernel
theorem d_Sh_stretch_83 : decode prog_6_method_3_code 83 = .ok (.iadd, 1) := by decide +kernel
theorem d_Sh_stretch_84 : decode prog_6_method_3_code 84 = .ok (.aload_n 0, 1) := by decide +kernel
theorem d_Sh_stretch_85 : decode prog_6_method_3_code 85 = .ok (.getfield 32, 3) := by decide +kernel
theorem d_Sh_stretch_88 : decode prog_6_method_3_code 88 = .ok (.iload_n 1, 1) := by decide +kernel
theorem d_Sh_stretch_89 : decode prog_6_method_3_code 89 = .ok (.bipush 7, 2) := by decide +kernel
theorem d_Sh_stretch_91 : decode prog_6_method_3_code 91 = .ok (.isub, 1) := by decide +kernel
theorem d_Sh_stretch_92 : decode prog_6_method_3_code 92 = .ok (.iaload, 1) := by decide +kernel
theorem d_Sh_stretch_93 : decode prog_6_method_3_code 93 = .ok (.iadd, 1) := by decide +kernel
theorem d_Sh_stretch_94 : decode prog_6_method_3_code 94 = .ok (.iload 5, 2) := by decide +kernel
theorem d_Sh_stretch_96 : decode prog_6_method_3_code 96 = .ok (.iadd, 1) := by decide +kernel
theorem d_Sh_stretch_97 : decode prog_6_method_3_code 97 = .ok (.iastore, 1) := by decide +kernel
theorem d_Sh_stretch_98 : decode prog_6_method_3_code 98 = .ok (.iinc 1 1, 3) := by decide +kernel
theorem d_Sh_stretch_101 : decode prog_6_method_3_code 101 = .ok (.goto (-98), 3) := by decide +kernel
theorem d_Sh_stretch_104 : decode prog_6_method_3_code 104 = .ok (.return_, 1) := by decide +kernel
theorem d_In_rotateRight_0 : decode prog_19_method_51_code 0 = .ok (.iload_n 0, 1) := by decide +kernel
theorem d_In_rotateRight_1 : decode prog_19_method_51_code 1 = .ok (.iload_n 1, 1) := by decide +kernel
theorem d_In_rotateRight_2 : decode prog_19_method_51_code 2 = .ok (.iushr, 1) := by decide +kernel
theorem d_In_rotateRight_3 : decode prog_19_method_51_code 3 = .ok (.iload_n 0, 1) := by decide +kernel
theorem d_In_rotateRight_4 : decode prog_19_method_51_code 4 = .ok (.iload_n 1, 1) := by decide +kernel
theorem d_In_rotateRight_5 : decode prog_19_method_51_code 5 = .ok (.ineg, 1) := by decide +kernel
theorem d_In_rotateRight_6 : decode prog_19_method_51_code 6 = .ok (.ishl, 1) := by decide +kernel
theorem d_In_rotateRight_7 : decode prog_19_method_51_code 7 = .ok (.ior, 1) := by decide +kernel
theorem d_In_rotateRight_8 : decode prog_19_method_51_code 8 = .ok (.ireturn, 1) := by decide +kernel
theorem d_Sh_turn_0 : decode prog_6_method_4_code 0 = .ok (.aload_n 0, 1) := by decide +kernel
theorem d_Sh_turn_1 : decode prog_6_method_4_code 1 = .ok (.getfield 13, 3) := by decide +kernel
theorem d_Sh_turn_4 : decode prog_6_method_4_code 4 = .ok (.iconst 0, 1) := by decide +kernel
theorem d_Sh_turn_5 : decode prog_6_method_4_code 5 = .ok (.iaload, 1) := by decide +kernel
theorem d_Sh_turn_6 : decode prog_6_method_4_code 6 = .ok (.istore_n 2, 1) := by decide +kernel
theorem d_Sh_turn_7 : decode prog_6_method_4_code 7 = .ok (.aload_n 0, 1) := by decide +kernel
theorem d_Sh_turn_8 : decode prog_6_method_4_code 8 = .ok (.getfield 13, 3) := by decide +kernel
theorem d_Sh_turn_11 : decode prog_6_method_4_code 11 = .ok (.iconst 4, 1) := by decide +kernel
theorem d_Sh_turn_12 : decode prog_6_method_4_code 12 = .ok (.iaload, 1) := by decide +kernel
theorem d_Sh_turn_13 : decode prog_6_method_4_code 13 = .ok (.istore_n 3, 1) := by decide +kernel
theorem d_Sh_turn_14 : decode prog_6_method_4_code 14 = .ok (.iload_n 3, 1) := by decide +kernel
theorem d_Sh_turn_15 : decode prog_6_method_4_code 15 = .ok (.aload_n 0, 1) := by decide +kernel
theorem d_Sh_turn_16 : decode prog_6_method_4_code 16 = .ok (.getfield 13, 3) := by decide +kernel
theorem d_Sh_turn_19 : decode prog_6_method_4_code 19 = .ok (.iconst 5, 1) := by decide +kernel
theorem d_Sh_turn_20 : decode prog_6_method_4_code 20 = .ok (.iaload, 1) := by decide +kernel
theorem d_Sh_turn_21 : decode prog_6_method_4_code 21 = .ok (.iand, 1) := by decide +kernel
theorem d_Sh_turn_22 : decode prog_6_method_4_code 22 = .ok (.iload_n 3, 1) := by decide +kernel
theorem d_Sh_turn_23 : decode prog_6_method_4_code 23 = .ok (.iconst (-1), 1) := by decide +kernel
theorem d_Sh_turn_24 : decode prog_6_method_4_code 24 = .ok (.ixor, 1) := by decide +kernel
theorem d_Sh_turn_25 : decode prog_6_method_4_code 25 = .ok (.aload_n 0, 1) := by decide +kernel
theorem d_Sh_turn_26 : decode prog_6_method_4_code 26 = .ok (.getfield 13, 3) := by decide +kernel
theorem d_Sh_turn_29 : decode prog_6_method_4_code 29 = .ok (.bipush 6, 2) := by decide +kernel
theorem d_Sh_turn_31 : decode prog_6_method_4_code 31 = .ok (.iaload, 1) := by decide +kernel
theorem d_Sh_turn_32 : decode prog_6_method_4_code 32 = .ok (.iand, 1) := by decide +kernel
theorem d_Sh_turn_33 : decode prog_6_method_4_code 33 = .ok (.ixor, 1) := by decide +kernel
theorem d_Sh_turn_34 : decode prog_6_method_4_code 34 = .ok (.istore 4, 2) := by decide +kernel
theorem d_Sh_turn_36 : decode prog_6_method_4_code 36 = .ok (.iload_n 2, 1) := by decide +kernel
theorem d_Sh_turn_37 : decode prog_6_method_4_code 37 = .ok (.aload_n 0, 1) := by decide +kernel
theorem d_Sh_turn_38 : decode prog_6_method_4_code 38 = .ok (.getfield 13, 3) := by decide +kernel
theorem d_Sh_turn_41 : decode prog_6_method_4_code 41 = .ok (.iconst 1, 1) := by decide +kernel
theorem d_Sh_turn_42 : decode prog_6_method_4_code 42 = .ok (.iaload, 1) := by decide +kernel
theorem d_Sh_turn_43 : decode prog_6_method_4_code 43 = .ok (.iand, 1) := by decide +kernel
theorem d_Sh_turn_44 : decode prog_6_method_4_code 44 = .ok (.iload_n 2, 1) := by decide +kernel
theorem d_Sh_turn_45 : decode prog_6_method_4_code 45 = .ok (.aload_n 0, 1) := by decide +kernel
theorem d_Sh_turn_46 : decode prog_6_method_4_code 46 = .ok (.getfield 13, 3) := by decide +kernel
theorem d_Sh_turn_49 : decode prog_6_method_4_code 49 = .ok (.iconst 2, 1) := by decide +kernel
theorem d_Sh_turn_50 : decode prog_6_method_4_code 50 = .ok (.iaload, 1) := by decide +kernel
theorem d_Sh_turn_51 : decode prog_6_method_4_code 51 = .ok (.iand, 1) := by decide +kernel
theorem d_Sh_turn_52 : decode prog_6_method_4_code 52 = .ok (.ixor, 1) := by decide +kernel
theorem d_Sh_turn_53 : decode prog_6_method_4_code 53 = .ok (.aload_n 0, 1) := by decide +kernel
theorem d_Sh_turn_54 : decode prog_6_method_4_code 54 = .ok (.getfield 13, 3) := by decide +kernel
theorem d_Sh_turn_57 : decode prog_6_method_4_code 57 = .ok (.iconst 1, 1) := by decide +kernel
theorem d_Sh_turn_58 : decode prog_6_method_4_code 58 = .ok (.iaload, 1) := by decide +kernel
theorem d_Sh_turn_59 : decode prog_6_method_4_code 59 = .ok (.aload_n 0, 1) := by decide +kernel
theorem d_Sh_turn_60 : decode prog_6_method_4_code 60 = .ok (.getfield 13, 3) := by decide +kernel
theorem d_Sh_turn_63 : decode prog_6_method_4_code 63 = .ok (.iconst 2, 1) := by decide +kernel
theorem d_Sh_turn_64 : decode prog_6_method_4_code 64 = .ok (.iaload, 1) := by decide +kernel
theorem d_Sh_turn_65 : decode prog_6_method_4_code 65 = .ok (.iand, 1) := by decide +kernel
theorem d_Sh_turn_66 : decode prog_6_method_4_code 66 = .ok (.ixor, 1) := by decide +kernel
theorem d_Sh_turn_67 : decode prog_6_method_4_code 67 = .ok (.istore 5, 2) := by decide +kernel
theorem d_Sh_turn_69 : decode prog_6_method_4_code 69 = .ok (.iload_n 2, 1) := by decide +kernel
theorem d_Sh_turn_70 : decode prog_6_method_4_code 70 = .ok (.iconst 2, 1) := by decide +kernel
theorem d_Sh_turn_71 : decode prog_6_method_4_code 71 = .ok (.invokestatic 39, 3) := by decide +kernel
theorem d_Sh_turn_74 : decode prog_6_method_4_code 74 = .ok (.iload_n 2, 1) := by decide +kernel
theorem d_Sh_turn_75 : decode prog_6_method_4_code 75 = .ok (.bipush 13, 2) := by decide +kernel
theorem d_Sh_turn_77 : decode prog_6_method_4_code 77 = .ok (.invokestatic 39, 3) := by decide +kernel
theorem d_Sh_turn_80 : decode prog_6_method_4_code 80 = .ok (.ixor, 1) := by decide +kernel
theorem d_Sh_turn_81 : decode prog_6_method_4_code 81 = .ok (.iload_n 2, 1) := by decide +kernel
theorem d_Sh_turn_82 : decode prog_6_method_4_code 82 = .ok (.bipush 22, 2) := by decide +kernel
theorem d_Sh_turn_84 : decode prog_6_method_4_code 84 = .ok (.invokestatic 39, 3) := by decide +kernel
theorem d_Sh_turn_87 : decode prog_6_method_4_code 87 = .ok (.ixor, 1) := by decide +kernel
theorem d_Sh_turn_88 : decode prog_6_method_4_code 88 = .ok (.istore 6, 2) := by decide +kernel
theorem d_Sh_turn_90 : decode prog_6_method_4_code 90 = .ok (.iload_n 3, 1) := by decide +kernel
theorem d_Sh_turn_91 : decode prog_6_method_4_code 91 = .ok (.bipush 6, 2) := by decide +kernel
theorem d_Sh_turn_93 : decode prog_6_method_4_code 93 = .ok (.invokestatic 39, 3) := by decide +kernel
theorem d_Sh_turn_96 : decode prog_6_method_4_code 96 = .ok (.iload_n 3, 1) := by decide +kernel
theorem d_Sh_turn_97 : decode prog_6_method_4_code 97 = .ok (.bipush 11, 2) := by decide +kernel
theorem d_Sh_turn_99 : decode prog_6_method_4_code 99 = .ok (.invokestatic 39, 3) := by decide +kernel
theorem d_Sh_turn_102 : decode prog_6_method_4_code 102 = .ok (.ixor, 1) := by decide +kernel
theorem d_Sh_turn_103 : decode prog_6_method_4_code 103 = .ok (.iload_n 3, 1) := by decide +kernel
theorem d_Sh_turn_104 : decode prog_6_method_4_code 104 = .ok (.bipush 25, 2) := by decide +kernel
theorem d_Sh_turn_106 : decode prog_6_method_4_code 106 = .ok (.invokestatic 39, 3) := by decide +kernel
theorem d_Sh_turn_109 : decode prog_6_method_4_code 109 = .ok (.ixor, 1) := by decide +kernel
theorem d_Sh_turn_110 : decode prog_6_method_4_code 110 = .ok (.istore 7, 2) := by decide +kernel
theorem d_Sh_turn_112 : decode prog_6_method_4_code 112 = .ok (.aload_n 0, 1) := by decide +kernel
theorem d_Sh_turn_113 : decode prog_6_method_4_code 113 = .ok (.getfield 13, 3) := by decide +kernel
theorem d_Sh_turn_116 : decode prog_6_method_4_code 116 = .ok (.bipush 7, 2) := by decide +kernel
theorem d_Sh_turn_118 : decode prog_6_method_4_code 118 = .ok (.iaload, 1) := by decide +kernel
theorem d_Sh_turn_119 : decode prog_6_method_4_code 119 = .ok (.iload 7, 2) := by decide +kernel
theorem d_Sh_turn_121 : decode prog_6_method_4_code 121 = .ok (.iadd, 1) := by decide +kernel
theorem d_Sh_turn_122 : decode prog_6_method_4_code 122 = .ok (.iload 4, 2) := by decide +kernel
theorem d_Sh_turn_124 : decode prog_6_method_4_code 124 = .ok (.iadd, 1) := by decide +kernel
theorem d_Sh_turn_125 : decode prog_6_method_4_code 125 = .ok (.iload_n 1, 1) := by decide +kernel
theorem d_Sh_turn_126 : decode prog_6_method_4_code 126 = .ok (.iadd, 1) := by decide +kernel
theorem d_Sh_turn_127 : decode prog_6_method_4_code 127 = .ok (.istore 8, 2) := by decide +kernel
theorem d_Sh_turn_129 : decode prog_6_method_4_code 129 = .ok (.bipush 7, 2) := by decide +kernel
theorem d_Sh_turn_131 : decode prog_6_method_4_code 131 = .ok (.istore 9, 2) := by decide +kernel
theorem d_Sh_turn_133 : decode prog_6_method_4_code 133 = .ok (.iload 9, 2) := by decide +kernel
theorem d_Sh_turn_135 : decode prog_6_method_4_code 135 = .ok (.ifCond .le 25, 3) := by decide +kernel
theorem d_Sh_turn_138 : decode prog_6_method_4_code 138 = .ok (.aload_n 0, 1) := by decide +kernel
theorem d_Sh_turn_139 : decode prog_6_method_4_code 139 = .ok (.getfield 13, 3) := by decide +kernel
theorem d_Sh_turn_142 : decode prog_6_method_4_code 142 = .ok (.iload 9, 2) := by decide +kernel
theorem d_Sh_turn_144 : decode prog_6_method_4_code 144 = .ok (.aload_n 0, 1) := by decide +kernel
theorem d_Sh_turn_145 : decode prog_6_method_4_code 145 = .ok (.getfield 13, 3) := by decide +kernel
theorem d_Sh_turn_148 : decode prog_6_method_4_code 148 = .ok (.iload 9, 2) := by decide +kernel
theorem d_Sh_turn_150 : decode prog_6_method_4_code 150 = .ok (.iconst 1, 1) := by decide +kernel
theorem d_Sh_turn_151 : decode prog_6_method_4_code 151 = .ok (.isub, 1) := by decide +kernel
theorem d_Sh_turn_152 : decode prog_6_method_4_code 152 = .ok (.iaload, 1) := by decide +kernel
theorem d_Sh_turn_153 : decode prog_6_method_4_code 153 = .ok (.iastore, 1) := by decide +kernel
theorem d_Sh_turn_154 : decode prog_6_method_4_code 154 = .ok (.iinc 9 (-1), 3) := by decide +kernel
theorem d_Sh_turn_157 : decode prog_6_method_4_code 157 = .ok (.goto (-24), 3) := by decide +kernel
theorem d_Sh_turn_160 : decode prog_6_method_4_code 160 = .ok (.aload_n 0, 1) := by decide +kernel
theorem d_Sh_turn_161 : decode prog_6_method_4_code 161 = .ok (.getfield 13, 3) := by decide +kernel
theorem d_Sh_turn_164 : decode prog_6_method_4_code 164 = .ok (.iconst 4, 1) := by decide +kernel
theorem d_Sh_turn_165 : decode prog_6_method_4_code 165 = .ok (.dup2, 1) := by decide +kernel
theorem d_Sh_turn_166 : decode prog_6_method_4_code 166 = .ok (.iaload, 1) := by decide +kernel
theorem d_Sh_turn_167 : decode prog_6_method_4_code 167 = .ok (.iload 8, 2) := by decide +kernel
theorem d_Sh_turn_169 : decode prog_6_method_4_code 169 = .ok (.iadd, 1) := by decide +kernel
theorem d_Sh_turn_170 : decode prog_6_method_4_code 170 = .ok (.iastore, 1) := by decide +kernel
theorem d_Sh_turn_171 : decode prog_6_method_4_code 171 = .ok (.aload_n 0, 1) := by decide +kernel
theorem d_Sh_turn_172 : decode prog_6_method_4_code 172 = .ok (.getfield 13, 3) := by decide +kernel
theorem d_Sh_turn_175 : decode prog_6_method_4_code 175 = .ok (.iconst 0, 1) := by decide +kernel
theorem d_Sh_turn_176 : decode prog_6_method_4_code 176 = .ok (.iload 8, 2) := by decide +kernel
theorem d_Sh_turn_178 : decode prog_6_method_4_code 178 = .ok (.iload 6, 2) := by decide +kernel
theorem d_Sh_turn_180 : decode prog_6_method_4_code 180 = .ok (.iadd, 1) := by decide +kernel
theorem d_Sh_turn_181 : decode prog_6_method_4_code 181 = .ok (.iload 5, 2) := by decide +kernel
theorem d_Sh_turn_183 : decode prog_6_method_4_code 183 = .ok (.iadd, 1) := by decide +kernel
theorem d_Sh_turn_184 : decode prog_6_method_4_code 184 = .ok (.iastore, 1) := by decide +kernel
theorem d_Sh_turn_185 : decode prog_6_method_4_code 185 = .ok (.return_, 1) := by decide +kernel
theorem d_Su_result_0 : decode prog_8_method_7_code 0 = .ok (.iconst 4, 1) := by decide +kernel
theorem d_Su_result_1 : decode prog_8_method_7_code 1 = .ok (.aload_n 0, 1) := by decide +kernel
theorem d_Su_result_2 : decode prog_8_method_7_code 2 = .ok (.getfield 17, 3) := by decide +kernel
theorem d_Su_result_5 : decode prog_8_method_7_code 5 = .ok (.arraylength, 1) := by decide +kernel
theorem d_Su_result_6 : decode prog_8_method_7_code 6 = .ok (.imul, 1) := by decide +kernel
theorem d_Su_result_7 : decode prog_8_method_7_code 7 = .ok (.newarray .byte, 2) := by decide +kernel
theorem d_Su_result_9 : decode prog_8_method_7_code 9 = .ok (.astore_n 1, 1) := by decide +kernel
theorem d_Su_result_10 : decode prog_8_method_7_code 10 = .ok (.iconst 0, 1) := by decide +kernel
theorem d_Su_result_11 : decode prog_8_method_7_code 11 = .ok (.istore_n 2, 1) := by decide +kernel
theorem d_Su_result_12 : decode prog_8_method_7_code 12 = .ok (.iload_n 2, 1) := by decide +kernel
theorem d_Su_result_13 : decode prog_8_method_7_code 13 = .ok (.aload_n 1, 1) := by decide +kernel
theorem d_Su_result_14 : decode prog_8_method_7_code 14 = .ok (.arraylength, 1) := by decide +kernel
theorem d_Su_result_15 : decode prog_8_method_7_code 15 = .ok (.if_icmp .ge 29, 3) := by decide +kernel
theorem d_Su_result_18 : decode prog_8_method_7_code 18 = .ok (.aload_n 1, 1) := by decide +kernel
theorem d_Su_result_19 : decode prog_8_method_7_code 19 = .ok (.iload_n 2, 1) := by decide +kernel
theorem d_Su_result_20 : decode prog_8_method_7_code 20 = .ok (.aload_n 0, 1) := by decide +kernel
theorem d_Su_result_21 : decode prog_8_method_7_code 21 = .ok (.getfield 17, 3) := by decide +kernel
theorem d_Su_result_24 : decode prog_8_method_7_code 24 = .ok (.iload_n 2, 1) := by decide +kernel
theorem d_Su_result_25 : decode prog_8_method_7_code 25 = .ok (.iconst 4, 1) := by decide +kernel
theorem d_Su_result_26 : decode prog_8_method_7_code 26 = .ok (.idiv, 1) := by decide +kernel
theorem d_Su_result_27 : decode prog_8_method_7_code 27 = .ok (.iaload, 1) := by decide +kernel
theorem d_Su_result_28 : decode prog_8_method_7_code 28 = .ok (.aload_n 0, 1) := by decide +kernel
theorem d_Su_result_29 : decode prog_8_method_7_code 29 = .ok (.iload_n 2, 1) := by decide +kernel
theorem d_Su_result_30 : decode prog_8_method_7_code 30 = .ok (.iconst 4, 1) := by decide +kernel
theorem d_Su_result_31 : decode prog_8_method_7_code 31 = .ok (.irem, 1) := by decide +kernel
theorem d_Su_result_32 : decode prog_8_method_7_code 32 = .ok (.invokevirtual 50, 3) := by decide +kernel
theorem d_Su_result_35 : decode prog_8_method_7_code 35 = .ok (.ishr, 1) := by decide +kernel
theorem d_Su_result_36 : decode prog_8_method_7_code 36 = .ok (.i2b, 1) := by decide +kernel
theorem d_Su_result_37 : decode prog_8_method_7_code 37 = .ok (.bastore, 1) := by decide +kernel
theorem d_Su_result_38 : decode prog_8_method_7_code 38 = .ok (.iinc 2 1, 3) := by decide +kernel
theorem d_Su_result_41 : decode prog_8_method_7_code 41 = .ok (.goto (-29), 3) := by decide +kernel
theorem d_Su_result_44 : decode prog_8_method_7_code 44 = .ok (.new 54, 3) := by decide +kernel
theorem d_Su_result_47 : decode prog_8_method_7_code 47 = .ok (.dup, 1) := by decide +kernel
theorem d_Su_result_48 : decode prog_8_method_7_code 48 = .ok (.aload_n 1, 1) := by decide +kernel
theorem d_Su_result_49 : decode prog_8_method_7_code 49 = .ok (.invokespecial 56, 3) := by decide +kernel
theorem d_Su_result_52 : decode prog_8_method_7_code 52 = .ok (.areturn, 1) := by decide +kernel
theorem d_De_size_0 : decode prog_1_method_6_code 0 = .ok (.aload_n 0, 1) := by decide +kernel
theorem d_De_size_1 : decode prog_1_method_6_code 1 = .ok (.getfield 42, 3) := by decide +kernel
theorem d_De_size_4 : decode prog_1_method_6_code 4 = .ok (.iload_n 1, 1) := by decide +kernel
theorem d_De_size_5 : decode prog_1_method_6_code 5 = .ok (.invokevirtual 85, 3) := by decide +kernel
theorem d_De_size_8 : decode prog_1_method_6_code 8 = .ok (.ifCond .ne 11, 3) := by decide +kernel
theorem d_De_size_11 : decode prog_1_method_6_code 11 = .ok (.new 88, 3) := by decide +kernel
theorem d_De_size_14 : decode prog_1_method_6_code 14 = .ok (.dup, 1) := by decide +kernel
theorem d_De_size_15 : decode prog_1_method_6_code 15 = .ok (.invokespecial 90, 3) := by decide +kernel
theorem d_De_size_18 : decode prog_1_method_6_code 18 = .ok (.athrow, 1) := by decide +kernel
theorem d_De_size_19 : decode prog_1_method_6_code 19 = .ok (.aload_n 0, 1) := by decide +kernel
theorem d_De_size_20 : decode prog_1_method_6_code 20 = .ok (.getfield 42, 3) := by decide +kernel
theorem d_De_size_23 : decode prog_1_method_6_code 23 = .ok (.iload_n 1, 1) := by decide +kernel
theorem d_De_size_24 : decode prog_1_method_6_code 24 = .ok (.invokevirtual 71, 3) := by decide +kernel
theorem d_De_size_27 : decode prog_1_method_6_code 27 = .ok (.invokevirtual 91, 3) := by decide +kernel
theorem d_De_size_30 : decode prog_1_method_6_code 30 = .ok (.ireturn, 1) := by decide +kernel
theorem d_De_at_0 : decode prog_1_method_7_code 0 = .ok (.aload_n 0, 1) := by decide +kernel
theorem d_De_at_1 : decode prog_1_method_7_code 1 = .ok (.getfield 42, 3) := by decide +kernel
theorem d_De_at_4 : decode prog_1_method_7_code 4 = .ok (.iload_n 1, 1) := by decide +kernel
theorem d_De_at_5 : decode prog_1_method_7_code 5 = .ok (.invokevirtual 85, 3) := by decide +kernel
theorem d_De_at_8 : decode prog_1_method_7_code 8 = .ok (.ifCond .eq 22, 3) := by decide +kernel
theorem d_De_at_11 : decode prog_1_method_7_code 11 = .ok (.iload_n 2, 1) := by decide +kernel
theorem d_De_at_12 : decode prog_1_method_7_code 12 = .ok (.ifCond .lt 18, 3) := by decide +kernel
theorem d_De_at_15 : decode prog_1_method_7_code 15 = .ok (.iload_n 2, 1) := by decide +kernel
theorem d_De_at_16 : decode prog_1_method_7_code 16 = .ok (.aload_n 0, 1) := by decide +kernel
theorem d_De_at_17 : decode prog_1_method_7_code 17 = .ok (.getfield 42, 3) := by decide +kernel
theorem d_De_at_20 : decode prog_1_method_7_code 20 = .ok (.iload_n 1, 1) := by decide +kernel
theorem d_De_at_21 : decode prog_1_method_7_code 21 = .ok (.invokevirtual 71, 3) := by decide +kernel
theorem d_De_at_24 : decode prog_1_method_7_code 24 = .ok (.invokevirtual 91, 3) := by decide +kernel
theorem d_De_at_27 : decode prog_1_method_7_code 27 = .ok (.if_icmp .lt 11, 3) := by decide +kernel
theorem d_De_at_30 : decode prog_1_method_7_code 30 = .ok (.new 88, 3) := by decide +kernel
theorem d_De_at_33 : decode prog_1_method_7_code 33 = .ok (.dup, 1) := by decide +kernel
theorem d_De_at_34 : decode prog_1_method_7_code 34 = .ok (.invokespecial 90, 3) := by decide +kernel
theorem d_De_at_37 : decode prog_1_method_7_code 37 = .ok (.athrow, 1) := by decide +kernel
theorem d_De_at_38 : decode prog_1_method_7_code 38 = .ok (.aload_n 0, 1) := by decide +kernel
theorem d_De_at_39 : decode prog_1_method_7_code 39 = .ok (.getfield 42, 3) := by decide +kernel
theorem d_De_at_42 : decode prog_1_method_7_code 42 = .ok (.iload_n 1, 1) := by decide +kernel
theorem d_De_at_43 : decode prog_1_method_7_code 43 = .ok (.invokevirtual 71, 3) := by decide +kernel
theorem d_De_at_46 : decode prog_1_method_7_code 46 = .ok (.iload_n 2, 1) := by decide +kernel
theorem d_De_at_47 : decode prog_1_method_7_code 47 = .ok (.invokevirtual 93, 3) := by decide +kernel
theorem d_De_at_50 : decode prog_1_method_7_code 50 = .ok (.ireturn, 1) := by decide +kernel
theorem d_De_number_0 : decode prog_1_method_8_code 0 = .ok (.aload_n 0, 1) := by decide +kernel
theorem d_De_number_1 : decode prog_1_method_8_code 1 = .ok (.getfield 42, 3) := by decide +kernel
theorem d_De_number_4 : decode prog_1_method_8_code 4 = .ok (.iload_n 1, 1) := by decide +kernel
theorem d_De_number_5 : decode prog_1_method_8_code 5 = .ok (.invokevirtual 85, 3) := by decide +kernel
theorem d_De_number_8 : decode prog_1_method_8_code 8 = .ok (.ifCond .ne 11, 3) := by decide +kernel
theorem d_De_number_11 : decode prog_1_method_8_code 11 = .ok (.new 88, 3) := by decide +kernel
theorem d_De_number_14 : decode prog_1_method_8_code 14 = .ok (.dup, 1) := by decide +kernel
theorem d_De_number_15 : decode prog_1_method_8_code 15 = .ok (.invokespecial 90, 3) := by decide +kernel
theorem d_De_number_18 : decode prog_1_method_8_code 18 = .ok (.athrow, 1) := by decide +kernel
theorem d_De_number_19 : decode prog_1_method_8_code 19 = .ok (.aload_n 0, 1) := by decide +kernel
theorem d_De_number_20 : decode prog_1_method_8_code 20 = .ok (.getfield 42, 3) := by decide +kernel
theorem d_De_number_23 : decode prog_1_method_8_code 23 = .ok (.iload_n 1, 1) := by decide +kernel
theorem d_De_number_24 : decode prog_1_method_8_code 24 = .ok (.invokevirtual 71, 3) := by decide +kernel
theorem d_De_number_27 : decode prog_1_method_8_code 27 = .ok (.invokevirtual 97, 3) := by decide +kernel
theorem d_De_number_30 : decode prog_1_method_8_code 30 = .ok (.ifCond .ne 11, 3) := by decide +kernel
theorem d_De_number_33 : decode prog_1_method_8_code 33 = .ok (.new 100, 3) := by decide +kernel
theorem d_De_number_36 : decode prog_1_method_8_code 36 = .ok (.dup, 1) := by decide +kernel
theorem d_De_number_37 : decode prog_1_method_8_code 37 = .ok (.invokespecial 102, 3) := by decide +kernel
theorem d_De_number_40 : decode prog_1_method_8_code 40 = .ok (.athrow, 1) := by decide +kernel
theorem d_De_number_41 : decode prog_1_method_8_code 41 = .ok (.aload_n 0, 1) := by decide +kernel
theorem d_De_number_42 : decode prog_1_method_8_code 42 = .ok (.getfield 42, 3) := by decide +kernel
theorem d_De_number_45 : decode prog_1_method_8_code 45 = .ok (.iload_n 1, 1) := by decide +kernel
theorem d_De_number_46 : decode prog_1_method_8_code 46 = .ok (.invokevirtual 71, 3) := by decide +kernel
theorem d_De_number_49 : decode prog_1_method_8_code 49 = .ok (.invokevirtual 103, 3) := by decide +kernel
theorem d_De_number_52 : decode prog_1_method_8_code 52 = .ok (.l2i, 1) := by decide +kernel
theorem d_De_number_53 : decode prog_1_method_8_code 53 = .ok (.ireturn, 1) := by decide +kernel
theorem d_De_sigs_0 : decode prog_1_method_9_code 0 = .ok (.aload_n 0, 1) := by decide +kernel
theorem d_De_sigs_1 : decode prog_1_method_9_code 1 = .ok (.iload_n 1, 1) := by decide +kernel
theorem d_De_sigs_2 : decode prog_1_method_9_code 2 = .ok (.invokevirtual 53, 3) := by decide +kernel
theorem d_De_sigs_5 : decode prog_1_method_9_code 5 = .ok (.ifCond .ne 11, 3) := by decide +kernel
theorem d_De_sigs_8 : decode prog_1_method_9_code 8 = .ok (.new 57, 3) := by decide +kernel
theorem d_De_sigs_11 : decode prog_1_method_9_code 11 = .ok (.dup, 1) := by decide +kernel
theorem d_De_sigs_12 : decode prog_1_method_9_code 12 = .ok (.invokespecial 59, 3) := by decide +kernel
theorem d_De_sigs_15 : decode prog_1_method_9_code 15 = .ok (.athrow, 1) := by decide +kernel
theorem d_De_sigs_16 : decode prog_1_method_9_code 16 = .ok (.iconst 0, 1) := by decide +kernel
theorem d_De_sigs_17 : decode prog_1_method_9_code 17 = .ok (.istore_n 2, 1) := by decide +kernel
theorem d_De_sigs_18 : decode prog_1_method_9_code 18 = .ok (.iconst 0, 1) := by decide +kernel
theorem d_De_sigs_19 : decode prog_1_method_9_code 19 = .ok (.istore_n 3, 1) := by decide +kernel
theorem d_De_sigs_20 : decode prog_1_method_9_code 20 = .ok (.iload_n 3, 1) := by decide +kernel
theorem d_De_sigs_21 : decode prog_1_method_9_code 21 = .ok (.iload_n 1, 1) := by decide +kernel
theorem d_De_sigs_22 : decode prog_1_method_9_code 22 = .ok (.if_icmp .ge 37, 3) := by decide +kernel
theorem d_De_sigs_25 : decode prog_1_method_9_code 25 = .ok (.iload_n 2, 1) := by decide +kernel
theorem d_De_sigs_26 : decode prog_1_method_9_code 26 = .ok (.aload_n 0, 1) := by decide +kernel
theorem d_De_sigs_27 : decode prog_1_method_9_code 27 = .ok (.getfield 9, 3) := by decide +kernel
theorem d_De_sigs_30 : decode prog_1_method_9_code 30 = .ok (.iload_n 3, 1) := by decide +kernel
theorem d_De_sigs_31 : decode prog_1_method_9_code 31 = .ok (.baload, 1) := by decide +kernel
theorem d_De_sigs_32 : decode prog_1_method_9_code 32 = .ok (.sipush 255, 3) := by decide +kernel
theorem d_De_sigs_35 : decode prog_1_method_9_code 35 = .ok (.iand, 1) := by decide +kernel
theorem d_De_sigs_36 : decode prog_1_method_9_code 36 = .ok (.invokestatic 107, 3) := by decide +kernel
theorem d_De_sigs_39 : decode prog_1_method_9_code 39 = .ok (.iadd, 1) := by decide +kernel
theorem d_De_sigs_40 : decode prog_1_method_9_code 40 = .ok (.istore_n 2, 1) := by decide +kernel
theorem d_De_sigs_41 : decode prog_1_method_9_code 41 = .ok (.iload_n 3, 1) := by decide +kernel
theorem d_De_sigs_42 : decode prog_1_method_9_code 42 = .ok (.aload_n 0, 1) := by decide +kernel
theorem d_De_sigs_43 : decode prog_1_method_9_code 43 = .ok (.getfield 9, 3) := by decide +kernel
theorem d_De_sigs_46 : decode prog_1_method_9_code 46 = .ok (.iload_n 3, 1) := by decide +kernel
theorem d_De_sigs_47 : decode prog_1_method_9_code 47 = .ok (.iload_n 1, 1) := by decide +kernel
theorem d_De_sigs_48 : decode prog_1_method_9_code 48 = .ok (.invokestatic 110, 3) := by decide +kernel
theorem d_De_sigs_51 : decode prog_1_method_9_code 51 = .ok (.iadd, 1) := by decide +kernel
theorem d_De_sigs_52 : decode prog_1_method_9_code 52 = .ok (.istore_n 3, 1) := by decide +kernel
theorem d_De_sigs_53 : decode prog_1_method_9_code 53 = .ok (.iinc 3 1, 3) := by decide +kernel
theorem d_De_sigs_56 : decode prog_1_method_9_code 56 = .ok (.goto (-36), 3) := by decide +kernel
theorem d_De_sigs_59 : decode prog_1_method_9_code 59 = .ok (.iload_n 2, 1) := by decide +kernel
theorem d_De_sigs_60 : decode prog_1_method_9_code 60 = .ok (.ireturn, 1) := by decide +kernel
theorem d_De_sigsOf_0 : decode prog_1_method_13_code 0 = .ok (.iload_n 0, 1) := by decide +kernel
theorem d_De_sigsOf_1 : decode prog_1_method_13_code 1 = .ok (.tableswitch 40 172 175 #[31, 31, 35, 35], 31) := by decide +kernel
theorem d_De_sigsOf_32 : decode prog_1_method_13_code 32 = .ok (.iconst 1, 1) := by decide +kernel
theorem d_De_sigsOf_33 : decode prog_1_method_13_code 33 = .ok (.goto 9, 3) := by decide +kernel
theorem d_De_sigsOf_36 : decode prog_1_method_13_code 36 = .ok (.bipush 20, 2) := by decide +kernel
theorem d_De_sigsOf_38 : decode prog_1_method_13_code 38 = .ok (.goto 4, 3) := by decide +kernel
theorem d_De_sigsOf_41 : decode prog_1_method_13_code 41 = .ok (.iconst 0, 1) := by decide +kernel
theorem d_De_sigsOf_42 : decode prog_1_method_13_code 42 = .ok (.ireturn, 1) := by decide +kernel
theorem d_De_hash_0 : decode prog_1_method_10_code 0 = .ok (.iload_n 1, 1) := by decide +kernel
theorem d_De_hash_1 : decode prog_1_method_10_code 1 = .ok (.ifCond .lt 8, 3) := by decide +kernel
theorem d_De_hash_4 : decode prog_1_method_10_code 4 = .ok (.iload_n 1, 1) := by decide +kernel
theorem d_De_hash_5 : decode prog_1_method_10_code 5 = .ok (.iconst 2, 1) := by decide +kernel
theorem d_De_hash_6 : decode prog_1_method_10_code 6 = .ok (.if_icmp .le 11, 3) := by decide +kernel
theorem d_De_hash_9 : decode prog_1_method_10_code 9 = .ok (.new 57, 3) := by decide +kernel
theorem d_De_hash_12 : decode prog_1_method_10_code 12 = .ok (.dup, 1) := by decide +kernel
theorem d_De_hash_13 : decode prog_1_method_10_code 13 = .ok (.invokespecial 59, 3) := by decide +kernel
theorem d_De_hash_16 : decode prog_1_method_10_code 16 = .ok (.athrow, 1) := by decide +kernel
theorem d_De_hash_17 : decode prog_1_method_10_code 17 = .ok (.iload_n 2, 1) := by decide +kernel
theorem d_De_hash_18 : decode prog_1_method_10_code 18 = .ok (.ifCond .lt 18, 3) := by decide +kernel
theorem d_De_hash_21 : decode prog_1_method_10_code 21 = .ok (.iload_n 2, 1) := by decide +kernel
theorem d_De_hash_22 : decode prog_1_method_10_code 22 = .ok (.iload_n 1, 1) := by decide +kernel
theorem d_De_hash_23 : decode prog_1_method_10_code 23 = .ok (.iconst 2, 1) := by decide +kernel
theorem d_De_hash_24 : decode prog_1_method_10_code 24 = .ok (.if_icmp .ne 7, 3) := by decide +kernel
theorem d_De_hash_27 : decode prog_1_method_10_code 27 = .ok (.iconst 4, 1) := by decide +kernel
theorem d_De_hash_28 : decode prog_1_method_10_code 28 = .ok (.goto 5, 3) := by decide +kernel
theorem d_De_hash_31 : decode prog_1_method_10_code 31 = .ok (.bipush 7, 2) := by decide +kernel
theorem d_De_hash_33 : decode prog_1_method_10_code 33 = .ok (.if_icmp .le 11, 3) := by decide +kernel
theorem d_De_hash_36 : decode prog_1_method_10_code 36 = .ok (.new 57, 3) := by decide +kernel
theorem d_De_hash_39 : decode prog_1_method_10_code 39 = .ok (.dup, 1) := by decide +kernel
theorem d_De_hash_40 : decode prog_1_method_10_code 40 = .ok (.invokespecial 59, 3) := by decide +kernel
theorem d_De_hash_43 : decode prog_1_method_10_code 43 = .ok (.athrow, 1) := by decide +kernel
theorem d_De_hash_44 : decode prog_1_method_10_code 44 = .ok (.aload_n 0, 1) := by decide +kernel
theorem d_De_hash_45 : decode prog_1_method_10_code 45 = .ok (.iload_n 1, 1) := by decide +kernel
theorem d_De_hash_46 : decode prog_1_method_10_code 46 = .ok (.invokevirtual 116, 3) := by decide +kernel
theorem d_De_hash_49 : decode prog_1_method_10_code 49 = .ok (.iload_n 2, 1) := by decide +kernel
theorem d_De_hash_50 : decode prog_1_method_10_code 50 = .ok (.invokevirtual 119, 3) := by decide +kernel
theorem d_De_hash_53 : decode prog_1_method_10_code 53 = .ok (.ireturn, 1) := by decide +kernel
theorem d_De_sumOfRow_0 : decode prog_1_method_14_code 0 = .ok (.iload_n 1, 1) := by decide +kernel
theorem d_De_sumOfRow_1 : decode prog_1_method_14_code 1 = .ok (.iconst 2, 1) := by decide +kernel
theorem d_De_sumOfRow_2 : decode prog_1_method_14_code 2 = .ok (.if_icmp .ne 19, 3) := by decide +kernel
theorem d_De_sumOfRow_5 : decode prog_1_method_14_code 5 = .ok (.aload_n 0, 1) := by decide +kernel
theorem d_De_sumOfRow_6 : decode prog_1_method_14_code 6 = .ok (.getfield 27, 3) := by decide +kernel
theorem d_De_sumOfRow_9 : decode prog_1_method_14_code 9 = .ok (.aload_n 0, 1) := by decide +kernel
theorem d_De_sumOfRow_10 : decode prog_1_method_14_code 10 = .ok (.getfield 9, 3) := by decide +kernel
theorem d_De_sumOfRow_13 : decode prog_1_method_14_code 13 = .ok (.aload_n 0, 1) := by decide +kernel
theorem d_De_sumOfRow_14 : decode prog_1_method_14_code 14 = .ok (.getfield 13, 3) := by decide +kernel
theorem d_De_sumOfRow_17 : decode prog_1_method_14_code 17 = .ok (.invokevirtual 122, 3) := by decide +kernel
theorem d_De_sumOfRow_20 : decode prog_1_method_14_code 20 = .ok (.areturn, 1) := by decide +kernel
theorem d_De_sumOfRow_21 : decode prog_1_method_14_code 21 = .ok (.aload_n 0, 1) := by decide +kernel
theorem d_De_sumOfRow_22 : decode prog_1_method_14_code 22 = .ok (.getfield 20, 3) := by decide +kernel
theorem d_De_sumOfRow_25 : decode prog_1_method_14_code 25 = .ok (.aload_n 0, 1) := by decide +kernel
theorem d_De_sumOfRow_26 : decode prog_1_method_14_code 26 = .ok (.getfield 9, 3) := by decide +kernel
theorem d_De_sumOfRow_29 : decode prog_1_method_14_code 29 = .ok (.aload_n 0, 1) := by decide +kernel
theorem d_De_sumOfRow_30 : decode prog_1_method_14_code 30 = .ok (.getfield 13, 3) := by decide +kernel
theorem d_De_sumOfRow_33 : decode prog_1_method_14_code 33 = .ok (.invokevirtual 122, 3) := by decide +kernel
theorem d_De_sumOfRow_36 : decode prog_1_method_14_code 36 = .ok (.astore_n 2, 1) := by decide +kernel
theorem d_De_sumOfRow_37 : decode prog_1_method_14_code 37 = .ok (.iload_n 1, 1) := by decide +kernel
theorem d_De_sumOfRow_38 : decode prog_1_method_14_code 38 = .ok (.iconst 1, 1) := by decide +kernel
theorem d_De_sumOfRow_39 : decode prog_1_method_14_code 39 = .ok (.if_icmp .ne 22, 3) := by decide +kernel
theorem d_De_sumOfRow_42 : decode prog_1_method_14_code 42 = .ok (.aload_n 0, 1) := by decide +kernel
theorem d_De_sumOfRow_43 : decode prog_1_method_14_code 43 = .ok (.getfield 20, 3) := by decide +kernel
theorem d_De_sumOfRow_46 : decode prog_1_method_14_code 46 = .ok (.aload_n 2, 1) := by decide +kernel
theorem d_De_sumOfRow_47 : decode prog_1_method_14_code 47 = .ok (.getfield 128, 3) := by decide +kernel
theorem d_De_sumOfRow_50 : decode prog_1_method_14_code 50 = .ok (.aload_n 2, 1) := by decide +kernel
theorem d_De_sumOfRow_51 : decode prog_1_method_14_code 51 = .ok (.getfield 128, 3) := by decide +kernel
theorem d_De_sumOfRow_54 : decode prog_1_method_14_code 54 = .ok (.arraylength, 1) := by decide +kernel
theorem d_De_sumOfRow_55 : decode prog_1_method_14_code 55 = .ok (.invokevirtual 122, 3) := by decide +kernel
theorem d_De_sumOfRow_58 : decode prog_1_method_14_code 58 = .ok (.goto 4, 3) := by decide +kernel
theorem d_De_sumOfRow_61 : decode prog_1_method_14_code 61 = .ok (.aload_n 2, 1) := by decide +kernel
theorem d_De_sumOfRow_62 : decode prog_1_method_14_code 62 = .ok (.areturn, 1) := by decide +kernel
theorem d_Th_word_0 : decode prog_9_method_6_code 0 = .ok (.iconst 0, 1) := by decide +kernel
theorem d_Th_word_1 : decode prog_9_method_6_code 1 = .ok (.istore_n 2, 1) := by decide +kernel
theorem d_Th_word_2 : decode prog_9_method_6_code 2 = .ok (.iconst 0, 1) := by decide +kernel
theorem d_Th_word_3 : decode prog_9_method_6_code 3 = .ok (.istore_n 3, 1) := by decide +kernel
theorem d_Th_word_4 : decode prog_9_method_6_code 4 = .ok (.iload_n 3, 1) := by decide +kernel
theorem d_Th_word_5 : decode prog_9_method_6_code 5 = .ok (.iconst 4, 1) := by decide +kernel
theorem d_Th_word_6 : decode prog_9_method_6_code 6 = .ok (.if_icmp .ge 26, 3) := by decide +kernel
theorem d_Th_word_9 : decode prog_9_method_6_code 9 = .ok (.iload_n 2, 1) := by decide +kernel
theorem d_Th_word_10 : decode prog_9_method_6_code 10 = .ok (.aload_n 0, 1) := by decide +kernel
theorem d_Th_word_11 : decode prog_9_method_6_code 11 = .ok (.iconst 4, 1) := by decide +kernel
theorem d_Th_word_12 : decode prog_9_method_6_code 12 = .ok (.iload_n 1, 1) := by decide +kernel
theorem d_Th_word_13 : decode prog_9_method_6_code 13 = .ok (.imul, 1) := by decide +kernel
theorem d_Th_word_14 : decode prog_9_method_6_code 14 = .ok (.iload_n 3, 1) := by decide +kernel
theorem d_Th_word_15 : decode prog_9_method_6_code 15 = .ok (.iadd, 1) := by decide +kernel
theorem d_Th_word_16 : decode prog_9_method_6_code 16 = .ok (.invokevirtual 31, 3) := by decide +kernel
theorem d_Th_word_19 : decode prog_9_method_6_code 19 = .ok (.bipush 8, 2) := by decide +kernel
theorem d_Th_word_21 : decode prog_9_method_6_code 21 = .ok (.iload_n 3, 1) := by decide +kernel
theorem d_Th_word_22 : decode prog_9_method_6_code 22 = .ok (.imul, 1) := by decide +kernel
theorem d_Th_word_23 : decode prog_9_method_6_code 23 = .ok (.ishl, 1) := by decide +kernel
theorem d_Th_word_24 : decode prog_9_method_6_code 24 = .ok (.ior, 1) := by decide +kernel
theorem d_Th_word_25 : decode prog_9_method_6_code 25 = .ok (.istore_n 2, 1) := by decide +kernel
theorem d_Th_word_26 : decode prog_9_method_6_code 26 = .ok (.iinc 3 1, 3) := by decide +kernel
theorem d_Th_word_29 : decode prog_9_method_6_code 29 = .ok (.goto (-25), 3) := by decide +kernel
theorem d_Th_word_32 : decode prog_9_method_6_code 32 = .ok (.iload_n 2, 1) := by decide +kernel
theorem d_Th_word_33 : decode prog_9_method_6_code 33 = .ok (.ireturn, 1) := by decide +kernel
