theorem d_Mt_abs_0 : decode prog_21_method_61_code 0 = .ok (.lload_n 0, 1) := by decide +kernel
theorem d_Mt_abs_1 : decode prog_21_method_61_code 1 = .ok (.lconst 0, 1) := by decide +kernel
theorem d_Mt_abs_2 : decode prog_21_method_61_code 2 = .ok (.lcmp, 1) := by decide +kernel
theorem d_Mt_abs_3 : decode prog_21_method_61_code 3 = .ok (.ifCond .ge 8, 3) := by decide +kernel
theorem d_Mt_abs_6 : decode prog_21_method_61_code 6 = .ok (.lload_n 0, 1) := by decide +kernel
theorem d_Mt_abs_7 : decode prog_21_method_61_code 7 = .ok (.lneg, 1) := by decide +kernel
theorem d_Mt_abs_8 : decode prog_21_method_61_code 8 = .ok (.goto 4, 3) := by decide +kernel
theorem d_Mt_abs_11 : decode prog_21_method_61_code 11 = .ok (.lload_n 0, 1) := by decide +kernel
theorem d_Mt_abs_12 : decode prog_21_method_61_code 12 = .ok (.lreturn, 1) := by decide +kernel
theorem d_Mt_max_0 : decode prog_21_method_65_code 0 = .ok (.iload_n 0, 1) := by decide +kernel
theorem d_Mt_max_1 : decode prog_21_method_65_code 1 = .ok (.iload_n 1, 1) := by decide +kernel
theorem d_Mt_max_2 : decode prog_21_method_65_code 2 = .ok (.if_icmp .lt 7, 3) := by decide +kernel
theorem d_Mt_max_5 : decode prog_21_method_65_code 5 = .ok (.iload_n 0, 1) := by decide +kernel
theorem d_Mt_max_6 : decode prog_21_method_65_code 6 = .ok (.goto 4, 3) := by decide +kernel
theorem d_Mt_max_9 : decode prog_21_method_65_code 9 = .ok (.iload_n 1, 1) := by decide +kernel
theorem d_Mt_max_10 : decode prog_21_method_65_code 10 = .ok (.ireturn, 1) := by decide +kernel
theorem d_Mt_max2_0 : decode prog_21_method_66_code 0 = .ok (.lload_n 0, 1) := by decide +kernel
theorem d_Mt_max2_1 : decode prog_21_method_66_code 1 = .ok (.lload_n 2, 1) := by decide +kernel
theorem d_Mt_max2_2 : decode prog_21_method_66_code 2 = .ok (.lcmp, 1) := by decide +kernel
theorem d_Mt_max2_3 : decode prog_21_method_66_code 3 = .ok (.ifCond .lt 7, 3) := by decide +kernel
theorem d_Mt_max2_6 : decode prog_21_method_66_code 6 = .ok (.lload_n 0, 1) := by decide +kernel
theorem d_Mt_max2_7 : decode prog_21_method_66_code 7 = .ok (.goto 4, 3) := by decide +kernel
theorem d_Mt_max2_10 : decode prog_21_method_66_code 10 = .ok (.lload_n 2, 1) := by decide +kernel
theorem d_Mt_max2_11 : decode prog_21_method_66_code 11 = .ok (.lreturn, 1) := by decide +kernel
theorem d_Mt_min_0 : decode prog_21_method_69_code 0 = .ok (.iload_n 0, 1) := by decide +kernel
theorem d_Mt_min_1 : decode prog_21_method_69_code 1 = .ok (.iload_n 1, 1) := by decide +kernel
theorem d_Mt_min_2 : decode prog_21_method_69_code 2 = .ok (.if_icmp .gt 7, 3) := by decide +kernel
theorem d_Mt_min_5 : decode prog_21_method_69_code 5 = .ok (.iload_n 0, 1) := by decide +kernel
theorem d_Mt_min_6 : decode prog_21_method_69_code 6 = .ok (.goto 4, 3) := by decide +kernel
theorem d_Mt_min_9 : decode prog_21_method_69_code 9 = .ok (.iload_n 1, 1) := by decide +kernel
theorem d_Mt_min_10 : decode prog_21_method_69_code 10 = .ok (.ireturn, 1) := by decide +kernel
theorem d_Mt_min2_0 : decode prog_21_method_70_code 0 = .ok (.lload_n 0, 1) := by decide +kernel
theorem d_Mt_min2_1 : decode prog_21_method_70_code 1 = .ok (.lload_n 2, 1) := by decide +kernel
theorem d_Mt_min2_2 : decode prog_21_method_70_code 2 = .ok (.lcmp, 1) := by decide +kernel
theorem d_Mt_min2_3 : decode prog_21_method_70_code 3 = .ok (.ifCond .gt 7, 3) := by decide +kernel
theorem d_Mt_min2_6 : decode prog_21_method_70_code 6 = .ok (.lload_n 0, 1) := by decide +kernel
theorem d_Mt_min2_7 : decode prog_21_method_70_code 7 = .ok (.goto 4, 3) := by decide +kernel
theorem d_Mt_min2_10 : decode prog_21_method_70_code 10 = .ok (.lload_n 2, 1) := by decide +kernel
theorem d_Mt_min2_11 : decode prog_21_method_70_code 11 = .ok (.lreturn, 1) := by decide +kernel
