theorem b_Math_floorDiv_I_0 : tf_dec prog_22_method_47_code 0 [(.iload_n 0, 1), (.iload_n 1, 1)] = true := by decide +kernel
theorem d_Math_floorDiv_I_2 : decode prog_22_method_47_code 2 = .ok (.idiv, 1) := by decide +kernel
theorem b_Math_floorDiv_I_3 : tf_dec prog_22_method_47_code 3 [(.istore_n 2, 1), (.iload_n 0, 1), (.iload_n 1, 1), (.ixor, 1)] = true := by decide +kernel
theorem d_Math_floorDiv_I_7 : decode prog_22_method_47_code 7 = .ok (.ifCond .ge 14, 3) := by decide +kernel
theorem b_Math_floorDiv_I_10 : tf_dec prog_22_method_47_code 10 [(.iload_n 2, 1), (.iload_n 1, 1), (.imul, 1), (.iload_n 0, 1)] = true := by decide +kernel
theorem d_Math_floorDiv_I_14 : decode prog_22_method_47_code 14 = .ok (.if_icmp .eq 7, 3) := by decide +kernel
theorem b_Math_floorDiv_I_17 : tf_dec prog_22_method_47_code 17 [(.iload_n 2, 1), (.iconst 1, 1), (.isub, 1)] = true := by decide +kernel
theorem d_Math_floorDiv_I_20 : decode prog_22_method_47_code 20 = .ok (.ireturn, 1) := by decide +kernel
theorem b_Math_floorDiv_I_21 : tf_dec prog_22_method_47_code 21 [(.iload_n 2, 1)] = true := by decide +kernel
theorem d_Math_floorDiv_I_22 : decode prog_22_method_47_code 22 = .ok (.ireturn, 1) := by decide +kernel
theorem b_Math_floorDiv_J_0 : tf_dec prog_22_method_49_code 0 [(.lload_n 0, 1), (.lload_n 2, 1)] = true := by decide +kernel
theorem d_Math_floorDiv_J_2 : decode prog_22_method_49_code 2 = .ok (.ldiv, 1) := by decide +kernel
theorem b_Math_floorDiv_J_3 : tf_dec prog_22_method_49_code 3 [(.lstore 4, 2), (.lload_n 0, 1), (.lload_n 2, 1), (.lxor, 1), (.lconst 0, 1), (.lcmp, 1)] = true := by decide +kernel
theorem d_Math_floorDiv_J_10 : decode prog_22_method_49_code 10 = .ok (.ifCond .ge 17, 3) := by decide +kernel
theorem b_Math_floorDiv_J_13 : tf_dec prog_22_method_49_code 13 [(.lload 4, 2), (.lload_n 2, 1), (.lmul, 1), (.lload_n 0, 1), (.lcmp, 1)] = true := by decide +kernel
theorem d_Math_floorDiv_J_19 : decode prog_22_method_49_code 19 = .ok (.ifCond .eq 8, 3) := by decide +kernel
theorem b_Math_floorDiv_J_22 : tf_dec prog_22_method_49_code 22 [(.lload 4, 2), (.lconst 1, 1), (.lsub, 1)] = true := by decide +kernel
theorem d_Math_floorDiv_J_26 : decode prog_22_method_49_code 26 = .ok (.lreturn, 1) := by decide +kernel
theorem b_Math_floorDiv_J_27 : tf_dec prog_22_method_49_code 27 [(.lload 4, 2)] = true := by decide +kernel
theorem d_Math_floorDiv_J_29 : decode prog_22_method_49_code 29 = .ok (.lreturn, 1) := by decide +kernel
theorem b_Arrays_fill_0 : tf_dec prog_30_method_104_code 0 [(.aload_n 0, 1)] = true := by decide +kernel
theorem d_Arrays_fill_1 : decode prog_30_method_104_code 1 = .ok (.arraylength, 1) := by decide +kernel
theorem b_Arrays_fill_2 : tf_dec prog_30_method_104_code 2 [(.iload_n 1, 1), (.iload_n 2, 1)] = true := by decide +kernel
theorem d_Arrays_fill_4 : decode prog_30_method_104_code 4 = .ok (.invokestatic 13, 3) := by decide +kernel
theorem b_Arrays_fill_7 : tf_dec prog_30_method_104_code 7 [(.iload_n 1, 1), (.istore 4, 2)] = true := by decide +kernel
theorem b_Arrays_fill_10 : tf_dec prog_30_method_104_code 10 [(.iload 4, 2), (.iload_n 2, 1)] = true := by decide +kernel
theorem d_Arrays_fill_13 : decode prog_30_method_104_code 13 = .ok (.if_icmp .ge 14, 3) := by decide +kernel
theorem b_Arrays_fill_16 : tf_dec prog_30_method_104_code 16 [(.aload_n 0, 1), (.iload 4, 2), (.iload_n 3, 1)] = true := by decide +kernel
theorem d_Arrays_fill_20 : decode prog_30_method_104_code 20 = .ok (.iastore, 1) := by decide +kernel
theorem b_Arrays_fill_21 : tf_dec prog_30_method_104_code 21 [(.iinc 4 1, 3)] = true := by decide +kernel
theorem d_Arrays_fill_24 : decode prog_30_method_104_code 24 = .ok (.goto (-14), 3) := by decide +kernel
theorem d_Arrays_fill_27 : decode prog_30_method_104_code 27 = .ok (.return_, 1) := by decide +kernel
theorem b_Arrays_rangeCheck_0 : tf_dec prog_30_method_30_code 0 [(.iload_n 1, 1), (.iload_n 2, 1)] = true := by decide +kernel
theorem d_Arrays_rangeCheck_2 : decode prog_30_method_30_code 2 = .ok (.if_icmp .le 44, 3) := by decide +kernel
theorem b_Arrays_rangeCheck_46 : tf_dec prog_30_method_30_code 46 [(.iload_n 1, 1)] = true := by decide +kernel
theorem d_Arrays_rangeCheck_47 : decode prog_30_method_30_code 47 = .ok (.ifCond .ge 12, 3) := by decide +kernel
theorem b_Arrays_rangeCheck_59 : tf_dec prog_30_method_30_code 59 [(.iload_n 2, 1), (.iload_n 0, 1)] = true := by decide +kernel
theorem d_Arrays_rangeCheck_61 : decode prog_30_method_30_code 61 = .ok (.if_icmp .le 12, 3) := by decide +kernel
theorem d_Arrays_rangeCheck_73 : decode prog_30_method_30_code 73 = .ok (.return_, 1) := by decide +kernel
