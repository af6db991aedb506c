theorem b_Tf_init_0 : tf_dec prog_1_method_1_code 0 [(.aload_n 0, 1)] = true := by decide +kernel
theorem d_Tf_init_1 : decode prog_1_method_1_code 1 = .ok (.invokespecial 3, 3) := by decide +kernel
theorem b_Tf_init_4 : tf_dec prog_1_method_1_code 4 [(.aload_n 0, 1)] = true := by decide +kernel
theorem d_Tf_init_5 : decode prog_1_method_1_code 5 = .ok (.new 9, 3) := by decide +kernel
theorem b_Tf_init_8 : tf_dec prog_1_method_1_code 8 [(.dup, 1), (.iload_n 1, 1), (.iconst 2, 1)] = true := by decide +kernel
theorem d_Tf_init_11 : decode prog_1_method_1_code 11 = .ok (.if_icmp .eq 8, 3) := by decide +kernel
theorem b_Tf_init_14 : tf_dec prog_1_method_1_code 14 [(.iload_n 1, 1), (.iconst 4, 1)] = true := by decide +kernel
theorem d_Tf_init_16 : decode prog_1_method_1_code 16 = .ok (.if_icmp .ne 7, 3) := by decide +kernel
theorem b_Tf_init_19 : tf_dec prog_1_method_1_code 19 [(.iload_n 1, 1)] = true := by decide +kernel
theorem d_Tf_init_20 : decode prog_1_method_1_code 20 = .ok (.goto 4, 3) := by decide +kernel
theorem b_Tf_init_23 : tf_dec prog_1_method_1_code 23 [(.iconst 1, 1)] = true := by decide +kernel
theorem d_Tf_init_24 : decode prog_1_method_1_code 24 = .ok (.invokespecial 11, 3) := by decide +kernel
theorem d_Tf_init_27 : decode prog_1_method_1_code 27 = .ok (.putfield 14, 3) := by decide +kernel
theorem b_Tf_init_30 : tf_dec prog_1_method_1_code 30 [(.aload_n 0, 1), (.bipush 40, 2)] = true := by decide +kernel
theorem d_Tf_init_33 : decode prog_1_method_1_code 33 = .ok (.anewarray 18, 3) := by decide +kernel
theorem d_Tf_init_36 : decode prog_1_method_1_code 36 = .ok (.putfield 20, 3) := by decide +kernel
theorem b_Tf_init_39 : tf_dec prog_1_method_1_code 39 [(.aload_n 0, 1)] = true := by decide +kernel
theorem d_Tf_init_40 : decode prog_1_method_1_code 40 = .ok (.new 24, 3) := by decide +kernel
theorem b_Tf_init_43 : tf_dec prog_1_method_1_code 43 [(.dup, 1)] = true := by decide +kernel
theorem d_Tf_init_44 : decode prog_1_method_1_code 44 = .ok (.invokespecial 26, 3) := by decide +kernel
theorem d_Tf_init_47 : decode prog_1_method_1_code 47 = .ok (.putfield 27, 3) := by decide +kernel
theorem b_Tf_init_50 : tf_dec prog_1_method_1_code 50 [(.aload_n 0, 1)] = true := by decide +kernel
theorem d_Tf_init_51 : decode prog_1_method_1_code 51 = .ok (.new 31, 3) := by decide +kernel
theorem b_Tf_init_54 : tf_dec prog_1_method_1_code 54 [(.dup, 1)] = true := by decide +kernel
theorem d_Tf_init_55 : decode prog_1_method_1_code 55 = .ok (.invokespecial 33, 3) := by decide +kernel
theorem d_Tf_init_58 : decode prog_1_method_1_code 58 = .ok (.putfield 34, 3) := by decide +kernel
theorem b_Tf_init_61 : tf_dec prog_1_method_1_code 61 [(.aload_n 0, 1)] = true := by decide +kernel
theorem d_Tf_init_62 : decode prog_1_method_1_code 62 = .ok (.new 38, 3) := by decide +kernel
theorem b_Tf_init_65 : tf_dec prog_1_method_1_code 65 [(.dup, 1)] = true := by decide +kernel
theorem d_Tf_init_66 : decode prog_1_method_1_code 66 = .ok (.invokespecial 40, 3) := by decide +kernel
theorem d_Tf_init_69 : decode prog_1_method_1_code 69 = .ok (.putfield 41, 3) := by decide +kernel
theorem b_Tf_init_72 : tf_dec prog_1_method_1_code 72 [(.aload_n 0, 1)] = true := by decide +kernel
theorem d_Tf_init_73 : decode prog_1_method_1_code 73 = .ok (.new 45, 3) := by decide +kernel
theorem b_Tf_init_76 : tf_dec prog_1_method_1_code 76 [(.dup, 1)] = true := by decide +kernel
theorem d_Tf_init_77 : decode prog_1_method_1_code 77 = .ok (.invokespecial 47, 3) := by decide +kernel
theorem d_Tf_init_80 : decode prog_1_method_1_code 80 = .ok (.putfield 48, 3) := by decide +kernel
theorem b_Tf_init_83 : tf_dec prog_1_method_1_code 83 [(.aload_n 0, 1)] = true := by decide +kernel
theorem d_Tf_init_84 : decode prog_1_method_1_code 84 = .ok (.new 52, 3) := by decide +kernel
theorem b_Tf_init_87 : tf_dec prog_1_method_1_code 87 [(.dup, 1)] = true := by decide +kernel
theorem d_Tf_init_88 : decode prog_1_method_1_code 88 = .ok (.invokespecial 54, 3) := by decide +kernel
theorem d_Tf_init_91 : decode prog_1_method_1_code 91 = .ok (.putfield 55, 3) := by decide +kernel
theorem b_Tf_init_94 : tf_dec prog_1_method_1_code 94 [(.aload_n 0, 1)] = true := by decide +kernel
theorem d_Tf_init_95 : decode prog_1_method_1_code 95 = .ok (.new 59, 3) := by decide +kernel
theorem b_Tf_init_98 : tf_dec prog_1_method_1_code 98 [(.dup, 1)] = true := by decide +kernel
theorem d_Tf_init_99 : decode prog_1_method_1_code 99 = .ok (.invokespecial 61, 3) := by decide +kernel
theorem d_Tf_init_102 : decode prog_1_method_1_code 102 = .ok (.putfield 62, 3) := by decide +kernel
theorem d_Tf_init_105 : decode prog_1_method_1_code 105 = .ok (.return_, 1) := by decide +kernel
theorem b_Tf_glyph_0 : tf_dec prog_1_method_2_code 0 [(.aload_n 0, 1)] = true := by decide +kernel
theorem d_Tf_glyph_1 : decode prog_1_method_2_code 1 = .ok (.getfield 66, 3) := by decide +kernel
theorem b_Tf_glyph_4 : tf_dec prog_1_method_2_code 4 [(.bipush 40, 2)] = true := by decide +kernel
theorem d_Tf_glyph_6 : decode prog_1_method_2_code 6 = .ok (.if_icmp .lt 13, 3) := by decide +kernel
theorem d_Tf_glyph_9 : decode prog_1_method_2_code 9 = .ok (.new 70, 3) := by decide +kernel
theorem b_Tf_glyph_12 : tf_dec prog_1_method_2_code 12 [(.dup, 1)] = true := by decide +kernel
theorem d_Tf_glyph_13 : decode prog_1_method_2_code 13 = .ok (.ldc 72, 2) := by decide +kernel
theorem d_Tf_glyph_15 : decode prog_1_method_2_code 15 = .ok (.invokespecial 74, 3) := by decide +kernel
theorem d_Tf_glyph_18 : decode prog_1_method_2_code 18 = .ok (.athrow, 1) := by decide +kernel
theorem b_Tf_glyph_19 : tf_dec prog_1_method_2_code 19 [(.aload_n 0, 1)] = true := by decide +kernel
theorem d_Tf_glyph_20 : decode prog_1_method_2_code 20 = .ok (.getfield 20, 3) := by decide +kernel
theorem b_Tf_glyph_23 : tf_dec prog_1_method_2_code 23 [(.aload_n 0, 1)] = true := by decide +kernel
theorem d_Tf_glyph_24 : decode prog_1_method_2_code 24 = .ok (.getfield 66, 3) := by decide +kernel
theorem d_Tf_glyph_27 : decode prog_1_method_2_code 27 = .ok (.new 18, 3) := by decide +kernel
theorem b_Tf_glyph_30 : tf_dec prog_1_method_2_code 30 [(.dup, 1), (.aload_n 0, 1)] = true := by decide +kernel
theorem d_Tf_glyph_32 : decode prog_1_method_2_code 32 = .ok (.getfield 14, 3) := by decide +kernel
theorem d_Tf_glyph_35 : decode prog_1_method_2_code 35 = .ok (.getfield 77, 3) := by decide +kernel
theorem d_Tf_glyph_38 : decode prog_1_method_2_code 38 = .ok (.invokespecial 80, 3) := by decide +kernel
theorem d_Tf_glyph_41 : decode prog_1_method_2_code 41 = .ok (.aastore, 1) := by decide +kernel
theorem b_Tf_glyph_42 : tf_dec prog_1_method_2_code 42 [(.aload_n 0, 1), (.dup, 1)] = true := by decide +kernel
theorem d_Tf_glyph_44 : decode prog_1_method_2_code 44 = .ok (.getfield 66, 3) := by decide +kernel
theorem b_Tf_glyph_47 : tf_dec prog_1_method_2_code 47 [(.dup_x1, 1), (.iconst 1, 1), (.iadd, 1)] = true := by decide +kernel
theorem d_Tf_glyph_50 : decode prog_1_method_2_code 50 = .ok (.putfield 66, 3) := by decide +kernel
theorem d_Tf_glyph_53 : decode prog_1_method_2_code 53 = .ok (.ireturn, 1) := by decide +kernel
theorem b_Tf_point_0 : tf_dec prog_1_method_3_code 0 [(.aload_n 0, 1), (.iload_n 1, 1)] = true := by decide +kernel
theorem d_Tf_point_2 : decode prog_1_method_3_code 2 = .ok (.invokevirtual 81, 3) := by decide +kernel
theorem b_Tf_point_5 : tf_dec prog_1_method_3_code 5 [(.astore 5, 2), (.aload 5, 2)] = true := by decide +kernel
theorem d_Tf_point_9 : decode prog_1_method_3_code 9 = .ok (.ifnull 11, 3) := by decide +kernel
theorem b_Tf_point_12 : tf_dec prog_1_method_3_code 12 [(.iload_n 2, 1), (.iload_n 3, 1)] = true := by decide +kernel
theorem d_Tf_point_14 : decode prog_1_method_3_code 14 = .ok (.invokestatic 85, 3) := by decide +kernel
theorem d_Tf_point_17 : decode prog_1_method_3_code 17 = .ok (.ifCond .ne 13, 3) := by decide +kernel
theorem d_Tf_point_20 : decode prog_1_method_3_code 20 = .ok (.new 89, 3) := by decide +kernel
theorem b_Tf_point_23 : tf_dec prog_1_method_3_code 23 [(.dup, 1)] = true := by decide +kernel
theorem d_Tf_point_24 : decode prog_1_method_3_code 24 = .ok (.ldc 91, 2) := by decide +kernel
theorem d_Tf_point_26 : decode prog_1_method_3_code 26 = .ok (.invokespecial 93, 3) := by decide +kernel
theorem d_Tf_point_29 : decode prog_1_method_3_code 29 = .ok (.athrow, 1) := by decide +kernel
theorem b_Tf_point_30 : tf_dec prog_1_method_3_code 30 [(.aload 5, 2)] = true := by decide +kernel
theorem d_Tf_point_32 : decode prog_1_method_3_code 32 = .ok (.getfield 94, 3) := by decide +kernel
theorem d_Tf_point_35 : decode prog_1_method_3_code 35 = .ok (.ifCond .ne 13, 3) := by decide +kernel
theorem b_Tf_point_38 : tf_dec prog_1_method_3_code 38 [(.aload 5, 2)] = true := by decide +kernel
theorem d_Tf_point_40 : decode prog_1_method_3_code 40 = .ok (.getfield 98, 3) := by decide +kernel
theorem b_Tf_point_43 : tf_dec prog_1_method_3_code 43 [(.bipush 40, 2)] = true := by decide +kernel
theorem d_Tf_point_45 : decode prog_1_method_3_code 45 = .ok (.if_icmp .lt 13, 3) := by decide +kernel
theorem d_Tf_point_48 : decode prog_1_method_3_code 48 = .ok (.new 70, 3) := by decide +kernel
theorem b_Tf_point_51 : tf_dec prog_1_method_3_code 51 [(.dup, 1)] = true := by decide +kernel
theorem d_Tf_point_52 : decode prog_1_method_3_code 52 = .ok (.ldc 101, 2) := by decide +kernel
theorem d_Tf_point_54 : decode prog_1_method_3_code 54 = .ok (.invokespecial 74, 3) := by decide +kernel
theorem d_Tf_point_57 : decode prog_1_method_3_code 57 = .ok (.athrow, 1) := by decide +kernel
theorem b_Tf_point_58 : tf_dec prog_1_method_3_code 58 [(.aload 5, 2), (.iload_n 2, 1), (.iload_n 3, 1), (.iload 4, 2)] = true := by decide +kernel
theorem d_Tf_point_64 : decode prog_1_method_3_code 64 = .ok (.invokevirtual 103, 3) := by decide +kernel
theorem d_Tf_point_67 : decode prog_1_method_3_code 67 = .ok (.ireturn, 1) := by decide +kernel
theorem b_Tf_close_0 : tf_dec prog_1_method_4_code 0 [(.aload_n 0, 1), (.iload_n 1, 1)] = true := by decide +kernel
theorem d_Tf_close_2 : decode prog_1_method_4_code 2 = .ok (.invokevirtual 81, 3) := by decide +kernel
theorem b_Tf_close_5 : tf_dec prog_1_method_4_code 5 [(.astore_n 2, 1), (.aload_n 2, 1)] = true := by decide +kernel
theorem d_Tf_close_7 : decode prog_1_method_4_code 7 = .ok (.ifnull 14, 3) := by decide +kernel
theorem b_Tf_close_10 : tf_dec prog_1_method_4_code 10 [(.aload_n 2, 1)] = true := by decide +kernel
theorem d_Tf_close_11 : decode prog_1_method_4_code 11 = .ok (.invokevirtual 107, 3) := by decide +kernel
theorem d_Tf_close_14 : decode prog_1_method_4_code 14 = .ok (.ifCond .eq 7, 3) := by decide +kernel
theorem b_Tf_close_17 : tf_dec prog_1_method_4_code 17 [(.iconst 1, 1)] = true := by decide +kernel
theorem d_Tf_close_18 : decode prog_1_method_4_code 18 = .ok (.goto 4, 3) := by decide +kernel
theorem b_Tf_close_21 : tf_dec prog_1_method_4_code 21 [(.iconst 0, 1)] = true := by decide +kernel
theorem d_Tf_close_22 : decode prog_1_method_4_code 22 = .ok (.ireturn, 1) := by decide +kernel
theorem b_Tf_place_0 : tf_dec prog_1_method_5_code 0 [(.aload_n 0, 1), (.iload_n 1, 1)] = true := by decide +kernel
theorem d_Tf_place_2 : decode prog_1_method_5_code 2 = .ok (.invokevirtual 81, 3) := by decide +kernel
theorem b_Tf_place_5 : tf_dec prog_1_method_5_code 5 [(.astore 6, 2), (.aload 6, 2)] = true := by decide +kernel
theorem d_Tf_place_9 : decode prog_1_method_5_code 9 = .ok (.ifnull 29, 3) := by decide +kernel
theorem b_Tf_place_12 : tf_dec prog_1_method_5_code 12 [(.iload_n 2, 1), (.iconst 0, 1), (.aload 6, 2)] = true := by decide +kernel
theorem d_Tf_place_16 : decode prog_1_method_5_code 16 = .ok (.getfield 98, 3) := by decide +kernel
theorem b_Tf_place_19 : tf_dec prog_1_method_5_code 19 [(.iconst 1, 1), (.isub, 1)] = true := by decide +kernel
theorem d_Tf_place_21 : decode prog_1_method_5_code 21 = .ok (.invokestatic 111, 3) := by decide +kernel
theorem d_Tf_place_24 : decode prog_1_method_5_code 24 = .ok (.ifCond .eq 14, 3) := by decide +kernel
theorem b_Tf_place_27 : tf_dec prog_1_method_5_code 27 [(.aload_n 0, 1)] = true := by decide +kernel
theorem d_Tf_place_28 : decode prog_1_method_5_code 28 = .ok (.getfield 14, 3) := by decide +kernel
theorem b_Tf_place_31 : tf_dec prog_1_method_5_code 31 [(.iload_n 3, 1)] = true := by decide +kernel
theorem d_Tf_place_32 : decode prog_1_method_5_code 32 = .ok (.invokevirtual 115, 3) := by decide +kernel
theorem d_Tf_place_35 : decode prog_1_method_5_code 35 = .ok (.ifCond .ne 13, 3) := by decide +kernel
theorem d_Tf_place_38 : decode prog_1_method_5_code 38 = .ok (.new 119, 3) := by decide +kernel
theorem b_Tf_place_41 : tf_dec prog_1_method_5_code 41 [(.dup, 1)] = true := by decide +kernel
theorem d_Tf_place_42 : decode prog_1_method_5_code 42 = .ok (.ldc 121, 2) := by decide +kernel
theorem d_Tf_place_44 : decode prog_1_method_5_code 44 = .ok (.invokespecial 123, 3) := by decide +kernel
theorem d_Tf_place_47 : decode prog_1_method_5_code 47 = .ok (.athrow, 1) := by decide +kernel
theorem b_Tf_place_48 : tf_dec prog_1_method_5_code 48 [(.iload 4, 2), (.iload 5, 2)] = true := by decide +kernel
theorem d_Tf_place_52 : decode prog_1_method_5_code 52 = .ok (.invokestatic 85, 3) := by decide +kernel
theorem d_Tf_place_55 : decode prog_1_method_5_code 55 = .ok (.ifCond .ne 13, 3) := by decide +kernel
theorem d_Tf_place_58 : decode prog_1_method_5_code 58 = .ok (.new 89, 3) := by decide +kernel
theorem b_Tf_place_61 : tf_dec prog_1_method_5_code 61 [(.dup, 1)] = true := by decide +kernel
theorem d_Tf_place_62 : decode prog_1_method_5_code 62 = .ok (.ldc 124, 2) := by decide +kernel
theorem d_Tf_place_64 : decode prog_1_method_5_code 64 = .ok (.invokespecial 93, 3) := by decide +kernel
theorem d_Tf_place_67 : decode prog_1_method_5_code 67 = .ok (.athrow, 1) := by decide +kernel
theorem b_Tf_place_68 : tf_dec prog_1_method_5_code 68 [(.aload 6, 2), (.iload_n 2, 1), (.iload_n 3, 1), (.iload 4, 2), (.iload 5, 2)] = true := by decide +kernel
theorem d_Tf_place_76 : decode prog_1_method_5_code 76 = .ok (.invokevirtual 126, 3) := by decide +kernel
theorem d_Tf_place_79 : decode prog_1_method_5_code 79 = .ok (.return_, 1) := by decide +kernel
theorem b_Tf_component_0 : tf_dec prog_1_method_6_code 0 [(.aload_n 0, 1), (.iload_n 1, 1)] = true := by decide +kernel
theorem d_Tf_component_2 : decode prog_1_method_6_code 2 = .ok (.invokevirtual 81, 3) := by decide +kernel
theorem b_Tf_component_5 : tf_dec prog_1_method_6_code 5 [(.astore 6, 2), (.aload_n 0, 1), (.iload_n 2, 1)] = true := by decide +kernel
theorem d_Tf_component_9 : decode prog_1_method_6_code 9 = .ok (.invokevirtual 81, 3) := by decide +kernel
theorem b_Tf_component_12 : tf_dec prog_1_method_6_code 12 [(.astore 7, 2), (.aload 6, 2)] = true := by decide +kernel
theorem d_Tf_component_16 : decode prog_1_method_6_code 16 = .ok (.ifnull 33, 3) := by decide +kernel
theorem b_Tf_component_19 : tf_dec prog_1_method_6_code 19 [(.aload 7, 2)] = true := by decide +kernel
theorem d_Tf_component_21 : decode prog_1_method_6_code 21 = .ok (.ifnull 28, 3) := by decide +kernel
theorem b_Tf_component_24 : tf_dec prog_1_method_6_code 24 [(.iload_n 1, 1), (.iload_n 2, 1)] = true := by decide +kernel
theorem d_Tf_component_26 : decode prog_1_method_6_code 26 = .ok (.if_icmp .eq 23, 3) := by decide +kernel
theorem b_Tf_component_29 : tf_dec prog_1_method_6_code 29 [(.iload_n 3, 1), (.iload 4, 2)] = true := by decide +kernel
theorem d_Tf_component_32 : decode prog_1_method_6_code 32 = .ok (.invokestatic 130, 3) := by decide +kernel
theorem d_Tf_component_35 : decode prog_1_method_6_code 35 = .ok (.ifCond .eq 14, 3) := by decide +kernel
theorem b_Tf_component_38 : tf_dec prog_1_method_6_code 38 [(.iload 5, 2), (.iconst 0, 1), (.bipush 7, 2)] = true := by decide +kernel
theorem d_Tf_component_43 : decode prog_1_method_6_code 43 = .ok (.invokestatic 111, 3) := by decide +kernel
theorem d_Tf_component_46 : decode prog_1_method_6_code 46 = .ok (.ifCond .ne 13, 3) := by decide +kernel
theorem d_Tf_component_49 : decode prog_1_method_6_code 49 = .ok (.new 89, 3) := by decide +kernel
theorem b_Tf_component_52 : tf_dec prog_1_method_6_code 52 [(.dup, 1)] = true := by decide +kernel
theorem d_Tf_component_53 : decode prog_1_method_6_code 53 = .ok (.ldc 133, 2) := by decide +kernel
theorem d_Tf_component_55 : decode prog_1_method_6_code 55 = .ok (.invokespecial 93, 3) := by decide +kernel
theorem d_Tf_component_58 : decode prog_1_method_6_code 58 = .ok (.athrow, 1) := by decide +kernel
theorem b_Tf_component_59 : tf_dec prog_1_method_6_code 59 [(.aload 6, 2), (.aload 7, 2)] = true := by decide +kernel
theorem d_Tf_component_63 : decode prog_1_method_6_code 63 = .ok (.invokevirtual 135, 3) := by decide +kernel
theorem d_Tf_component_66 : decode prog_1_method_6_code 66 = .ok (.ifCond .ne 13, 3) := by decide +kernel
theorem d_Tf_component_69 : decode prog_1_method_6_code 69 = .ok (.new 70, 3) := by decide +kernel
theorem b_Tf_component_72 : tf_dec prog_1_method_6_code 72 [(.dup, 1)] = true := by decide +kernel
theorem d_Tf_component_73 : decode prog_1_method_6_code 73 = .ok (.ldc 139, 2) := by decide +kernel
theorem d_Tf_component_75 : decode prog_1_method_6_code 75 = .ok (.invokespecial 74, 3) := by decide +kernel
theorem d_Tf_component_78 : decode prog_1_method_6_code 78 = .ok (.athrow, 1) := by decide +kernel
theorem b_Tf_component_79 : tf_dec prog_1_method_6_code 79 [(.aload 6, 2)] = true := by decide +kernel
theorem d_Tf_component_81 : decode prog_1_method_6_code 81 = .ok (.new 141, 3) := by decide +kernel
theorem b_Tf_component_84 : tf_dec prog_1_method_6_code 84 [(.dup, 1), (.aload 7, 2), (.iload_n 3, 1), (.iload 4, 2), (.iload 5, 2)] = true := by decide +kernel
theorem d_Tf_component_92 : decode prog_1_method_6_code 92 = .ok (.invokespecial 143, 3) := by decide +kernel
theorem d_Tf_component_95 : decode prog_1_method_6_code 95 = .ok (.invokevirtual 146, 3) := by decide +kernel
theorem d_Tf_component_98 : decode prog_1_method_6_code 98 = .ok (.return_, 1) := by decide +kernel
theorem b_Tf_advance_0 : tf_dec prog_1_method_7_code 0 [(.aload_n 0, 1), (.iload_n 1, 1)] = true := by decide +kernel
theorem d_Tf_advance_2 : decode prog_1_method_7_code 2 = .ok (.invokevirtual 81, 3) := by decide +kernel
theorem b_Tf_advance_5 : tf_dec prog_1_method_7_code 5 [(.astore 4, 2), (.aload 4, 2)] = true := by decide +kernel
theorem d_Tf_advance_9 : decode prog_1_method_7_code 9 = .ok (.ifnull 25, 3) := by decide +kernel
theorem b_Tf_advance_12 : tf_dec prog_1_method_7_code 12 [(.aload_n 0, 1)] = true := by decide +kernel
theorem d_Tf_advance_13 : decode prog_1_method_7_code 13 = .ok (.getfield 14, 3) := by decide +kernel
theorem b_Tf_advance_16 : tf_dec prog_1_method_7_code 16 [(.iload_n 2, 1)] = true := by decide +kernel
theorem d_Tf_advance_17 : decode prog_1_method_7_code 17 = .ok (.invokevirtual 115, 3) := by decide +kernel
theorem d_Tf_advance_20 : decode prog_1_method_7_code 20 = .ok (.ifCond .eq 14, 3) := by decide +kernel
theorem b_Tf_advance_23 : tf_dec prog_1_method_7_code 23 [(.iload_n 3, 1), (.iconst 0, 1), (.sipush 4000, 3)] = true := by decide +kernel
theorem d_Tf_advance_28 : decode prog_1_method_7_code 28 = .ok (.invokestatic 111, 3) := by decide +kernel
theorem d_Tf_advance_31 : decode prog_1_method_7_code 31 = .ok (.ifCond .ne 5, 3) := by decide +kernel
theorem b_Tf_advance_34 : tf_dec prog_1_method_7_code 34 [(.iconst 0, 1)] = true := by decide +kernel
theorem d_Tf_advance_35 : decode prog_1_method_7_code 35 = .ok (.ireturn, 1) := by decide +kernel
theorem b_Tf_advance_36 : tf_dec prog_1_method_7_code 36 [(.aload 4, 2)] = true := by decide +kernel
theorem d_Tf_advance_38 : decode prog_1_method_7_code 38 = .ok (.getfield 150, 3) := by decide +kernel
theorem b_Tf_advance_41 : tf_dec prog_1_method_7_code 41 [(.iload_n 2, 1), (.iload_n 3, 1)] = true := by decide +kernel
theorem d_Tf_advance_43 : decode prog_1_method_7_code 43 = .ok (.iastore, 1) := by decide +kernel
theorem b_Tf_advance_44 : tf_dec prog_1_method_7_code 44 [(.iconst 1, 1)] = true := by decide +kernel
theorem d_Tf_advance_45 : decode prog_1_method_7_code 45 = .ok (.ireturn, 1) := by decide +kernel
theorem b_Tf_instance_0 : tf_dec prog_1_method_8_code 0 [(.iload_n 1, 1), (.iconst 0, 1), (.sipush 1024, 3)] = true := by decide +kernel
theorem d_Tf_instance_5 : decode prog_1_method_8_code 5 = .ok (.invokestatic 111, 3) := by decide +kernel
theorem d_Tf_instance_8 : decode prog_1_method_8_code 8 = .ok (.ifCond .eq 14, 3) := by decide +kernel
theorem b_Tf_instance_11 : tf_dec prog_1_method_8_code 11 [(.iload_n 2, 1), (.iconst 0, 1), (.sipush 1024, 3)] = true := by decide +kernel
theorem d_Tf_instance_16 : decode prog_1_method_8_code 16 = .ok (.invokestatic 111, 3) := by decide +kernel
theorem d_Tf_instance_19 : decode prog_1_method_8_code 19 = .ok (.ifCond .ne 5, 3) := by decide +kernel
theorem b_Tf_instance_22 : tf_dec prog_1_method_8_code 22 [(.iconst 0, 1)] = true := by decide +kernel
theorem d_Tf_instance_23 : decode prog_1_method_8_code 23 = .ok (.ireturn, 1) := by decide +kernel
theorem b_Tf_instance_24 : tf_dec prog_1_method_8_code 24 [(.aload_n 0, 1)] = true := by decide +kernel
theorem d_Tf_instance_25 : decode prog_1_method_8_code 25 = .ok (.getfield 14, 3) := by decide +kernel
theorem b_Tf_instance_28 : tf_dec prog_1_method_8_code 28 [(.iload_n 1, 1), (.iload_n 2, 1)] = true := by decide +kernel
theorem d_Tf_instance_30 : decode prog_1_method_8_code 30 = .ok (.invokevirtual 154, 3) := by decide +kernel
theorem b_Tf_instance_33 : tf_dec prog_1_method_8_code 33 [(.iconst 1, 1)] = true := by decide +kernel
theorem d_Tf_instance_34 : decode prog_1_method_8_code 34 = .ok (.ireturn, 1) := by decide +kernel
theorem b_Tf_outline_0 : tf_dec prog_1_method_9_code 0 [(.aload_n 0, 1), (.iload_n 1, 1)] = true := by decide +kernel
theorem d_Tf_outline_2 : decode prog_1_method_9_code 2 = .ok (.invokevirtual 81, 3) := by decide +kernel
theorem b_Tf_outline_5 : tf_dec prog_1_method_9_code 5 [(.astore 4, 2), (.aload 4, 2)] = true := by decide +kernel
theorem d_Tf_outline_9 : decode prog_1_method_9_code 9 = .ok (.ifnull 27, 3) := by decide +kernel
theorem b_Tf_outline_12 : tf_dec prog_1_method_9_code 12 [(.iload_n 3, 1), (.iconst 0, 1), (.iconst 3, 1)] = true := by decide +kernel
theorem d_Tf_outline_15 : decode prog_1_method_9_code 15 = .ok (.invokestatic 111, 3) := by decide +kernel
theorem d_Tf_outline_18 : decode prog_1_method_9_code 18 = .ok (.ifCond .eq 18, 3) := by decide +kernel
theorem b_Tf_outline_21 : tf_dec prog_1_method_9_code 21 [(.iload_n 2, 1), (.iconst (-1), 1), (.aload 4, 2)] = true := by decide +kernel
theorem d_Tf_outline_25 : decode prog_1_method_9_code 25 = .ok (.invokevirtual 158, 3) := by decide +kernel
theorem b_Tf_outline_28 : tf_dec prog_1_method_9_code 28 [(.iconst 1, 1), (.isub, 1)] = true := by decide +kernel
theorem d_Tf_outline_30 : decode prog_1_method_9_code 30 = .ok (.invokestatic 111, 3) := by decide +kernel
theorem d_Tf_outline_33 : decode prog_1_method_9_code 33 = .ok (.ifCond .ne 13, 3) := by decide +kernel
theorem d_Tf_outline_36 : decode prog_1_method_9_code 36 = .ok (.new 119, 3) := by decide +kernel
theorem b_Tf_outline_39 : tf_dec prog_1_method_9_code 39 [(.dup, 1)] = true := by decide +kernel
theorem d_Tf_outline_40 : decode prog_1_method_9_code 40 = .ok (.ldc 162, 2) := by decide +kernel
theorem d_Tf_outline_42 : decode prog_1_method_9_code 42 = .ok (.invokespecial 123, 3) := by decide +kernel
theorem d_Tf_outline_45 : decode prog_1_method_9_code 45 = .ok (.athrow, 1) := by decide +kernel
theorem b_Tf_outline_46 : tf_dec prog_1_method_9_code 46 [(.iload_n 2, 1), (.iconst (-1), 1)] = true := by decide +kernel
theorem d_Tf_outline_48 : decode prog_1_method_9_code 48 = .ok (.if_icmp .ne 11, 3) := by decide +kernel
theorem b_Tf_outline_51 : tf_dec prog_1_method_9_code 51 [(.aload_n 0, 1), (.aload 4, 2), (.iload_n 3, 1)] = true := by decide +kernel
theorem d_Tf_outline_55 : decode prog_1_method_9_code 55 = .ok (.invokevirtual 164, 3) := by decide +kernel
theorem d_Tf_outline_58 : decode prog_1_method_9_code 58 = .ok (.ireturn, 1) := by decide +kernel
theorem b_Tf_outline_59 : tf_dec prog_1_method_9_code 59 [(.aload_n 0, 1)] = true := by decide +kernel
theorem d_Tf_outline_60 : decode prog_1_method_9_code 60 = .ok (.getfield 27, 3) := by decide +kernel
theorem b_Tf_outline_63 : tf_dec prog_1_method_9_code 63 [(.aload 4, 2), (.aload_n 0, 1)] = true := by decide +kernel
theorem d_Tf_outline_66 : decode prog_1_method_9_code 66 = .ok (.getfield 14, 3) := by decide +kernel
theorem d_Tf_outline_69 : decode prog_1_method_9_code 69 = .ok (.invokevirtual 168, 3) := by decide +kernel
theorem b_Tf_outline_72 : tf_dec prog_1_method_9_code 72 [(.aload_n 0, 1)] = true := by decide +kernel
theorem d_Tf_outline_73 : decode prog_1_method_9_code 73 = .ok (.getfield 27, 3) := by decide +kernel
theorem b_Tf_outline_76 : tf_dec prog_1_method_9_code 76 [(.iload_n 2, 1), (.iload_n 3, 1)] = true := by decide +kernel
theorem d_Tf_outline_78 : decode prog_1_method_9_code 78 = .ok (.invokevirtual 172, 3) := by decide +kernel
theorem d_Tf_outline_81 : decode prog_1_method_9_code 81 = .ok (.ireturn, 1) := by decide +kernel
theorem b_Tf_height_0 : tf_dec prog_1_method_10_code 0 [(.iload_n 1, 1), (.sipush (-2000), 3), (.sipush 4000, 3)] = true := by decide +kernel
theorem d_Tf_height_7 : decode prog_1_method_10_code 7 = .ok (.invokestatic 111, 3) := by decide +kernel
theorem d_Tf_height_10 : decode prog_1_method_10_code 10 = .ok (.ifCond .eq 18, 3) := by decide +kernel
theorem b_Tf_height_13 : tf_dec prog_1_method_10_code 13 [(.aload_n 0, 1)] = true := by decide +kernel
theorem d_Tf_height_14 : decode prog_1_method_10_code 14 = .ok (.getfield 41, 3) := by decide +kernel
theorem b_Tf_height_17 : tf_dec prog_1_method_10_code 17 [(.iload_n 1, 1)] = true := by decide +kernel
theorem d_Tf_height_18 : decode prog_1_method_10_code 18 = .ok (.invokevirtual 176, 3) := by decide +kernel
theorem d_Tf_height_21 : decode prog_1_method_10_code 21 = .ok (.ifCond .eq 7, 3) := by decide +kernel
theorem b_Tf_height_24 : tf_dec prog_1_method_10_code 24 [(.iconst 1, 1)] = true := by decide +kernel
theorem d_Tf_height_25 : decode prog_1_method_10_code 25 = .ok (.goto 4, 3) := by decide +kernel
theorem b_Tf_height_28 : tf_dec prog_1_method_10_code 28 [(.iconst 0, 1)] = true := by decide +kernel
theorem d_Tf_height_29 : decode prog_1_method_10_code 29 = .ok (.ireturn, 1) := by decide +kernel
theorem b_Tf_draw_0 : tf_dec prog_1_method_11_code 0 [(.aload_n 0, 1), (.iload_n 1, 1)] = true := by decide +kernel
theorem d_Tf_draw_2 : decode prog_1_method_11_code 2 = .ok (.invokevirtual 81, 3) := by decide +kernel
theorem b_Tf_draw_5 : tf_dec prog_1_method_11_code 5 [(.astore 4, 2), (.aload 4, 2)] = true := by decide +kernel
theorem d_Tf_draw_9 : decode prog_1_method_11_code 9 = .ok (.ifnull 10, 3) := by decide +kernel
theorem b_Tf_draw_12 : tf_dec prog_1_method_11_code 12 [(.iload_n 2, 1)] = true := by decide +kernel
theorem d_Tf_draw_13 : decode prog_1_method_11_code 13 = .ok (.invokestatic 179, 3) := by decide +kernel
theorem d_Tf_draw_16 : decode prog_1_method_11_code 16 = .ok (.ifCond .ne 13, 3) := by decide +kernel
theorem d_Tf_draw_19 : decode prog_1_method_11_code 19 = .ok (.new 89, 3) := by decide +kernel
theorem b_Tf_draw_22 : tf_dec prog_1_method_11_code 22 [(.dup, 1)] = true := by decide +kernel
theorem d_Tf_draw_23 : decode prog_1_method_11_code 23 = .ok (.ldc 182, 2) := by decide +kernel
theorem d_Tf_draw_25 : decode prog_1_method_11_code 25 = .ok (.invokespecial 93, 3) := by decide +kernel
theorem d_Tf_draw_28 : decode prog_1_method_11_code 28 = .ok (.athrow, 1) := by decide +kernel
theorem b_Tf_draw_29 : tf_dec prog_1_method_11_code 29 [(.aload_n 0, 1)] = true := by decide +kernel
theorem d_Tf_draw_30 : decode prog_1_method_11_code 30 = .ok (.getfield 27, 3) := by decide +kernel
theorem b_Tf_draw_33 : tf_dec prog_1_method_11_code 33 [(.aload 4, 2), (.aload_n 0, 1)] = true := by decide +kernel
theorem d_Tf_draw_36 : decode prog_1_method_11_code 36 = .ok (.getfield 14, 3) := by decide +kernel
theorem d_Tf_draw_39 : decode prog_1_method_11_code 39 = .ok (.invokevirtual 168, 3) := by decide +kernel
theorem b_Tf_draw_42 : tf_dec prog_1_method_11_code 42 [(.aload_n 0, 1)] = true := by decide +kernel
theorem d_Tf_draw_43 : decode prog_1_method_11_code 43 = .ok (.getfield 48, 3) := by decide +kernel
theorem b_Tf_draw_46 : tf_dec prog_1_method_11_code 46 [(.iload_n 2, 1)] = true := by decide +kernel
theorem d_Tf_draw_47 : decode prog_1_method_11_code 47 = .ok (.invokevirtual 184, 3) := by decide +kernel
theorem b_Tf_draw_50 : tf_dec prog_1_method_11_code 50 [(.iconst 0, 1), (.istore 5, 2)] = true := by decide +kernel
theorem b_Tf_draw_53 : tf_dec prog_1_method_11_code 53 [(.iload 5, 2), (.aload_n 0, 1)] = true := by decide +kernel
theorem d_Tf_draw_56 : decode prog_1_method_11_code 56 = .ok (.getfield 27, 3) := by decide +kernel
theorem d_Tf_draw_59 : decode prog_1_method_11_code 59 = .ok (.getfield 187, 3) := by decide +kernel
theorem d_Tf_draw_62 : decode prog_1_method_11_code 62 = .ok (.if_icmp .ge 49, 3) := by decide +kernel
theorem b_Tf_draw_65 : tf_dec prog_1_method_11_code 65 [(.aload_n 0, 1)] = true := by decide +kernel
theorem d_Tf_draw_66 : decode prog_1_method_11_code 66 = .ok (.getfield 34, 3) := by decide +kernel
theorem b_Tf_draw_69 : tf_dec prog_1_method_11_code 69 [(.aload_n 0, 1)] = true := by decide +kernel
theorem d_Tf_draw_70 : decode prog_1_method_11_code 70 = .ok (.getfield 27, 3) := by decide +kernel
theorem b_Tf_draw_73 : tf_dec prog_1_method_11_code 73 [(.iload 5, 2)] = true := by decide +kernel
theorem d_Tf_draw_75 : decode prog_1_method_11_code 75 = .ok (.invokevirtual 190, 3) := by decide +kernel
theorem b_Tf_draw_78 : tf_dec prog_1_method_11_code 78 [(.iload_n 3, 1)] = true := by decide +kernel
theorem d_Tf_draw_79 : decode prog_1_method_11_code 79 = .ok (.ifCond .eq 15, 3) := by decide +kernel
theorem b_Tf_draw_82 : tf_dec prog_1_method_11_code 82 [(.aload_n 0, 1)] = true := by decide +kernel
theorem d_Tf_draw_83 : decode prog_1_method_11_code 83 = .ok (.getfield 34, 3) := by decide +kernel
theorem b_Tf_draw_86 : tf_dec prog_1_method_11_code 86 [(.aload_n 0, 1)] = true := by decide +kernel
theorem d_Tf_draw_87 : decode prog_1_method_11_code 87 = .ok (.getfield 41, 3) := by decide +kernel
theorem b_Tf_draw_90 : tf_dec prog_1_method_11_code 90 [(.iload_n 2, 1)] = true := by decide +kernel
theorem d_Tf_draw_91 : decode prog_1_method_11_code 91 = .ok (.invokevirtual 194, 3) := by decide +kernel
theorem b_Tf_draw_94 : tf_dec prog_1_method_11_code 94 [(.aload_n 0, 1)] = true := by decide +kernel
theorem d_Tf_draw_95 : decode prog_1_method_11_code 95 = .ok (.getfield 48, 3) := by decide +kernel
theorem b_Tf_draw_98 : tf_dec prog_1_method_11_code 98 [(.aload_n 0, 1)] = true := by decide +kernel
theorem d_Tf_draw_99 : decode prog_1_method_11_code 99 = .ok (.getfield 34, 3) := by decide +kernel
theorem d_Tf_draw_102 : decode prog_1_method_11_code 102 = .ok (.invokevirtual 198, 3) := by decide +kernel
theorem b_Tf_draw_105 : tf_dec prog_1_method_11_code 105 [(.iinc 5 1, 3)] = true := by decide +kernel
theorem d_Tf_draw_108 : decode prog_1_method_11_code 108 = .ok (.goto (-55), 3) := by decide +kernel
theorem b_Tf_draw_111 : tf_dec prog_1_method_11_code 111 [(.aload_n 0, 1)] = true := by decide +kernel
theorem d_Tf_draw_112 : decode prog_1_method_11_code 112 = .ok (.getfield 48, 3) := by decide +kernel
theorem d_Tf_draw_115 : decode prog_1_method_11_code 115 = .ok (.invokevirtual 202, 3) := by decide +kernel
theorem d_Tf_draw_118 : decode prog_1_method_11_code 118 = .ok (.ireturn, 1) := by decide +kernel
theorem b_Tf_pixel_0 : tf_dec prog_1_method_12_code 0 [(.aload_n 0, 1)] = true := by decide +kernel
theorem d_Tf_pixel_1 : decode prog_1_method_12_code 1 = .ok (.getfield 48, 3) := by decide +kernel
theorem b_Tf_pixel_4 : tf_dec prog_1_method_12_code 4 [(.iload_n 1, 1), (.iload_n 2, 1)] = true := by decide +kernel
theorem d_Tf_pixel_6 : decode prog_1_method_12_code 6 = .ok (.invokevirtual 205, 3) := by decide +kernel
theorem d_Tf_pixel_9 : decode prog_1_method_12_code 9 = .ok (.ireturn, 1) := by decide +kernel
theorem b_Tf_sort_0 : tf_dec prog_1_method_13_code 0 [(.iload_n 1, 1), (.iconst 0, 1), (.iconst 1, 1)] = true := by decide +kernel
theorem d_Tf_sort_3 : decode prog_1_method_13_code 3 = .ok (.invokestatic 111, 3) := by decide +kernel
theorem d_Tf_sort_6 : decode prog_1_method_13_code 6 = .ok (.ifCond .eq 21, 3) := by decide +kernel
theorem b_Tf_sort_9 : tf_dec prog_1_method_13_code 9 [(.aload_n 0, 1), (.iload_n 2, 1)] = true := by decide +kernel
theorem d_Tf_sort_11 : decode prog_1_method_13_code 11 = .ok (.invokevirtual 81, 3) := by decide +kernel
theorem d_Tf_sort_14 : decode prog_1_method_13_code 14 = .ok (.ifnull 13, 3) := by decide +kernel
theorem b_Tf_sort_17 : tf_dec prog_1_method_13_code 17 [(.iload_n 3, 1), (.iconst 0, 1), (.bipush 15, 2)] = true := by decide +kernel
theorem d_Tf_sort_21 : decode prog_1_method_13_code 21 = .ok (.invokestatic 111, 3) := by decide +kernel
theorem d_Tf_sort_24 : decode prog_1_method_13_code 24 = .ok (.ifCond .ne 5, 3) := by decide +kernel
theorem b_Tf_sort_27 : tf_dec prog_1_method_13_code 27 [(.iconst 0, 1)] = true := by decide +kernel
theorem d_Tf_sort_28 : decode prog_1_method_13_code 28 = .ok (.ireturn, 1) := by decide +kernel
theorem b_Tf_sort_29 : tf_dec prog_1_method_13_code 29 [(.aload_n 0, 1)] = true := by decide +kernel
theorem d_Tf_sort_30 : decode prog_1_method_13_code 30 = .ok (.getfield 55, 3) := by decide +kernel
theorem b_Tf_sort_33 : tf_dec prog_1_method_13_code 33 [(.iload_n 1, 1), (.iload_n 2, 1), (.iload_n 3, 1)] = true := by decide +kernel
theorem d_Tf_sort_36 : decode prog_1_method_13_code 36 = .ok (.invokevirtual 208, 3) := by decide +kernel
theorem b_Tf_sort_39 : tf_dec prog_1_method_13_code 39 [(.iconst 1, 1)] = true := by decide +kernel
theorem d_Tf_sort_40 : decode prog_1_method_13_code 40 = .ok (.ireturn, 1) := by decide +kernel
theorem b_Tf_kern_0 : tf_dec prog_1_method_14_code 0 [(.iload_n 1, 1), (.iconst 1, 1), (.bipush 15, 2)] = true := by decide +kernel
theorem d_Tf_kern_4 : decode prog_1_method_14_code 4 = .ok (.invokestatic 111, 3) := by decide +kernel
theorem d_Tf_kern_7 : decode prog_1_method_14_code 7 = .ok (.ifCond .eq 20, 3) := by decide +kernel
theorem b_Tf_kern_10 : tf_dec prog_1_method_14_code 10 [(.iload_n 2, 1), (.iconst 1, 1), (.bipush 15, 2)] = true := by decide +kernel
theorem d_Tf_kern_14 : decode prog_1_method_14_code 14 = .ok (.invokestatic 111, 3) := by decide +kernel
theorem d_Tf_kern_17 : decode prog_1_method_14_code 17 = .ok (.ifCond .eq 10, 3) := by decide +kernel
theorem b_Tf_kern_20 : tf_dec prog_1_method_14_code 20 [(.iload_n 3, 1)] = true := by decide +kernel
theorem d_Tf_kern_21 : decode prog_1_method_14_code 21 = .ok (.invokestatic 212, 3) := by decide +kernel
theorem d_Tf_kern_24 : decode prog_1_method_14_code 24 = .ok (.ifCond .ne 5, 3) := by decide +kernel
theorem b_Tf_kern_27 : tf_dec prog_1_method_14_code 27 [(.iconst 0, 1)] = true := by decide +kernel
theorem d_Tf_kern_28 : decode prog_1_method_14_code 28 = .ok (.ireturn, 1) := by decide +kernel
theorem b_Tf_kern_29 : tf_dec prog_1_method_14_code 29 [(.aload_n 0, 1)] = true := by decide +kernel
theorem d_Tf_kern_30 : decode prog_1_method_14_code 30 = .ok (.getfield 55, 3) := by decide +kernel
theorem b_Tf_kern_33 : tf_dec prog_1_method_14_code 33 [(.iload_n 1, 1), (.iload_n 2, 1), (.iload_n 3, 1)] = true := by decide +kernel
theorem d_Tf_kern_36 : decode prog_1_method_14_code 36 = .ok (.invokevirtual 215, 3) := by decide +kernel
theorem b_Tf_kern_39 : tf_dec prog_1_method_14_code 39 [(.iconst 1, 1)] = true := by decide +kernel
theorem d_Tf_kern_40 : decode prog_1_method_14_code 40 = .ok (.ireturn, 1) := by decide +kernel
theorem b_Tf_pair_0 : tf_dec prog_1_method_15_code 0 [(.aload_n 0, 1), (.iload_n 1, 1)] = true := by decide +kernel
theorem d_Tf_pair_2 : decode prog_1_method_15_code 2 = .ok (.invokevirtual 81, 3) := by decide +kernel
theorem d_Tf_pair_5 : decode prog_1_method_15_code 5 = .ok (.ifnull 35, 3) := by decide +kernel
theorem b_Tf_pair_8 : tf_dec prog_1_method_15_code 8 [(.aload_n 0, 1), (.iload_n 2, 1)] = true := by decide +kernel
theorem d_Tf_pair_10 : decode prog_1_method_15_code 10 = .ok (.invokevirtual 81, 3) := by decide +kernel
theorem d_Tf_pair_13 : decode prog_1_method_15_code 13 = .ok (.ifnull 27, 3) := by decide +kernel
theorem b_Tf_pair_16 : tf_dec prog_1_method_15_code 16 [(.iload_n 3, 1)] = true := by decide +kernel
theorem d_Tf_pair_17 : decode prog_1_method_15_code 17 = .ok (.invokestatic 212, 3) := by decide +kernel
theorem d_Tf_pair_20 : decode prog_1_method_15_code 20 = .ok (.ifCond .eq 20, 3) := by decide +kernel
theorem b_Tf_pair_23 : tf_dec prog_1_method_15_code 23 [(.aload_n 0, 1)] = true := by decide +kernel
theorem d_Tf_pair_24 : decode prog_1_method_15_code 24 = .ok (.getfield 55, 3) := by decide +kernel
theorem b_Tf_pair_27 : tf_dec prog_1_method_15_code 27 [(.iload_n 1, 1), (.iload_n 2, 1), (.iload_n 3, 1)] = true := by decide +kernel
theorem d_Tf_pair_30 : decode prog_1_method_15_code 30 = .ok (.invokevirtual 218, 3) := by decide +kernel
theorem d_Tf_pair_33 : decode prog_1_method_15_code 33 = .ok (.ifCond .eq 7, 3) := by decide +kernel
theorem b_Tf_pair_36 : tf_dec prog_1_method_15_code 36 [(.iconst 1, 1)] = true := by decide +kernel
theorem d_Tf_pair_37 : decode prog_1_method_15_code 37 = .ok (.goto 4, 3) := by decide +kernel
theorem b_Tf_pair_40 : tf_dec prog_1_method_15_code 40 [(.iconst 0, 1)] = true := by decide +kernel
theorem d_Tf_pair_41 : decode prog_1_method_15_code 41 = .ok (.ireturn, 1) := by decide +kernel
theorem d_Tf_rule_0 : decode prog_1_method_16_code 0 = .ok (.new 221, 3) := by decide +kernel
theorem b_Tf_rule_3 : tf_dec prog_1_method_16_code 3 [(.dup, 1), (.iload_n 1, 1), (.lload_n 2, 1), (.lload 4, 2), (.lload 6, 2), (.iload 8, 2)] = true := by decide +kernel
theorem d_Tf_rule_12 : decode prog_1_method_16_code 12 = .ok (.invokespecial 223, 3) := by decide +kernel
theorem b_Tf_rule_15 : tf_dec prog_1_method_16_code 15 [(.astore 9, 2), (.iload_n 1, 1), (.iconst 0, 1), (.bipush 7, 2)] = true := by decide +kernel
theorem d_Tf_rule_21 : decode prog_1_method_16_code 21 = .ok (.invokestatic 111, 3) := by decide +kernel
theorem d_Tf_rule_24 : decode prog_1_method_16_code 24 = .ok (.ifCond .eq 15, 3) := by decide +kernel
theorem b_Tf_rule_27 : tf_dec prog_1_method_16_code 27 [(.aload 9, 2), (.aload_n 0, 1)] = true := by decide +kernel
theorem d_Tf_rule_30 : decode prog_1_method_16_code 30 = .ok (.getfield 66, 3) := by decide +kernel
theorem d_Tf_rule_33 : decode prog_1_method_16_code 33 = .ok (.invokevirtual 226, 3) := by decide +kernel
theorem d_Tf_rule_36 : decode prog_1_method_16_code 36 = .ok (.ifCond .ne 13, 3) := by decide +kernel
theorem d_Tf_rule_39 : decode prog_1_method_16_code 39 = .ok (.new 89, 3) := by decide +kernel
theorem b_Tf_rule_42 : tf_dec prog_1_method_16_code 42 [(.dup, 1)] = true := by decide +kernel
theorem d_Tf_rule_43 : decode prog_1_method_16_code 43 = .ok (.ldc 229, 2) := by decide +kernel
theorem d_Tf_rule_45 : decode prog_1_method_16_code 45 = .ok (.invokespecial 93, 3) := by decide +kernel
theorem d_Tf_rule_48 : decode prog_1_method_16_code 48 = .ok (.athrow, 1) := by decide +kernel
theorem b_Tf_rule_49 : tf_dec prog_1_method_16_code 49 [(.aload_n 0, 1)] = true := by decide +kernel
theorem d_Tf_rule_50 : decode prog_1_method_16_code 50 = .ok (.getfield 62, 3) := by decide +kernel
theorem d_Tf_rule_53 : decode prog_1_method_16_code 53 = .ok (.getfield 231, 3) := by decide +kernel
theorem b_Tf_rule_56 : tf_dec prog_1_method_16_code 56 [(.bipush 40, 2)] = true := by decide +kernel
theorem d_Tf_rule_58 : decode prog_1_method_16_code 58 = .ok (.if_icmp .lt 13, 3) := by decide +kernel
theorem d_Tf_rule_61 : decode prog_1_method_16_code 61 = .ok (.new 70, 3) := by decide +kernel
theorem b_Tf_rule_64 : tf_dec prog_1_method_16_code 64 [(.dup, 1)] = true := by decide +kernel
theorem d_Tf_rule_65 : decode prog_1_method_16_code 65 = .ok (.ldc 234, 2) := by decide +kernel
theorem d_Tf_rule_67 : decode prog_1_method_16_code 67 = .ok (.invokespecial 74, 3) := by decide +kernel
theorem d_Tf_rule_70 : decode prog_1_method_16_code 70 = .ok (.athrow, 1) := by decide +kernel
theorem b_Tf_rule_71 : tf_dec prog_1_method_16_code 71 [(.aload_n 0, 1)] = true := by decide +kernel
theorem d_Tf_rule_72 : decode prog_1_method_16_code 72 = .ok (.getfield 62, 3) := by decide +kernel
theorem b_Tf_rule_75 : tf_dec prog_1_method_16_code 75 [(.aload 9, 2)] = true := by decide +kernel
theorem d_Tf_rule_77 : decode prog_1_method_16_code 77 = .ok (.invokevirtual 236, 3) := by decide +kernel
theorem d_Tf_rule_80 : decode prog_1_method_16_code 80 = .ok (.ireturn, 1) := by decide +kernel
theorem b_Tf_type_0 : tf_dec prog_1_method_17_code 0 [(.aload_n 0, 1), (.iload_n 1, 1)] = true := by decide +kernel
theorem d_Tf_type_2 : decode prog_1_method_17_code 2 = .ok (.invokevirtual 81, 3) := by decide +kernel
theorem d_Tf_type_5 : decode prog_1_method_17_code 5 = .ok (.ifnull 18, 3) := by decide +kernel
theorem b_Tf_type_8 : tf_dec prog_1_method_17_code 8 [(.aload_n 0, 1)] = true := by decide +kernel
theorem d_Tf_type_9 : decode prog_1_method_17_code 9 = .ok (.getfield 62, 3) := by decide +kernel
theorem b_Tf_type_12 : tf_dec prog_1_method_17_code 12 [(.iload_n 1, 1)] = true := by decide +kernel
theorem d_Tf_type_13 : decode prog_1_method_17_code 13 = .ok (.invokevirtual 240, 3) := by decide +kernel
theorem d_Tf_type_16 : decode prog_1_method_17_code 16 = .ok (.ifCond .eq 7, 3) := by decide +kernel
theorem b_Tf_type_19 : tf_dec prog_1_method_17_code 19 [(.iconst 1, 1)] = true := by decide +kernel
theorem d_Tf_type_20 : decode prog_1_method_17_code 20 = .ok (.goto 4, 3) := by decide +kernel
theorem b_Tf_type_23 : tf_dec prog_1_method_17_code 23 [(.iconst 0, 1)] = true := by decide +kernel
theorem d_Tf_type_24 : decode prog_1_method_17_code 24 = .ok (.ireturn, 1) := by decide +kernel
theorem b_Tf_shape_0 : tf_dec prog_1_method_18_code 0 [(.aload_n 0, 1)] = true := by decide +kernel
theorem d_Tf_shape_1 : decode prog_1_method_18_code 1 = .ok (.getfield 62, 3) := by decide +kernel
theorem d_Tf_shape_4 : decode prog_1_method_18_code 4 = .ok (.invokevirtual 243, 3) := by decide +kernel
theorem d_Tf_shape_7 : decode prog_1_method_18_code 7 = .ok (.ireturn, 1) := by decide +kernel
theorem b_Tf_shaped_0 : tf_dec prog_1_method_19_code 0 [(.iload_n 2, 1)] = true := by decide +kernel
theorem d_Tf_shaped_1 : decode prog_1_method_19_code 1 = .ok (.ifCond .ne 30, 3) := by decide +kernel
theorem b_Tf_shaped_4 : tf_dec prog_1_method_19_code 4 [(.iload_n 1, 1), (.iconst 0, 1), (.aload_n 0, 1)] = true := by decide +kernel
theorem d_Tf_shaped_7 : decode prog_1_method_19_code 7 = .ok (.getfield 62, 3) := by decide +kernel
theorem d_Tf_shaped_10 : decode prog_1_method_19_code 10 = .ok (.getfield 246, 3) := by decide +kernel
theorem b_Tf_shaped_13 : tf_dec prog_1_method_19_code 13 [(.iconst 1, 1), (.isub, 1)] = true := by decide +kernel
theorem d_Tf_shaped_15 : decode prog_1_method_19_code 15 = .ok (.invokestatic 111, 3) := by decide +kernel
theorem d_Tf_shaped_18 : decode prog_1_method_19_code 18 = .ok (.ifCond .eq 13, 3) := by decide +kernel
theorem b_Tf_shaped_21 : tf_dec prog_1_method_19_code 21 [(.aload_n 0, 1)] = true := by decide +kernel
theorem d_Tf_shaped_22 : decode prog_1_method_19_code 22 = .ok (.getfield 62, 3) := by decide +kernel
theorem d_Tf_shaped_25 : decode prog_1_method_19_code 25 = .ok (.getfield 249, 3) := by decide +kernel
theorem b_Tf_shaped_28 : tf_dec prog_1_method_19_code 28 [(.iload_n 1, 1)] = true := by decide +kernel
theorem d_Tf_shaped_29 : decode prog_1_method_19_code 29 = .ok (.iaload, 1) := by decide +kernel
theorem d_Tf_shaped_30 : decode prog_1_method_19_code 30 = .ok (.ireturn, 1) := by decide +kernel
theorem b_Tf_shaped_31 : tf_dec prog_1_method_19_code 31 [(.iload_n 2, 1), (.iconst 1, 1)] = true := by decide +kernel
theorem d_Tf_shaped_33 : decode prog_1_method_19_code 33 = .ok (.if_icmp .ne 24, 3) := by decide +kernel
theorem b_Tf_shaped_36 : tf_dec prog_1_method_19_code 36 [(.iload_n 1, 1), (.iconst 0, 1), (.aload_n 0, 1)] = true := by decide +kernel
theorem d_Tf_shaped_39 : decode prog_1_method_19_code 39 = .ok (.getfield 62, 3) := by decide +kernel
theorem d_Tf_shaped_42 : decode prog_1_method_19_code 42 = .ok (.getfield 246, 3) := by decide +kernel
theorem d_Tf_shaped_45 : decode prog_1_method_19_code 45 = .ok (.invokestatic 111, 3) := by decide +kernel
theorem d_Tf_shaped_48 : decode prog_1_method_19_code 48 = .ok (.ifCond .eq 9, 3) := by decide +kernel
theorem b_Tf_shaped_51 : tf_dec prog_1_method_19_code 51 [(.aload_n 0, 1), (.iload_n 1, 1)] = true := by decide +kernel
theorem d_Tf_shaped_53 : decode prog_1_method_19_code 53 = .ok (.invokevirtual 252, 3) := by decide +kernel
theorem d_Tf_shaped_56 : decode prog_1_method_19_code 56 = .ok (.ireturn, 1) := by decide +kernel
theorem d_Tf_shaped_57 : decode prog_1_method_19_code 57 = .ok (.new 119, 3) := by decide +kernel
theorem b_Tf_shaped_60 : tf_dec prog_1_method_19_code 60 [(.dup, 1)] = true := by decide +kernel
theorem d_Tf_shaped_61 : decode prog_1_method_19_code 61 = .ok (.ldc_w 256, 3) := by decide +kernel
theorem d_Tf_shaped_64 : decode prog_1_method_19_code 64 = .ok (.invokespecial 123, 3) := by decide +kernel
theorem d_Tf_shaped_67 : decode prog_1_method_19_code 67 = .ok (.athrow, 1) := by decide +kernel
theorem b_Tf_count_0 : tf_dec prog_1_method_20_code 0 [(.iload_n 1, 1)] = true := by decide +kernel
theorem d_Tf_count_1 : decode prog_1_method_20_code 1 = .ok (.tableswitch 96 0 6 #[43, 48, 56, 64, 72, 80, 88], 43) := by decide +kernel
theorem b_Tf_count_44 : tf_dec prog_1_method_20_code 44 [(.aload_n 0, 1)] = true := by decide +kernel
theorem d_Tf_count_45 : decode prog_1_method_20_code 45 = .ok (.getfield 66, 3) := by decide +kernel
theorem d_Tf_count_48 : decode prog_1_method_20_code 48 = .ok (.ireturn, 1) := by decide +kernel
theorem b_Tf_count_49 : tf_dec prog_1_method_20_code 49 [(.aload_n 0, 1)] = true := by decide +kernel
theorem d_Tf_count_50 : decode prog_1_method_20_code 50 = .ok (.getfield 62, 3) := by decide +kernel
theorem d_Tf_count_53 : decode prog_1_method_20_code 53 = .ok (.getfield 231, 3) := by decide +kernel
theorem d_Tf_count_56 : decode prog_1_method_20_code 56 = .ok (.ireturn, 1) := by decide +kernel
theorem b_Tf_count_57 : tf_dec prog_1_method_20_code 57 [(.aload_n 0, 1)] = true := by decide +kernel
theorem d_Tf_count_58 : decode prog_1_method_20_code 58 = .ok (.getfield 41, 3) := by decide +kernel
theorem d_Tf_count_61 : decode prog_1_method_20_code 61 = .ok (.getfield 258, 3) := by decide +kernel
theorem d_Tf_count_64 : decode prog_1_method_20_code 64 = .ok (.ireturn, 1) := by decide +kernel
theorem b_Tf_count_65 : tf_dec prog_1_method_20_code 65 [(.aload_n 0, 1)] = true := by decide +kernel
theorem d_Tf_count_66 : decode prog_1_method_20_code 66 = .ok (.getfield 62, 3) := by decide +kernel
theorem d_Tf_count_69 : decode prog_1_method_20_code 69 = .ok (.getfield 261, 3) := by decide +kernel
theorem d_Tf_count_72 : decode prog_1_method_20_code 72 = .ok (.ireturn, 1) := by decide +kernel
theorem b_Tf_count_73 : tf_dec prog_1_method_20_code 73 [(.aload_n 0, 1)] = true := by decide +kernel
theorem d_Tf_count_74 : decode prog_1_method_20_code 74 = .ok (.getfield 62, 3) := by decide +kernel
theorem d_Tf_count_77 : decode prog_1_method_20_code 77 = .ok (.getfield 246, 3) := by decide +kernel
theorem d_Tf_count_80 : decode prog_1_method_20_code 80 = .ok (.ireturn, 1) := by decide +kernel
theorem b_Tf_count_81 : tf_dec prog_1_method_20_code 81 [(.aload_n 0, 1)] = true := by decide +kernel
theorem d_Tf_count_82 : decode prog_1_method_20_code 82 = .ok (.getfield 55, 3) := by decide +kernel
theorem d_Tf_count_85 : decode prog_1_method_20_code 85 = .ok (.getfield 264, 3) := by decide +kernel
theorem d_Tf_count_88 : decode prog_1_method_20_code 88 = .ok (.ireturn, 1) := by decide +kernel
theorem b_Tf_count_89 : tf_dec prog_1_method_20_code 89 [(.aload_n 0, 1)] = true := by decide +kernel
theorem d_Tf_count_90 : decode prog_1_method_20_code 90 = .ok (.getfield 62, 3) := by decide +kernel
theorem d_Tf_count_93 : decode prog_1_method_20_code 93 = .ok (.getfield 267, 3) := by decide +kernel
theorem d_Tf_count_96 : decode prog_1_method_20_code 96 = .ok (.ireturn, 1) := by decide +kernel
theorem b_Tf_count_97 : tf_dec prog_1_method_20_code 97 [(.iconst (-1), 1)] = true := by decide +kernel
theorem d_Tf_count_98 : decode prog_1_method_20_code 98 = .ok (.ireturn, 1) := by decide +kernel
theorem b_Tf_find_0 : tf_dec prog_1_method_21_code 0 [(.iload_n 1, 1), (.iconst 0, 1), (.aload_n 0, 1)] = true := by decide +kernel
theorem d_Tf_find_3 : decode prog_1_method_21_code 3 = .ok (.getfield 66, 3) := by decide +kernel
theorem b_Tf_find_6 : tf_dec prog_1_method_21_code 6 [(.iconst 1, 1), (.isub, 1)] = true := by decide +kernel
theorem d_Tf_find_8 : decode prog_1_method_21_code 8 = .ok (.invokestatic 111, 3) := by decide +kernel
theorem d_Tf_find_11 : decode prog_1_method_21_code 11 = .ok (.ifCond .eq 12, 3) := by decide +kernel
theorem b_Tf_find_14 : tf_dec prog_1_method_21_code 14 [(.aload_n 0, 1)] = true := by decide +kernel
theorem d_Tf_find_15 : decode prog_1_method_21_code 15 = .ok (.getfield 20, 3) := by decide +kernel
theorem b_Tf_find_18 : tf_dec prog_1_method_21_code 18 [(.iload_n 1, 1)] = true := by decide +kernel
theorem d_Tf_find_19 : decode prog_1_method_21_code 19 = .ok (.aaload, 1) := by decide +kernel
theorem d_Tf_find_20 : decode prog_1_method_21_code 20 = .ok (.goto 4, 3) := by decide +kernel
theorem b_Tf_find_23 : tf_dec prog_1_method_21_code 23 [(.aconst_null, 1)] = true := by decide +kernel
theorem d_Tf_find_24 : decode prog_1_method_21_code 24 = .ok (.areturn, 1) := by decide +kernel
theorem b_Tf_ofWholeOutline_0 : tf_dec prog_1_method_22_code 0 [(.iload_n 2, 1)] = true := by decide +kernel
theorem d_Tf_ofWholeOutline_1 : decode prog_1_method_22_code 1 = .ok (.tableswitch 50 0 2 #[27, 32, 37], 27) := by decide +kernel
theorem b_Tf_ofWholeOutline_28 : tf_dec prog_1_method_22_code 28 [(.aload_n 1, 1)] = true := by decide +kernel
theorem d_Tf_ofWholeOutline_29 : decode prog_1_method_22_code 29 = .ok (.invokevirtual 158, 3) := by decide +kernel
theorem d_Tf_ofWholeOutline_32 : decode prog_1_method_22_code 32 = .ok (.ireturn, 1) := by decide +kernel
theorem b_Tf_ofWholeOutline_33 : tf_dec prog_1_method_22_code 33 [(.aload_n 1, 1)] = true := by decide +kernel
theorem d_Tf_ofWholeOutline_34 : decode prog_1_method_22_code 34 = .ok (.invokevirtual 270, 3) := by decide +kernel
theorem d_Tf_ofWholeOutline_37 : decode prog_1_method_22_code 37 = .ok (.ireturn, 1) := by decide +kernel
theorem b_Tf_ofWholeOutline_38 : tf_dec prog_1_method_22_code 38 [(.aload_n 0, 1)] = true := by decide +kernel
theorem d_Tf_ofWholeOutline_39 : decode prog_1_method_22_code 39 = .ok (.getfield 14, 3) := by decide +kernel
theorem b_Tf_ofWholeOutline_42 : tf_dec prog_1_method_22_code 42 [(.aload_n 1, 1)] = true := by decide +kernel
theorem d_Tf_ofWholeOutline_43 : decode prog_1_method_22_code 43 = .ok (.getfield 150, 3) := by decide +kernel
theorem b_Tf_ofWholeOutline_46 : tf_dec prog_1_method_22_code 46 [(.iconst 0, 1)] = true := by decide +kernel
theorem d_Tf_ofWholeOutline_47 : decode prog_1_method_22_code 47 = .ok (.invokevirtual 273, 3) := by decide +kernel
theorem d_Tf_ofWholeOutline_50 : decode prog_1_method_22_code 50 = .ok (.ireturn, 1) := by decide +kernel
theorem b_Tf_ofWholeOutline_51 : tf_dec prog_1_method_22_code 51 [(.aload_n 1, 1)] = true := by decide +kernel
theorem d_Tf_ofWholeOutline_52 : decode prog_1_method_22_code 52 = .ok (.getfield 277, 3) := by decide +kernel
theorem d_Tf_ofWholeOutline_55 : decode prog_1_method_22_code 55 = .ok (.ireturn, 1) := by decide +kernel
theorem b_Tf_xInRow_0 : tf_dec prog_1_method_23_code 0 [(.iconst 0, 1), (.istore_n 2, 1), (.iconst 0, 1), (.istore_n 3, 1)] = true := by decide +kernel
theorem b_Tf_xInRow_4 : tf_dec prog_1_method_23_code 4 [(.iload_n 3, 1), (.iload_n 1, 1)] = true := by decide +kernel
theorem d_Tf_xInRow_6 : decode prog_1_method_23_code 6 = .ok (.if_icmp .ge 68, 3) := by decide +kernel
theorem b_Tf_xInRow_9 : tf_dec prog_1_method_23_code 9 [(.iload_n 2, 1), (.aload_n 0, 1), (.aload_n 0, 1)] = true := by decide +kernel
theorem d_Tf_xInRow_12 : decode prog_1_method_23_code 12 = .ok (.getfield 62, 3) := by decide +kernel
theorem d_Tf_xInRow_15 : decode prog_1_method_23_code 15 = .ok (.getfield 249, 3) := by decide +kernel
theorem b_Tf_xInRow_18 : tf_dec prog_1_method_23_code 18 [(.iload_n 3, 1)] = true := by decide +kernel
theorem d_Tf_xInRow_19 : decode prog_1_method_23_code 19 = .ok (.iaload, 1) := by decide +kernel
theorem d_Tf_xInRow_20 : decode prog_1_method_23_code 20 = .ok (.invokevirtual 280, 3) := by decide +kernel
theorem b_Tf_xInRow_23 : tf_dec prog_1_method_23_code 23 [(.iadd, 1), (.istore_n 2, 1), (.iload_n 3, 1), (.iconst 1, 1), (.iadd, 1), (.aload_n 0, 1)] = true := by decide +kernel
theorem d_Tf_xInRow_29 : decode prog_1_method_23_code 29 = .ok (.getfield 62, 3) := by decide +kernel
theorem d_Tf_xInRow_32 : decode prog_1_method_23_code 32 = .ok (.getfield 246, 3) := by decide +kernel
theorem d_Tf_xInRow_35 : decode prog_1_method_23_code 35 = .ok (.if_icmp .ge 33, 3) := by decide +kernel
theorem b_Tf_xInRow_38 : tf_dec prog_1_method_23_code 38 [(.iload_n 2, 1), (.aload_n 0, 1)] = true := by decide +kernel
theorem d_Tf_xInRow_40 : decode prog_1_method_23_code 40 = .ok (.getfield 55, 3) := by decide +kernel
theorem b_Tf_xInRow_43 : tf_dec prog_1_method_23_code 43 [(.aload_n 0, 1)] = true := by decide +kernel
theorem d_Tf_xInRow_44 : decode prog_1_method_23_code 44 = .ok (.getfield 62, 3) := by decide +kernel
theorem d_Tf_xInRow_47 : decode prog_1_method_23_code 47 = .ok (.getfield 249, 3) := by decide +kernel
theorem b_Tf_xInRow_50 : tf_dec prog_1_method_23_code 50 [(.iload_n 3, 1)] = true := by decide +kernel
theorem d_Tf_xInRow_51 : decode prog_1_method_23_code 51 = .ok (.iaload, 1) := by decide +kernel
theorem b_Tf_xInRow_52 : tf_dec prog_1_method_23_code 52 [(.aload_n 0, 1)] = true := by decide +kernel
theorem d_Tf_xInRow_53 : decode prog_1_method_23_code 53 = .ok (.getfield 62, 3) := by decide +kernel
theorem d_Tf_xInRow_56 : decode prog_1_method_23_code 56 = .ok (.getfield 249, 3) := by decide +kernel
theorem b_Tf_xInRow_59 : tf_dec prog_1_method_23_code 59 [(.iload_n 3, 1), (.iconst 1, 1), (.iadd, 1)] = true := by decide +kernel
theorem d_Tf_xInRow_62 : decode prog_1_method_23_code 62 = .ok (.iaload, 1) := by decide +kernel
theorem d_Tf_xInRow_63 : decode prog_1_method_23_code 63 = .ok (.invokevirtual 283, 3) := by decide +kernel
theorem b_Tf_xInRow_66 : tf_dec prog_1_method_23_code 66 [(.iadd, 1), (.istore_n 2, 1)] = true := by decide +kernel
theorem b_Tf_xInRow_68 : tf_dec prog_1_method_23_code 68 [(.iinc 3 1, 3)] = true := by decide +kernel
theorem d_Tf_xInRow_71 : decode prog_1_method_23_code 71 = .ok (.goto (-67), 3) := by decide +kernel
theorem b_Tf_xInRow_74 : tf_dec prog_1_method_23_code 74 [(.iload_n 2, 1)] = true := by decide +kernel
theorem d_Tf_xInRow_75 : decode prog_1_method_23_code 75 = .ok (.ireturn, 1) := by decide +kernel
theorem b_Tf_widthOf_0 : tf_dec prog_1_method_24_code 0 [(.aload_n 0, 1), (.iload_n 1, 1)] = true := by decide +kernel
theorem d_Tf_widthOf_2 : decode prog_1_method_24_code 2 = .ok (.invokevirtual 81, 3) := by decide +kernel
theorem b_Tf_widthOf_5 : tf_dec prog_1_method_24_code 5 [(.astore_n 2, 1), (.aload_n 2, 1)] = true := by decide +kernel
theorem d_Tf_widthOf_7 : decode prog_1_method_24_code 7 = .ok (.ifnonnull 7, 3) := by decide +kernel
theorem b_Tf_widthOf_10 : tf_dec prog_1_method_24_code 10 [(.iconst 0, 1)] = true := by decide +kernel
theorem d_Tf_widthOf_11 : decode prog_1_method_24_code 11 = .ok (.goto 15, 3) := by decide +kernel
theorem b_Tf_widthOf_14 : tf_dec prog_1_method_24_code 14 [(.aload_n 0, 1)] = true := by decide +kernel
theorem d_Tf_widthOf_15 : decode prog_1_method_24_code 15 = .ok (.getfield 14, 3) := by decide +kernel
theorem b_Tf_widthOf_18 : tf_dec prog_1_method_24_code 18 [(.aload_n 2, 1)] = true := by decide +kernel
theorem d_Tf_widthOf_19 : decode prog_1_method_24_code 19 = .ok (.getfield 150, 3) := by decide +kernel
theorem b_Tf_widthOf_22 : tf_dec prog_1_method_24_code 22 [(.iconst 0, 1)] = true := by decide +kernel
theorem d_Tf_widthOf_23 : decode prog_1_method_24_code 23 = .ok (.invokevirtual 273, 3) := by decide +kernel
theorem d_Tf_widthOf_26 : decode prog_1_method_24_code 26 = .ok (.ireturn, 1) := by decide +kernel
theorem b_Tf_isPlace_0 : tf_dec prog_1_method_25_code 0 [(.iload_n 0, 1), (.sipush (-2000), 3), (.sipush 4000, 3)] = true := by decide +kernel
theorem d_Tf_isPlace_7 : decode prog_1_method_25_code 7 = .ok (.invokestatic 111, 3) := by decide +kernel
theorem d_Tf_isPlace_10 : decode prog_1_method_25_code 10 = .ok (.ifCond .eq 20, 3) := by decide +kernel
theorem b_Tf_isPlace_13 : tf_dec prog_1_method_25_code 13 [(.iload_n 1, 1), (.sipush (-2000), 3), (.sipush 4000, 3)] = true := by decide +kernel
theorem d_Tf_isPlace_20 : decode prog_1_method_25_code 20 = .ok (.invokestatic 111, 3) := by decide +kernel
theorem d_Tf_isPlace_23 : decode prog_1_method_25_code 23 = .ok (.ifCond .eq 7, 3) := by decide +kernel
theorem b_Tf_isPlace_26 : tf_dec prog_1_method_25_code 26 [(.iconst 1, 1)] = true := by decide +kernel
theorem d_Tf_isPlace_27 : decode prog_1_method_25_code 27 = .ok (.goto 4, 3) := by decide +kernel
theorem b_Tf_isPlace_30 : tf_dec prog_1_method_25_code 30 [(.iconst 0, 1)] = true := by decide +kernel
theorem d_Tf_isPlace_31 : decode prog_1_method_25_code 31 = .ok (.ireturn, 1) := by decide +kernel
theorem b_Tf_isShift_0 : tf_dec prog_1_method_26_code 0 [(.iload_n 0, 1), (.sipush (-4000), 3), (.sipush 4000, 3)] = true := by decide +kernel
theorem d_Tf_isShift_7 : decode prog_1_method_26_code 7 = .ok (.invokestatic 111, 3) := by decide +kernel
theorem d_Tf_isShift_10 : decode prog_1_method_26_code 10 = .ok (.ifCond .eq 20, 3) := by decide +kernel
theorem b_Tf_isShift_13 : tf_dec prog_1_method_26_code 13 [(.iload_n 1, 1), (.sipush (-4000), 3), (.sipush 4000, 3)] = true := by decide +kernel
theorem d_Tf_isShift_20 : decode prog_1_method_26_code 20 = .ok (.invokestatic 111, 3) := by decide +kernel
theorem d_Tf_isShift_23 : decode prog_1_method_26_code 23 = .ok (.ifCond .eq 7, 3) := by decide +kernel
theorem b_Tf_isShift_26 : tf_dec prog_1_method_26_code 26 [(.iconst 1, 1)] = true := by decide +kernel
theorem d_Tf_isShift_27 : decode prog_1_method_26_code 27 = .ok (.goto 4, 3) := by decide +kernel
theorem b_Tf_isShift_30 : tf_dec prog_1_method_26_code 30 [(.iconst 0, 1)] = true := by decide +kernel
theorem d_Tf_isShift_31 : decode prog_1_method_26_code 31 = .ok (.ireturn, 1) := by decide +kernel
theorem b_Tf_isSide_0 : tf_dec prog_1_method_27_code 0 [(.iload_n 0, 1), (.bipush 32, 2)] = true := by decide +kernel
theorem d_Tf_isSide_3 : decode prog_1_method_27_code 3 = .ok (.if_icmp .eq 23, 3) := by decide +kernel
theorem b_Tf_isSide_6 : tf_dec prog_1_method_27_code 6 [(.iload_n 0, 1), (.bipush 64, 2)] = true := by decide +kernel
theorem d_Tf_isSide_9 : decode prog_1_method_27_code 9 = .ok (.if_icmp .eq 17, 3) := by decide +kernel
theorem b_Tf_isSide_12 : tf_dec prog_1_method_27_code 12 [(.iload_n 0, 1), (.sipush 128, 3)] = true := by decide +kernel
theorem d_Tf_isSide_16 : decode prog_1_method_27_code 16 = .ok (.if_icmp .eq 10, 3) := by decide +kernel
theorem b_Tf_isSide_19 : tf_dec prog_1_method_27_code 19 [(.iload_n 0, 1), (.sipush 256, 3)] = true := by decide +kernel
theorem d_Tf_isSide_23 : decode prog_1_method_27_code 23 = .ok (.if_icmp .ne 7, 3) := by decide +kernel
theorem b_Tf_isSide_26 : tf_dec prog_1_method_27_code 26 [(.iconst 1, 1)] = true := by decide +kernel
theorem d_Tf_isSide_27 : decode prog_1_method_27_code 27 = .ok (.goto 4, 3) := by decide +kernel
theorem b_Tf_isSide_30 : tf_dec prog_1_method_27_code 30 [(.iconst 0, 1)] = true := by decide +kernel
theorem d_Tf_isSide_31 : decode prog_1_method_27_code 31 = .ok (.ireturn, 1) := by decide +kernel
theorem b_Tf_isKerning_0 : tf_dec prog_1_method_28_code 0 [(.iload_n 0, 1), (.sipush (-1000), 3), (.sipush 1000, 3)] = true := by decide +kernel
theorem d_Tf_isKerning_7 : decode prog_1_method_28_code 7 = .ok (.invokestatic 111, 3) := by decide +kernel
theorem d_Tf_isKerning_10 : decode prog_1_method_28_code 10 = .ok (.ireturn, 1) := by decide +kernel
theorem b_Tf_within_0 : tf_dec prog_1_method_29_code 0 [(.iload_n 0, 1), (.iload_n 1, 1)] = true := by decide +kernel
theorem d_Tf_within_2 : decode prog_1_method_29_code 2 = .ok (.if_icmp .lt 12, 3) := by decide +kernel
theorem b_Tf_within_5 : tf_dec prog_1_method_29_code 5 [(.iload_n 0, 1), (.iload_n 2, 1)] = true := by decide +kernel
theorem d_Tf_within_7 : decode prog_1_method_29_code 7 = .ok (.if_icmp .gt 7, 3) := by decide +kernel
theorem b_Tf_within_10 : tf_dec prog_1_method_29_code 10 [(.iconst 1, 1)] = true := by decide +kernel
theorem d_Tf_within_11 : decode prog_1_method_29_code 11 = .ok (.goto 4, 3) := by decide +kernel
theorem b_Tf_within_14 : tf_dec prog_1_method_29_code 14 [(.iconst 0, 1)] = true := by decide +kernel
theorem d_Tf_within_15 : decode prog_1_method_29_code 15 = .ok (.ireturn, 1) := by decide +kernel
theorem b_Tf_halvesUp_0 : tf_dec prog_1_method_30_code 0 [(.lload_n 2, 1), (.lconst 0, 1), (.lcmp, 1)] = true := by decide +kernel
theorem d_Tf_halvesUp_3 : decode prog_1_method_30_code 3 = .ok (.ifCond .ne 7, 3) := by decide +kernel
theorem b_Tf_halvesUp_6 : tf_dec prog_1_method_30_code 6 [(.iconst 0, 1)] = true := by decide +kernel
theorem d_Tf_halvesUp_7 : decode prog_1_method_30_code 7 = .ok (.goto 19, 3) := by decide +kernel
theorem d_Tf_halvesUp_10 : decode prog_1_method_30_code 10 = .ok (.ldc2_w 286, 3) := by decide +kernel
theorem b_Tf_halvesUp_13 : tf_dec prog_1_method_30_code 13 [(.lload_n 0, 1), (.lmul, 1), (.lload_n 2, 1), (.ladd, 1)] = true := by decide +kernel
theorem d_Tf_halvesUp_17 : decode prog_1_method_30_code 17 = .ok (.ldc2_w 286, 3) := by decide +kernel
theorem b_Tf_halvesUp_20 : tf_dec prog_1_method_30_code 20 [(.lload_n 2, 1), (.lmul, 1)] = true := by decide +kernel
theorem d_Tf_halvesUp_22 : decode prog_1_method_30_code 22 = .ok (.invokestatic 288, 3) := by decide +kernel
theorem b_Tf_halvesUp_25 : tf_dec prog_1_method_30_code 25 [(.l2i, 1)] = true := by decide +kernel
theorem d_Tf_halvesUp_26 : decode prog_1_method_30_code 26 = .ok (.ireturn, 1) := by decide +kernel
theorem b_Blend_init_0 : tf_dec prog_2_method_1_code 0 [(.aload_n 0, 1)] = true := by decide +kernel
theorem d_Blend_init_1 : decode prog_2_method_1_code 1 = .ok (.invokespecial 3, 3) := by decide +kernel
theorem b_Blend_init_4 : tf_dec prog_2_method_1_code 4 [(.aload_n 0, 1), (.iload_n 1, 1)] = true := by decide +kernel
theorem d_Blend_init_6 : decode prog_2_method_1_code 6 = .ok (.putfield 9, 3) := by decide +kernel
theorem d_Blend_init_9 : decode prog_2_method_1_code 9 = .ok (.return_, 1) := by decide +kernel
theorem b_Blend_hasMaster_0 : tf_dec prog_2_method_2_code 0 [(.iload_n 1, 1), (.iconst 0, 1), (.aload_n 0, 1)] = true := by decide +kernel
theorem d_Blend_hasMaster_3 : decode prog_2_method_2_code 3 = .ok (.getfield 9, 3) := by decide +kernel
theorem b_Blend_hasMaster_6 : tf_dec prog_2_method_2_code 6 [(.iconst 1, 1), (.isub, 1)] = true := by decide +kernel
theorem d_Blend_hasMaster_8 : decode prog_2_method_2_code 8 = .ok (.invokestatic 15, 3) := by decide +kernel
theorem d_Blend_hasMaster_11 : decode prog_2_method_2_code 11 = .ok (.ireturn, 1) := by decide +kernel
theorem b_Blend_set_0 : tf_dec prog_2_method_3_code 0 [(.aload_n 0, 1), (.iload_n 1, 1)] = true := by decide +kernel
theorem d_Blend_set_2 : decode prog_2_method_3_code 2 = .ok (.putfield 19, 3) := by decide +kernel
theorem b_Blend_set_5 : tf_dec prog_2_method_3_code 5 [(.aload_n 0, 1), (.iload_n 2, 1)] = true := by decide +kernel
theorem d_Blend_set_7 : decode prog_2_method_3_code 7 = .ok (.putfield 22, 3) := by decide +kernel
theorem d_Blend_set_10 : decode prog_2_method_3_code 10 = .ok (.return_, 1) := by decide +kernel
theorem b_Blend_valueOf_0 : tf_dec prog_2_method_4_code 0 [(.iload_n 2, 1), (.aload_n 0, 1)] = true := by decide +kernel
theorem d_Blend_valueOf_2 : decode prog_2_method_4_code 2 = .ok (.getfield 9, 3) := by decide +kernel
theorem b_Blend_valueOf_5 : tf_dec prog_2_method_4_code 5 [(.imul, 1), (.istore_n 3, 1), (.aload_n 0, 1)] = true := by decide +kernel
theorem d_Blend_valueOf_8 : decode prog_2_method_4_code 8 = .ok (.getfield 9, 3) := by decide +kernel
theorem b_Blend_valueOf_11 : tf_dec prog_2_method_4_code 11 [(.iconst 1, 1)] = true := by decide +kernel
theorem d_Blend_valueOf_12 : decode prog_2_method_4_code 12 = .ok (.if_icmp .ne 7, 3) := by decide +kernel
theorem b_Blend_valueOf_15 : tf_dec prog_2_method_4_code 15 [(.aload_n 1, 1), (.iload_n 3, 1)] = true := by decide +kernel
theorem d_Blend_valueOf_17 : decode prog_2_method_4_code 17 = .ok (.iaload, 1) := by decide +kernel
theorem d_Blend_valueOf_18 : decode prog_2_method_4_code 18 = .ok (.ireturn, 1) := by decide +kernel
theorem b_Blend_valueOf_19 : tf_dec prog_2_method_4_code 19 [(.aload_n 1, 1), (.iload_n 3, 1)] = true := by decide +kernel
theorem d_Blend_valueOf_21 : decode prog_2_method_4_code 21 = .ok (.iaload, 1) := by decide +kernel
theorem b_Blend_valueOf_22 : tf_dec prog_2_method_4_code 22 [(.i2l, 1), (.aload_n 1, 1), (.iload_n 3, 1), (.iconst 1, 1), (.iadd, 1)] = true := by decide +kernel
theorem d_Blend_valueOf_27 : decode prog_2_method_4_code 27 = .ok (.iaload, 1) := by decide +kernel
theorem b_Blend_valueOf_28 : tf_dec prog_2_method_4_code 28 [(.i2l, 1), (.aload_n 0, 1)] = true := by decide +kernel
theorem d_Blend_valueOf_30 : decode prog_2_method_4_code 30 = .ok (.getfield 19, 3) := by decide +kernel
theorem d_Blend_valueOf_33 : decode prog_2_method_4_code 33 = .ok (.invokestatic 25, 3) := by decide +kernel
theorem b_Blend_valueOf_36 : tf_dec prog_2_method_4_code 36 [(.lstore 4, 2), (.aload_n 0, 1)] = true := by decide +kernel
theorem d_Blend_valueOf_39 : decode prog_2_method_4_code 39 = .ok (.getfield 9, 3) := by decide +kernel
theorem b_Blend_valueOf_42 : tf_dec prog_2_method_4_code 42 [(.iconst 2, 1)] = true := by decide +kernel
theorem d_Blend_valueOf_43 : decode prog_2_method_4_code 43 = .ok (.if_icmp .ne 12, 3) := by decide +kernel
theorem b_Blend_valueOf_46 : tf_dec prog_2_method_4_code 46 [(.lload 4, 2)] = true := by decide +kernel
theorem d_Blend_valueOf_48 : decode prog_2_method_4_code 48 = .ok (.ldc2_w 29, 3) := by decide +kernel
theorem d_Blend_valueOf_51 : decode prog_2_method_4_code 51 = .ok (.invokestatic 31, 3) := by decide +kernel
theorem d_Blend_valueOf_54 : decode prog_2_method_4_code 54 = .ok (.ireturn, 1) := by decide +kernel
theorem b_Blend_valueOf_55 : tf_dec prog_2_method_4_code 55 [(.aload_n 1, 1), (.iload_n 3, 1), (.iconst 2, 1), (.iadd, 1)] = true := by decide +kernel
theorem d_Blend_valueOf_59 : decode prog_2_method_4_code 59 = .ok (.iaload, 1) := by decide +kernel
theorem b_Blend_valueOf_60 : tf_dec prog_2_method_4_code 60 [(.i2l, 1), (.aload_n 1, 1), (.iload_n 3, 1), (.iconst 3, 1), (.iadd, 1)] = true := by decide +kernel
theorem d_Blend_valueOf_65 : decode prog_2_method_4_code 65 = .ok (.iaload, 1) := by decide +kernel
theorem b_Blend_valueOf_66 : tf_dec prog_2_method_4_code 66 [(.i2l, 1), (.aload_n 0, 1)] = true := by decide +kernel
theorem d_Blend_valueOf_68 : decode prog_2_method_4_code 68 = .ok (.getfield 19, 3) := by decide +kernel
theorem d_Blend_valueOf_71 : decode prog_2_method_4_code 71 = .ok (.invokestatic 25, 3) := by decide +kernel
theorem b_Blend_valueOf_74 : tf_dec prog_2_method_4_code 74 [(.lstore 6, 2), (.lload 4, 2), (.lload 6, 2), (.aload_n 0, 1)] = true := by decide +kernel
theorem d_Blend_valueOf_81 : decode prog_2_method_4_code 81 = .ok (.getfield 22, 3) := by decide +kernel
theorem d_Blend_valueOf_84 : decode prog_2_method_4_code 84 = .ok (.invokestatic 25, 3) := by decide +kernel
theorem d_Blend_valueOf_87 : decode prog_2_method_4_code 87 = .ok (.ldc2_w 35, 3) := by decide +kernel
theorem d_Blend_valueOf_90 : decode prog_2_method_4_code 90 = .ok (.invokestatic 31, 3) := by decide +kernel
theorem d_Blend_valueOf_93 : decode prog_2_method_4_code 93 = .ok (.ireturn, 1) := by decide +kernel
theorem b_Blend_mix_0 : tf_dec prog_2_method_5_code 0 [(.lload_n 0, 1), (.sipush 1024, 3), (.iload 4, 2), (.isub, 1), (.i2l, 1), (.lmul, 1), (.lload_n 2, 1), (.iload 4, 2), (.i2l, 1), (.lmul, 1), (.ladd, 1)] = true := by decide +kernel
theorem d_Blend_mix_15 : decode prog_2_method_5_code 15 = .ok (.lreturn, 1) := by decide +kernel
theorem b_Canvas_init_0 : tf_dec prog_3_method_1_code 0 [(.aload_n 0, 1)] = true := by decide +kernel
theorem d_Canvas_init_1 : decode prog_3_method_1_code 1 = .ok (.invokespecial 3, 3) := by decide +kernel
theorem b_Canvas_init_4 : tf_dec prog_3_method_1_code 4 [(.aload_n 0, 1), (.sipush 4096, 3)] = true := by decide +kernel
theorem d_Canvas_init_8 : decode prog_3_method_1_code 8 = .ok (.newarray .int, 2) := by decide +kernel
theorem d_Canvas_init_10 : decode prog_3_method_1_code 10 = .ok (.putfield 11, 3) := by decide +kernel
theorem b_Canvas_init_13 : tf_dec prog_3_method_1_code 13 [(.aload_n 0, 1), (.bipush 32, 2)] = true := by decide +kernel
theorem d_Canvas_init_16 : decode prog_3_method_1_code 16 = .ok (.putfield 15, 3) := by decide +kernel
theorem d_Canvas_init_19 : decode prog_3_method_1_code 19 = .ok (.return_, 1) := by decide +kernel
theorem b_Canvas_start_0 : tf_dec prog_3_method_2_code 0 [(.aload_n 0, 1), (.iload_n 1, 1)] = true := by decide +kernel
theorem d_Canvas_start_2 : decode prog_3_method_2_code 2 = .ok (.putfield 15, 3) := by decide +kernel
theorem b_Canvas_start_5 : tf_dec prog_3_method_2_code 5 [(.aload_n 0, 1), (.sipush 2048, 3), (.iload_n 1, 1)] = true := by decide +kernel
theorem d_Canvas_start_10 : decode prog_3_method_2_code 10 = .ok (.idiv, 1) := by decide +kernel
theorem d_Canvas_start_11 : decode prog_3_method_2_code 11 = .ok (.putfield 19, 3) := by decide +kernel
theorem b_Canvas_start_14 : tf_dec prog_3_method_2_code 14 [(.aload_n 0, 1)] = true := by decide +kernel
theorem d_Canvas_start_15 : decode prog_3_method_2_code 15 = .ok (.getfield 11, 3) := by decide +kernel
theorem b_Canvas_start_18 : tf_dec prog_3_method_2_code 18 [(.iconst 0, 1), (.aload_n 0, 1)] = true := by decide +kernel
theorem d_Canvas_start_20 : decode prog_3_method_2_code 20 = .ok (.getfield 19, 3) := by decide +kernel
theorem b_Canvas_start_23 : tf_dec prog_3_method_2_code 23 [(.aload_n 0, 1)] = true := by decide +kernel
theorem d_Canvas_start_24 : decode prog_3_method_2_code 24 = .ok (.getfield 19, 3) := by decide +kernel
theorem b_Canvas_start_27 : tf_dec prog_3_method_2_code 27 [(.imul, 1), (.iconst 0, 1)] = true := by decide +kernel
theorem d_Canvas_start_29 : decode prog_3_method_2_code 29 = .ok (.invokestatic 22, 3) := by decide +kernel
theorem d_Canvas_start_32 : decode prog_3_method_2_code 32 = .ok (.return_, 1) := by decide +kernel
theorem b_Canvas_addPath_0 : tf_dec prog_3_method_3_code 0 [(.aload_n 1, 1)] = true := by decide +kernel
theorem d_Canvas_addPath_1 : decode prog_3_method_3_code 1 = .ok (.getfield 28, 3) := by decide +kernel
theorem b_Canvas_addPath_4 : tf_dec prog_3_method_3_code 4 [(.iconst 1, 1), (.isub, 1), (.istore_n 2, 1), (.iconst 0, 1), (.istore_n 3, 1)] = true := by decide +kernel
theorem b_Canvas_addPath_9 : tf_dec prog_3_method_3_code 9 [(.iload_n 3, 1), (.aload_n 1, 1)] = true := by decide +kernel
theorem d_Canvas_addPath_11 : decode prog_3_method_3_code 11 = .ok (.getfield 28, 3) := by decide +kernel
theorem d_Canvas_addPath_14 : decode prog_3_method_3_code 14 = .ok (.if_icmp .ge 86, 3) := by decide +kernel
theorem b_Canvas_addPath_17 : tf_dec prog_3_method_3_code 17 [(.aload_n 1, 1)] = true := by decide +kernel
theorem d_Canvas_addPath_18 : decode prog_3_method_3_code 18 = .ok (.getfield 33, 3) := by decide +kernel
theorem b_Canvas_addPath_21 : tf_dec prog_3_method_3_code 21 [(.iload_n 2, 1)] = true := by decide +kernel
theorem d_Canvas_addPath_22 : decode prog_3_method_3_code 22 = .ok (.iaload, 1) := by decide +kernel
theorem b_Canvas_addPath_23 : tf_dec prog_3_method_3_code 23 [(.istore 4, 2), (.aload_n 1, 1)] = true := by decide +kernel
theorem d_Canvas_addPath_26 : decode prog_3_method_3_code 26 = .ok (.getfield 33, 3) := by decide +kernel
theorem b_Canvas_addPath_29 : tf_dec prog_3_method_3_code 29 [(.iload_n 3, 1)] = true := by decide +kernel
theorem d_Canvas_addPath_30 : decode prog_3_method_3_code 30 = .ok (.iaload, 1) := by decide +kernel
theorem b_Canvas_addPath_31 : tf_dec prog_3_method_3_code 31 [(.istore 5, 2), (.iload 4, 2), (.iload 5, 2)] = true := by decide +kernel
theorem d_Canvas_addPath_37 : decode prog_3_method_3_code 37 = .ok (.if_icmp .ge 27, 3) := by decide +kernel
theorem b_Canvas_addPath_40 : tf_dec prog_3_method_3_code 40 [(.aload_n 0, 1), (.aload_n 1, 1)] = true := by decide +kernel
theorem d_Canvas_addPath_42 : decode prog_3_method_3_code 42 = .ok (.getfield 36, 3) := by decide +kernel
theorem b_Canvas_addPath_45 : tf_dec prog_3_method_3_code 45 [(.iload_n 2, 1)] = true := by decide +kernel
theorem d_Canvas_addPath_46 : decode prog_3_method_3_code 46 = .ok (.iaload, 1) := by decide +kernel
theorem b_Canvas_addPath_47 : tf_dec prog_3_method_3_code 47 [(.iload 4, 2), (.aload_n 1, 1)] = true := by decide +kernel
theorem d_Canvas_addPath_50 : decode prog_3_method_3_code 50 = .ok (.getfield 36, 3) := by decide +kernel
theorem b_Canvas_addPath_53 : tf_dec prog_3_method_3_code 53 [(.iload_n 3, 1)] = true := by decide +kernel
theorem d_Canvas_addPath_54 : decode prog_3_method_3_code 54 = .ok (.iaload, 1) := by decide +kernel
theorem b_Canvas_addPath_55 : tf_dec prog_3_method_3_code 55 [(.iload 5, 2), (.iconst 1, 1)] = true := by decide +kernel
theorem d_Canvas_addPath_58 : decode prog_3_method_3_code 58 = .ok (.invokevirtual 39, 3) := by decide +kernel
theorem d_Canvas_addPath_61 : decode prog_3_method_3_code 61 = .ok (.goto 31, 3) := by decide +kernel
theorem b_Canvas_addPath_64 : tf_dec prog_3_method_3_code 64 [(.iload 4, 2), (.iload 5, 2)] = true := by decide +kernel
theorem d_Canvas_addPath_68 : decode prog_3_method_3_code 68 = .ok (.if_icmp .le 24, 3) := by decide +kernel
theorem b_Canvas_addPath_71 : tf_dec prog_3_method_3_code 71 [(.aload_n 0, 1), (.aload_n 1, 1)] = true := by decide +kernel
theorem d_Canvas_addPath_73 : decode prog_3_method_3_code 73 = .ok (.getfield 36, 3) := by decide +kernel
theorem b_Canvas_addPath_76 : tf_dec prog_3_method_3_code 76 [(.iload_n 3, 1)] = true := by decide +kernel
theorem d_Canvas_addPath_77 : decode prog_3_method_3_code 77 = .ok (.iaload, 1) := by decide +kernel
theorem b_Canvas_addPath_78 : tf_dec prog_3_method_3_code 78 [(.iload 5, 2), (.aload_n 1, 1)] = true := by decide +kernel
theorem d_Canvas_addPath_81 : decode prog_3_method_3_code 81 = .ok (.getfield 36, 3) := by decide +kernel
theorem b_Canvas_addPath_84 : tf_dec prog_3_method_3_code 84 [(.iload_n 2, 1)] = true := by decide +kernel
theorem d_Canvas_addPath_85 : decode prog_3_method_3_code 85 = .ok (.iaload, 1) := by decide +kernel
theorem b_Canvas_addPath_86 : tf_dec prog_3_method_3_code 86 [(.iload 4, 2), (.iconst (-1), 1)] = true := by decide +kernel
theorem d_Canvas_addPath_89 : decode prog_3_method_3_code 89 = .ok (.invokevirtual 39, 3) := by decide +kernel
theorem b_Canvas_addPath_92 : tf_dec prog_3_method_3_code 92 [(.iload_n 3, 1), (.istore_n 2, 1), (.iinc 3 1, 3)] = true := by decide +kernel
theorem d_Canvas_addPath_97 : decode prog_3_method_3_code 97 = .ok (.goto (-88), 3) := by decide +kernel
theorem d_Canvas_addPath_100 : decode prog_3_method_3_code 100 = .ok (.return_, 1) := by decide +kernel
theorem b_Canvas_turnToGreys_0 : tf_dec prog_3_method_4_code 0 [(.iconst 0, 1), (.istore_n 1, 1), (.iconst 0, 1), (.istore_n 2, 1)] = true := by decide +kernel
theorem b_Canvas_turnToGreys_4 : tf_dec prog_3_method_4_code 4 [(.iload_n 2, 1), (.aload_n 0, 1)] = true := by decide +kernel
theorem d_Canvas_turnToGreys_6 : decode prog_3_method_4_code 6 = .ok (.getfield 19, 3) := by decide +kernel
theorem d_Canvas_turnToGreys_9 : decode prog_3_method_4_code 9 = .ok (.if_icmp .ge 73, 3) := by decide +kernel
theorem b_Canvas_turnToGreys_12 : tf_dec prog_3_method_4_code 12 [(.iconst 0, 1), (.istore_n 3, 1), (.aload_n 0, 1)] = true := by decide +kernel
theorem d_Canvas_turnToGreys_15 : decode prog_3_method_4_code 15 = .ok (.getfield 19, 3) := by decide +kernel
theorem b_Canvas_turnToGreys_18 : tf_dec prog_3_method_4_code 18 [(.iconst 1, 1), (.isub, 1), (.istore 4, 2)] = true := by decide +kernel
theorem b_Canvas_turnToGreys_22 : tf_dec prog_3_method_4_code 22 [(.iload 4, 2)] = true := by decide +kernel
theorem d_Canvas_turnToGreys_24 : decode prog_3_method_4_code 24 = .ok (.ifCond .lt 52, 3) := by decide +kernel
theorem b_Canvas_turnToGreys_27 : tf_dec prog_3_method_4_code 27 [(.iload_n 2, 1), (.aload_n 0, 1)] = true := by decide +kernel
theorem d_Canvas_turnToGreys_29 : decode prog_3_method_4_code 29 = .ok (.getfield 19, 3) := by decide +kernel
theorem b_Canvas_turnToGreys_32 : tf_dec prog_3_method_4_code 32 [(.imul, 1), (.iload 4, 2), (.iadd, 1), (.istore 5, 2), (.iload_n 3, 1), (.aload_n 0, 1)] = true := by decide +kernel
theorem d_Canvas_turnToGreys_40 : decode prog_3_method_4_code 40 = .ok (.getfield 11, 3) := by decide +kernel
theorem b_Canvas_turnToGreys_43 : tf_dec prog_3_method_4_code 43 [(.iload 5, 2)] = true := by decide +kernel
theorem d_Canvas_turnToGreys_45 : decode prog_3_method_4_code 45 = .ok (.iaload, 1) := by decide +kernel
theorem b_Canvas_turnToGreys_46 : tf_dec prog_3_method_4_code 46 [(.iadd, 1), (.istore_n 3, 1), (.aload_n 0, 1)] = true := by decide +kernel
theorem d_Canvas_turnToGreys_49 : decode prog_3_method_4_code 49 = .ok (.getfield 11, 3) := by decide +kernel
theorem b_Canvas_turnToGreys_52 : tf_dec prog_3_method_4_code 52 [(.iload 5, 2), (.aload_n 0, 1), (.iload_n 3, 1)] = true := by decide +kernel
theorem d_Canvas_turnToGreys_56 : decode prog_3_method_4_code 56 = .ok (.invokevirtual 43, 3) := by decide +kernel
theorem d_Canvas_turnToGreys_59 : decode prog_3_method_4_code 59 = .ok (.iastore, 1) := by decide +kernel
theorem b_Canvas_turnToGreys_60 : tf_dec prog_3_method_4_code 60 [(.iload_n 1, 1), (.aload_n 0, 1)] = true := by decide +kernel
theorem d_Canvas_turnToGreys_62 : decode prog_3_method_4_code 62 = .ok (.getfield 11, 3) := by decide +kernel
theorem b_Canvas_turnToGreys_65 : tf_dec prog_3_method_4_code 65 [(.iload 5, 2)] = true := by decide +kernel
theorem d_Canvas_turnToGreys_67 : decode prog_3_method_4_code 67 = .ok (.iaload, 1) := by decide +kernel
theorem b_Canvas_turnToGreys_68 : tf_dec prog_3_method_4_code 68 [(.iadd, 1), (.istore_n 1, 1), (.iinc 4 (-1), 3)] = true := by decide +kernel
theorem d_Canvas_turnToGreys_73 : decode prog_3_method_4_code 73 = .ok (.goto (-51), 3) := by decide +kernel
theorem b_Canvas_turnToGreys_76 : tf_dec prog_3_method_4_code 76 [(.iinc 2 1, 3)] = true := by decide +kernel
theorem d_Canvas_turnToGreys_79 : decode prog_3_method_4_code 79 = .ok (.goto (-75), 3) := by decide +kernel
theorem b_Canvas_turnToGreys_82 : tf_dec prog_3_method_4_code 82 [(.iload_n 1, 1)] = true := by decide +kernel
theorem d_Canvas_turnToGreys_83 : decode prog_3_method_4_code 83 = .ok (.ireturn, 1) := by decide +kernel
theorem b_Canvas_greyAt_0 : tf_dec prog_3_method_5_code 0 [(.iload_n 1, 1), (.iconst 0, 1), (.aload_n 0, 1)] = true := by decide +kernel
theorem d_Canvas_greyAt_3 : decode prog_3_method_5_code 3 = .ok (.getfield 19, 3) := by decide +kernel
theorem b_Canvas_greyAt_6 : tf_dec prog_3_method_5_code 6 [(.iconst 1, 1), (.isub, 1)] = true := by decide +kernel
theorem d_Canvas_greyAt_8 : decode prog_3_method_5_code 8 = .ok (.invokestatic 47, 3) := by decide +kernel
theorem d_Canvas_greyAt_11 : decode prog_3_method_5_code 11 = .ok (.ifCond .eq 21, 3) := by decide +kernel
theorem b_Canvas_greyAt_14 : tf_dec prog_3_method_5_code 14 [(.iload_n 2, 1), (.iconst 0, 1), (.aload_n 0, 1)] = true := by decide +kernel
theorem d_Canvas_greyAt_17 : decode prog_3_method_5_code 17 = .ok (.getfield 19, 3) := by decide +kernel
theorem b_Canvas_greyAt_20 : tf_dec prog_3_method_5_code 20 [(.iconst 1, 1), (.isub, 1)] = true := by decide +kernel
theorem d_Canvas_greyAt_22 : decode prog_3_method_5_code 22 = .ok (.invokestatic 47, 3) := by decide +kernel
theorem d_Canvas_greyAt_25 : decode prog_3_method_5_code 25 = .ok (.ifCond .eq 7, 3) := by decide +kernel
theorem b_Canvas_greyAt_28 : tf_dec prog_3_method_5_code 28 [(.iconst 1, 1)] = true := by decide +kernel
theorem d_Canvas_greyAt_29 : decode prog_3_method_5_code 29 = .ok (.goto 4, 3) := by decide +kernel
theorem b_Canvas_greyAt_32 : tf_dec prog_3_method_5_code 32 [(.iconst 0, 1)] = true := by decide +kernel
theorem b_Canvas_greyAt_33 : tf_dec prog_3_method_5_code 33 [(.istore_n 3, 1), (.iload_n 3, 1)] = true := by decide +kernel
theorem d_Canvas_greyAt_35 : decode prog_3_method_5_code 35 = .ok (.ifCond .eq 19, 3) := by decide +kernel
theorem b_Canvas_greyAt_38 : tf_dec prog_3_method_5_code 38 [(.aload_n 0, 1)] = true := by decide +kernel
theorem d_Canvas_greyAt_39 : decode prog_3_method_5_code 39 = .ok (.getfield 11, 3) := by decide +kernel
theorem b_Canvas_greyAt_42 : tf_dec prog_3_method_5_code 42 [(.iload_n 2, 1), (.aload_n 0, 1)] = true := by decide +kernel
theorem d_Canvas_greyAt_44 : decode prog_3_method_5_code 44 = .ok (.getfield 19, 3) := by decide +kernel
theorem b_Canvas_greyAt_47 : tf_dec prog_3_method_5_code 47 [(.imul, 1), (.iload_n 1, 1), (.iadd, 1)] = true := by decide +kernel
theorem d_Canvas_greyAt_50 : decode prog_3_method_5_code 50 = .ok (.iaload, 1) := by decide +kernel
theorem d_Canvas_greyAt_51 : decode prog_3_method_5_code 51 = .ok (.goto 4, 3) := by decide +kernel
theorem b_Canvas_greyAt_54 : tf_dec prog_3_method_5_code 54 [(.iconst (-1), 1)] = true := by decide +kernel
theorem d_Canvas_greyAt_55 : decode prog_3_method_5_code 55 = .ok (.ireturn, 1) := by decide +kernel
theorem d_Canvas_grey_0 : decode prog_3_method_6_code 0 = .ok (.ldc2_w 51, 3) := by decide +kernel
theorem b_Canvas_grey_3 : tf_dec prog_3_method_6_code 3 [(.iload_n 1, 1), (.i2l, 1), (.lmul, 1), (.iconst 2, 1), (.aload_n 0, 1)] = true := by decide +kernel
theorem d_Canvas_grey_8 : decode prog_3_method_6_code 8 = .ok (.getfield 15, 3) := by decide +kernel
theorem b_Canvas_grey_11 : tf_dec prog_3_method_6_code 11 [(.imul, 1), (.aload_n 0, 1)] = true := by decide +kernel
theorem d_Canvas_grey_13 : decode prog_3_method_6_code 13 = .ok (.getfield 15, 3) := by decide +kernel
theorem b_Canvas_grey_16 : tf_dec prog_3_method_6_code 16 [(.imul, 1), (.i2l, 1)] = true := by decide +kernel
theorem d_Canvas_grey_18 : decode prog_3_method_6_code 18 = .ok (.invokestatic 53, 3) := by decide +kernel
theorem b_Canvas_grey_21 : tf_dec prog_3_method_6_code 21 [(.istore_n 2, 1), (.iconst 0, 1), (.sipush 255, 3), (.iload_n 2, 1)] = true := by decide +kernel
theorem d_Canvas_grey_27 : decode prog_3_method_6_code 27 = .ok (.invokestatic 57, 3) := by decide +kernel
theorem d_Canvas_grey_30 : decode prog_3_method_6_code 30 = .ok (.invokestatic 63, 3) := by decide +kernel
theorem d_Canvas_grey_33 : decode prog_3_method_6_code 33 = .ok (.ireturn, 1) := by decide +kernel
theorem b_Canvas_addRising_0 : tf_dec prog_3_method_7_code 0 [(.iload_n 1, 1), (.istore 6, 2), (.iload_n 2, 1), (.istore 7, 2), (.iconst 0, 1), (.aload_n 0, 1), (.iload_n 2, 1)] = true := by decide +kernel
theorem d_Canvas_addRising_9 : decode prog_3_method_7_code 9 = .ok (.invokevirtual 66, 3) := by decide +kernel
theorem d_Canvas_addRising_12 : decode prog_3_method_7_code 12 = .ok (.invokestatic 63, 3) := by decide +kernel
theorem b_Canvas_addRising_15 : tf_dec prog_3_method_7_code 15 [(.istore 8, 2)] = true := by decide +kernel
theorem b_Canvas_addRising_17 : tf_dec prog_3_method_7_code 17 [(.iload 8, 2), (.aload_n 0, 1)] = true := by decide +kernel
theorem d_Canvas_addRising_20 : decode prog_3_method_7_code 20 = .ok (.getfield 19, 3) := by decide +kernel
theorem d_Canvas_addRising_23 : decode prog_3_method_7_code 23 = .ok (.if_icmp .gt 64, 3) := by decide +kernel
theorem b_Canvas_addRising_26 : tf_dec prog_3_method_7_code 26 [(.iload 8, 2), (.aload_n 0, 1)] = true := by decide +kernel
theorem d_Canvas_addRising_29 : decode prog_3_method_7_code 29 = .ok (.getfield 15, 3) := by decide +kernel
theorem b_Canvas_addRising_32 : tf_dec prog_3_method_7_code 32 [(.imul, 1), (.iload 4, 2)] = true := by decide +kernel
theorem d_Canvas_addRising_35 : decode prog_3_method_7_code 35 = .ok (.if_icmp .ge 52, 3) := by decide +kernel
theorem b_Canvas_addRising_38 : tf_dec prog_3_method_7_code 38 [(.iload 8, 2), (.aload_n 0, 1)] = true := by decide +kernel
theorem d_Canvas_addRising_41 : decode prog_3_method_7_code 41 = .ok (.getfield 15, 3) := by decide +kernel
theorem b_Canvas_addRising_44 : tf_dec prog_3_method_7_code 44 [(.imul, 1), (.istore 9, 2), (.iload_n 2, 1), (.iload_n 1, 1), (.iload 4, 2), (.iload_n 3, 1), (.iload 9, 2)] = true := by decide +kernel
theorem d_Canvas_addRising_54 : decode prog_3_method_7_code 54 = .ok (.invokestatic 69, 3) := by decide +kernel
theorem b_Canvas_addRising_57 : tf_dec prog_3_method_7_code 57 [(.istore 10, 2), (.aload_n 0, 1), (.iload 6, 2), (.iload 7, 2), (.iload 10, 2), (.iload 9, 2), (.iload 5, 2)] = true := by decide +kernel
theorem d_Canvas_addRising_70 : decode prog_3_method_7_code 70 = .ok (.invokevirtual 73, 3) := by decide +kernel
theorem b_Canvas_addRising_73 : tf_dec prog_3_method_7_code 73 [(.iload 10, 2), (.istore 6, 2), (.iload 9, 2), (.istore 7, 2), (.iinc 8 1, 3)] = true := by decide +kernel
theorem d_Canvas_addRising_84 : decode prog_3_method_7_code 84 = .ok (.goto (-67), 3) := by decide +kernel
theorem b_Canvas_addRising_87 : tf_dec prog_3_method_7_code 87 [(.aload_n 0, 1), (.iload 6, 2), (.iload 7, 2), (.iload_n 3, 1), (.iload 4, 2), (.iload 5, 2)] = true := by decide +kernel
theorem d_Canvas_addRising_97 : decode prog_3_method_7_code 97 = .ok (.invokevirtual 73, 3) := by decide +kernel
theorem d_Canvas_addRising_100 : decode prog_3_method_7_code 100 = .ok (.return_, 1) := by decide +kernel
theorem b_Canvas_addPart_0 : tf_dec prog_3_method_8_code 0 [(.iload_n 2, 1), (.aload_n 0, 1)] = true := by decide +kernel
theorem d_Canvas_addPart_2 : decode prog_3_method_8_code 2 = .ok (.getfield 15, 3) := by decide +kernel
theorem d_Canvas_addPart_5 : decode prog_3_method_8_code 5 = .ok (.invokestatic 76, 3) := by decide +kernel
theorem b_Canvas_addPart_8 : tf_dec prog_3_method_8_code 8 [(.istore 6, 2), (.iload 6, 2), (.iconst 0, 1), (.aload_n 0, 1)] = true := by decide +kernel
theorem d_Canvas_addPart_14 : decode prog_3_method_8_code 14 = .ok (.getfield 19, 3) := by decide +kernel
theorem b_Canvas_addPart_17 : tf_dec prog_3_method_8_code 17 [(.iconst 1, 1), (.isub, 1)] = true := by decide +kernel
theorem d_Canvas_addPart_19 : decode prog_3_method_8_code 19 = .ok (.invokestatic 47, 3) := by decide +kernel
theorem d_Canvas_addPart_22 : decode prog_3_method_8_code 22 = .ok (.ifCond .ne 4, 3) := by decide +kernel
theorem d_Canvas_addPart_25 : decode prog_3_method_8_code 25 = .ok (.return_, 1) := by decide +kernel
theorem b_Canvas_addPart_26 : tf_dec prog_3_method_8_code 26 [(.iload_n 1, 1), (.iload_n 3, 1)] = true := by decide +kernel
theorem d_Canvas_addPart_28 : decode prog_3_method_8_code 28 = .ok (.if_icmp .gt 7, 3) := by decide +kernel
theorem b_Canvas_addPart_31 : tf_dec prog_3_method_8_code 31 [(.iconst 1, 1)] = true := by decide +kernel
theorem d_Canvas_addPart_32 : decode prog_3_method_8_code 32 = .ok (.goto 4, 3) := by decide +kernel
theorem b_Canvas_addPart_35 : tf_dec prog_3_method_8_code 35 [(.iconst 0, 1)] = true := by decide +kernel
theorem b_Canvas_addPart_36 : tf_dec prog_3_method_8_code 36 [(.istore 7, 2), (.iload 7, 2)] = true := by decide +kernel
theorem d_Canvas_addPart_40 : decode prog_3_method_8_code 40 = .ok (.ifCond .eq 7, 3) := by decide +kernel
theorem b_Canvas_addPart_43 : tf_dec prog_3_method_8_code 43 [(.iload_n 1, 1)] = true := by decide +kernel
theorem d_Canvas_addPart_44 : decode prog_3_method_8_code 44 = .ok (.goto 4, 3) := by decide +kernel
theorem b_Canvas_addPart_47 : tf_dec prog_3_method_8_code 47 [(.iload_n 3, 1)] = true := by decide +kernel
theorem b_Canvas_addPart_48 : tf_dec prog_3_method_8_code 48 [(.istore 8, 2), (.iload 7, 2)] = true := by decide +kernel
theorem d_Canvas_addPart_52 : decode prog_3_method_8_code 52 = .ok (.ifCond .eq 7, 3) := by decide +kernel
theorem b_Canvas_addPart_55 : tf_dec prog_3_method_8_code 55 [(.iload_n 2, 1)] = true := by decide +kernel
theorem d_Canvas_addPart_56 : decode prog_3_method_8_code 56 = .ok (.goto 5, 3) := by decide +kernel
theorem b_Canvas_addPart_59 : tf_dec prog_3_method_8_code 59 [(.iload 4, 2)] = true := by decide +kernel
theorem b_Canvas_addPart_61 : tf_dec prog_3_method_8_code 61 [(.istore 9, 2), (.iload 7, 2)] = true := by decide +kernel
theorem d_Canvas_addPart_65 : decode prog_3_method_8_code 65 = .ok (.ifCond .eq 7, 3) := by decide +kernel
theorem b_Canvas_addPart_68 : tf_dec prog_3_method_8_code 68 [(.iload_n 3, 1)] = true := by decide +kernel
theorem d_Canvas_addPart_69 : decode prog_3_method_8_code 69 = .ok (.goto 4, 3) := by decide +kernel
theorem b_Canvas_addPart_72 : tf_dec prog_3_method_8_code 72 [(.iload_n 1, 1)] = true := by decide +kernel
theorem b_Canvas_addPart_73 : tf_dec prog_3_method_8_code 73 [(.istore 10, 2), (.iload 7, 2)] = true := by decide +kernel
theorem d_Canvas_addPart_77 : decode prog_3_method_8_code 77 = .ok (.ifCond .eq 8, 3) := by decide +kernel
theorem b_Canvas_addPart_80 : tf_dec prog_3_method_8_code 80 [(.iload 4, 2)] = true := by decide +kernel
theorem d_Canvas_addPart_82 : decode prog_3_method_8_code 82 = .ok (.goto 4, 3) := by decide +kernel
theorem b_Canvas_addPart_85 : tf_dec prog_3_method_8_code 85 [(.iload_n 2, 1)] = true := by decide +kernel
theorem b_Canvas_addPart_86 : tf_dec prog_3_method_8_code 86 [(.istore 11, 2), (.iload 8, 2), (.istore 12, 2), (.iload 9, 2), (.istore 13, 2), (.iconst 0, 1), (.aload_n 0, 1), (.iload 8, 2)] = true := by decide +kernel
theorem d_Canvas_addPart_100 : decode prog_3_method_8_code 100 = .ok (.invokevirtual 66, 3) := by decide +kernel
theorem d_Canvas_addPart_103 : decode prog_3_method_8_code 103 = .ok (.invokestatic 63, 3) := by decide +kernel
theorem b_Canvas_addPart_106 : tf_dec prog_3_method_8_code 106 [(.istore 14, 2)] = true := by decide +kernel
theorem b_Canvas_addPart_108 : tf_dec prog_3_method_8_code 108 [(.iload 14, 2), (.aload_n 0, 1)] = true := by decide +kernel
theorem d_Canvas_addPart_111 : decode prog_3_method_8_code 111 = .ok (.getfield 19, 3) := by decide +kernel
theorem d_Canvas_addPart_114 : decode prog_3_method_8_code 114 = .ok (.if_icmp .gt 74, 3) := by decide +kernel
theorem b_Canvas_addPart_117 : tf_dec prog_3_method_8_code 117 [(.iload 14, 2), (.aload_n 0, 1)] = true := by decide +kernel
theorem d_Canvas_addPart_120 : decode prog_3_method_8_code 120 = .ok (.getfield 15, 3) := by decide +kernel
theorem b_Canvas_addPart_123 : tf_dec prog_3_method_8_code 123 [(.imul, 1), (.iload 10, 2)] = true := by decide +kernel
theorem d_Canvas_addPart_126 : decode prog_3_method_8_code 126 = .ok (.if_icmp .ge 62, 3) := by decide +kernel
theorem b_Canvas_addPart_129 : tf_dec prog_3_method_8_code 129 [(.iload 14, 2), (.aload_n 0, 1)] = true := by decide +kernel
theorem d_Canvas_addPart_132 : decode prog_3_method_8_code 132 = .ok (.getfield 15, 3) := by decide +kernel
theorem b_Canvas_addPart_135 : tf_dec prog_3_method_8_code 135 [(.imul, 1), (.istore 15, 2), (.iload 8, 2), (.iload 9, 2), (.iload 10, 2), (.iload 11, 2), (.iload 15, 2)] = true := by decide +kernel
theorem d_Canvas_addPart_148 : decode prog_3_method_8_code 148 = .ok (.invokestatic 69, 3) := by decide +kernel
theorem b_Canvas_addPart_151 : tf_dec prog_3_method_8_code 151 [(.istore 16, 2), (.aload_n 0, 1), (.iload 6, 2), (.iload 12, 2), (.iload 15, 2), (.iload 5, 2), (.iload 16, 2), (.iload 13, 2), (.isub, 1)] = true := by decide +kernel
theorem d_Canvas_addPart_167 : decode prog_3_method_8_code 167 = .ok (.invokestatic 79, 3) := by decide +kernel
theorem b_Canvas_addPart_170 : tf_dec prog_3_method_8_code 170 [(.imul, 1)] = true := by decide +kernel
theorem d_Canvas_addPart_171 : decode prog_3_method_8_code 171 = .ok (.invokevirtual 82, 3) := by decide +kernel
theorem b_Canvas_addPart_174 : tf_dec prog_3_method_8_code 174 [(.iload 15, 2), (.istore 12, 2), (.iload 16, 2), (.istore 13, 2), (.iinc 14 1, 3)] = true := by decide +kernel
theorem d_Canvas_addPart_185 : decode prog_3_method_8_code 185 = .ok (.goto (-77), 3) := by decide +kernel
theorem b_Canvas_addPart_188 : tf_dec prog_3_method_8_code 188 [(.aload_n 0, 1), (.iload 6, 2), (.iload 12, 2), (.iload 10, 2), (.iload 5, 2), (.iload 11, 2), (.iload 13, 2), (.isub, 1)] = true := by decide +kernel
theorem d_Canvas_addPart_202 : decode prog_3_method_8_code 202 = .ok (.invokestatic 79, 3) := by decide +kernel
theorem b_Canvas_addPart_205 : tf_dec prog_3_method_8_code 205 [(.imul, 1)] = true := by decide +kernel
theorem d_Canvas_addPart_206 : decode prog_3_method_8_code 206 = .ok (.invokevirtual 82, 3) := by decide +kernel
theorem d_Canvas_addPart_209 : decode prog_3_method_8_code 209 = .ok (.return_, 1) := by decide +kernel
theorem b_Canvas_addRise_0 : tf_dec prog_3_method_9_code 0 [(.iload_n 2, 1), (.aload_n 0, 1)] = true := by decide +kernel
theorem d_Canvas_addRise_2 : decode prog_3_method_9_code 2 = .ok (.getfield 15, 3) := by decide +kernel
theorem d_Canvas_addRise_5 : decode prog_3_method_9_code 5 = .ok (.invokestatic 76, 3) := by decide +kernel
theorem b_Canvas_addRise_8 : tf_dec prog_3_method_9_code 8 [(.istore 5, 2), (.iconst 2, 1), (.aload_n 0, 1)] = true := by decide +kernel
theorem d_Canvas_addRise_12 : decode prog_3_method_9_code 12 = .ok (.getfield 15, 3) := by decide +kernel
theorem b_Canvas_addRise_15 : tf_dec prog_3_method_9_code 15 [(.imul, 1), (.iload 4, 2), (.imul, 1), (.istore 6, 2), (.iload 5, 2), (.aload_n 0, 1)] = true := by decide +kernel
theorem d_Canvas_addRise_24 : decode prog_3_method_9_code 24 = .ok (.getfield 19, 3) := by decide +kernel
theorem d_Canvas_addRise_27 : decode prog_3_method_9_code 27 = .ok (.if_icmp .lt 29, 3) := by decide +kernel
theorem b_Canvas_addRise_30 : tf_dec prog_3_method_9_code 30 [(.aload_n 0, 1)] = true := by decide +kernel
theorem d_Canvas_addRise_31 : decode prog_3_method_9_code 31 = .ok (.getfield 11, 3) := by decide +kernel
theorem b_Canvas_addRise_34 : tf_dec prog_3_method_9_code 34 [(.iload_n 1, 1), (.aload_n 0, 1)] = true := by decide +kernel
theorem d_Canvas_addRise_36 : decode prog_3_method_9_code 36 = .ok (.getfield 19, 3) := by decide +kernel
theorem b_Canvas_addRise_39 : tf_dec prog_3_method_9_code 39 [(.imul, 1), (.aload_n 0, 1)] = true := by decide +kernel
theorem d_Canvas_addRise_41 : decode prog_3_method_9_code 41 = .ok (.getfield 19, 3) := by decide +kernel
theorem b_Canvas_addRise_44 : tf_dec prog_3_method_9_code 44 [(.iadd, 1), (.iconst 1, 1), (.isub, 1), (.dup2, 1)] = true := by decide +kernel
theorem d_Canvas_addRise_48 : decode prog_3_method_9_code 48 = .ok (.iaload, 1) := by decide +kernel
theorem b_Canvas_addRise_49 : tf_dec prog_3_method_9_code 49 [(.iload 6, 2), (.iadd, 1)] = true := by decide +kernel
theorem d_Canvas_addRise_52 : decode prog_3_method_9_code 52 = .ok (.iastore, 1) := by decide +kernel
theorem d_Canvas_addRise_53 : decode prog_3_method_9_code 53 = .ok (.goto 74, 3) := by decide +kernel
theorem b_Canvas_addRise_56 : tf_dec prog_3_method_9_code 56 [(.iload 5, 2)] = true := by decide +kernel
theorem d_Canvas_addRise_58 : decode prog_3_method_9_code 58 = .ok (.ifCond .lt 69, 3) := by decide +kernel
theorem b_Canvas_addRise_61 : tf_dec prog_3_method_9_code 61 [(.iload_n 2, 1), (.iload_n 3, 1), (.iadd, 1), (.iconst 2, 1), (.iload 5, 2), (.imul, 1), (.aload_n 0, 1)] = true := by decide +kernel
theorem d_Canvas_addRise_69 : decode prog_3_method_9_code 69 = .ok (.getfield 15, 3) := by decide +kernel
theorem b_Canvas_addRise_72 : tf_dec prog_3_method_9_code 72 [(.imul, 1), (.isub, 1), (.iload 4, 2), (.imul, 1), (.istore 7, 2), (.aload_n 0, 1)] = true := by decide +kernel
theorem d_Canvas_addRise_80 : decode prog_3_method_9_code 80 = .ok (.getfield 11, 3) := by decide +kernel
theorem b_Canvas_addRise_83 : tf_dec prog_3_method_9_code 83 [(.iload_n 1, 1), (.aload_n 0, 1)] = true := by decide +kernel
theorem d_Canvas_addRise_85 : decode prog_3_method_9_code 85 = .ok (.getfield 19, 3) := by decide +kernel
theorem b_Canvas_addRise_88 : tf_dec prog_3_method_9_code 88 [(.imul, 1), (.iload 5, 2), (.iadd, 1), (.dup2, 1)] = true := by decide +kernel
theorem d_Canvas_addRise_93 : decode prog_3_method_9_code 93 = .ok (.iaload, 1) := by decide +kernel
theorem b_Canvas_addRise_94 : tf_dec prog_3_method_9_code 94 [(.iload 7, 2), (.iadd, 1)] = true := by decide +kernel
theorem d_Canvas_addRise_97 : decode prog_3_method_9_code 97 = .ok (.iastore, 1) := by decide +kernel
theorem b_Canvas_addRise_98 : tf_dec prog_3_method_9_code 98 [(.iload 5, 2)] = true := by decide +kernel
theorem d_Canvas_addRise_100 : decode prog_3_method_9_code 100 = .ok (.ifCond .le 27, 3) := by decide +kernel
theorem b_Canvas_addRise_103 : tf_dec prog_3_method_9_code 103 [(.aload_n 0, 1)] = true := by decide +kernel
theorem d_Canvas_addRise_104 : decode prog_3_method_9_code 104 = .ok (.getfield 11, 3) := by decide +kernel
theorem b_Canvas_addRise_107 : tf_dec prog_3_method_9_code 107 [(.iload_n 1, 1), (.aload_n 0, 1)] = true := by decide +kernel
theorem d_Canvas_addRise_109 : decode prog_3_method_9_code 109 = .ok (.getfield 19, 3) := by decide +kernel
theorem b_Canvas_addRise_112 : tf_dec prog_3_method_9_code 112 [(.imul, 1), (.iload 5, 2), (.iadd, 1), (.iconst 1, 1), (.isub, 1), (.dup2, 1)] = true := by decide +kernel
theorem d_Canvas_addRise_119 : decode prog_3_method_9_code 119 = .ok (.iaload, 1) := by decide +kernel
theorem b_Canvas_addRise_120 : tf_dec prog_3_method_9_code 120 [(.iload 6, 2), (.iload 7, 2), (.isub, 1), (.iadd, 1)] = true := by decide +kernel
theorem d_Canvas_addRise_126 : decode prog_3_method_9_code 126 = .ok (.iastore, 1) := by decide +kernel
theorem d_Canvas_addRise_127 : decode prog_3_method_9_code 127 = .ok (.return_, 1) := by decide +kernel
theorem b_Canvas_firstCut_0 : tf_dec prog_3_method_10_code 0 [(.iload_n 1, 1), (.aload_n 0, 1)] = true := by decide +kernel
theorem d_Canvas_firstCut_2 : decode prog_3_method_10_code 2 = .ok (.getfield 15, 3) := by decide +kernel
theorem d_Canvas_firstCut_5 : decode prog_3_method_10_code 5 = .ok (.invokestatic 76, 3) := by decide +kernel
theorem b_Canvas_firstCut_8 : tf_dec prog_3_method_10_code 8 [(.iconst 1, 1), (.iadd, 1)] = true := by decide +kernel
theorem d_Canvas_firstCut_10 : decode prog_3_method_10_code 10 = .ok (.ireturn, 1) := by decide +kernel
theorem b_Canvas_crossing_0 : tf_dec prog_3_method_11_code 0 [(.iload_n 1, 1), (.iload 4, 2), (.iload_n 0, 1), (.isub, 1), (.i2l, 1), (.iload_n 3, 1), (.iload_n 1, 1), (.isub, 1), (.i2l, 1), (.lmul, 1), (.iload_n 2, 1), (.iload_n 0, 1), (.isub, 1), (.i2l, 1)] = true := by decide +kernel
theorem d_Canvas_crossing_15 : decode prog_3_method_11_code 15 = .ok (.invokestatic 53, 3) := by decide +kernel
theorem b_Canvas_crossing_18 : tf_dec prog_3_method_11_code 18 [(.iadd, 1)] = true := by decide +kernel
theorem d_Canvas_crossing_19 : decode prog_3_method_11_code 19 = .ok (.ireturn, 1) := by decide +kernel
theorem b_Glyph_init_0 : tf_dec prog_4_method_1_code 0 [(.aload_n 0, 1)] = true := by decide +kernel
theorem d_Glyph_init_1 : decode prog_4_method_1_code 1 = .ok (.invokespecial 3, 3) := by decide +kernel
theorem b_Glyph_init_4 : tf_dec prog_4_method_1_code 4 [(.aload_n 0, 1), (.bipush 40, 2)] = true := by decide +kernel
theorem d_Glyph_init_7 : decode prog_4_method_1_code 7 = .ok (.newarray .boolean, 2) := by decide +kernel
theorem d_Glyph_init_9 : decode prog_4_method_1_code 9 = .ok (.putfield 9, 3) := by decide +kernel
theorem b_Glyph_init_12 : tf_dec prog_4_method_1_code 12 [(.aload_n 0, 1), (.bipush 13, 2)] = true := by decide +kernel
theorem d_Glyph_init_15 : decode prog_4_method_1_code 15 = .ok (.newarray .int, 2) := by decide +kernel
theorem d_Glyph_init_17 : decode prog_4_method_1_code 17 = .ok (.putfield 15, 3) := by decide +kernel
theorem b_Glyph_init_20 : tf_dec prog_4_method_1_code 20 [(.aload_n 0, 1), (.iconst 4, 1)] = true := by decide +kernel
theorem d_Glyph_init_22 : decode prog_4_method_1_code 22 = .ok (.anewarray 19, 3) := by decide +kernel
theorem d_Glyph_init_25 : decode prog_4_method_1_code 25 = .ok (.putfield 21, 3) := by decide +kernel
theorem b_Glyph_init_28 : tf_dec prog_4_method_1_code 28 [(.aload_n 0, 1), (.iload_n 1, 1)] = true := by decide +kernel
theorem d_Glyph_init_30 : decode prog_4_method_1_code 30 = .ok (.putfield 25, 3) := by decide +kernel
theorem b_Glyph_init_33 : tf_dec prog_4_method_1_code 33 [(.aload_n 0, 1), (.bipush 40, 2), (.iload_n 1, 1), (.imul, 1)] = true := by decide +kernel
theorem d_Glyph_init_38 : decode prog_4_method_1_code 38 = .ok (.newarray .int, 2) := by decide +kernel
theorem d_Glyph_init_40 : decode prog_4_method_1_code 40 = .ok (.putfield 29, 3) := by decide +kernel
theorem b_Glyph_init_43 : tf_dec prog_4_method_1_code 43 [(.aload_n 0, 1), (.bipush 40, 2), (.iload_n 1, 1), (.imul, 1)] = true := by decide +kernel
theorem d_Glyph_init_48 : decode prog_4_method_1_code 48 = .ok (.newarray .int, 2) := by decide +kernel
theorem d_Glyph_init_50 : decode prog_4_method_1_code 50 = .ok (.putfield 32, 3) := by decide +kernel
theorem b_Glyph_init_53 : tf_dec prog_4_method_1_code 53 [(.aload_n 0, 1), (.iload_n 1, 1)] = true := by decide +kernel
theorem d_Glyph_init_55 : decode prog_4_method_1_code 55 = .ok (.newarray .int, 2) := by decide +kernel
theorem d_Glyph_init_57 : decode prog_4_method_1_code 57 = .ok (.putfield 35, 3) := by decide +kernel
theorem d_Glyph_init_60 : decode prog_4_method_1_code 60 = .ok (.return_, 1) := by decide +kernel
theorem b_Glyph_addPoint_0 : tf_dec prog_4_method_2_code 0 [(.iconst 0, 1), (.istore 4, 2)] = true := by decide +kernel
theorem b_Glyph_addPoint_3 : tf_dec prog_4_method_2_code 3 [(.iload 4, 2), (.aload_n 0, 1)] = true := by decide +kernel
theorem d_Glyph_addPoint_6 : decode prog_4_method_2_code 6 = .ok (.getfield 25, 3) := by decide +kernel
theorem d_Glyph_addPoint_9 : decode prog_4_method_2_code 9 = .ok (.if_icmp .ge 21, 3) := by decide +kernel
theorem b_Glyph_addPoint_12 : tf_dec prog_4_method_2_code 12 [(.aload_n 0, 1), (.aload_n 0, 1)] = true := by decide +kernel
theorem d_Glyph_addPoint_14 : decode prog_4_method_2_code 14 = .ok (.getfield 38, 3) := by decide +kernel
theorem b_Glyph_addPoint_17 : tf_dec prog_4_method_2_code 17 [(.iload 4, 2), (.iload_n 1, 1), (.iload_n 2, 1)] = true := by decide +kernel
theorem d_Glyph_addPoint_21 : decode prog_4_method_2_code 21 = .ok (.invokevirtual 41, 3) := by decide +kernel
theorem b_Glyph_addPoint_24 : tf_dec prog_4_method_2_code 24 [(.iinc 4 1, 3)] = true := by decide +kernel
theorem d_Glyph_addPoint_27 : decode prog_4_method_2_code 27 = .ok (.goto (-24), 3) := by decide +kernel
theorem b_Glyph_addPoint_30 : tf_dec prog_4_method_2_code 30 [(.aload_n 0, 1)] = true := by decide +kernel
theorem d_Glyph_addPoint_31 : decode prog_4_method_2_code 31 = .ok (.getfield 9, 3) := by decide +kernel
theorem b_Glyph_addPoint_34 : tf_dec prog_4_method_2_code 34 [(.aload_n 0, 1)] = true := by decide +kernel
theorem d_Glyph_addPoint_35 : decode prog_4_method_2_code 35 = .ok (.getfield 38, 3) := by decide +kernel
theorem b_Glyph_addPoint_38 : tf_dec prog_4_method_2_code 38 [(.iload_n 3, 1)] = true := by decide +kernel
theorem d_Glyph_addPoint_39 : decode prog_4_method_2_code 39 = .ok (.bastore, 1) := by decide +kernel
theorem b_Glyph_addPoint_40 : tf_dec prog_4_method_2_code 40 [(.aload_n 0, 1), (.dup, 1)] = true := by decide +kernel
theorem d_Glyph_addPoint_42 : decode prog_4_method_2_code 42 = .ok (.getfield 38, 3) := by decide +kernel
theorem b_Glyph_addPoint_45 : tf_dec prog_4_method_2_code 45 [(.dup_x1, 1), (.iconst 1, 1), (.iadd, 1)] = true := by decide +kernel
theorem d_Glyph_addPoint_48 : decode prog_4_method_2_code 48 = .ok (.putfield 38, 3) := by decide +kernel
theorem d_Glyph_addPoint_51 : decode prog_4_method_2_code 51 = .ok (.ireturn, 1) := by decide +kernel
theorem b_Glyph_movePoint_0 : tf_dec prog_4_method_3_code 0 [(.aload_n 0, 1)] = true := by decide +kernel
theorem d_Glyph_movePoint_1 : decode prog_4_method_3_code 1 = .ok (.getfield 29, 3) := by decide +kernel
theorem b_Glyph_movePoint_4 : tf_dec prog_4_method_3_code 4 [(.iload_n 1, 1), (.aload_n 0, 1)] = true := by decide +kernel
theorem d_Glyph_movePoint_6 : decode prog_4_method_3_code 6 = .ok (.getfield 25, 3) := by decide +kernel
theorem b_Glyph_movePoint_9 : tf_dec prog_4_method_3_code 9 [(.imul, 1), (.iload_n 2, 1), (.iadd, 1), (.iload_n 3, 1)] = true := by decide +kernel
theorem d_Glyph_movePoint_13 : decode prog_4_method_3_code 13 = .ok (.iastore, 1) := by decide +kernel
theorem b_Glyph_movePoint_14 : tf_dec prog_4_method_3_code 14 [(.aload_n 0, 1)] = true := by decide +kernel
theorem d_Glyph_movePoint_15 : decode prog_4_method_3_code 15 = .ok (.getfield 32, 3) := by decide +kernel
theorem b_Glyph_movePoint_18 : tf_dec prog_4_method_3_code 18 [(.iload_n 1, 1), (.aload_n 0, 1)] = true := by decide +kernel
theorem d_Glyph_movePoint_20 : decode prog_4_method_3_code 20 = .ok (.getfield 25, 3) := by decide +kernel
theorem b_Glyph_movePoint_23 : tf_dec prog_4_method_3_code 23 [(.imul, 1), (.iload_n 2, 1), (.iadd, 1), (.iload 4, 2)] = true := by decide +kernel
theorem d_Glyph_movePoint_28 : decode prog_4_method_3_code 28 = .ok (.iastore, 1) := by decide +kernel
theorem d_Glyph_movePoint_29 : decode prog_4_method_3_code 29 = .ok (.return_, 1) := by decide +kernel
theorem b_Glyph_endContour_0 : tf_dec prog_4_method_4_code 0 [(.aload_n 0, 1)] = true := by decide +kernel
theorem d_Glyph_endContour_1 : decode prog_4_method_4_code 1 = .ok (.getfield 45, 3) := by decide +kernel
theorem d_Glyph_endContour_4 : decode prog_4_method_4_code 4 = .ok (.ifCond .ne 16, 3) := by decide +kernel
theorem b_Glyph_endContour_7 : tf_dec prog_4_method_4_code 7 [(.aload_n 0, 1)] = true := by decide +kernel
theorem d_Glyph_endContour_8 : decode prog_4_method_4_code 8 = .ok (.getfield 38, 3) := by decide +kernel
theorem b_Glyph_endContour_11 : tf_dec prog_4_method_4_code 11 [(.aload_n 0, 1)] = true := by decide +kernel
theorem d_Glyph_endContour_12 : decode prog_4_method_4_code 12 = .ok (.getfield 49, 3) := by decide +kernel
theorem b_Glyph_endContour_15 : tf_dec prog_4_method_4_code 15 [(.isub, 1), (.iconst 3, 1)] = true := by decide +kernel
theorem d_Glyph_endContour_17 : decode prog_4_method_4_code 17 = .ok (.if_icmp .ge 5, 3) := by decide +kernel
theorem b_Glyph_endContour_20 : tf_dec prog_4_method_4_code 20 [(.iconst 0, 1)] = true := by decide +kernel
theorem d_Glyph_endContour_21 : decode prog_4_method_4_code 21 = .ok (.ireturn, 1) := by decide +kernel
theorem b_Glyph_endContour_22 : tf_dec prog_4_method_4_code 22 [(.aload_n 0, 1)] = true := by decide +kernel
theorem d_Glyph_endContour_23 : decode prog_4_method_4_code 23 = .ok (.getfield 15, 3) := by decide +kernel
theorem b_Glyph_endContour_26 : tf_dec prog_4_method_4_code 26 [(.aload_n 0, 1)] = true := by decide +kernel
theorem d_Glyph_endContour_27 : decode prog_4_method_4_code 27 = .ok (.getfield 52, 3) := by decide +kernel
theorem b_Glyph_endContour_30 : tf_dec prog_4_method_4_code 30 [(.aload_n 0, 1)] = true := by decide +kernel
theorem d_Glyph_endContour_31 : decode prog_4_method_4_code 31 = .ok (.getfield 38, 3) := by decide +kernel
theorem d_Glyph_endContour_34 : decode prog_4_method_4_code 34 = .ok (.iastore, 1) := by decide +kernel
theorem b_Glyph_endContour_35 : tf_dec prog_4_method_4_code 35 [(.aload_n 0, 1), (.dup, 1)] = true := by decide +kernel
theorem d_Glyph_endContour_37 : decode prog_4_method_4_code 37 = .ok (.getfield 52, 3) := by decide +kernel
theorem b_Glyph_endContour_40 : tf_dec prog_4_method_4_code 40 [(.iconst 1, 1), (.iadd, 1)] = true := by decide +kernel
theorem d_Glyph_endContour_42 : decode prog_4_method_4_code 42 = .ok (.putfield 52, 3) := by decide +kernel
theorem b_Glyph_endContour_45 : tf_dec prog_4_method_4_code 45 [(.aload_n 0, 1), (.aload_n 0, 1)] = true := by decide +kernel
theorem d_Glyph_endContour_47 : decode prog_4_method_4_code 47 = .ok (.getfield 38, 3) := by decide +kernel
theorem d_Glyph_endContour_50 : decode prog_4_method_4_code 50 = .ok (.putfield 49, 3) := by decide +kernel
theorem b_Glyph_endContour_53 : tf_dec prog_4_method_4_code 53 [(.iconst 1, 1)] = true := by decide +kernel
theorem d_Glyph_endContour_54 : decode prog_4_method_4_code 54 = .ok (.ireturn, 1) := by decide +kernel
theorem b_Glyph_hasRoomFor_0 : tf_dec prog_4_method_5_code 0 [(.aload_n 0, 1)] = true := by decide +kernel
theorem d_Glyph_hasRoomFor_1 : decode prog_4_method_5_code 1 = .ok (.getfield 45, 3) := by decide +kernel
theorem d_Glyph_hasRoomFor_4 : decode prog_4_method_5_code 4 = .ok (.ifCond .ne 37, 3) := by decide +kernel
theorem b_Glyph_hasRoomFor_7 : tf_dec prog_4_method_5_code 7 [(.aload_n 0, 1)] = true := by decide +kernel
theorem d_Glyph_hasRoomFor_8 : decode prog_4_method_5_code 8 = .ok (.getfield 55, 3) := by decide +kernel
theorem b_Glyph_hasRoomFor_11 : tf_dec prog_4_method_5_code 11 [(.iconst 4, 1)] = true := by decide +kernel
theorem d_Glyph_hasRoomFor_12 : decode prog_4_method_5_code 12 = .ok (.if_icmp .ge 29, 3) := by decide +kernel
theorem b_Glyph_hasRoomFor_15 : tf_dec prog_4_method_5_code 15 [(.aload_n 1, 1)] = true := by decide +kernel
theorem d_Glyph_hasRoomFor_16 : decode prog_4_method_5_code 16 = .ok (.getfield 58, 3) := by decide +kernel
theorem b_Glyph_hasRoomFor_19 : tf_dec prog_4_method_5_code 19 [(.iconst 4, 1)] = true := by decide +kernel
theorem d_Glyph_hasRoomFor_20 : decode prog_4_method_5_code 20 = .ok (.if_icmp .ge 21, 3) := by decide +kernel
theorem b_Glyph_hasRoomFor_23 : tf_dec prog_4_method_5_code 23 [(.aload_n 0, 1)] = true := by decide +kernel
theorem d_Glyph_hasRoomFor_24 : decode prog_4_method_5_code 24 = .ok (.getfield 61, 3) := by decide +kernel
theorem b_Glyph_hasRoomFor_27 : tf_dec prog_4_method_5_code 27 [(.aload_n 1, 1)] = true := by decide +kernel
theorem d_Glyph_hasRoomFor_28 : decode prog_4_method_5_code 28 = .ok (.invokevirtual 64, 3) := by decide +kernel
theorem b_Glyph_hasRoomFor_31 : tf_dec prog_4_method_5_code 31 [(.iadd, 1), (.bipush 120, 2)] = true := by decide +kernel
theorem d_Glyph_hasRoomFor_34 : decode prog_4_method_5_code 34 = .ok (.if_icmp .gt 7, 3) := by decide +kernel
theorem b_Glyph_hasRoomFor_37 : tf_dec prog_4_method_5_code 37 [(.iconst 1, 1)] = true := by decide +kernel
theorem d_Glyph_hasRoomFor_38 : decode prog_4_method_5_code 38 = .ok (.goto 4, 3) := by decide +kernel
theorem b_Glyph_hasRoomFor_41 : tf_dec prog_4_method_5_code 41 [(.iconst 0, 1)] = true := by decide +kernel
theorem d_Glyph_hasRoomFor_42 : decode prog_4_method_5_code 42 = .ok (.ireturn, 1) := by decide +kernel
theorem b_Glyph_addPart_0 : tf_dec prog_4_method_6_code 0 [(.aload_n 1, 1)] = true := by decide +kernel
theorem d_Glyph_addPart_1 : decode prog_4_method_6_code 1 = .ok (.getfield 68, 3) := by decide +kernel
theorem b_Glyph_addPart_4 : tf_dec prog_4_method_6_code 4 [(.astore_n 2, 1), (.aload_n 0, 1)] = true := by decide +kernel
theorem d_Glyph_addPart_6 : decode prog_4_method_6_code 6 = .ok (.getfield 21, 3) := by decide +kernel
theorem b_Glyph_addPart_9 : tf_dec prog_4_method_6_code 9 [(.aload_n 0, 1)] = true := by decide +kernel
theorem d_Glyph_addPart_10 : decode prog_4_method_6_code 10 = .ok (.getfield 55, 3) := by decide +kernel
theorem b_Glyph_addPart_13 : tf_dec prog_4_method_6_code 13 [(.aload_n 1, 1)] = true := by decide +kernel
theorem d_Glyph_addPart_14 : decode prog_4_method_6_code 14 = .ok (.aastore, 1) := by decide +kernel
theorem b_Glyph_addPart_15 : tf_dec prog_4_method_6_code 15 [(.aload_n 0, 1), (.dup, 1)] = true := by decide +kernel
theorem d_Glyph_addPart_17 : decode prog_4_method_6_code 17 = .ok (.getfield 55, 3) := by decide +kernel
theorem b_Glyph_addPart_20 : tf_dec prog_4_method_6_code 20 [(.iconst 1, 1), (.iadd, 1)] = true := by decide +kernel
theorem d_Glyph_addPart_22 : decode prog_4_method_6_code 22 = .ok (.putfield 55, 3) := by decide +kernel
theorem b_Glyph_addPart_25 : tf_dec prog_4_method_6_code 25 [(.aload_n 0, 1), (.dup, 1)] = true := by decide +kernel
theorem d_Glyph_addPart_27 : decode prog_4_method_6_code 27 = .ok (.getfield 61, 3) := by decide +kernel
theorem b_Glyph_addPart_30 : tf_dec prog_4_method_6_code 30 [(.aload_n 2, 1)] = true := by decide +kernel
theorem d_Glyph_addPart_31 : decode prog_4_method_6_code 31 = .ok (.invokevirtual 64, 3) := by decide +kernel
theorem b_Glyph_addPart_34 : tf_dec prog_4_method_6_code 34 [(.iadd, 1)] = true := by decide +kernel
theorem d_Glyph_addPart_35 : decode prog_4_method_6_code 35 = .ok (.putfield 61, 3) := by decide +kernel
theorem b_Glyph_addPart_38 : tf_dec prog_4_method_6_code 38 [(.aload_n 0, 1), (.dup, 1)] = true := by decide +kernel
theorem d_Glyph_addPart_40 : decode prog_4_method_6_code 40 = .ok (.getfield 72, 3) := by decide +kernel
theorem b_Glyph_addPart_43 : tf_dec prog_4_method_6_code 43 [(.aload_n 2, 1)] = true := by decide +kernel
theorem d_Glyph_addPart_44 : decode prog_4_method_6_code 44 = .ok (.invokevirtual 75, 3) := by decide +kernel
theorem b_Glyph_addPart_47 : tf_dec prog_4_method_6_code 47 [(.iadd, 1)] = true := by decide +kernel
theorem d_Glyph_addPart_48 : decode prog_4_method_6_code 48 = .ok (.putfield 72, 3) := by decide +kernel
theorem b_Glyph_addPart_51 : tf_dec prog_4_method_6_code 51 [(.aload_n 0, 1), (.aload_n 0, 1)] = true := by decide +kernel
theorem d_Glyph_addPart_53 : decode prog_4_method_6_code 53 = .ok (.getfield 58, 3) := by decide +kernel
theorem b_Glyph_addPart_56 : tf_dec prog_4_method_6_code 56 [(.aload_n 2, 1)] = true := by decide +kernel
theorem d_Glyph_addPart_57 : decode prog_4_method_6_code 57 = .ok (.getfield 58, 3) := by decide +kernel
theorem b_Glyph_addPart_60 : tf_dec prog_4_method_6_code 60 [(.iconst 1, 1), (.iadd, 1)] = true := by decide +kernel
theorem d_Glyph_addPart_62 : decode prog_4_method_6_code 62 = .ok (.invokestatic 78, 3) := by decide +kernel
theorem d_Glyph_addPart_65 : decode prog_4_method_6_code 65 = .ok (.putfield 58, 3) := by decide +kernel
theorem b_Glyph_addPart_68 : tf_dec prog_4_method_6_code 68 [(.aload_n 2, 1), (.iconst 1, 1)] = true := by decide +kernel
theorem d_Glyph_addPart_70 : decode prog_4_method_6_code 70 = .ok (.putfield 45, 3) := by decide +kernel
theorem d_Glyph_addPart_73 : decode prog_4_method_6_code 73 = .ok (.return_, 1) := by decide +kernel
theorem b_Glyph_outlinePoints_0 : tf_dec prog_4_method_7_code 0 [(.aload_n 0, 1)] = true := by decide +kernel
theorem d_Glyph_outlinePoints_1 : decode prog_4_method_7_code 1 = .ok (.getfield 49, 3) := by decide +kernel
theorem b_Glyph_outlinePoints_4 : tf_dec prog_4_method_7_code 4 [(.aload_n 0, 1)] = true := by decide +kernel
theorem d_Glyph_outlinePoints_5 : decode prog_4_method_7_code 5 = .ok (.getfield 61, 3) := by decide +kernel
theorem b_Glyph_outlinePoints_8 : tf_dec prog_4_method_7_code 8 [(.iadd, 1)] = true := by decide +kernel
theorem d_Glyph_outlinePoints_9 : decode prog_4_method_7_code 9 = .ok (.ireturn, 1) := by decide +kernel
theorem b_Glyph_outlineContours_0 : tf_dec prog_4_method_8_code 0 [(.aload_n 0, 1)] = true := by decide +kernel
theorem d_Glyph_outlineContours_1 : decode prog_4_method_8_code 1 = .ok (.getfield 52, 3) := by decide +kernel
theorem b_Glyph_outlineContours_4 : tf_dec prog_4_method_8_code 4 [(.aload_n 0, 1)] = true := by decide +kernel
theorem d_Glyph_outlineContours_5 : decode prog_4_method_8_code 5 = .ok (.getfield 72, 3) := by decide +kernel
theorem b_Glyph_outlineContours_8 : tf_dec prog_4_method_8_code 8 [(.iadd, 1)] = true := by decide +kernel
theorem d_Glyph_outlineContours_9 : decode prog_4_method_8_code 9 = .ok (.ireturn, 1) := by decide +kernel
theorem b_Heights_init_0 : tf_dec prog_5_method_1_code 0 [(.aload_n 0, 1)] = true := by decide +kernel
theorem d_Heights_init_1 : decode prog_5_method_1_code 1 = .ok (.invokespecial 3, 3) := by decide +kernel
theorem b_Heights_init_4 : tf_dec prog_5_method_1_code 4 [(.aload_n 0, 1), (.bipush 8, 2)] = true := by decide +kernel
theorem d_Heights_init_7 : decode prog_5_method_1_code 7 = .ok (.newarray .int, 2) := by decide +kernel
theorem d_Heights_init_9 : decode prog_5_method_1_code 9 = .ok (.putfield 9, 3) := by decide +kernel
theorem d_Heights_init_12 : decode prog_5_method_1_code 12 = .ok (.return_, 1) := by decide +kernel
theorem b_Heights_add_0 : tf_dec prog_5_method_2_code 0 [(.iconst 0, 1), (.istore_n 2, 1)] = true := by decide +kernel
theorem b_Heights_add_2 : tf_dec prog_5_method_2_code 2 [(.iload_n 2, 1), (.aload_n 0, 1)] = true := by decide +kernel
theorem d_Heights_add_4 : decode prog_5_method_2_code 4 = .ok (.getfield 15, 3) := by decide +kernel
theorem d_Heights_add_7 : decode prog_5_method_2_code 7 = .ok (.if_icmp .ge 19, 3) := by decide +kernel
theorem b_Heights_add_10 : tf_dec prog_5_method_2_code 10 [(.aload_n 0, 1)] = true := by decide +kernel
theorem d_Heights_add_11 : decode prog_5_method_2_code 11 = .ok (.getfield 9, 3) := by decide +kernel
theorem b_Heights_add_14 : tf_dec prog_5_method_2_code 14 [(.iload_n 2, 1)] = true := by decide +kernel
theorem d_Heights_add_15 : decode prog_5_method_2_code 15 = .ok (.iaload, 1) := by decide +kernel
theorem b_Heights_add_16 : tf_dec prog_5_method_2_code 16 [(.iload_n 1, 1)] = true := by decide +kernel
theorem d_Heights_add_17 : decode prog_5_method_2_code 17 = .ok (.if_icmp .ge 9, 3) := by decide +kernel
theorem b_Heights_add_20 : tf_dec prog_5_method_2_code 20 [(.iinc 2 1, 3)] = true := by decide +kernel
theorem d_Heights_add_23 : decode prog_5_method_2_code 23 = .ok (.goto (-21), 3) := by decide +kernel
theorem b_Heights_add_26 : tf_dec prog_5_method_2_code 26 [(.aload_n 0, 1)] = true := by decide +kernel
theorem d_Heights_add_27 : decode prog_5_method_2_code 27 = .ok (.getfield 15, 3) := by decide +kernel
theorem b_Heights_add_30 : tf_dec prog_5_method_2_code 30 [(.bipush 8, 2)] = true := by decide +kernel
theorem d_Heights_add_32 : decode prog_5_method_2_code 32 = .ok (.if_icmp .ge 21, 3) := by decide +kernel
theorem b_Heights_add_35 : tf_dec prog_5_method_2_code 35 [(.iload_n 2, 1), (.aload_n 0, 1)] = true := by decide +kernel
theorem d_Heights_add_37 : decode prog_5_method_2_code 37 = .ok (.getfield 15, 3) := by decide +kernel
theorem d_Heights_add_40 : decode prog_5_method_2_code 40 = .ok (.if_icmp .ge 15, 3) := by decide +kernel
theorem b_Heights_add_43 : tf_dec prog_5_method_2_code 43 [(.aload_n 0, 1)] = true := by decide +kernel
theorem d_Heights_add_44 : decode prog_5_method_2_code 44 = .ok (.getfield 9, 3) := by decide +kernel
theorem b_Heights_add_47 : tf_dec prog_5_method_2_code 47 [(.iload_n 2, 1)] = true := by decide +kernel
theorem d_Heights_add_48 : decode prog_5_method_2_code 48 = .ok (.iaload, 1) := by decide +kernel
theorem b_Heights_add_49 : tf_dec prog_5_method_2_code 49 [(.iload_n 1, 1)] = true := by decide +kernel
theorem d_Heights_add_50 : decode prog_5_method_2_code 50 = .ok (.if_icmp .ne 5, 3) := by decide +kernel
theorem b_Heights_add_53 : tf_dec prog_5_method_2_code 53 [(.iconst 0, 1)] = true := by decide +kernel
theorem d_Heights_add_54 : decode prog_5_method_2_code 54 = .ok (.ireturn, 1) := by decide +kernel
theorem b_Heights_add_55 : tf_dec prog_5_method_2_code 55 [(.aload_n 0, 1)] = true := by decide +kernel
theorem d_Heights_add_56 : decode prog_5_method_2_code 56 = .ok (.getfield 15, 3) := by decide +kernel
theorem b_Heights_add_59 : tf_dec prog_5_method_2_code 59 [(.istore_n 3, 1)] = true := by decide +kernel
theorem b_Heights_add_60 : tf_dec prog_5_method_2_code 60 [(.iload_n 3, 1), (.iload_n 2, 1)] = true := by decide +kernel
theorem d_Heights_add_62 : decode prog_5_method_2_code 62 = .ok (.if_icmp .le 23, 3) := by decide +kernel
theorem b_Heights_add_65 : tf_dec prog_5_method_2_code 65 [(.aload_n 0, 1)] = true := by decide +kernel
theorem d_Heights_add_66 : decode prog_5_method_2_code 66 = .ok (.getfield 9, 3) := by decide +kernel
theorem b_Heights_add_69 : tf_dec prog_5_method_2_code 69 [(.iload_n 3, 1), (.aload_n 0, 1)] = true := by decide +kernel
theorem d_Heights_add_71 : decode prog_5_method_2_code 71 = .ok (.getfield 9, 3) := by decide +kernel
theorem b_Heights_add_74 : tf_dec prog_5_method_2_code 74 [(.iload_n 3, 1), (.iconst 1, 1), (.isub, 1)] = true := by decide +kernel
theorem d_Heights_add_77 : decode prog_5_method_2_code 77 = .ok (.iaload, 1) := by decide +kernel
theorem d_Heights_add_78 : decode prog_5_method_2_code 78 = .ok (.iastore, 1) := by decide +kernel
theorem b_Heights_add_79 : tf_dec prog_5_method_2_code 79 [(.iinc 3 (-1), 3)] = true := by decide +kernel
theorem d_Heights_add_82 : decode prog_5_method_2_code 82 = .ok (.goto (-22), 3) := by decide +kernel
theorem b_Heights_add_85 : tf_dec prog_5_method_2_code 85 [(.aload_n 0, 1)] = true := by decide +kernel
theorem d_Heights_add_86 : decode prog_5_method_2_code 86 = .ok (.getfield 9, 3) := by decide +kernel
theorem b_Heights_add_89 : tf_dec prog_5_method_2_code 89 [(.iload_n 2, 1), (.iload_n 1, 1)] = true := by decide +kernel
theorem d_Heights_add_91 : decode prog_5_method_2_code 91 = .ok (.iastore, 1) := by decide +kernel
theorem b_Heights_add_92 : tf_dec prog_5_method_2_code 92 [(.aload_n 0, 1), (.dup, 1)] = true := by decide +kernel
theorem d_Heights_add_94 : decode prog_5_method_2_code 94 = .ok (.getfield 15, 3) := by decide +kernel
theorem b_Heights_add_97 : tf_dec prog_5_method_2_code 97 [(.iconst 1, 1), (.iadd, 1)] = true := by decide +kernel
theorem d_Heights_add_99 : decode prog_5_method_2_code 99 = .ok (.putfield 15, 3) := by decide +kernel
theorem b_Heights_add_102 : tf_dec prog_5_method_2_code 102 [(.iconst 1, 1)] = true := by decide +kernel
theorem d_Heights_add_103 : decode prog_5_method_2_code 103 = .ok (.ireturn, 1) := by decide +kernel
theorem b_Heights_fitted_0 : tf_dec prog_5_method_3_code 0 [(.aload_n 0, 1)] = true := by decide +kernel
theorem d_Heights_fitted_1 : decode prog_5_method_3_code 1 = .ok (.getfield 15, 3) := by decide +kernel
theorem d_Heights_fitted_4 : decode prog_5_method_3_code 4 = .ok (.ifCond .ne 5, 3) := by decide +kernel
theorem b_Heights_fitted_7 : tf_dec prog_5_method_3_code 7 [(.iload_n 1, 1)] = true := by decide +kernel
theorem d_Heights_fitted_8 : decode prog_5_method_3_code 8 = .ok (.ireturn, 1) := by decide +kernel
theorem b_Heights_fitted_9 : tf_dec prog_5_method_3_code 9 [(.iload_n 1, 1), (.aload_n 0, 1)] = true := by decide +kernel
theorem d_Heights_fitted_11 : decode prog_5_method_3_code 11 = .ok (.getfield 9, 3) := by decide +kernel
theorem b_Heights_fitted_14 : tf_dec prog_5_method_3_code 14 [(.iconst 0, 1)] = true := by decide +kernel
theorem d_Heights_fitted_15 : decode prog_5_method_3_code 15 = .ok (.iaload, 1) := by decide +kernel
theorem d_Heights_fitted_16 : decode prog_5_method_3_code 16 = .ok (.if_icmp .gt 23, 3) := by decide +kernel
theorem b_Heights_fitted_19 : tf_dec prog_5_method_3_code 19 [(.iload_n 1, 1), (.aload_n 0, 1)] = true := by decide +kernel
theorem d_Heights_fitted_21 : decode prog_5_method_3_code 21 = .ok (.getfield 9, 3) := by decide +kernel
theorem b_Heights_fitted_24 : tf_dec prog_5_method_3_code 24 [(.iconst 0, 1)] = true := by decide +kernel
theorem d_Heights_fitted_25 : decode prog_5_method_3_code 25 = .ok (.iaload, 1) := by decide +kernel
theorem b_Heights_fitted_26 : tf_dec prog_5_method_3_code 26 [(.isub, 1), (.aload_n 0, 1)] = true := by decide +kernel
theorem d_Heights_fitted_28 : decode prog_5_method_3_code 28 = .ok (.getfield 9, 3) := by decide +kernel
theorem b_Heights_fitted_31 : tf_dec prog_5_method_3_code 31 [(.iconst 0, 1)] = true := by decide +kernel
theorem d_Heights_fitted_32 : decode prog_5_method_3_code 32 = .ok (.iaload, 1) := by decide +kernel
theorem b_Heights_fitted_33 : tf_dec prog_5_method_3_code 33 [(.iload_n 2, 1)] = true := by decide +kernel
theorem d_Heights_fitted_34 : decode prog_5_method_3_code 34 = .ok (.invokestatic 19, 3) := by decide +kernel
theorem b_Heights_fitted_37 : tf_dec prog_5_method_3_code 37 [(.iadd, 1)] = true := by decide +kernel
theorem d_Heights_fitted_38 : decode prog_5_method_3_code 38 = .ok (.ireturn, 1) := by decide +kernel
theorem b_Heights_fitted_39 : tf_dec prog_5_method_3_code 39 [(.iconst 1, 1), (.istore_n 3, 1)] = true := by decide +kernel
theorem b_Heights_fitted_41 : tf_dec prog_5_method_3_code 41 [(.iload_n 3, 1), (.aload_n 0, 1)] = true := by decide +kernel
theorem d_Heights_fitted_43 : decode prog_5_method_3_code 43 = .ok (.getfield 15, 3) := by decide +kernel
theorem d_Heights_fitted_46 : decode prog_5_method_3_code 46 = .ok (.if_icmp .ge 39, 3) := by decide +kernel
theorem b_Heights_fitted_49 : tf_dec prog_5_method_3_code 49 [(.iload_n 1, 1), (.aload_n 0, 1)] = true := by decide +kernel
theorem d_Heights_fitted_51 : decode prog_5_method_3_code 51 = .ok (.getfield 9, 3) := by decide +kernel
theorem b_Heights_fitted_54 : tf_dec prog_5_method_3_code 54 [(.iload_n 3, 1)] = true := by decide +kernel
theorem d_Heights_fitted_55 : decode prog_5_method_3_code 55 = .ok (.iaload, 1) := by decide +kernel
theorem d_Heights_fitted_56 : decode prog_5_method_3_code 56 = .ok (.if_icmp .ge 23, 3) := by decide +kernel
theorem b_Heights_fitted_59 : tf_dec prog_5_method_3_code 59 [(.aload_n 0, 1)] = true := by decide +kernel
theorem d_Heights_fitted_60 : decode prog_5_method_3_code 60 = .ok (.getfield 9, 3) := by decide +kernel
theorem b_Heights_fitted_63 : tf_dec prog_5_method_3_code 63 [(.iload_n 3, 1), (.iconst 1, 1), (.isub, 1)] = true := by decide +kernel
theorem d_Heights_fitted_66 : decode prog_5_method_3_code 66 = .ok (.iaload, 1) := by decide +kernel
theorem b_Heights_fitted_67 : tf_dec prog_5_method_3_code 67 [(.aload_n 0, 1)] = true := by decide +kernel
theorem d_Heights_fitted_68 : decode prog_5_method_3_code 68 = .ok (.getfield 9, 3) := by decide +kernel
theorem b_Heights_fitted_71 : tf_dec prog_5_method_3_code 71 [(.iload_n 3, 1)] = true := by decide +kernel
theorem d_Heights_fitted_72 : decode prog_5_method_3_code 72 = .ok (.iaload, 1) := by decide +kernel
theorem b_Heights_fitted_73 : tf_dec prog_5_method_3_code 73 [(.iload_n 1, 1), (.iload_n 2, 1)] = true := by decide +kernel
theorem d_Heights_fitted_75 : decode prog_5_method_3_code 75 = .ok (.invokestatic 23, 3) := by decide +kernel
theorem d_Heights_fitted_78 : decode prog_5_method_3_code 78 = .ok (.ireturn, 1) := by decide +kernel
theorem b_Heights_fitted_79 : tf_dec prog_5_method_3_code 79 [(.iinc 3 1, 3)] = true := by decide +kernel
theorem d_Heights_fitted_82 : decode prog_5_method_3_code 82 = .ok (.goto (-41), 3) := by decide +kernel
theorem b_Heights_fitted_85 : tf_dec prog_5_method_3_code 85 [(.iload_n 1, 1), (.aload_n 0, 1)] = true := by decide +kernel
theorem d_Heights_fitted_87 : decode prog_5_method_3_code 87 = .ok (.getfield 9, 3) := by decide +kernel
theorem b_Heights_fitted_90 : tf_dec prog_5_method_3_code 90 [(.aload_n 0, 1)] = true := by decide +kernel
theorem d_Heights_fitted_91 : decode prog_5_method_3_code 91 = .ok (.getfield 15, 3) := by decide +kernel
theorem b_Heights_fitted_94 : tf_dec prog_5_method_3_code 94 [(.iconst 1, 1), (.isub, 1)] = true := by decide +kernel
theorem d_Heights_fitted_96 : decode prog_5_method_3_code 96 = .ok (.iaload, 1) := by decide +kernel
theorem b_Heights_fitted_97 : tf_dec prog_5_method_3_code 97 [(.isub, 1), (.aload_n 0, 1)] = true := by decide +kernel
theorem d_Heights_fitted_99 : decode prog_5_method_3_code 99 = .ok (.getfield 9, 3) := by decide +kernel
theorem b_Heights_fitted_102 : tf_dec prog_5_method_3_code 102 [(.aload_n 0, 1)] = true := by decide +kernel
theorem d_Heights_fitted_103 : decode prog_5_method_3_code 103 = .ok (.getfield 15, 3) := by decide +kernel
theorem b_Heights_fitted_106 : tf_dec prog_5_method_3_code 106 [(.iconst 1, 1), (.isub, 1)] = true := by decide +kernel
theorem d_Heights_fitted_108 : decode prog_5_method_3_code 108 = .ok (.iaload, 1) := by decide +kernel
theorem b_Heights_fitted_109 : tf_dec prog_5_method_3_code 109 [(.iload_n 2, 1)] = true := by decide +kernel
theorem d_Heights_fitted_110 : decode prog_5_method_3_code 110 = .ok (.invokestatic 19, 3) := by decide +kernel
theorem b_Heights_fitted_113 : tf_dec prog_5_method_3_code 113 [(.iadd, 1)] = true := by decide +kernel
theorem d_Heights_fitted_114 : decode prog_5_method_3_code 114 = .ok (.ireturn, 1) := by decide +kernel
theorem b_Heights_between_0 : tf_dec prog_5_method_4_code 0 [(.iload_n 0, 1), (.iload_n 3, 1)] = true := by decide +kernel
theorem d_Heights_between_2 : decode prog_5_method_4_code 2 = .ok (.invokestatic 19, 3) := by decide +kernel
theorem b_Heights_between_5 : tf_dec prog_5_method_4_code 5 [(.istore 4, 2), (.iload 4, 2), (.iload_n 2, 1), (.iload_n 0, 1), (.isub, 1), (.iload_n 1, 1), (.iload_n 3, 1)] = true := by decide +kernel
theorem d_Heights_between_14 : decode prog_5_method_4_code 14 = .ok (.invokestatic 19, 3) := by decide +kernel
theorem b_Heights_between_17 : tf_dec prog_5_method_4_code 17 [(.iload 4, 2), (.isub, 1), (.imul, 1), (.i2l, 1), (.iload_n 1, 1), (.iload_n 0, 1), (.isub, 1), (.i2l, 1)] = true := by decide +kernel
theorem d_Heights_between_26 : decode prog_5_method_4_code 26 = .ok (.invokestatic 27, 3) := by decide +kernel
theorem b_Heights_between_29 : tf_dec prog_5_method_4_code 29 [(.iadd, 1)] = true := by decide +kernel
theorem d_Heights_between_30 : decode prog_5_method_4_code 30 = .ok (.ireturn, 1) := by decide +kernel
theorem b_Heights_goal_0 : tf_dec prog_5_method_5_code 0 [(.iload_n 1, 1), (.iload_n 0, 1), (.i2l, 1), (.iload_n 1, 1), (.i2l, 1)] = true := by decide +kernel
theorem d_Heights_goal_5 : decode prog_5_method_5_code 5 = .ok (.invokestatic 27, 3) := by decide +kernel
theorem b_Heights_goal_8 : tf_dec prog_5_method_5_code 8 [(.imul, 1)] = true := by decide +kernel
theorem d_Heights_goal_9 : decode prog_5_method_5_code 9 = .ok (.ireturn, 1) := by decide +kernel
theorem b_Kerning_init_0 : tf_dec prog_6_method_1_code 0 [(.aload_n 0, 1)] = true := by decide +kernel
theorem d_Kerning_init_1 : decode prog_6_method_1_code 1 = .ok (.invokespecial 3, 3) := by decide +kernel
theorem b_Kerning_init_4 : tf_dec prog_6_method_1_code 4 [(.aload_n 0, 1), (.bipush 40, 2)] = true := by decide +kernel
theorem d_Kerning_init_7 : decode prog_6_method_1_code 7 = .ok (.newarray .int, 2) := by decide +kernel
theorem d_Kerning_init_9 : decode prog_6_method_1_code 9 = .ok (.putfield 9, 3) := by decide +kernel
theorem b_Kerning_init_12 : tf_dec prog_6_method_1_code 12 [(.aload_n 0, 1), (.bipush 40, 2)] = true := by decide +kernel
theorem d_Kerning_init_15 : decode prog_6_method_1_code 15 = .ok (.newarray .int, 2) := by decide +kernel
theorem d_Kerning_init_17 : decode prog_6_method_1_code 17 = .ok (.putfield 15, 3) := by decide +kernel
theorem b_Kerning_init_20 : tf_dec prog_6_method_1_code 20 [(.aload_n 0, 1), (.sipush 256, 3)] = true := by decide +kernel
theorem d_Kerning_init_24 : decode prog_6_method_1_code 24 = .ok (.newarray .int, 2) := by decide +kernel
theorem d_Kerning_init_26 : decode prog_6_method_1_code 26 = .ok (.putfield 18, 3) := by decide +kernel
theorem b_Kerning_init_29 : tf_dec prog_6_method_1_code 29 [(.aload_n 0, 1), (.bipush 40, 2)] = true := by decide +kernel
theorem d_Kerning_init_32 : decode prog_6_method_1_code 32 = .ok (.newarray .int, 2) := by decide +kernel
theorem d_Kerning_init_34 : decode prog_6_method_1_code 34 = .ok (.putfield 21, 3) := by decide +kernel
theorem b_Kerning_init_37 : tf_dec prog_6_method_1_code 37 [(.aload_n 0, 1), (.bipush 40, 2)] = true := by decide +kernel
theorem d_Kerning_init_40 : decode prog_6_method_1_code 40 = .ok (.newarray .int, 2) := by decide +kernel
theorem d_Kerning_init_42 : decode prog_6_method_1_code 42 = .ok (.putfield 24, 3) := by decide +kernel
theorem b_Kerning_init_45 : tf_dec prog_6_method_1_code 45 [(.aload_n 0, 1), (.bipush 40, 2)] = true := by decide +kernel
theorem d_Kerning_init_48 : decode prog_6_method_1_code 48 = .ok (.newarray .int, 2) := by decide +kernel
theorem d_Kerning_init_50 : decode prog_6_method_1_code 50 = .ok (.putfield 27, 3) := by decide +kernel
theorem d_Kerning_init_53 : decode prog_6_method_1_code 53 = .ok (.return_, 1) := by decide +kernel
theorem b_Kerning_setClass_0 : tf_dec prog_6_method_2_code 0 [(.iload_n 1, 1)] = true := by decide +kernel
theorem d_Kerning_setClass_1 : decode prog_6_method_2_code 1 = .ok (.ifCond .ne 13, 3) := by decide +kernel
theorem b_Kerning_setClass_4 : tf_dec prog_6_method_2_code 4 [(.aload_n 0, 1)] = true := by decide +kernel
theorem d_Kerning_setClass_5 : decode prog_6_method_2_code 5 = .ok (.getfield 9, 3) := by decide +kernel
theorem b_Kerning_setClass_8 : tf_dec prog_6_method_2_code 8 [(.iload_n 2, 1), (.iload_n 3, 1)] = true := by decide +kernel
theorem d_Kerning_setClass_10 : decode prog_6_method_2_code 10 = .ok (.iastore, 1) := by decide +kernel
theorem d_Kerning_setClass_11 : decode prog_6_method_2_code 11 = .ok (.goto 10, 3) := by decide +kernel
theorem b_Kerning_setClass_14 : tf_dec prog_6_method_2_code 14 [(.aload_n 0, 1)] = true := by decide +kernel
theorem d_Kerning_setClass_15 : decode prog_6_method_2_code 15 = .ok (.getfield 15, 3) := by decide +kernel
theorem b_Kerning_setClass_18 : tf_dec prog_6_method_2_code 18 [(.iload_n 2, 1), (.iload_n 3, 1)] = true := by decide +kernel
theorem d_Kerning_setClass_20 : decode prog_6_method_2_code 20 = .ok (.iastore, 1) := by decide +kernel
theorem d_Kerning_setClass_21 : decode prog_6_method_2_code 21 = .ok (.return_, 1) := by decide +kernel
theorem b_Kerning_tellClasses_0 : tf_dec prog_6_method_3_code 0 [(.aload_n 0, 1)] = true := by decide +kernel
theorem d_Kerning_tellClasses_1 : decode prog_6_method_3_code 1 = .ok (.getfield 18, 3) := by decide +kernel
theorem b_Kerning_tellClasses_4 : tf_dec prog_6_method_3_code 4 [(.iload_n 1, 1), (.bipush 16, 2), (.imul, 1), (.iload_n 2, 1), (.iadd, 1), (.iload_n 3, 1)] = true := by decide +kernel
theorem d_Kerning_tellClasses_11 : decode prog_6_method_3_code 11 = .ok (.iastore, 1) := by decide +kernel
theorem d_Kerning_tellClasses_12 : decode prog_6_method_3_code 12 = .ok (.return_, 1) := by decide +kernel
theorem b_Kerning_tellPair_0 : tf_dec prog_6_method_4_code 0 [(.aload_n 0, 1), (.iload_n 1, 1), (.iload_n 2, 1)] = true := by decide +kernel
theorem d_Kerning_tellPair_3 : decode prog_6_method_4_code 3 = .ok (.invokevirtual 30, 3) := by decide +kernel
theorem b_Kerning_tellPair_6 : tf_dec prog_6_method_4_code 6 [(.istore 4, 2), (.iload 4, 2), (.bipush 40, 2)] = true := by decide +kernel
theorem d_Kerning_tellPair_12 : decode prog_6_method_4_code 12 = .ok (.if_icmp .lt 5, 3) := by decide +kernel
theorem b_Kerning_tellPair_15 : tf_dec prog_6_method_4_code 15 [(.iconst 0, 1)] = true := by decide +kernel
theorem d_Kerning_tellPair_16 : decode prog_6_method_4_code 16 = .ok (.ireturn, 1) := by decide +kernel
theorem b_Kerning_tellPair_17 : tf_dec prog_6_method_4_code 17 [(.aload_n 0, 1)] = true := by decide +kernel
theorem d_Kerning_tellPair_18 : decode prog_6_method_4_code 18 = .ok (.getfield 21, 3) := by decide +kernel
theorem b_Kerning_tellPair_21 : tf_dec prog_6_method_4_code 21 [(.iload 4, 2), (.iload_n 1, 1)] = true := by decide +kernel
theorem d_Kerning_tellPair_24 : decode prog_6_method_4_code 24 = .ok (.iastore, 1) := by decide +kernel
theorem b_Kerning_tellPair_25 : tf_dec prog_6_method_4_code 25 [(.aload_n 0, 1)] = true := by decide +kernel
theorem d_Kerning_tellPair_26 : decode prog_6_method_4_code 26 = .ok (.getfield 24, 3) := by decide +kernel
theorem b_Kerning_tellPair_29 : tf_dec prog_6_method_4_code 29 [(.iload 4, 2), (.iload_n 2, 1)] = true := by decide +kernel
theorem d_Kerning_tellPair_32 : decode prog_6_method_4_code 32 = .ok (.iastore, 1) := by decide +kernel
theorem b_Kerning_tellPair_33 : tf_dec prog_6_method_4_code 33 [(.aload_n 0, 1)] = true := by decide +kernel
theorem d_Kerning_tellPair_34 : decode prog_6_method_4_code 34 = .ok (.getfield 27, 3) := by decide +kernel
theorem b_Kerning_tellPair_37 : tf_dec prog_6_method_4_code 37 [(.iload 4, 2), (.iload_n 3, 1)] = true := by decide +kernel
theorem d_Kerning_tellPair_40 : decode prog_6_method_4_code 40 = .ok (.iastore, 1) := by decide +kernel
theorem b_Kerning_tellPair_41 : tf_dec prog_6_method_4_code 41 [(.aload_n 0, 1), (.aload_n 0, 1)] = true := by decide +kernel
theorem d_Kerning_tellPair_43 : decode prog_6_method_4_code 43 = .ok (.getfield 34, 3) := by decide +kernel
theorem b_Kerning_tellPair_46 : tf_dec prog_6_method_4_code 46 [(.iload 4, 2), (.iconst 1, 1), (.iadd, 1)] = true := by decide +kernel
theorem d_Kerning_tellPair_50 : decode prog_6_method_4_code 50 = .ok (.invokestatic 38, 3) := by decide +kernel
theorem d_Kerning_tellPair_53 : decode prog_6_method_4_code 53 = .ok (.putfield 34, 3) := by decide +kernel
theorem b_Kerning_tellPair_56 : tf_dec prog_6_method_4_code 56 [(.iconst 1, 1)] = true := by decide +kernel
theorem d_Kerning_tellPair_57 : decode prog_6_method_4_code 57 = .ok (.ireturn, 1) := by decide +kernel
theorem b_Kerning_of_0 : tf_dec prog_6_method_5_code 0 [(.aload_n 0, 1), (.iload_n 1, 1), (.iload_n 2, 1)] = true := by decide +kernel
theorem d_Kerning_of_3 : decode prog_6_method_5_code 3 = .ok (.invokevirtual 30, 3) := by decide +kernel
theorem b_Kerning_of_6 : tf_dec prog_6_method_5_code 6 [(.istore_n 3, 1), (.iload_n 3, 1), (.aload_n 0, 1)] = true := by decide +kernel
theorem d_Kerning_of_9 : decode prog_6_method_5_code 9 = .ok (.getfield 34, 3) := by decide +kernel
theorem d_Kerning_of_12 : decode prog_6_method_5_code 12 = .ok (.if_icmp .ge 10, 3) := by decide +kernel
theorem b_Kerning_of_15 : tf_dec prog_6_method_5_code 15 [(.aload_n 0, 1)] = true := by decide +kernel
theorem d_Kerning_of_16 : decode prog_6_method_5_code 16 = .ok (.getfield 27, 3) := by decide +kernel
theorem b_Kerning_of_19 : tf_dec prog_6_method_5_code 19 [(.iload_n 3, 1)] = true := by decide +kernel
theorem d_Kerning_of_20 : decode prog_6_method_5_code 20 = .ok (.iaload, 1) := by decide +kernel
theorem d_Kerning_of_21 : decode prog_6_method_5_code 21 = .ok (.ireturn, 1) := by decide +kernel
theorem b_Kerning_of_22 : tf_dec prog_6_method_5_code 22 [(.aload_n 0, 1)] = true := by decide +kernel
theorem d_Kerning_of_23 : decode prog_6_method_5_code 23 = .ok (.getfield 18, 3) := by decide +kernel
theorem b_Kerning_of_26 : tf_dec prog_6_method_5_code 26 [(.aload_n 0, 1)] = true := by decide +kernel
theorem d_Kerning_of_27 : decode prog_6_method_5_code 27 = .ok (.getfield 9, 3) := by decide +kernel
theorem b_Kerning_of_30 : tf_dec prog_6_method_5_code 30 [(.iload_n 1, 1)] = true := by decide +kernel
theorem d_Kerning_of_31 : decode prog_6_method_5_code 31 = .ok (.iaload, 1) := by decide +kernel
theorem b_Kerning_of_32 : tf_dec prog_6_method_5_code 32 [(.bipush 16, 2), (.imul, 1), (.aload_n 0, 1)] = true := by decide +kernel
theorem d_Kerning_of_36 : decode prog_6_method_5_code 36 = .ok (.getfield 15, 3) := by decide +kernel
theorem b_Kerning_of_39 : tf_dec prog_6_method_5_code 39 [(.iload_n 2, 1)] = true := by decide +kernel
theorem d_Kerning_of_40 : decode prog_6_method_5_code 40 = .ok (.iaload, 1) := by decide +kernel
theorem b_Kerning_of_41 : tf_dec prog_6_method_5_code 41 [(.iadd, 1)] = true := by decide +kernel
theorem d_Kerning_of_42 : decode prog_6_method_5_code 42 = .ok (.iaload, 1) := by decide +kernel
theorem d_Kerning_of_43 : decode prog_6_method_5_code 43 = .ok (.ireturn, 1) := by decide +kernel
theorem b_Kerning_pairAt_0 : tf_dec prog_6_method_6_code 0 [(.iconst 0, 1), (.istore_n 3, 1)] = true := by decide +kernel
theorem b_Kerning_pairAt_2 : tf_dec prog_6_method_6_code 2 [(.iload_n 3, 1), (.aload_n 0, 1)] = true := by decide +kernel
theorem d_Kerning_pairAt_4 : decode prog_6_method_6_code 4 = .ok (.getfield 34, 3) := by decide +kernel
theorem d_Kerning_pairAt_7 : decode prog_6_method_6_code 7 = .ok (.if_icmp .ge 29, 3) := by decide +kernel
theorem b_Kerning_pairAt_10 : tf_dec prog_6_method_6_code 10 [(.aload_n 0, 1)] = true := by decide +kernel
theorem d_Kerning_pairAt_11 : decode prog_6_method_6_code 11 = .ok (.getfield 21, 3) := by decide +kernel
theorem b_Kerning_pairAt_14 : tf_dec prog_6_method_6_code 14 [(.iload_n 3, 1)] = true := by decide +kernel
theorem d_Kerning_pairAt_15 : decode prog_6_method_6_code 15 = .ok (.iaload, 1) := by decide +kernel
theorem b_Kerning_pairAt_16 : tf_dec prog_6_method_6_code 16 [(.iload_n 1, 1)] = true := by decide +kernel
theorem d_Kerning_pairAt_17 : decode prog_6_method_6_code 17 = .ok (.if_icmp .ne 13, 3) := by decide +kernel
theorem b_Kerning_pairAt_20 : tf_dec prog_6_method_6_code 20 [(.aload_n 0, 1)] = true := by decide +kernel
theorem d_Kerning_pairAt_21 : decode prog_6_method_6_code 21 = .ok (.getfield 24, 3) := by decide +kernel
theorem b_Kerning_pairAt_24 : tf_dec prog_6_method_6_code 24 [(.iload_n 3, 1)] = true := by decide +kernel
theorem d_Kerning_pairAt_25 : decode prog_6_method_6_code 25 = .ok (.iaload, 1) := by decide +kernel
theorem b_Kerning_pairAt_26 : tf_dec prog_6_method_6_code 26 [(.iload_n 2, 1)] = true := by decide +kernel
theorem d_Kerning_pairAt_27 : decode prog_6_method_6_code 27 = .ok (.if_icmp .eq 9, 3) := by decide +kernel
theorem b_Kerning_pairAt_30 : tf_dec prog_6_method_6_code 30 [(.iinc 3 1, 3)] = true := by decide +kernel
theorem d_Kerning_pairAt_33 : decode prog_6_method_6_code 33 = .ok (.goto (-31), 3) := by decide +kernel
theorem b_Kerning_pairAt_36 : tf_dec prog_6_method_6_code 36 [(.iload_n 3, 1)] = true := by decide +kernel
theorem d_Kerning_pairAt_37 : decode prog_6_method_6_code 37 = .ok (.ireturn, 1) := by decide +kernel
theorem b_Outline_init_0 : tf_dec prog_7_method_1_code 0 [(.aload_n 0, 1)] = true := by decide +kernel
theorem d_Outline_init_1 : decode prog_7_method_1_code 1 = .ok (.invokespecial 3, 3) := by decide +kernel
theorem b_Outline_init_4 : tf_dec prog_7_method_1_code 4 [(.aload_n 0, 1), (.sipush 160, 3)] = true := by decide +kernel
theorem d_Outline_init_8 : decode prog_7_method_1_code 8 = .ok (.newarray .int, 2) := by decide +kernel
theorem d_Outline_init_10 : decode prog_7_method_1_code 10 = .ok (.putfield 9, 3) := by decide +kernel
theorem b_Outline_init_13 : tf_dec prog_7_method_1_code 13 [(.aload_n 0, 1), (.sipush 160, 3)] = true := by decide +kernel
theorem d_Outline_init_17 : decode prog_7_method_1_code 17 = .ok (.newarray .int, 2) := by decide +kernel
theorem d_Outline_init_19 : decode prog_7_method_1_code 19 = .ok (.putfield 15, 3) := by decide +kernel
theorem b_Outline_init_22 : tf_dec prog_7_method_1_code 22 [(.aload_n 0, 1), (.sipush 160, 3)] = true := by decide +kernel
theorem d_Outline_init_26 : decode prog_7_method_1_code 26 = .ok (.newarray .boolean, 2) := by decide +kernel
theorem d_Outline_init_28 : decode prog_7_method_1_code 28 = .ok (.putfield 18, 3) := by decide +kernel
theorem b_Outline_init_31 : tf_dec prog_7_method_1_code 31 [(.aload_n 0, 1), (.bipush 54, 2)] = true := by decide +kernel
theorem d_Outline_init_34 : decode prog_7_method_1_code 34 = .ok (.newarray .int, 2) := by decide +kernel
theorem d_Outline_init_36 : decode prog_7_method_1_code 36 = .ok (.putfield 22, 3) := by decide +kernel
theorem b_Outline_init_39 : tf_dec prog_7_method_1_code 39 [(.aload_n 0, 1), (.sipush 160, 3)] = true := by decide +kernel
theorem d_Outline_init_43 : decode prog_7_method_1_code 43 = .ok (.newarray .int, 2) := by decide +kernel
theorem d_Outline_init_45 : decode prog_7_method_1_code 45 = .ok (.putfield 25, 3) := by decide +kernel
theorem d_Outline_init_48 : decode prog_7_method_1_code 48 = .ok (.return_, 1) := by decide +kernel
theorem b_Outline_become_0 : tf_dec prog_7_method_2_code 0 [(.aload_n 0, 1), (.iconst 0, 1)] = true := by decide +kernel
theorem d_Outline_become_2 : decode prog_7_method_2_code 2 = .ok (.putfield 28, 3) := by decide +kernel
theorem b_Outline_become_5 : tf_dec prog_7_method_2_code 5 [(.aload_n 0, 1), (.iconst 0, 1)] = true := by decide +kernel
theorem d_Outline_become_7 : decode prog_7_method_2_code 7 = .ok (.putfield 32, 3) := by decide +kernel
theorem b_Outline_become_10 : tf_dec prog_7_method_2_code 10 [(.aload_n 0, 1), (.aload_n 1, 1), (.aload_n 2, 1), (.iconst 0, 1)] = true := by decide +kernel
theorem d_Outline_become_14 : decode prog_7_method_2_code 14 = .ok (.invokevirtual 35, 3) := by decide +kernel
theorem d_Outline_become_17 : decode prog_7_method_2_code 17 = .ok (.return_, 1) := by decide +kernel
theorem b_Outline_ofPoint_0 : tf_dec prog_7_method_3_code 0 [(.iload_n 2, 1)] = true := by decide +kernel
theorem d_Outline_ofPoint_1 : decode prog_7_method_3_code 1 = .ok (.tableswitch 56 0 2 #[27, 34, 41], 27) := by decide +kernel
theorem b_Outline_ofPoint_28 : tf_dec prog_7_method_3_code 28 [(.aload_n 0, 1)] = true := by decide +kernel
theorem d_Outline_ofPoint_29 : decode prog_7_method_3_code 29 = .ok (.getfield 9, 3) := by decide +kernel
theorem b_Outline_ofPoint_32 : tf_dec prog_7_method_3_code 32 [(.iload_n 1, 1)] = true := by decide +kernel
theorem d_Outline_ofPoint_33 : decode prog_7_method_3_code 33 = .ok (.iaload, 1) := by decide +kernel
theorem d_Outline_ofPoint_34 : decode prog_7_method_3_code 34 = .ok (.ireturn, 1) := by decide +kernel
theorem b_Outline_ofPoint_35 : tf_dec prog_7_method_3_code 35 [(.aload_n 0, 1)] = true := by decide +kernel
theorem d_Outline_ofPoint_36 : decode prog_7_method_3_code 36 = .ok (.getfield 15, 3) := by decide +kernel
theorem b_Outline_ofPoint_39 : tf_dec prog_7_method_3_code 39 [(.iload_n 1, 1)] = true := by decide +kernel
theorem d_Outline_ofPoint_40 : decode prog_7_method_3_code 40 = .ok (.iaload, 1) := by decide +kernel
theorem d_Outline_ofPoint_41 : decode prog_7_method_3_code 41 = .ok (.ireturn, 1) := by decide +kernel
theorem b_Outline_ofPoint_42 : tf_dec prog_7_method_3_code 42 [(.aload_n 0, 1)] = true := by decide +kernel
theorem d_Outline_ofPoint_43 : decode prog_7_method_3_code 43 = .ok (.getfield 18, 3) := by decide +kernel
theorem b_Outline_ofPoint_46 : tf_dec prog_7_method_3_code 46 [(.iload_n 1, 1)] = true := by decide +kernel
theorem d_Outline_ofPoint_47 : decode prog_7_method_3_code 47 = .ok (.baload, 1) := by decide +kernel
theorem d_Outline_ofPoint_48 : decode prog_7_method_3_code 48 = .ok (.ifCond .eq 7, 3) := by decide +kernel
theorem b_Outline_ofPoint_51 : tf_dec prog_7_method_3_code 51 [(.iconst 1, 1)] = true := by decide +kernel
theorem d_Outline_ofPoint_52 : decode prog_7_method_3_code 52 = .ok (.goto 4, 3) := by decide +kernel
theorem b_Outline_ofPoint_55 : tf_dec prog_7_method_3_code 55 [(.iconst 0, 1)] = true := by decide +kernel
theorem d_Outline_ofPoint_56 : decode prog_7_method_3_code 56 = .ok (.ireturn, 1) := by decide +kernel
theorem b_Outline_ofPoint_57 : tf_dec prog_7_method_3_code 57 [(.aload_n 0, 1)] = true := by decide +kernel
theorem d_Outline_ofPoint_58 : decode prog_7_method_3_code 58 = .ok (.getfield 25, 3) := by decide +kernel
theorem b_Outline_ofPoint_61 : tf_dec prog_7_method_3_code 61 [(.iload_n 1, 1)] = true := by decide +kernel
theorem d_Outline_ofPoint_62 : decode prog_7_method_3_code 62 = .ok (.iaload, 1) := by decide +kernel
theorem d_Outline_ofPoint_63 : decode prog_7_method_3_code 63 = .ok (.ireturn, 1) := by decide +kernel
theorem b_Outline_gather_0 : tf_dec prog_7_method_4_code 0 [(.aload_n 1, 1)] = true := by decide +kernel
theorem d_Outline_gather_1 : decode prog_7_method_4_code 1 = .ok (.ifnull 8, 3) := by decide +kernel
theorem b_Outline_gather_4 : tf_dec prog_7_method_4_code 4 [(.iload_n 3, 1), (.iconst 4, 1)] = true := by decide +kernel
theorem d_Outline_gather_6 : decode prog_7_method_4_code 6 = .ok (.if_icmp .le 4, 3) := by decide +kernel
theorem d_Outline_gather_9 : decode prog_7_method_4_code 9 = .ok (.return_, 1) := by decide +kernel
theorem b_Outline_gather_10 : tf_dec prog_7_method_4_code 10 [(.aload_n 0, 1), (.aload_n 1, 1), (.aload_n 2, 1)] = true := by decide +kernel
theorem d_Outline_gather_13 : decode prog_7_method_4_code 13 = .ok (.invokevirtual 39, 3) := by decide +kernel
theorem b_Outline_gather_16 : tf_dec prog_7_method_4_code 16 [(.aload_n 1, 1)] = true := by decide +kernel
theorem d_Outline_gather_17 : decode prog_7_method_4_code 17 = .ok (.getfield 43, 3) := by decide +kernel
theorem b_Outline_gather_20 : tf_dec prog_7_method_4_code 20 [(.astore 4, 2), (.aload 4, 2)] = true := by decide +kernel
theorem d_Outline_gather_24 : decode prog_7_method_4_code 24 = .ok (.arraylength, 1) := by decide +kernel
theorem b_Outline_gather_25 : tf_dec prog_7_method_4_code 25 [(.istore 5, 2), (.iconst 0, 1), (.istore 6, 2)] = true := by decide +kernel
theorem b_Outline_gather_30 : tf_dec prog_7_method_4_code 30 [(.iload 6, 2), (.iload 5, 2)] = true := by decide +kernel
theorem d_Outline_gather_34 : decode prog_7_method_4_code 34 = .ok (.if_icmp .ge 63, 3) := by decide +kernel
theorem b_Outline_gather_37 : tf_dec prog_7_method_4_code 37 [(.aload 4, 2), (.iload 6, 2)] = true := by decide +kernel
theorem d_Outline_gather_41 : decode prog_7_method_4_code 41 = .ok (.aaload, 1) := by decide +kernel
theorem b_Outline_gather_42 : tf_dec prog_7_method_4_code 42 [(.astore 7, 2), (.aload 7, 2)] = true := by decide +kernel
theorem d_Outline_gather_46 : decode prog_7_method_4_code 46 = .ok (.ifnonnull 4, 3) := by decide +kernel
theorem d_Outline_gather_49 : decode prog_7_method_4_code 49 = .ok (.return_, 1) := by decide +kernel
theorem b_Outline_gather_50 : tf_dec prog_7_method_4_code 50 [(.aload_n 0, 1)] = true := by decide +kernel
theorem d_Outline_gather_51 : decode prog_7_method_4_code 51 = .ok (.getfield 32, 3) := by decide +kernel
theorem b_Outline_gather_54 : tf_dec prog_7_method_4_code 54 [(.istore 8, 2), (.aload_n 0, 1), (.aload 7, 2)] = true := by decide +kernel
theorem d_Outline_gather_59 : decode prog_7_method_4_code 59 = .ok (.getfield 49, 3) := by decide +kernel
theorem b_Outline_gather_62 : tf_dec prog_7_method_4_code 62 [(.aload_n 2, 1), (.iload_n 3, 1), (.iconst 1, 1), (.iadd, 1)] = true := by decide +kernel
theorem d_Outline_gather_66 : decode prog_7_method_4_code 66 = .ok (.invokevirtual 35, 3) := by decide +kernel
theorem b_Outline_gather_69 : tf_dec prog_7_method_4_code 69 [(.aload_n 0, 1), (.iload 8, 2), (.aload 7, 2)] = true := by decide +kernel
theorem d_Outline_gather_74 : decode prog_7_method_4_code 74 = .ok (.invokevirtual 55, 3) := by decide +kernel
theorem b_Outline_gather_77 : tf_dec prog_7_method_4_code 77 [(.aload 7, 2)] = true := by decide +kernel
theorem d_Outline_gather_79 : decode prog_7_method_4_code 79 = .ok (.invokevirtual 59, 3) := by decide +kernel
theorem d_Outline_gather_82 : decode prog_7_method_4_code 82 = .ok (.ifCond .eq 9, 3) := by decide +kernel
theorem b_Outline_gather_85 : tf_dec prog_7_method_4_code 85 [(.aload_n 0, 1), (.iload 8, 2)] = true := by decide +kernel
theorem d_Outline_gather_88 : decode prog_7_method_4_code 88 = .ok (.invokevirtual 63, 3) := by decide +kernel
theorem b_Outline_gather_91 : tf_dec prog_7_method_4_code 91 [(.iinc 6 1, 3)] = true := by decide +kernel
theorem d_Outline_gather_94 : decode prog_7_method_4_code 94 = .ok (.goto (-64), 3) := by decide +kernel
theorem d_Outline_gather_97 : decode prog_7_method_4_code 97 = .ok (.return_, 1) := by decide +kernel
theorem b_Outline_addContours_0 : tf_dec prog_7_method_5_code 0 [(.iconst 0, 1), (.istore_n 3, 1), (.iconst 0, 1), (.istore 4, 2)] = true := by decide +kernel
theorem b_Outline_addContours_5 : tf_dec prog_7_method_5_code 5 [(.iload 4, 2), (.aload_n 1, 1)] = true := by decide +kernel
theorem d_Outline_addContours_8 : decode prog_7_method_5_code 8 = .ok (.getfield 67, 3) := by decide +kernel
theorem d_Outline_addContours_11 : decode prog_7_method_5_code 11 = .ok (.if_icmp .ge 123, 3) := by decide +kernel
theorem b_Outline_addContours_14 : tf_dec prog_7_method_5_code 14 [(.iload_n 3, 1), (.aload_n 1, 1)] = true := by decide +kernel
theorem d_Outline_addContours_16 : decode prog_7_method_5_code 16 = .ok (.getfield 68, 3) := by decide +kernel
theorem b_Outline_addContours_19 : tf_dec prog_7_method_5_code 19 [(.iload 4, 2)] = true := by decide +kernel
theorem d_Outline_addContours_21 : decode prog_7_method_5_code 21 = .ok (.iaload, 1) := by decide +kernel
theorem d_Outline_addContours_22 : decode prog_7_method_5_code 22 = .ok (.if_icmp .ge 83, 3) := by decide +kernel
theorem b_Outline_addContours_25 : tf_dec prog_7_method_5_code 25 [(.aload_n 0, 1)] = true := by decide +kernel
theorem d_Outline_addContours_26 : decode prog_7_method_5_code 26 = .ok (.getfield 9, 3) := by decide +kernel
theorem b_Outline_addContours_29 : tf_dec prog_7_method_5_code 29 [(.aload_n 0, 1)] = true := by decide +kernel
theorem d_Outline_addContours_30 : decode prog_7_method_5_code 30 = .ok (.getfield 28, 3) := by decide +kernel
theorem b_Outline_addContours_33 : tf_dec prog_7_method_5_code 33 [(.aload_n 2, 1), (.aload_n 1, 1)] = true := by decide +kernel
theorem d_Outline_addContours_35 : decode prog_7_method_5_code 35 = .ok (.getfield 71, 3) := by decide +kernel
theorem b_Outline_addContours_38 : tf_dec prog_7_method_5_code 38 [(.iload_n 3, 1)] = true := by decide +kernel
theorem d_Outline_addContours_39 : decode prog_7_method_5_code 39 = .ok (.invokevirtual 72, 3) := by decide +kernel
theorem d_Outline_addContours_42 : decode prog_7_method_5_code 42 = .ok (.iastore, 1) := by decide +kernel
theorem b_Outline_addContours_43 : tf_dec prog_7_method_5_code 43 [(.aload_n 0, 1)] = true := by decide +kernel
theorem d_Outline_addContours_44 : decode prog_7_method_5_code 44 = .ok (.getfield 15, 3) := by decide +kernel
theorem b_Outline_addContours_47 : tf_dec prog_7_method_5_code 47 [(.aload_n 0, 1)] = true := by decide +kernel
theorem d_Outline_addContours_48 : decode prog_7_method_5_code 48 = .ok (.getfield 28, 3) := by decide +kernel
theorem b_Outline_addContours_51 : tf_dec prog_7_method_5_code 51 [(.aload_n 2, 1), (.aload_n 1, 1)] = true := by decide +kernel
theorem d_Outline_addContours_53 : decode prog_7_method_5_code 53 = .ok (.getfield 78, 3) := by decide +kernel
theorem b_Outline_addContours_56 : tf_dec prog_7_method_5_code 56 [(.iload_n 3, 1)] = true := by decide +kernel
theorem d_Outline_addContours_57 : decode prog_7_method_5_code 57 = .ok (.invokevirtual 72, 3) := by decide +kernel
theorem d_Outline_addContours_60 : decode prog_7_method_5_code 60 = .ok (.iastore, 1) := by decide +kernel
theorem b_Outline_addContours_61 : tf_dec prog_7_method_5_code 61 [(.aload_n 0, 1)] = true := by decide +kernel
theorem d_Outline_addContours_62 : decode prog_7_method_5_code 62 = .ok (.getfield 18, 3) := by decide +kernel
theorem b_Outline_addContours_65 : tf_dec prog_7_method_5_code 65 [(.aload_n 0, 1)] = true := by decide +kernel
theorem d_Outline_addContours_66 : decode prog_7_method_5_code 66 = .ok (.getfield 28, 3) := by decide +kernel
theorem b_Outline_addContours_69 : tf_dec prog_7_method_5_code 69 [(.aload_n 1, 1)] = true := by decide +kernel
theorem d_Outline_addContours_70 : decode prog_7_method_5_code 70 = .ok (.getfield 79, 3) := by decide +kernel
theorem b_Outline_addContours_73 : tf_dec prog_7_method_5_code 73 [(.iload_n 3, 1)] = true := by decide +kernel
theorem d_Outline_addContours_74 : decode prog_7_method_5_code 74 = .ok (.baload, 1) := by decide +kernel
theorem d_Outline_addContours_75 : decode prog_7_method_5_code 75 = .ok (.bastore, 1) := by decide +kernel
theorem b_Outline_addContours_76 : tf_dec prog_7_method_5_code 76 [(.aload_n 0, 1)] = true := by decide +kernel
theorem d_Outline_addContours_77 : decode prog_7_method_5_code 77 = .ok (.getfield 25, 3) := by decide +kernel
theorem b_Outline_addContours_80 : tf_dec prog_7_method_5_code 80 [(.aload_n 0, 1)] = true := by decide +kernel
theorem d_Outline_addContours_81 : decode prog_7_method_5_code 81 = .ok (.getfield 28, 3) := by decide +kernel
theorem b_Outline_addContours_84 : tf_dec prog_7_method_5_code 84 [(.aload_n 0, 1)] = true := by decide +kernel
theorem d_Outline_addContours_85 : decode prog_7_method_5_code 85 = .ok (.getfield 32, 3) := by decide +kernel
theorem d_Outline_addContours_88 : decode prog_7_method_5_code 88 = .ok (.iastore, 1) := by decide +kernel
theorem b_Outline_addContours_89 : tf_dec prog_7_method_5_code 89 [(.aload_n 0, 1), (.dup, 1)] = true := by decide +kernel
theorem d_Outline_addContours_91 : decode prog_7_method_5_code 91 = .ok (.getfield 28, 3) := by decide +kernel
theorem b_Outline_addContours_94 : tf_dec prog_7_method_5_code 94 [(.iconst 1, 1), (.iadd, 1)] = true := by decide +kernel
theorem d_Outline_addContours_96 : decode prog_7_method_5_code 96 = .ok (.putfield 28, 3) := by decide +kernel
theorem b_Outline_addContours_99 : tf_dec prog_7_method_5_code 99 [(.iinc 3 1, 3)] = true := by decide +kernel
theorem d_Outline_addContours_102 : decode prog_7_method_5_code 102 = .ok (.goto (-88), 3) := by decide +kernel
theorem b_Outline_addContours_105 : tf_dec prog_7_method_5_code 105 [(.aload_n 0, 1), (.dup, 1)] = true := by decide +kernel
theorem d_Outline_addContours_107 : decode prog_7_method_5_code 107 = .ok (.getfield 32, 3) := by decide +kernel
theorem b_Outline_addContours_110 : tf_dec prog_7_method_5_code 110 [(.iconst 1, 1), (.iadd, 1)] = true := by decide +kernel
theorem d_Outline_addContours_112 : decode prog_7_method_5_code 112 = .ok (.putfield 32, 3) := by decide +kernel
theorem b_Outline_addContours_115 : tf_dec prog_7_method_5_code 115 [(.aload_n 0, 1)] = true := by decide +kernel
theorem d_Outline_addContours_116 : decode prog_7_method_5_code 116 = .ok (.getfield 22, 3) := by decide +kernel
theorem b_Outline_addContours_119 : tf_dec prog_7_method_5_code 119 [(.aload_n 0, 1)] = true := by decide +kernel
theorem d_Outline_addContours_120 : decode prog_7_method_5_code 120 = .ok (.getfield 32, 3) := by decide +kernel
theorem b_Outline_addContours_123 : tf_dec prog_7_method_5_code 123 [(.aload_n 0, 1)] = true := by decide +kernel
theorem d_Outline_addContours_124 : decode prog_7_method_5_code 124 = .ok (.getfield 28, 3) := by decide +kernel
theorem d_Outline_addContours_127 : decode prog_7_method_5_code 127 = .ok (.iastore, 1) := by decide +kernel
theorem b_Outline_addContours_128 : tf_dec prog_7_method_5_code 128 [(.iinc 4 1, 3)] = true := by decide +kernel
theorem d_Outline_addContours_131 : decode prog_7_method_5_code 131 = .ok (.goto (-126), 3) := by decide +kernel
theorem d_Outline_addContours_134 : decode prog_7_method_5_code 134 = .ok (.return_, 1) := by decide +kernel
theorem b_Outline_turnAndShift_0 : tf_dec prog_7_method_6_code 0 [(.aload_n 0, 1)] = true := by decide +kernel
theorem d_Outline_turnAndShift_1 : decode prog_7_method_6_code 1 = .ok (.getfield 22, 3) := by decide +kernel
theorem b_Outline_turnAndShift_4 : tf_dec prog_7_method_6_code 4 [(.iload_n 1, 1)] = true := by decide +kernel
theorem d_Outline_turnAndShift_5 : decode prog_7_method_6_code 5 = .ok (.iaload, 1) := by decide +kernel
theorem b_Outline_turnAndShift_6 : tf_dec prog_7_method_6_code 6 [(.istore_n 3, 1)] = true := by decide +kernel
theorem b_Outline_turnAndShift_7 : tf_dec prog_7_method_6_code 7 [(.iload_n 3, 1), (.aload_n 0, 1)] = true := by decide +kernel
theorem d_Outline_turnAndShift_9 : decode prog_7_method_6_code 9 = .ok (.getfield 28, 3) := by decide +kernel
theorem d_Outline_turnAndShift_12 : decode prog_7_method_6_code 12 = .ok (.if_icmp .ge 100, 3) := by decide +kernel
theorem b_Outline_turnAndShift_15 : tf_dec prog_7_method_6_code 15 [(.aload_n 2, 1)] = true := by decide +kernel
theorem d_Outline_turnAndShift_16 : decode prog_7_method_6_code 16 = .ok (.invokevirtual 59, 3) := by decide +kernel
theorem d_Outline_turnAndShift_19 : decode prog_7_method_6_code 19 = .ok (.ifCond .eq 13, 3) := by decide +kernel
theorem b_Outline_turnAndShift_22 : tf_dec prog_7_method_6_code 22 [(.aload_n 0, 1)] = true := by decide +kernel
theorem d_Outline_turnAndShift_23 : decode prog_7_method_6_code 23 = .ok (.getfield 9, 3) := by decide +kernel
theorem b_Outline_turnAndShift_26 : tf_dec prog_7_method_6_code 26 [(.iload_n 3, 1)] = true := by decide +kernel
theorem d_Outline_turnAndShift_27 : decode prog_7_method_6_code 27 = .ok (.iaload, 1) := by decide +kernel
theorem b_Outline_turnAndShift_28 : tf_dec prog_7_method_6_code 28 [(.ineg, 1)] = true := by decide +kernel
theorem d_Outline_turnAndShift_29 : decode prog_7_method_6_code 29 = .ok (.goto 9, 3) := by decide +kernel
theorem b_Outline_turnAndShift_32 : tf_dec prog_7_method_6_code 32 [(.aload_n 0, 1)] = true := by decide +kernel
theorem d_Outline_turnAndShift_33 : decode prog_7_method_6_code 33 = .ok (.getfield 9, 3) := by decide +kernel
theorem b_Outline_turnAndShift_36 : tf_dec prog_7_method_6_code 36 [(.iload_n 3, 1)] = true := by decide +kernel
theorem d_Outline_turnAndShift_37 : decode prog_7_method_6_code 37 = .ok (.iaload, 1) := by decide +kernel
theorem b_Outline_turnAndShift_38 : tf_dec prog_7_method_6_code 38 [(.istore 4, 2), (.aload_n 0, 1)] = true := by decide +kernel
theorem d_Outline_turnAndShift_41 : decode prog_7_method_6_code 41 = .ok (.getfield 15, 3) := by decide +kernel
theorem b_Outline_turnAndShift_44 : tf_dec prog_7_method_6_code 44 [(.iload_n 3, 1)] = true := by decide +kernel
theorem d_Outline_turnAndShift_45 : decode prog_7_method_6_code 45 = .ok (.iaload, 1) := by decide +kernel
theorem b_Outline_turnAndShift_46 : tf_dec prog_7_method_6_code 46 [(.istore 5, 2), (.aload_n 2, 1)] = true := by decide +kernel
theorem d_Outline_turnAndShift_49 : decode prog_7_method_6_code 49 = .ok (.getfield 80, 3) := by decide +kernel
theorem b_Outline_turnAndShift_52 : tf_dec prog_7_method_6_code 52 [(.iconst 4, 1)] = true := by decide +kernel
theorem d_Outline_turnAndShift_53 : decode prog_7_method_6_code 53 = .ok (.irem, 1) := by decide +kernel
theorem b_Outline_turnAndShift_54 : tf_dec prog_7_method_6_code 54 [(.istore 6, 2)] = true := by decide +kernel
theorem b_Outline_turnAndShift_56 : tf_dec prog_7_method_6_code 56 [(.iload 6, 2)] = true := by decide +kernel
theorem d_Outline_turnAndShift_58 : decode prog_7_method_6_code 58 = .ok (.ifCond .le 22, 3) := by decide +kernel
theorem b_Outline_turnAndShift_61 : tf_dec prog_7_method_6_code 61 [(.iload 4, 2), (.istore 7, 2), (.iload 5, 2), (.ineg, 1), (.istore 4, 2), (.iload 7, 2), (.istore 5, 2), (.iinc 6 (-1), 3)] = true := by decide +kernel
theorem d_Outline_turnAndShift_77 : decode prog_7_method_6_code 77 = .ok (.goto (-21), 3) := by decide +kernel
theorem b_Outline_turnAndShift_80 : tf_dec prog_7_method_6_code 80 [(.aload_n 0, 1)] = true := by decide +kernel
theorem d_Outline_turnAndShift_81 : decode prog_7_method_6_code 81 = .ok (.getfield 9, 3) := by decide +kernel
theorem b_Outline_turnAndShift_84 : tf_dec prog_7_method_6_code 84 [(.iload_n 3, 1), (.iload 4, 2), (.aload_n 2, 1)] = true := by decide +kernel
theorem d_Outline_turnAndShift_88 : decode prog_7_method_6_code 88 = .ok (.getfield 83, 3) := by decide +kernel
theorem b_Outline_turnAndShift_91 : tf_dec prog_7_method_6_code 91 [(.iadd, 1)] = true := by decide +kernel
theorem d_Outline_turnAndShift_92 : decode prog_7_method_6_code 92 = .ok (.iastore, 1) := by decide +kernel
theorem b_Outline_turnAndShift_93 : tf_dec prog_7_method_6_code 93 [(.aload_n 0, 1)] = true := by decide +kernel
theorem d_Outline_turnAndShift_94 : decode prog_7_method_6_code 94 = .ok (.getfield 15, 3) := by decide +kernel
theorem b_Outline_turnAndShift_97 : tf_dec prog_7_method_6_code 97 [(.iload_n 3, 1), (.iload 5, 2), (.aload_n 2, 1)] = true := by decide +kernel
theorem d_Outline_turnAndShift_101 : decode prog_7_method_6_code 101 = .ok (.getfield 86, 3) := by decide +kernel
theorem b_Outline_turnAndShift_104 : tf_dec prog_7_method_6_code 104 [(.iadd, 1)] = true := by decide +kernel
theorem d_Outline_turnAndShift_105 : decode prog_7_method_6_code 105 = .ok (.iastore, 1) := by decide +kernel
theorem b_Outline_turnAndShift_106 : tf_dec prog_7_method_6_code 106 [(.iinc 3 1, 3)] = true := by decide +kernel
theorem d_Outline_turnAndShift_109 : decode prog_7_method_6_code 109 = .ok (.goto (-102), 3) := by decide +kernel
theorem d_Outline_turnAndShift_112 : decode prog_7_method_6_code 112 = .ok (.return_, 1) := by decide +kernel
theorem b_Outline_reverseContours_0 : tf_dec prog_7_method_7_code 0 [(.iload_n 1, 1), (.istore_n 2, 1)] = true := by decide +kernel
theorem b_Outline_reverseContours_2 : tf_dec prog_7_method_7_code 2 [(.iload_n 2, 1), (.aload_n 0, 1)] = true := by decide +kernel
theorem d_Outline_reverseContours_4 : decode prog_7_method_7_code 4 = .ok (.getfield 32, 3) := by decide +kernel
theorem d_Outline_reverseContours_7 : decode prog_7_method_7_code 7 = .ok (.if_icmp .ge 50, 3) := by decide +kernel
theorem b_Outline_reverseContours_10 : tf_dec prog_7_method_7_code 10 [(.aload_n 0, 1)] = true := by decide +kernel
theorem d_Outline_reverseContours_11 : decode prog_7_method_7_code 11 = .ok (.getfield 22, 3) := by decide +kernel
theorem b_Outline_reverseContours_14 : tf_dec prog_7_method_7_code 14 [(.iload_n 2, 1), (.iconst 1, 1), (.iadd, 1)] = true := by decide +kernel
theorem d_Outline_reverseContours_17 : decode prog_7_method_7_code 17 = .ok (.iaload, 1) := by decide +kernel
theorem b_Outline_reverseContours_18 : tf_dec prog_7_method_7_code 18 [(.iconst 1, 1), (.isub, 1), (.istore_n 3, 1), (.aload_n 0, 1)] = true := by decide +kernel
theorem d_Outline_reverseContours_22 : decode prog_7_method_7_code 22 = .ok (.getfield 22, 3) := by decide +kernel
theorem b_Outline_reverseContours_25 : tf_dec prog_7_method_7_code 25 [(.iload_n 2, 1)] = true := by decide +kernel
theorem d_Outline_reverseContours_26 : decode prog_7_method_7_code 26 = .ok (.iaload, 1) := by decide +kernel
theorem b_Outline_reverseContours_27 : tf_dec prog_7_method_7_code 27 [(.istore 4, 2)] = true := by decide +kernel
theorem b_Outline_reverseContours_29 : tf_dec prog_7_method_7_code 29 [(.iload 4, 2), (.iload_n 3, 1)] = true := by decide +kernel
theorem d_Outline_reverseContours_32 : decode prog_7_method_7_code 32 = .ok (.if_icmp .ge 19, 3) := by decide +kernel
theorem b_Outline_reverseContours_35 : tf_dec prog_7_method_7_code 35 [(.aload_n 0, 1), (.iload 4, 2), (.iload_n 3, 1)] = true := by decide +kernel
theorem d_Outline_reverseContours_39 : decode prog_7_method_7_code 39 = .ok (.invokevirtual 89, 3) := by decide +kernel
theorem b_Outline_reverseContours_42 : tf_dec prog_7_method_7_code 42 [(.iinc 3 (-1), 3), (.iinc 4 1, 3)] = true := by decide +kernel
theorem d_Outline_reverseContours_48 : decode prog_7_method_7_code 48 = .ok (.goto (-19), 3) := by decide +kernel
theorem b_Outline_reverseContours_51 : tf_dec prog_7_method_7_code 51 [(.iinc 2 1, 3)] = true := by decide +kernel
theorem d_Outline_reverseContours_54 : decode prog_7_method_7_code 54 = .ok (.goto (-52), 3) := by decide +kernel
theorem d_Outline_reverseContours_57 : decode prog_7_method_7_code 57 = .ok (.return_, 1) := by decide +kernel
theorem b_Outline_swap_0 : tf_dec prog_7_method_8_code 0 [(.aload_n 0, 1)] = true := by decide +kernel
theorem d_Outline_swap_1 : decode prog_7_method_8_code 1 = .ok (.getfield 9, 3) := by decide +kernel
theorem b_Outline_swap_4 : tf_dec prog_7_method_8_code 4 [(.iload_n 1, 1)] = true := by decide +kernel
theorem d_Outline_swap_5 : decode prog_7_method_8_code 5 = .ok (.iaload, 1) := by decide +kernel
theorem b_Outline_swap_6 : tf_dec prog_7_method_8_code 6 [(.istore_n 3, 1), (.aload_n 0, 1)] = true := by decide +kernel
theorem d_Outline_swap_8 : decode prog_7_method_8_code 8 = .ok (.getfield 15, 3) := by decide +kernel
theorem b_Outline_swap_11 : tf_dec prog_7_method_8_code 11 [(.iload_n 1, 1)] = true := by decide +kernel
theorem d_Outline_swap_12 : decode prog_7_method_8_code 12 = .ok (.iaload, 1) := by decide +kernel
theorem b_Outline_swap_13 : tf_dec prog_7_method_8_code 13 [(.istore 4, 2), (.aload_n 0, 1)] = true := by decide +kernel
theorem d_Outline_swap_16 : decode prog_7_method_8_code 16 = .ok (.getfield 18, 3) := by decide +kernel
theorem b_Outline_swap_19 : tf_dec prog_7_method_8_code 19 [(.iload_n 1, 1)] = true := by decide +kernel
theorem d_Outline_swap_20 : decode prog_7_method_8_code 20 = .ok (.baload, 1) := by decide +kernel
theorem b_Outline_swap_21 : tf_dec prog_7_method_8_code 21 [(.istore 5, 2), (.aload_n 0, 1)] = true := by decide +kernel
theorem d_Outline_swap_24 : decode prog_7_method_8_code 24 = .ok (.getfield 9, 3) := by decide +kernel
theorem b_Outline_swap_27 : tf_dec prog_7_method_8_code 27 [(.iload_n 1, 1), (.aload_n 0, 1)] = true := by decide +kernel
theorem d_Outline_swap_29 : decode prog_7_method_8_code 29 = .ok (.getfield 9, 3) := by decide +kernel
theorem b_Outline_swap_32 : tf_dec prog_7_method_8_code 32 [(.iload_n 2, 1)] = true := by decide +kernel
theorem d_Outline_swap_33 : decode prog_7_method_8_code 33 = .ok (.iaload, 1) := by decide +kernel
theorem d_Outline_swap_34 : decode prog_7_method_8_code 34 = .ok (.iastore, 1) := by decide +kernel
theorem b_Outline_swap_35 : tf_dec prog_7_method_8_code 35 [(.aload_n 0, 1)] = true := by decide +kernel
theorem d_Outline_swap_36 : decode prog_7_method_8_code 36 = .ok (.getfield 15, 3) := by decide +kernel
theorem b_Outline_swap_39 : tf_dec prog_7_method_8_code 39 [(.iload_n 1, 1), (.aload_n 0, 1)] = true := by decide +kernel
theorem d_Outline_swap_41 : decode prog_7_method_8_code 41 = .ok (.getfield 15, 3) := by decide +kernel
theorem b_Outline_swap_44 : tf_dec prog_7_method_8_code 44 [(.iload_n 2, 1)] = true := by decide +kernel
theorem d_Outline_swap_45 : decode prog_7_method_8_code 45 = .ok (.iaload, 1) := by decide +kernel
theorem d_Outline_swap_46 : decode prog_7_method_8_code 46 = .ok (.iastore, 1) := by decide +kernel
theorem b_Outline_swap_47 : tf_dec prog_7_method_8_code 47 [(.aload_n 0, 1)] = true := by decide +kernel
theorem d_Outline_swap_48 : decode prog_7_method_8_code 48 = .ok (.getfield 18, 3) := by decide +kernel
theorem b_Outline_swap_51 : tf_dec prog_7_method_8_code 51 [(.iload_n 1, 1), (.aload_n 0, 1)] = true := by decide +kernel
theorem d_Outline_swap_53 : decode prog_7_method_8_code 53 = .ok (.getfield 18, 3) := by decide +kernel
theorem b_Outline_swap_56 : tf_dec prog_7_method_8_code 56 [(.iload_n 2, 1)] = true := by decide +kernel
theorem d_Outline_swap_57 : decode prog_7_method_8_code 57 = .ok (.baload, 1) := by decide +kernel
theorem d_Outline_swap_58 : decode prog_7_method_8_code 58 = .ok (.bastore, 1) := by decide +kernel
theorem b_Outline_swap_59 : tf_dec prog_7_method_8_code 59 [(.aload_n 0, 1)] = true := by decide +kernel
theorem d_Outline_swap_60 : decode prog_7_method_8_code 60 = .ok (.getfield 9, 3) := by decide +kernel
theorem b_Outline_swap_63 : tf_dec prog_7_method_8_code 63 [(.iload_n 2, 1), (.iload_n 3, 1)] = true := by decide +kernel
theorem d_Outline_swap_65 : decode prog_7_method_8_code 65 = .ok (.iastore, 1) := by decide +kernel
theorem b_Outline_swap_66 : tf_dec prog_7_method_8_code 66 [(.aload_n 0, 1)] = true := by decide +kernel
theorem d_Outline_swap_67 : decode prog_7_method_8_code 67 = .ok (.getfield 15, 3) := by decide +kernel
theorem b_Outline_swap_70 : tf_dec prog_7_method_8_code 70 [(.iload_n 2, 1), (.iload 4, 2)] = true := by decide +kernel
theorem d_Outline_swap_73 : decode prog_7_method_8_code 73 = .ok (.iastore, 1) := by decide +kernel
theorem b_Outline_swap_74 : tf_dec prog_7_method_8_code 74 [(.aload_n 0, 1)] = true := by decide +kernel
theorem d_Outline_swap_75 : decode prog_7_method_8_code 75 = .ok (.getfield 18, 3) := by decide +kernel
theorem b_Outline_swap_78 : tf_dec prog_7_method_8_code 78 [(.iload_n 2, 1), (.iload 5, 2)] = true := by decide +kernel
theorem d_Outline_swap_81 : decode prog_7_method_8_code 81 = .ok (.bastore, 1) := by decide +kernel
theorem d_Outline_swap_82 : decode prog_7_method_8_code 82 = .ok (.return_, 1) := by decide +kernel
theorem b_Part_init_0 : tf_dec prog_8_method_1_code 0 [(.aload_n 0, 1)] = true := by decide +kernel
theorem d_Part_init_1 : decode prog_8_method_1_code 1 = .ok (.invokespecial 3, 3) := by decide +kernel
theorem b_Part_init_4 : tf_dec prog_8_method_1_code 4 [(.aload_n 0, 1), (.aload_n 1, 1)] = true := by decide +kernel
theorem d_Part_init_6 : decode prog_8_method_1_code 6 = .ok (.putfield 9, 3) := by decide +kernel
theorem b_Part_init_9 : tf_dec prog_8_method_1_code 9 [(.aload_n 0, 1), (.iload_n 2, 1)] = true := by decide +kernel
theorem d_Part_init_11 : decode prog_8_method_1_code 11 = .ok (.putfield 15, 3) := by decide +kernel
theorem b_Part_init_14 : tf_dec prog_8_method_1_code 14 [(.aload_n 0, 1), (.iload_n 3, 1)] = true := by decide +kernel
theorem d_Part_init_16 : decode prog_8_method_1_code 16 = .ok (.putfield 19, 3) := by decide +kernel
theorem b_Part_init_19 : tf_dec prog_8_method_1_code 19 [(.aload_n 0, 1), (.iload 4, 2)] = true := by decide +kernel
theorem d_Part_init_22 : decode prog_8_method_1_code 22 = .ok (.putfield 22, 3) := by decide +kernel
theorem d_Part_init_25 : decode prog_8_method_1_code 25 = .ok (.return_, 1) := by decide +kernel
theorem b_Part_isMirrored_0 : tf_dec prog_8_method_2_code 0 [(.aload_n 0, 1)] = true := by decide +kernel
theorem d_Part_isMirrored_1 : decode prog_8_method_2_code 1 = .ok (.getfield 22, 3) := by decide +kernel
theorem b_Part_isMirrored_4 : tf_dec prog_8_method_2_code 4 [(.iconst 4, 1)] = true := by decide +kernel
theorem d_Part_isMirrored_5 : decode prog_8_method_2_code 5 = .ok (.if_icmp .lt 7, 3) := by decide +kernel
theorem b_Part_isMirrored_8 : tf_dec prog_8_method_2_code 8 [(.iconst 1, 1)] = true := by decide +kernel
theorem d_Part_isMirrored_9 : decode prog_8_method_2_code 9 = .ok (.goto 4, 3) := by decide +kernel
theorem b_Part_isMirrored_12 : tf_dec prog_8_method_2_code 12 [(.iconst 0, 1)] = true := by decide +kernel
theorem d_Part_isMirrored_13 : decode prog_8_method_2_code 13 = .ok (.ireturn, 1) := by decide +kernel
theorem b_Path_init_0 : tf_dec prog_9_method_1_code 0 [(.aload_n 0, 1)] = true := by decide +kernel
theorem d_Path_init_1 : decode prog_9_method_1_code 1 = .ok (.invokespecial 3, 3) := by decide +kernel
theorem b_Path_init_4 : tf_dec prog_9_method_1_code 4 [(.aload_n 0, 1), (.sipush 320, 3)] = true := by decide +kernel
theorem d_Path_init_8 : decode prog_9_method_1_code 8 = .ok (.newarray .int, 2) := by decide +kernel
theorem d_Path_init_10 : decode prog_9_method_1_code 10 = .ok (.putfield 9, 3) := by decide +kernel
theorem b_Path_init_13 : tf_dec prog_9_method_1_code 13 [(.aload_n 0, 1), (.sipush 320, 3)] = true := by decide +kernel
theorem d_Path_init_17 : decode prog_9_method_1_code 17 = .ok (.newarray .int, 2) := by decide +kernel
theorem d_Path_init_19 : decode prog_9_method_1_code 19 = .ok (.putfield 15, 3) := by decide +kernel
theorem d_Path_init_22 : decode prog_9_method_1_code 22 = .ok (.return_, 1) := by decide +kernel
theorem b_Path_follow_0 : tf_dec prog_9_method_2_code 0 [(.aload_n 1, 1)] = true := by decide +kernel
theorem d_Path_follow_1 : decode prog_9_method_2_code 1 = .ok (.getfield 18, 3) := by decide +kernel
theorem b_Path_follow_4 : tf_dec prog_9_method_2_code 4 [(.iload_n 2, 1)] = true := by decide +kernel
theorem d_Path_follow_5 : decode prog_9_method_2_code 5 = .ok (.iaload, 1) := by decide +kernel
theorem b_Path_follow_6 : tf_dec prog_9_method_2_code 6 [(.istore_n 3, 1), (.aload_n 1, 1)] = true := by decide +kernel
theorem d_Path_follow_8 : decode prog_9_method_2_code 8 = .ok (.getfield 18, 3) := by decide +kernel
theorem b_Path_follow_11 : tf_dec prog_9_method_2_code 11 [(.iload_n 2, 1), (.iconst 1, 1), (.iadd, 1)] = true := by decide +kernel
theorem d_Path_follow_14 : decode prog_9_method_2_code 14 = .ok (.iaload, 1) := by decide +kernel
theorem b_Path_follow_15 : tf_dec prog_9_method_2_code 15 [(.istore 4, 2), (.aload_n 0, 1), (.iconst 0, 1)] = true := by decide +kernel
theorem d_Path_follow_19 : decode prog_9_method_2_code 19 = .ok (.putfield 23, 3) := by decide +kernel
theorem b_Path_follow_22 : tf_dec prog_9_method_2_code 22 [(.iload_n 3, 1), (.istore 5, 2)] = true := by decide +kernel
theorem b_Path_follow_25 : tf_dec prog_9_method_2_code 25 [(.iload 5, 2), (.iload 4, 2)] = true := by decide +kernel
theorem d_Path_follow_29 : decode prog_9_method_2_code 29 = .ok (.if_icmp .ge 95, 3) := by decide +kernel
theorem b_Path_follow_32 : tf_dec prog_9_method_2_code 32 [(.iload 5, 2), (.iconst 1, 1), (.iadd, 1), (.iload 4, 2)] = true := by decide +kernel
theorem d_Path_follow_38 : decode prog_9_method_2_code 38 = .ok (.if_icmp .ge 10, 3) := by decide +kernel
theorem b_Path_follow_41 : tf_dec prog_9_method_2_code 41 [(.iload 5, 2), (.iconst 1, 1), (.iadd, 1)] = true := by decide +kernel
theorem d_Path_follow_45 : decode prog_9_method_2_code 45 = .ok (.goto 4, 3) := by decide +kernel
theorem b_Path_follow_48 : tf_dec prog_9_method_2_code 48 [(.iload_n 3, 1)] = true := by decide +kernel
theorem b_Path_follow_49 : tf_dec prog_9_method_2_code 49 [(.istore 6, 2), (.aload_n 1, 1)] = true := by decide +kernel
theorem d_Path_follow_52 : decode prog_9_method_2_code 52 = .ok (.getfield 27, 3) := by decide +kernel
theorem b_Path_follow_55 : tf_dec prog_9_method_2_code 55 [(.iload 5, 2)] = true := by decide +kernel
theorem d_Path_follow_57 : decode prog_9_method_2_code 57 = .ok (.baload, 1) := by decide +kernel
theorem d_Path_follow_58 : decode prog_9_method_2_code 58 = .ok (.ifCond .ne 32, 3) := by decide +kernel
theorem b_Path_follow_61 : tf_dec prog_9_method_2_code 61 [(.aload_n 0, 1), (.aload_n 1, 1), (.iload 5, 2), (.iload_n 3, 1)] = true := by decide +kernel
theorem d_Path_follow_66 : decode prog_9_method_2_code 66 = .ok (.if_icmp .le 10, 3) := by decide +kernel
theorem b_Path_follow_69 : tf_dec prog_9_method_2_code 69 [(.iload 5, 2), (.iconst 1, 1), (.isub, 1)] = true := by decide +kernel
theorem d_Path_follow_73 : decode prog_9_method_2_code 73 = .ok (.goto 7, 3) := by decide +kernel
theorem b_Path_follow_76 : tf_dec prog_9_method_2_code 76 [(.iload 4, 2), (.iconst 1, 1), (.isub, 1)] = true := by decide +kernel
theorem b_Path_follow_80 : tf_dec prog_9_method_2_code 80 [(.iload 5, 2), (.iload 6, 2)] = true := by decide +kernel
theorem d_Path_follow_84 : decode prog_9_method_2_code 84 = .ok (.invokevirtual 31, 3) := by decide +kernel
theorem d_Path_follow_87 : decode prog_9_method_2_code 87 = .ok (.goto 31, 3) := by decide +kernel
theorem b_Path_follow_90 : tf_dec prog_9_method_2_code 90 [(.aload_n 1, 1)] = true := by decide +kernel
theorem d_Path_follow_91 : decode prog_9_method_2_code 91 = .ok (.getfield 27, 3) := by decide +kernel
theorem b_Path_follow_94 : tf_dec prog_9_method_2_code 94 [(.iload 6, 2)] = true := by decide +kernel
theorem d_Path_follow_96 : decode prog_9_method_2_code 96 = .ok (.baload, 1) := by decide +kernel
theorem d_Path_follow_97 : decode prog_9_method_2_code 97 = .ok (.ifCond .eq 21, 3) := by decide +kernel
theorem b_Path_follow_100 : tf_dec prog_9_method_2_code 100 [(.aload_n 0, 1), (.aload_n 1, 1)] = true := by decide +kernel
theorem d_Path_follow_102 : decode prog_9_method_2_code 102 = .ok (.getfield 35, 3) := by decide +kernel
theorem b_Path_follow_105 : tf_dec prog_9_method_2_code 105 [(.iload 6, 2)] = true := by decide +kernel
theorem d_Path_follow_107 : decode prog_9_method_2_code 107 = .ok (.iaload, 1) := by decide +kernel
theorem b_Path_follow_108 : tf_dec prog_9_method_2_code 108 [(.aload_n 1, 1)] = true := by decide +kernel
theorem d_Path_follow_109 : decode prog_9_method_2_code 109 = .ok (.getfield 36, 3) := by decide +kernel
theorem b_Path_follow_112 : tf_dec prog_9_method_2_code 112 [(.iload 6, 2)] = true := by decide +kernel
theorem d_Path_follow_114 : decode prog_9_method_2_code 114 = .ok (.iaload, 1) := by decide +kernel
theorem d_Path_follow_115 : decode prog_9_method_2_code 115 = .ok (.invokevirtual 37, 3) := by decide +kernel
theorem b_Path_follow_118 : tf_dec prog_9_method_2_code 118 [(.iinc 5 1, 3)] = true := by decide +kernel
theorem d_Path_follow_121 : decode prog_9_method_2_code 121 = .ok (.goto (-96), 3) := by decide +kernel
theorem d_Path_follow_124 : decode prog_9_method_2_code 124 = .ok (.return_, 1) := by decide +kernel
theorem b_Path_fit_0 : tf_dec prog_9_method_3_code 0 [(.iconst 0, 1), (.istore_n 3, 1)] = true := by decide +kernel
theorem b_Path_fit_2 : tf_dec prog_9_method_3_code 2 [(.iload_n 3, 1), (.aload_n 0, 1)] = true := by decide +kernel
theorem d_Path_fit_4 : decode prog_9_method_3_code 4 = .ok (.getfield 23, 3) := by decide +kernel
theorem d_Path_fit_7 : decode prog_9_method_3_code 7 = .ok (.if_icmp .ge 26, 3) := by decide +kernel
theorem b_Path_fit_10 : tf_dec prog_9_method_3_code 10 [(.aload_n 0, 1)] = true := by decide +kernel
theorem d_Path_fit_11 : decode prog_9_method_3_code 11 = .ok (.getfield 15, 3) := by decide +kernel
theorem b_Path_fit_14 : tf_dec prog_9_method_3_code 14 [(.iload_n 3, 1), (.aload_n 1, 1), (.aload_n 0, 1)] = true := by decide +kernel
theorem d_Path_fit_17 : decode prog_9_method_3_code 17 = .ok (.getfield 15, 3) := by decide +kernel
theorem b_Path_fit_20 : tf_dec prog_9_method_3_code 20 [(.iload_n 3, 1)] = true := by decide +kernel
theorem d_Path_fit_21 : decode prog_9_method_3_code 21 = .ok (.iaload, 1) := by decide +kernel
theorem b_Path_fit_22 : tf_dec prog_9_method_3_code 22 [(.iload_n 2, 1)] = true := by decide +kernel
theorem d_Path_fit_23 : decode prog_9_method_3_code 23 = .ok (.invokevirtual 41, 3) := by decide +kernel
theorem d_Path_fit_26 : decode prog_9_method_3_code 26 = .ok (.iastore, 1) := by decide +kernel
theorem b_Path_fit_27 : tf_dec prog_9_method_3_code 27 [(.iinc 3 1, 3)] = true := by decide +kernel
theorem d_Path_fit_30 : decode prog_9_method_3_code 30 = .ok (.goto (-28), 3) := by decide +kernel
theorem d_Path_fit_33 : decode prog_9_method_3_code 33 = .ok (.return_, 1) := by decide +kernel
theorem b_Path_addQuadratic_0 : tf_dec prog_9_method_4_code 0 [(.aload_n 1, 1)] = true := by decide +kernel
theorem d_Path_addQuadratic_1 : decode prog_9_method_4_code 1 = .ok (.getfield 35, 3) := by decide +kernel
theorem b_Path_addQuadratic_4 : tf_dec prog_9_method_4_code 4 [(.iload_n 2, 1), (.iload_n 3, 1), (.aload_n 1, 1)] = true := by decide +kernel
theorem d_Path_addQuadratic_7 : decode prog_9_method_4_code 7 = .ok (.getfield 27, 3) := by decide +kernel
theorem b_Path_addQuadratic_10 : tf_dec prog_9_method_4_code 10 [(.iload_n 2, 1)] = true := by decide +kernel
theorem d_Path_addQuadratic_11 : decode prog_9_method_4_code 11 = .ok (.baload, 1) := by decide +kernel
theorem d_Path_addQuadratic_12 : decode prog_9_method_4_code 12 = .ok (.invokestatic 47, 3) := by decide +kernel
theorem b_Path_addQuadratic_15 : tf_dec prog_9_method_4_code 15 [(.istore 5, 2), (.aload_n 1, 1)] = true := by decide +kernel
theorem d_Path_addQuadratic_18 : decode prog_9_method_4_code 18 = .ok (.getfield 36, 3) := by decide +kernel
theorem b_Path_addQuadratic_21 : tf_dec prog_9_method_4_code 21 [(.iload_n 2, 1), (.iload_n 3, 1), (.aload_n 1, 1)] = true := by decide +kernel
theorem d_Path_addQuadratic_24 : decode prog_9_method_4_code 24 = .ok (.getfield 27, 3) := by decide +kernel
theorem b_Path_addQuadratic_27 : tf_dec prog_9_method_4_code 27 [(.iload_n 2, 1)] = true := by decide +kernel
theorem d_Path_addQuadratic_28 : decode prog_9_method_4_code 28 = .ok (.baload, 1) := by decide +kernel
theorem d_Path_addQuadratic_29 : decode prog_9_method_4_code 29 = .ok (.invokestatic 47, 3) := by decide +kernel
theorem b_Path_addQuadratic_32 : tf_dec prog_9_method_4_code 32 [(.istore 6, 2), (.aload_n 1, 1)] = true := by decide +kernel
theorem d_Path_addQuadratic_35 : decode prog_9_method_4_code 35 = .ok (.getfield 35, 3) := by decide +kernel
theorem b_Path_addQuadratic_38 : tf_dec prog_9_method_4_code 38 [(.iload 4, 2), (.iload_n 3, 1), (.aload_n 1, 1)] = true := by decide +kernel
theorem d_Path_addQuadratic_42 : decode prog_9_method_4_code 42 = .ok (.getfield 27, 3) := by decide +kernel
theorem b_Path_addQuadratic_45 : tf_dec prog_9_method_4_code 45 [(.iload 4, 2)] = true := by decide +kernel
theorem d_Path_addQuadratic_47 : decode prog_9_method_4_code 47 = .ok (.baload, 1) := by decide +kernel
theorem d_Path_addQuadratic_48 : decode prog_9_method_4_code 48 = .ok (.invokestatic 47, 3) := by decide +kernel
theorem b_Path_addQuadratic_51 : tf_dec prog_9_method_4_code 51 [(.istore 7, 2), (.aload_n 1, 1)] = true := by decide +kernel
theorem d_Path_addQuadratic_54 : decode prog_9_method_4_code 54 = .ok (.getfield 36, 3) := by decide +kernel
theorem b_Path_addQuadratic_57 : tf_dec prog_9_method_4_code 57 [(.iload 4, 2), (.iload_n 3, 1), (.aload_n 1, 1)] = true := by decide +kernel
theorem d_Path_addQuadratic_61 : decode prog_9_method_4_code 61 = .ok (.getfield 27, 3) := by decide +kernel
theorem b_Path_addQuadratic_64 : tf_dec prog_9_method_4_code 64 [(.iload 4, 2)] = true := by decide +kernel
theorem d_Path_addQuadratic_66 : decode prog_9_method_4_code 66 = .ok (.baload, 1) := by decide +kernel
theorem d_Path_addQuadratic_67 : decode prog_9_method_4_code 67 = .ok (.invokestatic 47, 3) := by decide +kernel
theorem b_Path_addQuadratic_70 : tf_dec prog_9_method_4_code 70 [(.istore 8, 2), (.iconst 1, 1), (.istore 9, 2)] = true := by decide +kernel
theorem b_Path_addQuadratic_75 : tf_dec prog_9_method_4_code 75 [(.iload 9, 2), (.bipush 8, 2)] = true := by decide +kernel
theorem d_Path_addQuadratic_79 : decode prog_9_method_4_code 79 = .ok (.if_icmp .gt 43, 3) := by decide +kernel
theorem b_Path_addQuadratic_82 : tf_dec prog_9_method_4_code 82 [(.aload_n 0, 1), (.iload 5, 2), (.aload_n 1, 1)] = true := by decide +kernel
theorem d_Path_addQuadratic_86 : decode prog_9_method_4_code 86 = .ok (.getfield 35, 3) := by decide +kernel
theorem b_Path_addQuadratic_89 : tf_dec prog_9_method_4_code 89 [(.iload_n 3, 1)] = true := by decide +kernel
theorem d_Path_addQuadratic_90 : decode prog_9_method_4_code 90 = .ok (.iaload, 1) := by decide +kernel
theorem b_Path_addQuadratic_91 : tf_dec prog_9_method_4_code 91 [(.iload 7, 2), (.iload 9, 2)] = true := by decide +kernel
theorem d_Path_addQuadratic_95 : decode prog_9_method_4_code 95 = .ok (.invokestatic 51, 3) := by decide +kernel
theorem b_Path_addQuadratic_98 : tf_dec prog_9_method_4_code 98 [(.iload 6, 2), (.aload_n 1, 1)] = true := by decide +kernel
theorem d_Path_addQuadratic_101 : decode prog_9_method_4_code 101 = .ok (.getfield 36, 3) := by decide +kernel
theorem b_Path_addQuadratic_104 : tf_dec prog_9_method_4_code 104 [(.iload_n 3, 1)] = true := by decide +kernel
theorem d_Path_addQuadratic_105 : decode prog_9_method_4_code 105 = .ok (.iaload, 1) := by decide +kernel
theorem b_Path_addQuadratic_106 : tf_dec prog_9_method_4_code 106 [(.iload 8, 2), (.iload 9, 2)] = true := by decide +kernel
theorem d_Path_addQuadratic_110 : decode prog_9_method_4_code 110 = .ok (.invokestatic 51, 3) := by decide +kernel
theorem d_Path_addQuadratic_113 : decode prog_9_method_4_code 113 = .ok (.invokevirtual 37, 3) := by decide +kernel
theorem b_Path_addQuadratic_116 : tf_dec prog_9_method_4_code 116 [(.iinc 9 1, 3)] = true := by decide +kernel
theorem d_Path_addQuadratic_119 : decode prog_9_method_4_code 119 = .ok (.goto (-44), 3) := by decide +kernel
theorem d_Path_addQuadratic_122 : decode prog_9_method_4_code 122 = .ok (.return_, 1) := by decide +kernel
theorem b_Path_addCorner_0 : tf_dec prog_9_method_5_code 0 [(.aload_n 0, 1)] = true := by decide +kernel
theorem d_Path_addCorner_1 : decode prog_9_method_5_code 1 = .ok (.getfield 9, 3) := by decide +kernel
theorem b_Path_addCorner_4 : tf_dec prog_9_method_5_code 4 [(.aload_n 0, 1)] = true := by decide +kernel
theorem d_Path_addCorner_5 : decode prog_9_method_5_code 5 = .ok (.getfield 23, 3) := by decide +kernel
theorem b_Path_addCorner_8 : tf_dec prog_9_method_5_code 8 [(.iload_n 1, 1)] = true := by decide +kernel
theorem d_Path_addCorner_9 : decode prog_9_method_5_code 9 = .ok (.iastore, 1) := by decide +kernel
theorem b_Path_addCorner_10 : tf_dec prog_9_method_5_code 10 [(.aload_n 0, 1)] = true := by decide +kernel
theorem d_Path_addCorner_11 : decode prog_9_method_5_code 11 = .ok (.getfield 15, 3) := by decide +kernel
theorem b_Path_addCorner_14 : tf_dec prog_9_method_5_code 14 [(.aload_n 0, 1)] = true := by decide +kernel
theorem d_Path_addCorner_15 : decode prog_9_method_5_code 15 = .ok (.getfield 23, 3) := by decide +kernel
theorem b_Path_addCorner_18 : tf_dec prog_9_method_5_code 18 [(.iload_n 2, 1)] = true := by decide +kernel
theorem d_Path_addCorner_19 : decode prog_9_method_5_code 19 = .ok (.iastore, 1) := by decide +kernel
theorem b_Path_addCorner_20 : tf_dec prog_9_method_5_code 20 [(.aload_n 0, 1), (.dup, 1)] = true := by decide +kernel
theorem d_Path_addCorner_22 : decode prog_9_method_5_code 22 = .ok (.getfield 23, 3) := by decide +kernel
theorem b_Path_addCorner_25 : tf_dec prog_9_method_5_code 25 [(.iconst 1, 1), (.iadd, 1)] = true := by decide +kernel
theorem d_Path_addCorner_27 : decode prog_9_method_5_code 27 = .ok (.putfield 23, 3) := by decide +kernel
theorem d_Path_addCorner_30 : decode prog_9_method_5_code 30 = .ok (.return_, 1) := by decide +kernel
theorem b_Path_endAt_0 : tf_dec prog_9_method_6_code 0 [(.iload_n 3, 1)] = true := by decide +kernel
theorem d_Path_endAt_1 : decode prog_9_method_6_code 1 = .ok (.ifCond .eq 9, 3) := by decide +kernel
theorem b_Path_endAt_4 : tf_dec prog_9_method_6_code 4 [(.aload_n 0, 1), (.iload_n 1, 1)] = true := by decide +kernel
theorem d_Path_endAt_6 : decode prog_9_method_6_code 6 = .ok (.iaload, 1) := by decide +kernel
theorem d_Path_endAt_7 : decode prog_9_method_6_code 7 = .ok (.goto 17, 3) := by decide +kernel
theorem b_Path_endAt_10 : tf_dec prog_9_method_6_code 10 [(.aload_n 0, 1), (.iload_n 1, 1)] = true := by decide +kernel
theorem d_Path_endAt_12 : decode prog_9_method_6_code 12 = .ok (.iaload, 1) := by decide +kernel
theorem b_Path_endAt_13 : tf_dec prog_9_method_6_code 13 [(.aload_n 0, 1), (.iload_n 2, 1)] = true := by decide +kernel
theorem d_Path_endAt_15 : decode prog_9_method_6_code 15 = .ok (.iaload, 1) := by decide +kernel
theorem b_Path_endAt_16 : tf_dec prog_9_method_6_code 16 [(.iadd, 1), (.i2l, 1)] = true := by decide +kernel
theorem d_Path_endAt_18 : decode prog_9_method_6_code 18 = .ok (.ldc2_w 55, 3) := by decide +kernel
theorem d_Path_endAt_21 : decode prog_9_method_6_code 21 = .ok (.invokestatic 57, 3) := by decide +kernel
theorem d_Path_endAt_24 : decode prog_9_method_6_code 24 = .ok (.ireturn, 1) := by decide +kernel
theorem b_Path_onQuadratic_0 : tf_dec prog_9_method_7_code 0 [(.bipush 8, 2), (.iload_n 3, 1), (.isub, 1), (.istore 4, 2), (.iload 4, 2), (.iload 4, 2), (.imul, 1), (.iload_n 0, 1), (.imul, 1), (.iconst 2, 1), (.iload_n 3, 1), (.imul, 1), (.iload 4, 2), (.imul, 1), (.iload_n 1, 1), (.imul, 1), (.iadd, 1), (.iload_n 3, 1), (.iload_n 3, 1), (.imul, 1), (.iload_n 2, 1), (.imul, 1), (.iadd, 1), (.i2l, 1)] = true := by decide +kernel
theorem d_Path_onQuadratic_29 : decode prog_9_method_7_code 29 = .ok (.ldc2_w 61, 3) := by decide +kernel
theorem d_Path_onQuadratic_32 : decode prog_9_method_7_code 32 = .ok (.invokestatic 57, 3) := by decide +kernel
theorem d_Path_onQuadratic_35 : decode prog_9_method_7_code 35 = .ok (.ireturn, 1) := by decide +kernel
theorem b_Rule_init_0 : tf_dec prog_10_method_1_code 0 [(.aload_n 0, 1)] = true := by decide +kernel
theorem d_Rule_init_1 : decode prog_10_method_1_code 1 = .ok (.invokespecial 3, 3) := by decide +kernel
theorem b_Rule_init_4 : tf_dec prog_10_method_1_code 4 [(.aload_n 0, 1), (.iload_n 1, 1)] = true := by decide +kernel
theorem d_Rule_init_6 : decode prog_10_method_1_code 6 = .ok (.putfield 9, 3) := by decide +kernel
theorem b_Rule_init_9 : tf_dec prog_10_method_1_code 9 [(.aload_n 0, 1), (.lload_n 2, 1)] = true := by decide +kernel
theorem d_Rule_init_11 : decode prog_10_method_1_code 11 = .ok (.putfield 15, 3) := by decide +kernel
theorem b_Rule_init_14 : tf_dec prog_10_method_1_code 14 [(.aload_n 0, 1), (.lload 4, 2)] = true := by decide +kernel
theorem d_Rule_init_17 : decode prog_10_method_1_code 17 = .ok (.putfield 19, 3) := by decide +kernel
theorem b_Rule_init_20 : tf_dec prog_10_method_1_code 20 [(.aload_n 0, 1), (.lload 6, 2)] = true := by decide +kernel
theorem d_Rule_init_23 : decode prog_10_method_1_code 23 = .ok (.putfield 22, 3) := by decide +kernel
theorem b_Rule_init_26 : tf_dec prog_10_method_1_code 26 [(.aload_n 0, 1), (.iload 8, 2)] = true := by decide +kernel
theorem d_Rule_init_29 : decode prog_10_method_1_code 29 = .ok (.putfield 25, 3) := by decide +kernel
theorem b_Rule_init_32 : tf_dec prog_10_method_1_code 32 [(.aload_n 0, 1), (.lload_n 2, 1), (.iconst 2, 1)] = true := by decide +kernel
theorem d_Rule_init_35 : decode prog_10_method_1_code 35 = .ok (.invokestatic 28, 3) := by decide +kernel
theorem d_Rule_init_38 : decode prog_10_method_1_code 38 = .ok (.putfield 32, 3) := by decide +kernel
theorem b_Rule_init_41 : tf_dec prog_10_method_1_code 41 [(.aload_n 0, 1), (.lload 4, 2), (.iconst 4, 1)] = true := by decide +kernel
theorem d_Rule_init_45 : decode prog_10_method_1_code 45 = .ok (.invokestatic 28, 3) := by decide +kernel
theorem d_Rule_init_48 : decode prog_10_method_1_code 48 = .ok (.putfield 35, 3) := by decide +kernel
theorem b_Rule_init_51 : tf_dec prog_10_method_1_code 51 [(.aload_n 0, 1), (.lload 6, 2), (.iconst 2, 1)] = true := by decide +kernel
theorem d_Rule_init_55 : decode prog_10_method_1_code 55 = .ok (.invokestatic 28, 3) := by decide +kernel
theorem d_Rule_init_58 : decode prog_10_method_1_code 58 = .ok (.putfield 38, 3) := by decide +kernel
theorem d_Rule_init_61 : decode prog_10_method_1_code 61 = .ok (.return_, 1) := by decide +kernel
theorem b_Rule_isMadeOf_0 : tf_dec prog_10_method_2_code 0 [(.aload_n 0, 1)] = true := by decide +kernel
theorem d_Rule_isMadeOf_1 : decode prog_10_method_2_code 1 = .ok (.getfield 35, 3) := by decide +kernel
theorem d_Rule_isMadeOf_4 : decode prog_10_method_2_code 4 = .ok (.ifCond .le 66, 3) := by decide +kernel
theorem b_Rule_isMadeOf_7 : tf_dec prog_10_method_2_code 7 [(.iload_n 1, 1), (.aload_n 0, 1)] = true := by decide +kernel
theorem d_Rule_isMadeOf_9 : decode prog_10_method_2_code 9 = .ok (.getfield 15, 3) := by decide +kernel
theorem b_Rule_isMadeOf_12 : tf_dec prog_10_method_2_code 12 [(.aload_n 0, 1)] = true := by decide +kernel
theorem d_Rule_isMadeOf_13 : decode prog_10_method_2_code 13 = .ok (.getfield 32, 3) := by decide +kernel
theorem d_Rule_isMadeOf_16 : decode prog_10_method_2_code 16 = .ok (.invokestatic 41, 3) := by decide +kernel
theorem d_Rule_isMadeOf_19 : decode prog_10_method_2_code 19 = .ok (.ifCond .eq 51, 3) := by decide +kernel
theorem b_Rule_isMadeOf_22 : tf_dec prog_10_method_2_code 22 [(.iload_n 1, 1), (.aload_n 0, 1)] = true := by decide +kernel
theorem d_Rule_isMadeOf_24 : decode prog_10_method_2_code 24 = .ok (.getfield 19, 3) := by decide +kernel
theorem b_Rule_isMadeOf_27 : tf_dec prog_10_method_2_code 27 [(.aload_n 0, 1)] = true := by decide +kernel
theorem d_Rule_isMadeOf_28 : decode prog_10_method_2_code 28 = .ok (.getfield 35, 3) := by decide +kernel
theorem d_Rule_isMadeOf_31 : decode prog_10_method_2_code 31 = .ok (.invokestatic 41, 3) := by decide +kernel
theorem d_Rule_isMadeOf_34 : decode prog_10_method_2_code 34 = .ok (.ifCond .eq 36, 3) := by decide +kernel
theorem b_Rule_isMadeOf_37 : tf_dec prog_10_method_2_code 37 [(.iload_n 1, 1), (.aload_n 0, 1)] = true := by decide +kernel
theorem d_Rule_isMadeOf_39 : decode prog_10_method_2_code 39 = .ok (.getfield 22, 3) := by decide +kernel
theorem b_Rule_isMadeOf_42 : tf_dec prog_10_method_2_code 42 [(.aload_n 0, 1)] = true := by decide +kernel
theorem d_Rule_isMadeOf_43 : decode prog_10_method_2_code 43 = .ok (.getfield 38, 3) := by decide +kernel
theorem d_Rule_isMadeOf_46 : decode prog_10_method_2_code 46 = .ok (.invokestatic 41, 3) := by decide +kernel
theorem d_Rule_isMadeOf_49 : decode prog_10_method_2_code 49 = .ok (.ifCond .eq 21, 3) := by decide +kernel
theorem b_Rule_isMadeOf_52 : tf_dec prog_10_method_2_code 52 [(.aload_n 0, 1)] = true := by decide +kernel
theorem d_Rule_isMadeOf_53 : decode prog_10_method_2_code 53 = .ok (.getfield 25, 3) := by decide +kernel
theorem b_Rule_isMadeOf_56 : tf_dec prog_10_method_2_code 56 [(.iconst 0, 1), (.iload_n 1, 1), (.iconst 1, 1), (.isub, 1)] = true := by decide +kernel
theorem d_Rule_isMadeOf_60 : decode prog_10_method_2_code 60 = .ok (.invokestatic 45, 3) := by decide +kernel
theorem d_Rule_isMadeOf_63 : decode prog_10_method_2_code 63 = .ok (.ifCond .eq 7, 3) := by decide +kernel
theorem b_Rule_isMadeOf_66 : tf_dec prog_10_method_2_code 66 [(.iconst 1, 1)] = true := by decide +kernel
theorem d_Rule_isMadeOf_67 : decode prog_10_method_2_code 67 = .ok (.goto 4, 3) := by decide +kernel
theorem b_Rule_isMadeOf_70 : tf_dec prog_10_method_2_code 70 [(.iconst 0, 1)] = true := by decide +kernel
theorem d_Rule_isMadeOf_71 : decode prog_10_method_2_code 71 = .ok (.ireturn, 1) := by decide +kernel
theorem b_Rule_isLongerThan_0 : tf_dec prog_10_method_3_code 0 [(.aload_n 1, 1)] = true := by decide +kernel
theorem d_Rule_isLongerThan_1 : decode prog_10_method_3_code 1 = .ok (.ifnull 14, 3) := by decide +kernel
theorem b_Rule_isLongerThan_4 : tf_dec prog_10_method_3_code 4 [(.aload_n 0, 1)] = true := by decide +kernel
theorem d_Rule_isLongerThan_5 : decode prog_10_method_3_code 5 = .ok (.getfield 35, 3) := by decide +kernel
theorem b_Rule_isLongerThan_8 : tf_dec prog_10_method_3_code 8 [(.aload_n 1, 1)] = true := by decide +kernel
theorem d_Rule_isLongerThan_9 : decode prog_10_method_3_code 9 = .ok (.getfield 35, 3) := by decide +kernel
theorem d_Rule_isLongerThan_12 : decode prog_10_method_3_code 12 = .ok (.if_icmp .le 7, 3) := by decide +kernel
theorem b_Rule_isLongerThan_15 : tf_dec prog_10_method_3_code 15 [(.iconst 1, 1)] = true := by decide +kernel
theorem d_Rule_isLongerThan_16 : decode prog_10_method_3_code 16 = .ok (.goto 4, 3) := by decide +kernel
theorem b_Rule_isLongerThan_19 : tf_dec prog_10_method_3_code 19 [(.iconst 0, 1)] = true := by decide +kernel
theorem d_Rule_isLongerThan_20 : decode prog_10_method_3_code 20 = .ok (.ireturn, 1) := by decide +kernel
theorem b_Rule_fits_0 : tf_dec prog_10_method_4_code 0 [(.iload_n 3, 1), (.aload_n 0, 1)] = true := by decide +kernel
theorem d_Rule_fits_2 : decode prog_10_method_4_code 2 = .ok (.getfield 35, 3) := by decide +kernel
theorem b_Rule_fits_5 : tf_dec prog_10_method_4_code 5 [(.iadd, 1), (.istore 4, 2), (.iload_n 3, 1), (.aload_n 0, 1)] = true := by decide +kernel
theorem d_Rule_fits_10 : decode prog_10_method_4_code 10 = .ok (.getfield 32, 3) := by decide +kernel
theorem d_Rule_fits_13 : decode prog_10_method_4_code 13 = .ok (.if_icmp .lt 72, 3) := by decide +kernel
theorem b_Rule_fits_16 : tf_dec prog_10_method_4_code 16 [(.iload 4, 2), (.aload_n 0, 1)] = true := by decide +kernel
theorem d_Rule_fits_19 : decode prog_10_method_4_code 19 = .ok (.getfield 38, 3) := by decide +kernel
theorem b_Rule_fits_22 : tf_dec prog_10_method_4_code 22 [(.iadd, 1), (.iload_n 2, 1)] = true := by decide +kernel
theorem d_Rule_fits_24 : decode prog_10_method_4_code 24 = .ok (.if_icmp .gt 61, 3) := by decide +kernel
theorem b_Rule_fits_27 : tf_dec prog_10_method_4_code 27 [(.aload_n 1, 1), (.iload_n 3, 1), (.aload_n 0, 1)] = true := by decide +kernel
theorem d_Rule_fits_30 : decode prog_10_method_4_code 30 = .ok (.getfield 32, 3) := by decide +kernel
theorem b_Rule_fits_33 : tf_dec prog_10_method_4_code 33 [(.isub, 1), (.aload_n 0, 1)] = true := by decide +kernel
theorem d_Rule_fits_35 : decode prog_10_method_4_code 35 = .ok (.getfield 15, 3) := by decide +kernel
theorem b_Rule_fits_38 : tf_dec prog_10_method_4_code 38 [(.aload_n 0, 1)] = true := by decide +kernel
theorem d_Rule_fits_39 : decode prog_10_method_4_code 39 = .ok (.getfield 32, 3) := by decide +kernel
theorem d_Rule_fits_42 : decode prog_10_method_4_code 42 = .ok (.invokestatic 49, 3) := by decide +kernel
theorem d_Rule_fits_45 : decode prog_10_method_4_code 45 = .ok (.ifCond .eq 40, 3) := by decide +kernel
theorem b_Rule_fits_48 : tf_dec prog_10_method_4_code 48 [(.aload_n 1, 1), (.iload_n 3, 1), (.aload_n 0, 1)] = true := by decide +kernel
theorem d_Rule_fits_51 : decode prog_10_method_4_code 51 = .ok (.getfield 19, 3) := by decide +kernel
theorem b_Rule_fits_54 : tf_dec prog_10_method_4_code 54 [(.aload_n 0, 1)] = true := by decide +kernel
theorem d_Rule_fits_55 : decode prog_10_method_4_code 55 = .ok (.getfield 35, 3) := by decide +kernel
theorem d_Rule_fits_58 : decode prog_10_method_4_code 58 = .ok (.invokestatic 49, 3) := by decide +kernel
theorem d_Rule_fits_61 : decode prog_10_method_4_code 61 = .ok (.ifCond .eq 24, 3) := by decide +kernel
theorem b_Rule_fits_64 : tf_dec prog_10_method_4_code 64 [(.aload_n 1, 1), (.iload 4, 2), (.aload_n 0, 1)] = true := by decide +kernel
theorem d_Rule_fits_68 : decode prog_10_method_4_code 68 = .ok (.getfield 22, 3) := by decide +kernel
theorem b_Rule_fits_71 : tf_dec prog_10_method_4_code 71 [(.aload_n 0, 1)] = true := by decide +kernel
theorem d_Rule_fits_72 : decode prog_10_method_4_code 72 = .ok (.getfield 38, 3) := by decide +kernel
theorem d_Rule_fits_75 : decode prog_10_method_4_code 75 = .ok (.invokestatic 49, 3) := by decide +kernel
theorem d_Rule_fits_78 : decode prog_10_method_4_code 78 = .ok (.ifCond .eq 7, 3) := by decide +kernel
theorem b_Rule_fits_81 : tf_dec prog_10_method_4_code 81 [(.iconst 1, 1)] = true := by decide +kernel
theorem d_Rule_fits_82 : decode prog_10_method_4_code 82 = .ok (.goto 4, 3) := by decide +kernel
theorem b_Rule_fits_85 : tf_dec prog_10_method_4_code 85 [(.iconst 0, 1)] = true := by decide +kernel
theorem d_Rule_fits_86 : decode prog_10_method_4_code 86 = .ok (.ireturn, 1) := by decide +kernel
theorem b_Rule_lengthOf_0 : tf_dec prog_10_method_5_code 0 [(.iconst 0, 1), (.istore_n 3, 1)] = true := by decide +kernel
theorem b_Rule_lengthOf_2 : tf_dec prog_10_method_5_code 2 [(.iload_n 3, 1), (.iload_n 2, 1)] = true := by decide +kernel
theorem d_Rule_lengthOf_4 : decode prog_10_method_5_code 4 = .ok (.if_icmp .ge 18, 3) := by decide +kernel
theorem b_Rule_lengthOf_7 : tf_dec prog_10_method_5_code 7 [(.lload_n 0, 1), (.iload_n 3, 1)] = true := by decide +kernel
theorem d_Rule_lengthOf_9 : decode prog_10_method_5_code 9 = .ok (.invokestatic 53, 3) := by decide +kernel
theorem b_Rule_lengthOf_12 : tf_dec prog_10_method_5_code 12 [(.iconst (-1), 1)] = true := by decide +kernel
theorem d_Rule_lengthOf_13 : decode prog_10_method_5_code 13 = .ok (.if_icmp .eq 9, 3) := by decide +kernel
theorem b_Rule_lengthOf_16 : tf_dec prog_10_method_5_code 16 [(.iinc 3 1, 3)] = true := by decide +kernel
theorem d_Rule_lengthOf_19 : decode prog_10_method_5_code 19 = .ok (.goto (-17), 3) := by decide +kernel
theorem b_Rule_lengthOf_22 : tf_dec prog_10_method_5_code 22 [(.iload_n 3, 1)] = true := by decide +kernel
theorem d_Rule_lengthOf_23 : decode prog_10_method_5_code 23 = .ok (.ireturn, 1) := by decide +kernel
theorem b_Rule_glyphAt_0 : tf_dec prog_10_method_6_code 0 [(.lload_n 0, 1), (.bipush 8, 2), (.iload_n 2, 1), (.imul, 1), (.lushr, 1)] = true := by decide +kernel
theorem d_Rule_glyphAt_6 : decode prog_10_method_6_code 6 = .ok (.ldc2_w 56, 3) := by decide +kernel
theorem b_Rule_glyphAt_9 : tf_dec prog_10_method_6_code 9 [(.land, 1), (.l2i, 1), (.iconst 1, 1), (.isub, 1)] = true := by decide +kernel
theorem d_Rule_glyphAt_13 : decode prog_10_method_6_code 13 = .ok (.ireturn, 1) := by decide +kernel
theorem b_Rule_isOf_0 : tf_dec prog_10_method_7_code 0 [(.iconst 0, 1), (.istore 4, 2)] = true := by decide +kernel
theorem b_Rule_isOf_3 : tf_dec prog_10_method_7_code 3 [(.iload 4, 2), (.iload_n 3, 1)] = true := by decide +kernel
theorem d_Rule_isOf_6 : decode prog_10_method_7_code 6 = .ok (.if_icmp .ge 21, 3) := by decide +kernel
theorem b_Rule_isOf_9 : tf_dec prog_10_method_7_code 9 [(.lload_n 1, 1), (.iload 4, 2)] = true := by decide +kernel
theorem d_Rule_isOf_12 : decode prog_10_method_7_code 12 = .ok (.invokestatic 53, 3) := by decide +kernel
theorem b_Rule_isOf_15 : tf_dec prog_10_method_7_code 15 [(.iload_n 0, 1)] = true := by decide +kernel
theorem d_Rule_isOf_16 : decode prog_10_method_7_code 16 = .ok (.if_icmp .lt 5, 3) := by decide +kernel
theorem b_Rule_isOf_19 : tf_dec prog_10_method_7_code 19 [(.iconst 0, 1)] = true := by decide +kernel
theorem d_Rule_isOf_20 : decode prog_10_method_7_code 20 = .ok (.ireturn, 1) := by decide +kernel
theorem b_Rule_isOf_21 : tf_dec prog_10_method_7_code 21 [(.iinc 4 1, 3)] = true := by decide +kernel
theorem d_Rule_isOf_24 : decode prog_10_method_7_code 24 = .ok (.goto (-21), 3) := by decide +kernel
theorem b_Rule_isOf_27 : tf_dec prog_10_method_7_code 27 [(.iconst 1, 1)] = true := by decide +kernel
theorem d_Rule_isOf_28 : decode prog_10_method_7_code 28 = .ok (.ireturn, 1) := by decide +kernel
theorem b_Rule_stands_0 : tf_dec prog_10_method_8_code 0 [(.iconst 0, 1), (.istore 5, 2)] = true := by decide +kernel
theorem b_Rule_stands_3 : tf_dec prog_10_method_8_code 3 [(.iload 5, 2), (.iload 4, 2)] = true := by decide +kernel
theorem d_Rule_stands_7 : decode prog_10_method_8_code 7 = .ok (.if_icmp .ge 26, 3) := by decide +kernel
theorem b_Rule_stands_10 : tf_dec prog_10_method_8_code 10 [(.aload_n 0, 1), (.iload_n 1, 1), (.iload 5, 2), (.iadd, 1)] = true := by decide +kernel
theorem d_Rule_stands_15 : decode prog_10_method_8_code 15 = .ok (.iaload, 1) := by decide +kernel
theorem b_Rule_stands_16 : tf_dec prog_10_method_8_code 16 [(.lload_n 2, 1), (.iload 5, 2)] = true := by decide +kernel
theorem d_Rule_stands_19 : decode prog_10_method_8_code 19 = .ok (.invokestatic 53, 3) := by decide +kernel
theorem d_Rule_stands_22 : decode prog_10_method_8_code 22 = .ok (.if_icmp .eq 5, 3) := by decide +kernel
theorem b_Rule_stands_25 : tf_dec prog_10_method_8_code 25 [(.iconst 0, 1)] = true := by decide +kernel
theorem d_Rule_stands_26 : decode prog_10_method_8_code 26 = .ok (.ireturn, 1) := by decide +kernel
theorem b_Rule_stands_27 : tf_dec prog_10_method_8_code 27 [(.iinc 5 1, 3)] = true := by decide +kernel
theorem d_Rule_stands_30 : decode prog_10_method_8_code 30 = .ok (.goto (-27), 3) := by decide +kernel
theorem b_Rule_stands_33 : tf_dec prog_10_method_8_code 33 [(.iconst 1, 1)] = true := by decide +kernel
theorem d_Rule_stands_34 : decode prog_10_method_8_code 34 = .ok (.ireturn, 1) := by decide +kernel
theorem b_Setter_init_0 : tf_dec prog_11_method_1_code 0 [(.aload_n 0, 1)] = true := by decide +kernel
theorem d_Setter_init_1 : decode prog_11_method_1_code 1 = .ok (.invokespecial 3, 3) := by decide +kernel
theorem b_Setter_init_4 : tf_dec prog_11_method_1_code 4 [(.aload_n 0, 1), (.bipush 60, 2)] = true := by decide +kernel
theorem d_Setter_init_7 : decode prog_11_method_1_code 7 = .ok (.newarray .int, 2) := by decide +kernel
theorem d_Setter_init_9 : decode prog_11_method_1_code 9 = .ok (.putfield 9, 3) := by decide +kernel
theorem b_Setter_init_12 : tf_dec prog_11_method_1_code 12 [(.aload_n 0, 1), (.bipush 60, 2)] = true := by decide +kernel
theorem d_Setter_init_15 : decode prog_11_method_1_code 15 = .ok (.newarray .int, 2) := by decide +kernel
theorem d_Setter_init_17 : decode prog_11_method_1_code 17 = .ok (.putfield 15, 3) := by decide +kernel
theorem b_Setter_init_20 : tf_dec prog_11_method_1_code 20 [(.aload_n 0, 1), (.bipush 40, 2)] = true := by decide +kernel
theorem d_Setter_init_23 : decode prog_11_method_1_code 23 = .ok (.anewarray 18, 3) := by decide +kernel
theorem d_Setter_init_26 : decode prog_11_method_1_code 26 = .ok (.putfield 20, 3) := by decide +kernel
theorem d_Setter_init_29 : decode prog_11_method_1_code 29 = .ok (.return_, 1) := by decide +kernel
theorem b_Setter_addRule_0 : tf_dec prog_11_method_2_code 0 [(.aload_n 0, 1)] = true := by decide +kernel
theorem d_Setter_addRule_1 : decode prog_11_method_2_code 1 = .ok (.getfield 20, 3) := by decide +kernel
theorem b_Setter_addRule_4 : tf_dec prog_11_method_2_code 4 [(.aload_n 0, 1)] = true := by decide +kernel
theorem d_Setter_addRule_5 : decode prog_11_method_2_code 5 = .ok (.getfield 24, 3) := by decide +kernel
theorem b_Setter_addRule_8 : tf_dec prog_11_method_2_code 8 [(.aload_n 1, 1)] = true := by decide +kernel
theorem d_Setter_addRule_9 : decode prog_11_method_2_code 9 = .ok (.aastore, 1) := by decide +kernel
theorem b_Setter_addRule_10 : tf_dec prog_11_method_2_code 10 [(.aload_n 0, 1), (.dup, 1)] = true := by decide +kernel
theorem d_Setter_addRule_12 : decode prog_11_method_2_code 12 = .ok (.getfield 24, 3) := by decide +kernel
theorem b_Setter_addRule_15 : tf_dec prog_11_method_2_code 15 [(.dup_x1, 1), (.iconst 1, 1), (.iadd, 1)] = true := by decide +kernel
theorem d_Setter_addRule_18 : decode prog_11_method_2_code 18 = .ok (.putfield 24, 3) := by decide +kernel
theorem d_Setter_addRule_21 : decode prog_11_method_2_code 21 = .ok (.ireturn, 1) := by decide +kernel
theorem b_Setter_addToText_0 : tf_dec prog_11_method_3_code 0 [(.aload_n 0, 1)] = true := by decide +kernel
theorem d_Setter_addToText_1 : decode prog_11_method_3_code 1 = .ok (.getfield 28, 3) := by decide +kernel
theorem b_Setter_addToText_4 : tf_dec prog_11_method_3_code 4 [(.bipush 60, 2)] = true := by decide +kernel
theorem d_Setter_addToText_6 : decode prog_11_method_3_code 6 = .ok (.if_icmp .lt 5, 3) := by decide +kernel
theorem b_Setter_addToText_9 : tf_dec prog_11_method_3_code 9 [(.iconst 0, 1)] = true := by decide +kernel
theorem d_Setter_addToText_10 : decode prog_11_method_3_code 10 = .ok (.ireturn, 1) := by decide +kernel
theorem b_Setter_addToText_11 : tf_dec prog_11_method_3_code 11 [(.aload_n 0, 1)] = true := by decide +kernel
theorem d_Setter_addToText_12 : decode prog_11_method_3_code 12 = .ok (.getfield 15, 3) := by decide +kernel
theorem b_Setter_addToText_15 : tf_dec prog_11_method_3_code 15 [(.aload_n 0, 1)] = true := by decide +kernel
theorem d_Setter_addToText_16 : decode prog_11_method_3_code 16 = .ok (.getfield 28, 3) := by decide +kernel
theorem b_Setter_addToText_19 : tf_dec prog_11_method_3_code 19 [(.iload_n 1, 1)] = true := by decide +kernel
theorem d_Setter_addToText_20 : decode prog_11_method_3_code 20 = .ok (.iastore, 1) := by decide +kernel
theorem b_Setter_addToText_21 : tf_dec prog_11_method_3_code 21 [(.aload_n 0, 1), (.dup, 1)] = true := by decide +kernel
theorem d_Setter_addToText_23 : decode prog_11_method_3_code 23 = .ok (.getfield 28, 3) := by decide +kernel
theorem b_Setter_addToText_26 : tf_dec prog_11_method_3_code 26 [(.iconst 1, 1), (.iadd, 1)] = true := by decide +kernel
theorem d_Setter_addToText_28 : decode prog_11_method_3_code 28 = .ok (.putfield 28, 3) := by decide +kernel
theorem b_Setter_addToText_31 : tf_dec prog_11_method_3_code 31 [(.iconst 1, 1)] = true := by decide +kernel
theorem d_Setter_addToText_32 : decode prog_11_method_3_code 32 = .ok (.ireturn, 1) := by decide +kernel
theorem b_Setter_setRow_0 : tf_dec prog_11_method_4_code 0 [(.aload_n 0, 1)] = true := by decide +kernel
theorem d_Setter_setRow_1 : decode prog_11_method_4_code 1 = .ok (.getfield 15, 3) := by decide +kernel
theorem b_Setter_setRow_4 : tf_dec prog_11_method_4_code 4 [(.iconst 0, 1), (.aload_n 0, 1)] = true := by decide +kernel
theorem d_Setter_setRow_6 : decode prog_11_method_4_code 6 = .ok (.getfield 9, 3) := by decide +kernel
theorem b_Setter_setRow_9 : tf_dec prog_11_method_4_code 9 [(.iconst 0, 1), (.aload_n 0, 1)] = true := by decide +kernel
theorem d_Setter_setRow_11 : decode prog_11_method_4_code 11 = .ok (.getfield 28, 3) := by decide +kernel
theorem d_Setter_setRow_14 : decode prog_11_method_4_code 14 = .ok (.invokestatic 31, 3) := by decide +kernel
theorem b_Setter_setRow_17 : tf_dec prog_11_method_4_code 17 [(.aload_n 0, 1), (.aload_n 0, 1)] = true := by decide +kernel
theorem d_Setter_setRow_19 : decode prog_11_method_4_code 19 = .ok (.getfield 28, 3) := by decide +kernel
theorem d_Setter_setRow_22 : decode prog_11_method_4_code 22 = .ok (.putfield 37, 3) := by decide +kernel
theorem b_Setter_setRow_25 : tf_dec prog_11_method_4_code 25 [(.aload_n 0, 1), (.iconst 0, 1)] = true := by decide +kernel
theorem d_Setter_setRow_27 : decode prog_11_method_4_code 27 = .ok (.putfield 28, 3) := by decide +kernel
theorem b_Setter_setRow_30 : tf_dec prog_11_method_4_code 30 [(.aload_n 0, 1), (.iconst 0, 1)] = true := by decide +kernel
theorem d_Setter_setRow_32 : decode prog_11_method_4_code 32 = .ok (.putfield 40, 3) := by decide +kernel
theorem b_Setter_setRow_35 : tf_dec prog_11_method_4_code 35 [(.iconst 0, 1), (.istore_n 1, 1)] = true := by decide +kernel
theorem b_Setter_setRow_37 : tf_dec prog_11_method_4_code 37 [(.iload_n 1, 1), (.bipush 8, 2)] = true := by decide +kernel
theorem d_Setter_setRow_40 : decode prog_11_method_4_code 40 = .ok (.if_icmp .ge 14, 3) := by decide +kernel
theorem b_Setter_setRow_43 : tf_dec prog_11_method_4_code 43 [(.aload_n 0, 1), (.iload_n 1, 1)] = true := by decide +kernel
theorem d_Setter_setRow_45 : decode prog_11_method_4_code 45 = .ok (.invokevirtual 43, 3) := by decide +kernel
theorem b_Setter_setRow_48 : tf_dec prog_11_method_4_code 48 [(.iinc 1 1, 3)] = true := by decide +kernel
theorem d_Setter_setRow_51 : decode prog_11_method_4_code 51 = .ok (.goto (-14), 3) := by decide +kernel
theorem b_Setter_setRow_54 : tf_dec prog_11_method_4_code 54 [(.aload_n 0, 1)] = true := by decide +kernel
theorem d_Setter_setRow_55 : decode prog_11_method_4_code 55 = .ok (.getfield 37, 3) := by decide +kernel
theorem d_Setter_setRow_58 : decode prog_11_method_4_code 58 = .ok (.ireturn, 1) := by decide +kernel
theorem b_Setter_run_0 : tf_dec prog_11_method_5_code 0 [(.iconst 0, 1), (.istore_n 2, 1)] = true := by decide +kernel
theorem b_Setter_run_2 : tf_dec prog_11_method_5_code 2 [(.iload_n 2, 1), (.aload_n 0, 1)] = true := by decide +kernel
theorem d_Setter_run_4 : decode prog_11_method_5_code 4 = .ok (.getfield 37, 3) := by decide +kernel
theorem d_Setter_run_7 : decode prog_11_method_5_code 7 = .ok (.if_icmp .ge 26, 3) := by decide +kernel
theorem b_Setter_run_10 : tf_dec prog_11_method_5_code 10 [(.aload_n 0, 1), (.iload_n 1, 1), (.iload_n 2, 1)] = true := by decide +kernel
theorem d_Setter_run_13 : decode prog_11_method_5_code 13 = .ok (.invokevirtual 47, 3) := by decide +kernel
theorem b_Setter_run_16 : tf_dec prog_11_method_5_code 16 [(.astore_n 3, 1), (.aload_n 3, 1)] = true := by decide +kernel
theorem d_Setter_run_18 : decode prog_11_method_5_code 18 = .ok (.ifnull 9, 3) := by decide +kernel
theorem b_Setter_run_21 : tf_dec prog_11_method_5_code 21 [(.aload_n 0, 1), (.aload_n 3, 1), (.iload_n 2, 1)] = true := by decide +kernel
theorem d_Setter_run_24 : decode prog_11_method_5_code 24 = .ok (.invokevirtual 51, 3) := by decide +kernel
theorem b_Setter_run_27 : tf_dec prog_11_method_5_code 27 [(.iinc 2 1, 3)] = true := by decide +kernel
theorem d_Setter_run_30 : decode prog_11_method_5_code 30 = .ok (.goto (-28), 3) := by decide +kernel
theorem d_Setter_run_33 : decode prog_11_method_5_code 33 = .ok (.return_, 1) := by decide +kernel
theorem b_Setter_bestAt_0 : tf_dec prog_11_method_6_code 0 [(.aconst_null, 1), (.astore_n 3, 1), (.iconst 0, 1), (.istore 4, 2)] = true := by decide +kernel
theorem b_Setter_bestAt_5 : tf_dec prog_11_method_6_code 5 [(.iload 4, 2), (.aload_n 0, 1)] = true := by decide +kernel
theorem d_Setter_bestAt_8 : decode prog_11_method_6_code 8 = .ok (.getfield 24, 3) := by decide +kernel
theorem d_Setter_bestAt_11 : decode prog_11_method_6_code 11 = .ok (.if_icmp .ge 61, 3) := by decide +kernel
theorem b_Setter_bestAt_14 : tf_dec prog_11_method_6_code 14 [(.aload_n 0, 1)] = true := by decide +kernel
theorem d_Setter_bestAt_15 : decode prog_11_method_6_code 15 = .ok (.getfield 20, 3) := by decide +kernel
theorem b_Setter_bestAt_18 : tf_dec prog_11_method_6_code 18 [(.iload 4, 2)] = true := by decide +kernel
theorem d_Setter_bestAt_20 : decode prog_11_method_6_code 20 = .ok (.aaload, 1) := by decide +kernel
theorem b_Setter_bestAt_21 : tf_dec prog_11_method_6_code 21 [(.astore 5, 2), (.aload 5, 2)] = true := by decide +kernel
theorem d_Setter_bestAt_25 : decode prog_11_method_6_code 25 = .ok (.ifnull 41, 3) := by decide +kernel
theorem b_Setter_bestAt_28 : tf_dec prog_11_method_6_code 28 [(.aload 5, 2)] = true := by decide +kernel
theorem d_Setter_bestAt_30 : decode prog_11_method_6_code 30 = .ok (.getfield 55, 3) := by decide +kernel
theorem b_Setter_bestAt_33 : tf_dec prog_11_method_6_code 33 [(.iload_n 1, 1)] = true := by decide +kernel
theorem d_Setter_bestAt_34 : decode prog_11_method_6_code 34 = .ok (.if_icmp .ne 32, 3) := by decide +kernel
theorem b_Setter_bestAt_37 : tf_dec prog_11_method_6_code 37 [(.aload 5, 2), (.aload_n 3, 1)] = true := by decide +kernel
theorem d_Setter_bestAt_40 : decode prog_11_method_6_code 40 = .ok (.invokevirtual 58, 3) := by decide +kernel
theorem d_Setter_bestAt_43 : decode prog_11_method_6_code 43 = .ok (.ifCond .eq 23, 3) := by decide +kernel
theorem b_Setter_bestAt_46 : tf_dec prog_11_method_6_code 46 [(.aload 5, 2), (.aload_n 0, 1)] = true := by decide +kernel
theorem d_Setter_bestAt_49 : decode prog_11_method_6_code 49 = .ok (.getfield 9, 3) := by decide +kernel
theorem b_Setter_bestAt_52 : tf_dec prog_11_method_6_code 52 [(.aload_n 0, 1)] = true := by decide +kernel
theorem d_Setter_bestAt_53 : decode prog_11_method_6_code 53 = .ok (.getfield 37, 3) := by decide +kernel
theorem b_Setter_bestAt_56 : tf_dec prog_11_method_6_code 56 [(.iload_n 2, 1)] = true := by decide +kernel
theorem d_Setter_bestAt_57 : decode prog_11_method_6_code 57 = .ok (.invokevirtual 62, 3) := by decide +kernel
theorem d_Setter_bestAt_60 : decode prog_11_method_6_code 60 = .ok (.ifCond .eq 6, 3) := by decide +kernel
theorem b_Setter_bestAt_63 : tf_dec prog_11_method_6_code 63 [(.aload 5, 2), (.astore_n 3, 1)] = true := by decide +kernel
theorem b_Setter_bestAt_66 : tf_dec prog_11_method_6_code 66 [(.iinc 4 1, 3)] = true := by decide +kernel
theorem d_Setter_bestAt_69 : decode prog_11_method_6_code 69 = .ok (.goto (-64), 3) := by decide +kernel
theorem b_Setter_bestAt_72 : tf_dec prog_11_method_6_code 72 [(.aload_n 3, 1)] = true := by decide +kernel
theorem d_Setter_bestAt_73 : decode prog_11_method_6_code 73 = .ok (.areturn, 1) := by decide +kernel
theorem b_Setter_put_0 : tf_dec prog_11_method_7_code 0 [(.iload_n 2, 1), (.aload_n 1, 1)] = true := by decide +kernel
theorem d_Setter_put_2 : decode prog_11_method_7_code 2 = .ok (.getfield 66, 3) := by decide +kernel
theorem b_Setter_put_5 : tf_dec prog_11_method_7_code 5 [(.iadd, 1), (.istore_n 3, 1), (.aload_n 0, 1)] = true := by decide +kernel
theorem d_Setter_put_8 : decode prog_11_method_7_code 8 = .ok (.getfield 9, 3) := by decide +kernel
theorem b_Setter_put_11 : tf_dec prog_11_method_7_code 11 [(.iload_n 2, 1), (.aload_n 1, 1)] = true := by decide +kernel
theorem d_Setter_put_13 : decode prog_11_method_7_code 13 = .ok (.getfield 69, 3) := by decide +kernel
theorem d_Setter_put_16 : decode prog_11_method_7_code 16 = .ok (.iastore, 1) := by decide +kernel
theorem b_Setter_put_17 : tf_dec prog_11_method_7_code 17 [(.aload_n 0, 1)] = true := by decide +kernel
theorem d_Setter_put_18 : decode prog_11_method_7_code 18 = .ok (.getfield 9, 3) := by decide +kernel
theorem b_Setter_put_21 : tf_dec prog_11_method_7_code 21 [(.iload_n 3, 1), (.aload_n 0, 1)] = true := by decide +kernel
theorem d_Setter_put_23 : decode prog_11_method_7_code 23 = .ok (.getfield 9, 3) := by decide +kernel
theorem b_Setter_put_26 : tf_dec prog_11_method_7_code 26 [(.iload_n 2, 1), (.iconst 1, 1), (.iadd, 1), (.aload_n 0, 1)] = true := by decide +kernel
theorem d_Setter_put_30 : decode prog_11_method_7_code 30 = .ok (.getfield 37, 3) := by decide +kernel
theorem b_Setter_put_33 : tf_dec prog_11_method_7_code 33 [(.iload_n 3, 1), (.isub, 1)] = true := by decide +kernel
theorem d_Setter_put_35 : decode prog_11_method_7_code 35 = .ok (.invokestatic 31, 3) := by decide +kernel
theorem b_Setter_put_38 : tf_dec prog_11_method_7_code 38 [(.aload_n 0, 1), (.dup, 1)] = true := by decide +kernel
theorem d_Setter_put_40 : decode prog_11_method_7_code 40 = .ok (.getfield 37, 3) := by decide +kernel
theorem b_Setter_put_43 : tf_dec prog_11_method_7_code 43 [(.aload_n 1, 1)] = true := by decide +kernel
theorem d_Setter_put_44 : decode prog_11_method_7_code 44 = .ok (.getfield 66, 3) := by decide +kernel
theorem b_Setter_put_47 : tf_dec prog_11_method_7_code 47 [(.iconst 1, 1), (.isub, 1), (.isub, 1)] = true := by decide +kernel
theorem d_Setter_put_50 : decode prog_11_method_7_code 50 = .ok (.putfield 37, 3) := by decide +kernel
theorem b_Setter_put_53 : tf_dec prog_11_method_7_code 53 [(.aload_n 0, 1), (.dup, 1)] = true := by decide +kernel
theorem d_Setter_put_55 : decode prog_11_method_7_code 55 = .ok (.getfield 40, 3) := by decide +kernel
theorem b_Setter_put_58 : tf_dec prog_11_method_7_code 58 [(.iconst 1, 1), (.iadd, 1)] = true := by decide +kernel
theorem d_Setter_put_60 : decode prog_11_method_7_code 60 = .ok (.putfield 40, 3) := by decide +kernel
theorem d_Setter_put_63 : decode prog_11_method_7_code 63 = .ok (.return_, 1) := by decide +kernel
