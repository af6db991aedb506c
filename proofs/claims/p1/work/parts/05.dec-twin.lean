theorem b_Mod_init_0 : tf_dec prog_13_method_1_code 0 [(.aload_n 0, 1)] = true := by decide +kernel
theorem d_Mod_init_1 : decode prog_13_method_1_code 1 = .ok (.invokespecial 1, 3) := by decide +kernel
theorem b_Mod_init_4 : tf_dec prog_13_method_1_code 4 [(.aload_n 0, 1), (.sipush 6400, 3)] = true := by decide +kernel
theorem d_Mod_init_8 : decode prog_13_method_1_code 8 = .ok (.newarray .int, 2) := by decide +kernel
theorem d_Mod_init_10 : decode prog_13_method_1_code 10 = .ok (.putfield 7, 3) := by decide +kernel
theorem b_Mod_init_13 : tf_dec prog_13_method_1_code 13 [(.aload_n 0, 1), (.sipush 1600, 3)] = true := by decide +kernel
theorem d_Mod_init_17 : decode prog_13_method_1_code 17 = .ok (.newarray .byte, 2) := by decide +kernel
theorem d_Mod_init_19 : decode prog_13_method_1_code 19 = .ok (.putfield 13, 3) := by decide +kernel
theorem b_Mod_init_22 : tf_dec prog_13_method_1_code 22 [(.aload_n 0, 1), (.bipush 40, 2)] = true := by decide +kernel
theorem d_Mod_init_25 : decode prog_13_method_1_code 25 = .ok (.newarray .int, 2) := by decide +kernel
theorem d_Mod_init_27 : decode prog_13_method_1_code 27 = .ok (.putfield 17, 3) := by decide +kernel
theorem b_Mod_init_30 : tf_dec prog_13_method_1_code 30 [(.aload_n 0, 1), (.bipush 40, 2)] = true := by decide +kernel
theorem d_Mod_init_33 : decode prog_13_method_1_code 33 = .ok (.newarray .int, 2) := by decide +kernel
theorem d_Mod_init_35 : decode prog_13_method_1_code 35 = .ok (.putfield 20, 3) := by decide +kernel
theorem b_Mod_init_38 : tf_dec prog_13_method_1_code 38 [(.aload_n 0, 1), (.bipush 40, 2)] = true := by decide +kernel
theorem d_Mod_init_41 : decode prog_13_method_1_code 41 = .ok (.newarray .int, 2) := by decide +kernel
theorem d_Mod_init_43 : decode prog_13_method_1_code 43 = .ok (.putfield 23, 3) := by decide +kernel
theorem b_Mod_init_46 : tf_dec prog_13_method_1_code 46 [(.aload_n 0, 1), (.sipush 160, 3)] = true := by decide +kernel
theorem d_Mod_init_50 : decode prog_13_method_1_code 50 = .ok (.newarray .int, 2) := by decide +kernel
theorem d_Mod_init_52 : decode prog_13_method_1_code 52 = .ok (.putfield 26, 3) := by decide +kernel
theorem b_Mod_init_55 : tf_dec prog_13_method_1_code 55 [(.aload_n 0, 1), (.bipush 40, 2)] = true := by decide +kernel
theorem d_Mod_init_58 : decode prog_13_method_1_code 58 = .ok (.newarray .boolean, 2) := by decide +kernel
theorem d_Mod_init_60 : decode prog_13_method_1_code 60 = .ok (.putfield 29, 3) := by decide +kernel
theorem b_Mod_init_63 : tf_dec prog_13_method_1_code 63 [(.aload_n 0, 1), (.bipush 40, 2)] = true := by decide +kernel
theorem d_Mod_init_66 : decode prog_13_method_1_code 66 = .ok (.newarray .int, 2) := by decide +kernel
theorem d_Mod_init_68 : decode prog_13_method_1_code 68 = .ok (.putfield 33, 3) := by decide +kernel
theorem b_Mod_init_71 : tf_dec prog_13_method_1_code 71 [(.aload_n 0, 1), (.bipush 40, 2)] = true := by decide +kernel
theorem d_Mod_init_74 : decode prog_13_method_1_code 74 = .ok (.newarray .int, 2) := by decide +kernel
theorem d_Mod_init_76 : decode prog_13_method_1_code 76 = .ok (.putfield 36, 3) := by decide +kernel
theorem b_Mod_init_79 : tf_dec prog_13_method_1_code 79 [(.aload_n 0, 1), (.bipush 40, 2)] = true := by decide +kernel
theorem d_Mod_init_82 : decode prog_13_method_1_code 82 = .ok (.newarray .int, 2) := by decide +kernel
theorem d_Mod_init_84 : decode prog_13_method_1_code 84 = .ok (.putfield 39, 3) := by decide +kernel
theorem b_Mod_init_87 : tf_dec prog_13_method_1_code 87 [(.aload_n 0, 1), (.sipush 160, 3)] = true := by decide +kernel
theorem d_Mod_init_91 : decode prog_13_method_1_code 91 = .ok (.newarray .int, 2) := by decide +kernel
theorem d_Mod_init_93 : decode prog_13_method_1_code 93 = .ok (.putfield 42, 3) := by decide +kernel
theorem b_Mod_init_96 : tf_dec prog_13_method_1_code 96 [(.aload_n 0, 1), (.sipush 160, 3)] = true := by decide +kernel
theorem d_Mod_init_100 : decode prog_13_method_1_code 100 = .ok (.newarray .int, 2) := by decide +kernel
theorem d_Mod_init_102 : decode prog_13_method_1_code 102 = .ok (.putfield 45, 3) := by decide +kernel
theorem b_Mod_init_105 : tf_dec prog_13_method_1_code 105 [(.aload_n 0, 1), (.sipush 160, 3)] = true := by decide +kernel
theorem d_Mod_init_109 : decode prog_13_method_1_code 109 = .ok (.newarray .int, 2) := by decide +kernel
theorem d_Mod_init_111 : decode prog_13_method_1_code 111 = .ok (.putfield 48, 3) := by decide +kernel
theorem b_Mod_init_114 : tf_dec prog_13_method_1_code 114 [(.aload_n 0, 1), (.sipush 160, 3)] = true := by decide +kernel
theorem d_Mod_init_118 : decode prog_13_method_1_code 118 = .ok (.newarray .int, 2) := by decide +kernel
theorem d_Mod_init_120 : decode prog_13_method_1_code 120 = .ok (.putfield 51, 3) := by decide +kernel
theorem b_Mod_init_123 : tf_dec prog_13_method_1_code 123 [(.aload_n 0, 1), (.sipush 160, 3)] = true := by decide +kernel
theorem d_Mod_init_127 : decode prog_13_method_1_code 127 = .ok (.newarray .int, 2) := by decide +kernel
theorem d_Mod_init_129 : decode prog_13_method_1_code 129 = .ok (.putfield 54, 3) := by decide +kernel
theorem b_Mod_init_132 : tf_dec prog_13_method_1_code 132 [(.aload_n 0, 1), (.sipush 160, 3)] = true := by decide +kernel
theorem d_Mod_init_136 : decode prog_13_method_1_code 136 = .ok (.newarray .int, 2) := by decide +kernel
theorem d_Mod_init_138 : decode prog_13_method_1_code 138 = .ok (.putfield 57, 3) := by decide +kernel
theorem b_Mod_init_141 : tf_dec prog_13_method_1_code 141 [(.aload_n 0, 1), (.sipush 160, 3)] = true := by decide +kernel
theorem d_Mod_init_145 : decode prog_13_method_1_code 145 = .ok (.newarray .boolean, 2) := by decide +kernel
theorem d_Mod_init_147 : decode prog_13_method_1_code 147 = .ok (.putfield 60, 3) := by decide +kernel
theorem b_Mod_init_150 : tf_dec prog_13_method_1_code 150 [(.aload_n 0, 1), (.sipush 160, 3)] = true := by decide +kernel
theorem d_Mod_init_154 : decode prog_13_method_1_code 154 = .ok (.newarray .int, 2) := by decide +kernel
theorem d_Mod_init_156 : decode prog_13_method_1_code 156 = .ok (.putfield 63, 3) := by decide +kernel
theorem b_Mod_init_159 : tf_dec prog_13_method_1_code 159 [(.aload_n 0, 1), (.bipush 6, 2)] = true := by decide +kernel
theorem d_Mod_init_162 : decode prog_13_method_1_code 162 = .ok (.newarray .int, 2) := by decide +kernel
theorem d_Mod_init_164 : decode prog_13_method_1_code 164 = .ok (.putfield 66, 3) := by decide +kernel
theorem b_Mod_init_167 : tf_dec prog_13_method_1_code 167 [(.aload_n 0, 1), (.bipush 6, 2)] = true := by decide +kernel
theorem d_Mod_init_170 : decode prog_13_method_1_code 170 = .ok (.newarray .int, 2) := by decide +kernel
theorem d_Mod_init_172 : decode prog_13_method_1_code 172 = .ok (.putfield 69, 3) := by decide +kernel
theorem b_Mod_init_175 : tf_dec prog_13_method_1_code 175 [(.aload_n 0, 1), (.bipush 8, 2)] = true := by decide +kernel
theorem d_Mod_init_178 : decode prog_13_method_1_code 178 = .ok (.newarray .int, 2) := by decide +kernel
theorem d_Mod_init_180 : decode prog_13_method_1_code 180 = .ok (.putfield 72, 3) := by decide +kernel
theorem b_Mod_init_183 : tf_dec prog_13_method_1_code 183 [(.aload_n 0, 1), (.sipush 4096, 3)] = true := by decide +kernel
theorem d_Mod_init_187 : decode prog_13_method_1_code 187 = .ok (.newarray .int, 2) := by decide +kernel
theorem d_Mod_init_189 : decode prog_13_method_1_code 189 = .ok (.putfield 75, 3) := by decide +kernel
theorem b_Mod_init_192 : tf_dec prog_13_method_1_code 192 [(.aload_n 0, 1), (.bipush 40, 2)] = true := by decide +kernel
theorem d_Mod_init_195 : decode prog_13_method_1_code 195 = .ok (.newarray .byte, 2) := by decide +kernel
theorem d_Mod_init_197 : decode prog_13_method_1_code 197 = .ok (.putfield 78, 3) := by decide +kernel
theorem b_Mod_init_200 : tf_dec prog_13_method_1_code 200 [(.aload_n 0, 1), (.bipush 40, 2)] = true := by decide +kernel
theorem d_Mod_init_203 : decode prog_13_method_1_code 203 = .ok (.newarray .byte, 2) := by decide +kernel
theorem d_Mod_init_205 : decode prog_13_method_1_code 205 = .ok (.putfield 81, 3) := by decide +kernel
theorem b_Mod_init_208 : tf_dec prog_13_method_1_code 208 [(.aload_n 0, 1), (.sipush 256, 3)] = true := by decide +kernel
theorem d_Mod_init_212 : decode prog_13_method_1_code 212 = .ok (.newarray .short, 2) := by decide +kernel
theorem d_Mod_init_214 : decode prog_13_method_1_code 214 = .ok (.putfield 84, 3) := by decide +kernel
theorem b_Mod_init_217 : tf_dec prog_13_method_1_code 217 [(.aload_n 0, 1), (.sipush 256, 3)] = true := by decide +kernel
theorem d_Mod_init_221 : decode prog_13_method_1_code 221 = .ok (.newarray .boolean, 2) := by decide +kernel
theorem d_Mod_init_223 : decode prog_13_method_1_code 223 = .ok (.putfield 88, 3) := by decide +kernel
theorem b_Mod_init_226 : tf_dec prog_13_method_1_code 226 [(.aload_n 0, 1), (.bipush 40, 2)] = true := by decide +kernel
theorem d_Mod_init_229 : decode prog_13_method_1_code 229 = .ok (.newarray .int, 2) := by decide +kernel
theorem d_Mod_init_231 : decode prog_13_method_1_code 231 = .ok (.putfield 91, 3) := by decide +kernel
theorem b_Mod_init_234 : tf_dec prog_13_method_1_code 234 [(.aload_n 0, 1), (.bipush 40, 2)] = true := by decide +kernel
theorem d_Mod_init_237 : decode prog_13_method_1_code 237 = .ok (.newarray .int, 2) := by decide +kernel
theorem d_Mod_init_239 : decode prog_13_method_1_code 239 = .ok (.putfield 94, 3) := by decide +kernel
theorem b_Mod_init_242 : tf_dec prog_13_method_1_code 242 [(.aload_n 0, 1), (.bipush 40, 2)] = true := by decide +kernel
theorem d_Mod_init_245 : decode prog_13_method_1_code 245 = .ok (.newarray .int, 2) := by decide +kernel
theorem d_Mod_init_247 : decode prog_13_method_1_code 247 = .ok (.putfield 97, 3) := by decide +kernel
theorem b_Mod_init_250 : tf_dec prog_13_method_1_code 250 [(.aload_n 0, 1), (.bipush 40, 2)] = true := by decide +kernel
theorem d_Mod_init_253 : decode prog_13_method_1_code 253 = .ok (.newarray .int, 2) := by decide +kernel
theorem d_Mod_init_255 : decode prog_13_method_1_code 255 = .ok (.putfield 100, 3) := by decide +kernel
theorem b_Mod_init_258 : tf_dec prog_13_method_1_code 258 [(.aload_n 0, 1), (.bipush 40, 2)] = true := by decide +kernel
theorem d_Mod_init_261 : decode prog_13_method_1_code 261 = .ok (.newarray .int, 2) := by decide +kernel
theorem d_Mod_init_263 : decode prog_13_method_1_code 263 = .ok (.putfield 103, 3) := by decide +kernel
theorem b_Mod_init_266 : tf_dec prog_13_method_1_code 266 [(.aload_n 0, 1), (.bipush 40, 2)] = true := by decide +kernel
theorem d_Mod_init_269 : decode prog_13_method_1_code 269 = .ok (.newarray .long, 2) := by decide +kernel
theorem d_Mod_init_271 : decode prog_13_method_1_code 271 = .ok (.putfield 106, 3) := by decide +kernel
theorem b_Mod_init_274 : tf_dec prog_13_method_1_code 274 [(.aload_n 0, 1), (.bipush 40, 2)] = true := by decide +kernel
theorem d_Mod_init_277 : decode prog_13_method_1_code 277 = .ok (.newarray .int, 2) := by decide +kernel
theorem d_Mod_init_279 : decode prog_13_method_1_code 279 = .ok (.putfield 110, 3) := by decide +kernel
theorem b_Mod_init_282 : tf_dec prog_13_method_1_code 282 [(.aload_n 0, 1), (.bipush 60, 2)] = true := by decide +kernel
theorem d_Mod_init_285 : decode prog_13_method_1_code 285 = .ok (.newarray .int, 2) := by decide +kernel
theorem d_Mod_init_287 : decode prog_13_method_1_code 287 = .ok (.putfield 113, 3) := by decide +kernel
theorem b_Mod_init_290 : tf_dec prog_13_method_1_code 290 [(.aload_n 0, 1), (.bipush 60, 2)] = true := by decide +kernel
theorem d_Mod_init_293 : decode prog_13_method_1_code 293 = .ok (.newarray .int, 2) := by decide +kernel
theorem d_Mod_init_295 : decode prog_13_method_1_code 295 = .ok (.putfield 116, 3) := by decide +kernel
theorem b_Mod_init_298 : tf_dec prog_13_method_1_code 298 [(.aload_n 0, 1), (.iload_n 1, 1), (.iconst 2, 1)] = true := by decide +kernel
theorem d_Mod_init_301 : decode prog_13_method_1_code 301 = .ok (.if_icmp .eq 8, 3) := by decide +kernel
theorem b_Mod_init_304 : tf_dec prog_13_method_1_code 304 [(.iload_n 1, 1), (.iconst 4, 1)] = true := by decide +kernel
theorem d_Mod_init_306 : decode prog_13_method_1_code 306 = .ok (.if_icmp .ne 7, 3) := by decide +kernel
theorem b_Mod_init_309 : tf_dec prog_13_method_1_code 309 [(.iload_n 1, 1)] = true := by decide +kernel
theorem d_Mod_init_310 : decode prog_13_method_1_code 310 = .ok (.goto 4, 3) := by decide +kernel
theorem b_Mod_init_313 : tf_dec prog_13_method_1_code 313 [(.iconst 1, 1)] = true := by decide +kernel
theorem d_Mod_init_314 : decode prog_13_method_1_code 314 = .ok (.putfield 119, 3) := by decide +kernel
theorem d_Mod_init_317 : decode prog_13_method_1_code 317 = .ok (.return_, 1) := by decide +kernel
theorem b_Mod_thrown_0 : tf_dec prog_13_method_2_code 0 [(.aload_n 0, 1)] = true := by decide +kernel
theorem d_Mod_thrown_1 : decode prog_13_method_2_code 1 = .ok (.getfield 123, 3) := by decide +kernel
theorem d_Mod_thrown_4 : decode prog_13_method_2_code 4 = .ok (.ireturn, 1) := by decide +kernel
theorem b_Mod_floor_0 : tf_dec prog_13_method_3_code 0 [(.lload_n 0, 1), (.lload_n 2, 1)] = true := by decide +kernel
theorem d_Mod_floor_2 : decode prog_13_method_3_code 2 = .ok (.ldiv, 1) := by decide +kernel
theorem b_Mod_floor_3 : tf_dec prog_13_method_3_code 3 [(.lstore 4, 2), (.lload_n 0, 1), (.lload_n 2, 1)] = true := by decide +kernel
theorem d_Mod_floor_7 : decode prog_13_method_3_code 7 = .ok (.lrem, 1) := by decide +kernel
theorem b_Mod_floor_8 : tf_dec prog_13_method_3_code 8 [(.lconst 0, 1), (.lcmp, 1)] = true := by decide +kernel
theorem d_Mod_floor_10 : decode prog_13_method_3_code 10 = .ok (.ifCond .ge 10, 3) := by decide +kernel
theorem b_Mod_floor_13 : tf_dec prog_13_method_3_code 13 [(.lload 4, 2), (.lconst 1, 1), (.lsub, 1)] = true := by decide +kernel
theorem d_Mod_floor_17 : decode prog_13_method_3_code 17 = .ok (.goto 5, 3) := by decide +kernel
theorem b_Mod_floor_20 : tf_dec prog_13_method_3_code 20 [(.lload 4, 2)] = true := by decide +kernel
theorem d_Mod_floor_22 : decode prog_13_method_3_code 22 = .ok (.lreturn, 1) := by decide +kernel
theorem d_Mod_near_0 : decode prog_13_method_4_code 0 = .ok (.ldc2_w 126, 3) := by decide +kernel
theorem b_Mod_near_3 : tf_dec prog_13_method_4_code 3 [(.lload_n 0, 1), (.lmul, 1), (.lload_n 2, 1), (.ladd, 1)] = true := by decide +kernel
theorem d_Mod_near_7 : decode prog_13_method_4_code 7 = .ok (.ldc2_w 126, 3) := by decide +kernel
theorem b_Mod_near_10 : tf_dec prog_13_method_4_code 10 [(.lload_n 2, 1), (.lmul, 1)] = true := by decide +kernel
theorem d_Mod_near_12 : decode prog_13_method_4_code 12 = .ok (.invokestatic 128, 3) := by decide +kernel
theorem d_Mod_near_15 : decode prog_13_method_4_code 15 = .ok (.lreturn, 1) := by decide +kernel
theorem b_Mod_between_0 : tf_dec prog_13_method_5_code 0 [(.sipush 1024, 3), (.aload_n 0, 1)] = true := by decide +kernel
theorem d_Mod_between_4 : decode prog_13_method_5_code 4 = .ok (.getfield 132, 3) := by decide +kernel
theorem b_Mod_between_7 : tf_dec prog_13_method_5_code 7 [(.isub, 1), (.i2l, 1), (.lstore 5, 2), (.sipush 1024, 3), (.aload_n 0, 1)] = true := by decide +kernel
theorem d_Mod_between_15 : decode prog_13_method_5_code 15 = .ok (.getfield 135, 3) := by decide +kernel
theorem b_Mod_between_18 : tf_dec prog_13_method_5_code 18 [(.isub, 1), (.i2l, 1), (.lstore 7, 2), (.aload_n 0, 1)] = true := by decide +kernel
theorem d_Mod_between_23 : decode prog_13_method_5_code 23 = .ok (.getfield 119, 3) := by decide +kernel
theorem b_Mod_between_26 : tf_dec prog_13_method_5_code 26 [(.iconst 1, 1)] = true := by decide +kernel
theorem d_Mod_between_27 : decode prog_13_method_5_code 27 = .ok (.if_icmp .ne 5, 3) := by decide +kernel
theorem b_Mod_between_30 : tf_dec prog_13_method_5_code 30 [(.iload_n 1, 1)] = true := by decide +kernel
theorem d_Mod_between_31 : decode prog_13_method_5_code 31 = .ok (.ireturn, 1) := by decide +kernel
theorem b_Mod_between_32 : tf_dec prog_13_method_5_code 32 [(.aload_n 0, 1)] = true := by decide +kernel
theorem d_Mod_between_33 : decode prog_13_method_5_code 33 = .ok (.getfield 119, 3) := by decide +kernel
theorem b_Mod_between_36 : tf_dec prog_13_method_5_code 36 [(.iconst 2, 1)] = true := by decide +kernel
theorem d_Mod_between_37 : decode prog_13_method_5_code 37 = .ok (.if_icmp .ne 25, 3) := by decide +kernel
theorem b_Mod_between_40 : tf_dec prog_13_method_5_code 40 [(.iload_n 1, 1), (.i2l, 1), (.lload 5, 2), (.lmul, 1), (.iload_n 2, 1), (.i2l, 1), (.aload_n 0, 1)] = true := by decide +kernel
theorem d_Mod_between_48 : decode prog_13_method_5_code 48 = .ok (.getfield 132, 3) := by decide +kernel
theorem b_Mod_between_51 : tf_dec prog_13_method_5_code 51 [(.i2l, 1), (.lmul, 1), (.ladd, 1)] = true := by decide +kernel
theorem d_Mod_between_54 : decode prog_13_method_5_code 54 = .ok (.ldc2_w 138, 3) := by decide +kernel
theorem d_Mod_between_57 : decode prog_13_method_5_code 57 = .ok (.invokestatic 140, 3) := by decide +kernel
theorem b_Mod_between_60 : tf_dec prog_13_method_5_code 60 [(.l2i, 1)] = true := by decide +kernel
theorem d_Mod_between_61 : decode prog_13_method_5_code 61 = .ok (.ireturn, 1) := by decide +kernel
theorem b_Mod_between_62 : tf_dec prog_13_method_5_code 62 [(.iload_n 1, 1), (.i2l, 1), (.lload 5, 2), (.lmul, 1), (.lload 7, 2), (.lmul, 1), (.iload_n 2, 1), (.aload_n 0, 1)] = true := by decide +kernel
theorem d_Mod_between_72 : decode prog_13_method_5_code 72 = .ok (.getfield 132, 3) := by decide +kernel
theorem b_Mod_between_75 : tf_dec prog_13_method_5_code 75 [(.imul, 1), (.i2l, 1), (.lload 7, 2), (.lmul, 1), (.ladd, 1), (.iload_n 3, 1), (.i2l, 1), (.lload 5, 2), (.lmul, 1), (.aload_n 0, 1)] = true := by decide +kernel
theorem d_Mod_between_87 : decode prog_13_method_5_code 87 = .ok (.getfield 135, 3) := by decide +kernel
theorem b_Mod_between_90 : tf_dec prog_13_method_5_code 90 [(.i2l, 1), (.lmul, 1), (.ladd, 1), (.iload 4, 2), (.i2l, 1), (.aload_n 0, 1)] = true := by decide +kernel
theorem d_Mod_between_97 : decode prog_13_method_5_code 97 = .ok (.getfield 132, 3) := by decide +kernel
theorem b_Mod_between_100 : tf_dec prog_13_method_5_code 100 [(.i2l, 1), (.lmul, 1), (.aload_n 0, 1)] = true := by decide +kernel
theorem d_Mod_between_103 : decode prog_13_method_5_code 103 = .ok (.getfield 135, 3) := by decide +kernel
theorem b_Mod_between_106 : tf_dec prog_13_method_5_code 106 [(.i2l, 1), (.lmul, 1), (.ladd, 1)] = true := by decide +kernel
theorem d_Mod_between_109 : decode prog_13_method_5_code 109 = .ok (.ldc2_w 143, 3) := by decide +kernel
theorem d_Mod_between_112 : decode prog_13_method_5_code 112 = .ok (.invokestatic 140, 3) := by decide +kernel
theorem b_Mod_between_115 : tf_dec prog_13_method_5_code 115 [(.l2i, 1)] = true := by decide +kernel
theorem d_Mod_between_116 : decode prog_13_method_5_code 116 = .ok (.ireturn, 1) := by decide +kernel
theorem b_Mod_glyph_0 : tf_dec prog_13_method_6_code 0 [(.aload_n 0, 1), (.aload_n 0, 1)] = true := by decide +kernel
theorem d_Mod_glyph_2 : decode prog_13_method_6_code 2 = .ok (.getfield 145, 3) := by decide +kernel
theorem b_Mod_glyph_5 : tf_dec prog_13_method_6_code 5 [(.bipush 40, 2)] = true := by decide +kernel
theorem d_Mod_glyph_7 : decode prog_13_method_6_code 7 = .ok (.if_icmp .ne 7, 3) := by decide +kernel
theorem b_Mod_glyph_10 : tf_dec prog_13_method_6_code 10 [(.iconst 1, 1)] = true := by decide +kernel
theorem d_Mod_glyph_11 : decode prog_13_method_6_code 11 = .ok (.goto 4, 3) := by decide +kernel
theorem b_Mod_glyph_14 : tf_dec prog_13_method_6_code 14 [(.iconst 0, 1)] = true := by decide +kernel
theorem d_Mod_glyph_15 : decode prog_13_method_6_code 15 = .ok (.putfield 123, 3) := by decide +kernel
theorem b_Mod_glyph_18 : tf_dec prog_13_method_6_code 18 [(.aload_n 0, 1)] = true := by decide +kernel
theorem d_Mod_glyph_19 : decode prog_13_method_6_code 19 = .ok (.getfield 123, 3) := by decide +kernel
theorem d_Mod_glyph_22 : decode prog_13_method_6_code 22 = .ok (.ifCond .le 5, 3) := by decide +kernel
theorem b_Mod_glyph_25 : tf_dec prog_13_method_6_code 25 [(.iconst 0, 1)] = true := by decide +kernel
theorem d_Mod_glyph_26 : decode prog_13_method_6_code 26 = .ok (.ireturn, 1) := by decide +kernel
theorem b_Mod_glyph_27 : tf_dec prog_13_method_6_code 27 [(.aload_n 0, 1), (.dup, 1)] = true := by decide +kernel
theorem d_Mod_glyph_29 : decode prog_13_method_6_code 29 = .ok (.getfield 145, 3) := by decide +kernel
theorem b_Mod_glyph_32 : tf_dec prog_13_method_6_code 32 [(.iconst 1, 1), (.iadd, 1)] = true := by decide +kernel
theorem d_Mod_glyph_34 : decode prog_13_method_6_code 34 = .ok (.putfield 145, 3) := by decide +kernel
theorem b_Mod_glyph_37 : tf_dec prog_13_method_6_code 37 [(.aload_n 0, 1)] = true := by decide +kernel
theorem d_Mod_glyph_38 : decode prog_13_method_6_code 38 = .ok (.getfield 145, 3) := by decide +kernel
theorem b_Mod_glyph_41 : tf_dec prog_13_method_6_code 41 [(.iconst 1, 1), (.isub, 1)] = true := by decide +kernel
theorem d_Mod_glyph_43 : decode prog_13_method_6_code 43 = .ok (.ireturn, 1) := by decide +kernel
theorem b_Mod_isGlyph_0 : tf_dec prog_13_method_7_code 0 [(.iload_n 1, 1)] = true := by decide +kernel
theorem d_Mod_isGlyph_1 : decode prog_13_method_7_code 1 = .ok (.ifCond .lt 15, 3) := by decide +kernel
theorem b_Mod_isGlyph_4 : tf_dec prog_13_method_7_code 4 [(.iload_n 1, 1), (.aload_n 0, 1)] = true := by decide +kernel
theorem d_Mod_isGlyph_6 : decode prog_13_method_7_code 6 = .ok (.getfield 145, 3) := by decide +kernel
theorem d_Mod_isGlyph_9 : decode prog_13_method_7_code 9 = .ok (.if_icmp .ge 7, 3) := by decide +kernel
theorem b_Mod_isGlyph_12 : tf_dec prog_13_method_7_code 12 [(.iconst 1, 1)] = true := by decide +kernel
theorem d_Mod_isGlyph_13 : decode prog_13_method_7_code 13 = .ok (.goto 4, 3) := by decide +kernel
theorem b_Mod_isGlyph_16 : tf_dec prog_13_method_7_code 16 [(.iconst 0, 1)] = true := by decide +kernel
theorem d_Mod_isGlyph_17 : decode prog_13_method_7_code 17 = .ok (.ireturn, 1) := by decide +kernel
theorem b_Mod_isPlace_0 : tf_dec prog_13_method_8_code 0 [(.iload_n 0, 1), (.sipush (-2000), 3)] = true := by decide +kernel
theorem d_Mod_isPlace_4 : decode prog_13_method_8_code 4 = .ok (.if_icmp .lt 14, 3) := by decide +kernel
theorem b_Mod_isPlace_7 : tf_dec prog_13_method_8_code 7 [(.iload_n 0, 1), (.sipush 4000, 3)] = true := by decide +kernel
theorem d_Mod_isPlace_11 : decode prog_13_method_8_code 11 = .ok (.if_icmp .gt 7, 3) := by decide +kernel
theorem b_Mod_isPlace_14 : tf_dec prog_13_method_8_code 14 [(.iconst 1, 1)] = true := by decide +kernel
theorem d_Mod_isPlace_15 : decode prog_13_method_8_code 15 = .ok (.goto 4, 3) := by decide +kernel
theorem b_Mod_isPlace_18 : tf_dec prog_13_method_8_code 18 [(.iconst 0, 1)] = true := by decide +kernel
theorem d_Mod_isPlace_19 : decode prog_13_method_8_code 19 = .ok (.ireturn, 1) := by decide +kernel
theorem b_Mod_packed_0 : tf_dec prog_13_method_9_code 0 [(.iload_n 0, 1), (.sipush 8192, 3), (.iadd, 1), (.bipush 16, 2), (.ishl, 1), (.iload_n 1, 1), (.sipush 8192, 3), (.iadd, 1), (.ior, 1)] = true := by decide +kernel
theorem d_Mod_packed_14 : decode prog_13_method_9_code 14 = .ok (.ireturn, 1) := by decide +kernel
theorem b_Mod_point_0 : tf_dec prog_13_method_10_code 0 [(.aload_n 0, 1), (.aload_n 0, 1), (.iload_n 1, 1)] = true := by decide +kernel
theorem d_Mod_point_3 : decode prog_13_method_10_code 3 = .ok (.invokevirtual 148, 3) := by decide +kernel
theorem d_Mod_point_6 : decode prog_13_method_10_code 6 = .ok (.ifCond .eq 17, 3) := by decide +kernel
theorem b_Mod_point_9 : tf_dec prog_13_method_10_code 9 [(.iload_n 2, 1)] = true := by decide +kernel
theorem d_Mod_point_10 : decode prog_13_method_10_code 10 = .ok (.invokestatic 152, 3) := by decide +kernel
theorem d_Mod_point_13 : decode prog_13_method_10_code 13 = .ok (.ifCond .eq 10, 3) := by decide +kernel
theorem b_Mod_point_16 : tf_dec prog_13_method_10_code 16 [(.iload_n 3, 1)] = true := by decide +kernel
theorem d_Mod_point_17 : decode prog_13_method_10_code 17 = .ok (.invokestatic 152, 3) := by decide +kernel
theorem d_Mod_point_20 : decode prog_13_method_10_code 20 = .ok (.ifCond .ne 7, 3) := by decide +kernel
theorem b_Mod_point_23 : tf_dec prog_13_method_10_code 23 [(.iconst 1, 1)] = true := by decide +kernel
theorem d_Mod_point_24 : decode prog_13_method_10_code 24 = .ok (.goto 28, 3) := by decide +kernel
theorem b_Mod_point_27 : tf_dec prog_13_method_10_code 27 [(.aload_n 0, 1)] = true := by decide +kernel
theorem d_Mod_point_28 : decode prog_13_method_10_code 28 = .ok (.getfield 29, 3) := by decide +kernel
theorem b_Mod_point_31 : tf_dec prog_13_method_10_code 31 [(.iload_n 1, 1)] = true := by decide +kernel
theorem d_Mod_point_32 : decode prog_13_method_10_code 32 = .ok (.baload, 1) := by decide +kernel
theorem d_Mod_point_33 : decode prog_13_method_10_code 33 = .ok (.ifCond .ne 14, 3) := by decide +kernel
theorem b_Mod_point_36 : tf_dec prog_13_method_10_code 36 [(.aload_n 0, 1)] = true := by decide +kernel
theorem d_Mod_point_37 : decode prog_13_method_10_code 37 = .ok (.getfield 17, 3) := by decide +kernel
theorem b_Mod_point_40 : tf_dec prog_13_method_10_code 40 [(.iload_n 1, 1)] = true := by decide +kernel
theorem d_Mod_point_41 : decode prog_13_method_10_code 41 = .ok (.iaload, 1) := by decide +kernel
theorem b_Mod_point_42 : tf_dec prog_13_method_10_code 42 [(.bipush 40, 2)] = true := by decide +kernel
theorem d_Mod_point_44 : decode prog_13_method_10_code 44 = .ok (.if_icmp .ne 7, 3) := by decide +kernel
theorem b_Mod_point_47 : tf_dec prog_13_method_10_code 47 [(.iconst 2, 1)] = true := by decide +kernel
theorem d_Mod_point_48 : decode prog_13_method_10_code 48 = .ok (.goto 4, 3) := by decide +kernel
theorem b_Mod_point_51 : tf_dec prog_13_method_10_code 51 [(.iconst 0, 1)] = true := by decide +kernel
theorem d_Mod_point_52 : decode prog_13_method_10_code 52 = .ok (.putfield 123, 3) := by decide +kernel
theorem b_Mod_point_55 : tf_dec prog_13_method_10_code 55 [(.aload_n 0, 1)] = true := by decide +kernel
theorem d_Mod_point_56 : decode prog_13_method_10_code 56 = .ok (.getfield 123, 3) := by decide +kernel
theorem d_Mod_point_59 : decode prog_13_method_10_code 59 = .ok (.ifCond .le 5, 3) := by decide +kernel
theorem b_Mod_point_62 : tf_dec prog_13_method_10_code 62 [(.iconst 0, 1)] = true := by decide +kernel
theorem d_Mod_point_63 : decode prog_13_method_10_code 63 = .ok (.ireturn, 1) := by decide +kernel
theorem b_Mod_point_64 : tf_dec prog_13_method_10_code 64 [(.bipush 40, 2), (.iload_n 1, 1), (.imul, 1), (.aload_n 0, 1)] = true := by decide +kernel
theorem d_Mod_point_69 : decode prog_13_method_10_code 69 = .ok (.getfield 17, 3) := by decide +kernel
theorem b_Mod_point_72 : tf_dec prog_13_method_10_code 72 [(.iload_n 1, 1)] = true := by decide +kernel
theorem d_Mod_point_73 : decode prog_13_method_10_code 73 = .ok (.iaload, 1) := by decide +kernel
theorem b_Mod_point_74 : tf_dec prog_13_method_10_code 74 [(.iadd, 1), (.istore 5, 2), (.iconst 0, 1), (.istore 6, 2)] = true := by decide +kernel
theorem b_Mod_point_80 : tf_dec prog_13_method_10_code 80 [(.iload 6, 2), (.iconst 4, 1)] = true := by decide +kernel
theorem d_Mod_point_83 : decode prog_13_method_10_code 83 = .ok (.if_icmp .ge 26, 3) := by decide +kernel
theorem b_Mod_point_86 : tf_dec prog_13_method_10_code 86 [(.aload_n 0, 1)] = true := by decide +kernel
theorem d_Mod_point_87 : decode prog_13_method_10_code 87 = .ok (.getfield 7, 3) := by decide +kernel
theorem b_Mod_point_90 : tf_dec prog_13_method_10_code 90 [(.iconst 4, 1), (.iload 5, 2), (.imul, 1), (.iload 6, 2), (.iadd, 1), (.iload_n 2, 1), (.iload_n 3, 1)] = true := by decide +kernel
theorem d_Mod_point_99 : decode prog_13_method_10_code 99 = .ok (.invokestatic 155, 3) := by decide +kernel
theorem d_Mod_point_102 : decode prog_13_method_10_code 102 = .ok (.iastore, 1) := by decide +kernel
theorem b_Mod_point_103 : tf_dec prog_13_method_10_code 103 [(.iinc 6 1, 3)] = true := by decide +kernel
theorem d_Mod_point_106 : decode prog_13_method_10_code 106 = .ok (.goto (-26), 3) := by decide +kernel
theorem b_Mod_point_109 : tf_dec prog_13_method_10_code 109 [(.aload_n 0, 1)] = true := by decide +kernel
theorem d_Mod_point_110 : decode prog_13_method_10_code 110 = .ok (.getfield 13, 3) := by decide +kernel
theorem b_Mod_point_113 : tf_dec prog_13_method_10_code 113 [(.iload 5, 2), (.iconst 2, 1), (.aload_n 0, 1)] = true := by decide +kernel
theorem d_Mod_point_117 : decode prog_13_method_10_code 117 = .ok (.getfield 23, 3) := by decide +kernel
theorem b_Mod_point_120 : tf_dec prog_13_method_10_code 120 [(.iload_n 1, 1)] = true := by decide +kernel
theorem d_Mod_point_121 : decode prog_13_method_10_code 121 = .ok (.iaload, 1) := by decide +kernel
theorem b_Mod_point_122 : tf_dec prog_13_method_10_code 122 [(.imul, 1), (.iload 4, 2)] = true := by decide +kernel
theorem d_Mod_point_125 : decode prog_13_method_10_code 125 = .ok (.ifCond .eq 7, 3) := by decide +kernel
theorem b_Mod_point_128 : tf_dec prog_13_method_10_code 128 [(.iconst 1, 1)] = true := by decide +kernel
theorem d_Mod_point_129 : decode prog_13_method_10_code 129 = .ok (.goto 4, 3) := by decide +kernel
theorem b_Mod_point_132 : tf_dec prog_13_method_10_code 132 [(.iconst 0, 1)] = true := by decide +kernel
theorem b_Mod_point_133 : tf_dec prog_13_method_10_code 133 [(.iadd, 1), (.i2b, 1)] = true := by decide +kernel
theorem d_Mod_point_135 : decode prog_13_method_10_code 135 = .ok (.bastore, 1) := by decide +kernel
theorem b_Mod_point_136 : tf_dec prog_13_method_10_code 136 [(.aload_n 0, 1)] = true := by decide +kernel
theorem d_Mod_point_137 : decode prog_13_method_10_code 137 = .ok (.getfield 17, 3) := by decide +kernel
theorem b_Mod_point_140 : tf_dec prog_13_method_10_code 140 [(.iload_n 1, 1), (.dup2, 1)] = true := by decide +kernel
theorem d_Mod_point_142 : decode prog_13_method_10_code 142 = .ok (.iaload, 1) := by decide +kernel
theorem b_Mod_point_143 : tf_dec prog_13_method_10_code 143 [(.iconst 1, 1), (.iadd, 1)] = true := by decide +kernel
theorem d_Mod_point_145 : decode prog_13_method_10_code 145 = .ok (.iastore, 1) := by decide +kernel
theorem b_Mod_point_146 : tf_dec prog_13_method_10_code 146 [(.aload_n 0, 1)] = true := by decide +kernel
theorem d_Mod_point_147 : decode prog_13_method_10_code 147 = .ok (.getfield 17, 3) := by decide +kernel
theorem b_Mod_point_150 : tf_dec prog_13_method_10_code 150 [(.iload_n 1, 1)] = true := by decide +kernel
theorem d_Mod_point_151 : decode prog_13_method_10_code 151 = .ok (.iaload, 1) := by decide +kernel
theorem b_Mod_point_152 : tf_dec prog_13_method_10_code 152 [(.iconst 1, 1), (.isub, 1)] = true := by decide +kernel
theorem d_Mod_point_154 : decode prog_13_method_10_code 154 = .ok (.ireturn, 1) := by decide +kernel
theorem b_Mod_close_0 : tf_dec prog_13_method_11_code 0 [(.aload_n 0, 1), (.iconst 0, 1)] = true := by decide +kernel
theorem d_Mod_close_2 : decode prog_13_method_11_code 2 = .ok (.putfield 123, 3) := by decide +kernel
theorem b_Mod_close_5 : tf_dec prog_13_method_11_code 5 [(.aload_n 0, 1), (.iload_n 1, 1)] = true := by decide +kernel
theorem d_Mod_close_7 : decode prog_13_method_11_code 7 = .ok (.invokevirtual 148, 3) := by decide +kernel
theorem d_Mod_close_10 : decode prog_13_method_11_code 10 = .ok (.ifCond .eq 29, 3) := by decide +kernel
theorem b_Mod_close_13 : tf_dec prog_13_method_11_code 13 [(.aload_n 0, 1)] = true := by decide +kernel
theorem d_Mod_close_14 : decode prog_13_method_11_code 14 = .ok (.getfield 29, 3) := by decide +kernel
theorem b_Mod_close_17 : tf_dec prog_13_method_11_code 17 [(.iload_n 1, 1)] = true := by decide +kernel
theorem d_Mod_close_18 : decode prog_13_method_11_code 18 = .ok (.baload, 1) := by decide +kernel
theorem d_Mod_close_19 : decode prog_13_method_11_code 19 = .ok (.ifCond .ne 20, 3) := by decide +kernel
theorem b_Mod_close_22 : tf_dec prog_13_method_11_code 22 [(.aload_n 0, 1)] = true := by decide +kernel
theorem d_Mod_close_23 : decode prog_13_method_11_code 23 = .ok (.getfield 17, 3) := by decide +kernel
theorem b_Mod_close_26 : tf_dec prog_13_method_11_code 26 [(.iload_n 1, 1)] = true := by decide +kernel
theorem d_Mod_close_27 : decode prog_13_method_11_code 27 = .ok (.iaload, 1) := by decide +kernel
theorem b_Mod_close_28 : tf_dec prog_13_method_11_code 28 [(.aload_n 0, 1)] = true := by decide +kernel
theorem d_Mod_close_29 : decode prog_13_method_11_code 29 = .ok (.getfield 20, 3) := by decide +kernel
theorem b_Mod_close_32 : tf_dec prog_13_method_11_code 32 [(.iload_n 1, 1)] = true := by decide +kernel
theorem d_Mod_close_33 : decode prog_13_method_11_code 33 = .ok (.iaload, 1) := by decide +kernel
theorem b_Mod_close_34 : tf_dec prog_13_method_11_code 34 [(.isub, 1), (.iconst 3, 1)] = true := by decide +kernel
theorem d_Mod_close_36 : decode prog_13_method_11_code 36 = .ok (.if_icmp .ge 5, 3) := by decide +kernel
theorem b_Mod_close_39 : tf_dec prog_13_method_11_code 39 [(.iconst 0, 1)] = true := by decide +kernel
theorem d_Mod_close_40 : decode prog_13_method_11_code 40 = .ok (.ireturn, 1) := by decide +kernel
theorem b_Mod_close_41 : tf_dec prog_13_method_11_code 41 [(.aload_n 0, 1)] = true := by decide +kernel
theorem d_Mod_close_42 : decode prog_13_method_11_code 42 = .ok (.getfield 36, 3) := by decide +kernel
theorem b_Mod_close_45 : tf_dec prog_13_method_11_code 45 [(.iload_n 1, 1), (.dup2, 1)] = true := by decide +kernel
theorem d_Mod_close_47 : decode prog_13_method_11_code 47 = .ok (.iaload, 1) := by decide +kernel
theorem b_Mod_close_48 : tf_dec prog_13_method_11_code 48 [(.aload_n 0, 1)] = true := by decide +kernel
theorem d_Mod_close_49 : decode prog_13_method_11_code 49 = .ok (.getfield 17, 3) := by decide +kernel
theorem b_Mod_close_52 : tf_dec prog_13_method_11_code 52 [(.iload_n 1, 1)] = true := by decide +kernel
theorem d_Mod_close_53 : decode prog_13_method_11_code 53 = .ok (.iaload, 1) := by decide +kernel
theorem b_Mod_close_54 : tf_dec prog_13_method_11_code 54 [(.aload_n 0, 1)] = true := by decide +kernel
theorem d_Mod_close_55 : decode prog_13_method_11_code 55 = .ok (.getfield 20, 3) := by decide +kernel
theorem b_Mod_close_58 : tf_dec prog_13_method_11_code 58 [(.iload_n 1, 1)] = true := by decide +kernel
theorem d_Mod_close_59 : decode prog_13_method_11_code 59 = .ok (.iaload, 1) := by decide +kernel
theorem b_Mod_close_60 : tf_dec prog_13_method_11_code 60 [(.isub, 1), (.iadd, 1)] = true := by decide +kernel
theorem d_Mod_close_62 : decode prog_13_method_11_code 62 = .ok (.iastore, 1) := by decide +kernel
theorem b_Mod_close_63 : tf_dec prog_13_method_11_code 63 [(.aload_n 0, 1)] = true := by decide +kernel
theorem d_Mod_close_64 : decode prog_13_method_11_code 64 = .ok (.getfield 20, 3) := by decide +kernel
theorem b_Mod_close_67 : tf_dec prog_13_method_11_code 67 [(.iload_n 1, 1), (.aload_n 0, 1)] = true := by decide +kernel
theorem d_Mod_close_69 : decode prog_13_method_11_code 69 = .ok (.getfield 17, 3) := by decide +kernel
theorem b_Mod_close_72 : tf_dec prog_13_method_11_code 72 [(.iload_n 1, 1)] = true := by decide +kernel
theorem d_Mod_close_73 : decode prog_13_method_11_code 73 = .ok (.iaload, 1) := by decide +kernel
theorem d_Mod_close_74 : decode prog_13_method_11_code 74 = .ok (.iastore, 1) := by decide +kernel
theorem b_Mod_close_75 : tf_dec prog_13_method_11_code 75 [(.aload_n 0, 1)] = true := by decide +kernel
theorem d_Mod_close_76 : decode prog_13_method_11_code 76 = .ok (.getfield 23, 3) := by decide +kernel
theorem b_Mod_close_79 : tf_dec prog_13_method_11_code 79 [(.iload_n 1, 1), (.dup2, 1)] = true := by decide +kernel
theorem d_Mod_close_81 : decode prog_13_method_11_code 81 = .ok (.iaload, 1) := by decide +kernel
theorem b_Mod_close_82 : tf_dec prog_13_method_11_code 82 [(.iconst 1, 1), (.iadd, 1)] = true := by decide +kernel
theorem d_Mod_close_84 : decode prog_13_method_11_code 84 = .ok (.iastore, 1) := by decide +kernel
theorem b_Mod_close_85 : tf_dec prog_13_method_11_code 85 [(.iconst 1, 1)] = true := by decide +kernel
theorem d_Mod_close_86 : decode prog_13_method_11_code 86 = .ok (.ireturn, 1) := by decide +kernel
theorem b_Mod_place_0 : tf_dec prog_13_method_12_code 0 [(.aload_n 0, 1), (.iload_n 1, 1)] = true := by decide +kernel
theorem d_Mod_place_2 : decode prog_13_method_12_code 2 = .ok (.invokevirtual 148, 3) := by decide +kernel
theorem d_Mod_place_5 : decode prog_13_method_12_code 5 = .ok (.ifCond .eq 23, 3) := by decide +kernel
theorem b_Mod_place_8 : tf_dec prog_13_method_12_code 8 [(.iload_n 2, 1)] = true := by decide +kernel
theorem d_Mod_place_9 : decode prog_13_method_12_code 9 = .ok (.ifCond .lt 19, 3) := by decide +kernel
theorem b_Mod_place_12 : tf_dec prog_13_method_12_code 12 [(.iload_n 3, 1)] = true := by decide +kernel
theorem d_Mod_place_13 : decode prog_13_method_12_code 13 = .ok (.ifCond .lt 15, 3) := by decide +kernel
theorem b_Mod_place_16 : tf_dec prog_13_method_12_code 16 [(.iload_n 3, 1), (.aload_n 0, 1)] = true := by decide +kernel
theorem d_Mod_place_18 : decode prog_13_method_12_code 18 = .ok (.getfield 119, 3) := by decide +kernel
theorem d_Mod_place_21 : decode prog_13_method_12_code 21 = .ok (.if_icmp .ge 7, 3) := by decide +kernel
theorem b_Mod_place_24 : tf_dec prog_13_method_12_code 24 [(.iconst 1, 1)] = true := by decide +kernel
theorem d_Mod_place_25 : decode prog_13_method_12_code 25 = .ok (.goto 4, 3) := by decide +kernel
theorem b_Mod_place_28 : tf_dec prog_13_method_12_code 28 [(.iconst 0, 1)] = true := by decide +kernel
theorem b_Mod_place_29 : tf_dec prog_13_method_12_code 29 [(.istore 6, 2), (.aload_n 0, 1), (.iload 6, 2)] = true := by decide +kernel
theorem d_Mod_place_34 : decode prog_13_method_12_code 34 = .ok (.ifCond .eq 13, 3) := by decide +kernel
theorem b_Mod_place_37 : tf_dec prog_13_method_12_code 37 [(.iload_n 2, 1), (.aload_n 0, 1)] = true := by decide +kernel
theorem d_Mod_place_39 : decode prog_13_method_12_code 39 = .ok (.getfield 17, 3) := by decide +kernel
theorem b_Mod_place_42 : tf_dec prog_13_method_12_code 42 [(.iload_n 1, 1)] = true := by decide +kernel
theorem d_Mod_place_43 : decode prog_13_method_12_code 43 = .ok (.iaload, 1) := by decide +kernel
theorem d_Mod_place_44 : decode prog_13_method_12_code 44 = .ok (.if_icmp .lt 7, 3) := by decide +kernel
theorem b_Mod_place_47 : tf_dec prog_13_method_12_code 47 [(.iconst 1, 1)] = true := by decide +kernel
theorem d_Mod_place_48 : decode prog_13_method_12_code 48 = .ok (.goto 24, 3) := by decide +kernel
theorem b_Mod_place_51 : tf_dec prog_13_method_12_code 51 [(.iload 4, 2)] = true := by decide +kernel
theorem d_Mod_place_53 : decode prog_13_method_12_code 53 = .ok (.invokestatic 152, 3) := by decide +kernel
theorem d_Mod_place_56 : decode prog_13_method_12_code 56 = .ok (.ifCond .eq 11, 3) := by decide +kernel
theorem b_Mod_place_59 : tf_dec prog_13_method_12_code 59 [(.iload 5, 2)] = true := by decide +kernel
theorem d_Mod_place_61 : decode prog_13_method_12_code 61 = .ok (.invokestatic 152, 3) := by decide +kernel
theorem d_Mod_place_64 : decode prog_13_method_12_code 64 = .ok (.ifCond .ne 7, 3) := by decide +kernel
theorem b_Mod_place_67 : tf_dec prog_13_method_12_code 67 [(.iconst 2, 1)] = true := by decide +kernel
theorem d_Mod_place_68 : decode prog_13_method_12_code 68 = .ok (.goto 4, 3) := by decide +kernel
theorem b_Mod_place_71 : tf_dec prog_13_method_12_code 71 [(.iconst 0, 1)] = true := by decide +kernel
theorem d_Mod_place_72 : decode prog_13_method_12_code 72 = .ok (.putfield 123, 3) := by decide +kernel
theorem b_Mod_place_75 : tf_dec prog_13_method_12_code 75 [(.aload_n 0, 1)] = true := by decide +kernel
theorem d_Mod_place_76 : decode prog_13_method_12_code 76 = .ok (.getfield 123, 3) := by decide +kernel
theorem d_Mod_place_79 : decode prog_13_method_12_code 79 = .ok (.ifCond .ne 26, 3) := by decide +kernel
theorem b_Mod_place_82 : tf_dec prog_13_method_12_code 82 [(.aload_n 0, 1)] = true := by decide +kernel
theorem d_Mod_place_83 : decode prog_13_method_12_code 83 = .ok (.getfield 7, 3) := by decide +kernel
theorem b_Mod_place_86 : tf_dec prog_13_method_12_code 86 [(.sipush 160, 3), (.iload_n 1, 1), (.imul, 1), (.iconst 4, 1), (.iload_n 2, 1), (.imul, 1), (.iadd, 1), (.iload_n 3, 1), (.iadd, 1), (.iload 4, 2), (.iload 5, 2)] = true := by decide +kernel
theorem d_Mod_place_101 : decode prog_13_method_12_code 101 = .ok (.invokestatic 155, 3) := by decide +kernel
theorem d_Mod_place_104 : decode prog_13_method_12_code 104 = .ok (.iastore, 1) := by decide +kernel
theorem d_Mod_place_105 : decode prog_13_method_12_code 105 = .ok (.return_, 1) := by decide +kernel
theorem b_Mod_isShift_0 : tf_dec prog_13_method_13_code 0 [(.iload_n 0, 1), (.sipush (-4000), 3)] = true := by decide +kernel
theorem d_Mod_isShift_4 : decode prog_13_method_13_code 4 = .ok (.if_icmp .lt 14, 3) := by decide +kernel
theorem b_Mod_isShift_7 : tf_dec prog_13_method_13_code 7 [(.iload_n 0, 1), (.sipush 4000, 3)] = true := by decide +kernel
theorem d_Mod_isShift_11 : decode prog_13_method_13_code 11 = .ok (.if_icmp .gt 7, 3) := by decide +kernel
theorem b_Mod_isShift_14 : tf_dec prog_13_method_13_code 14 [(.iconst 1, 1)] = true := by decide +kernel
theorem d_Mod_isShift_15 : decode prog_13_method_13_code 15 = .ok (.goto 4, 3) := by decide +kernel
theorem b_Mod_isShift_18 : tf_dec prog_13_method_13_code 18 [(.iconst 0, 1)] = true := by decide +kernel
theorem d_Mod_isShift_19 : decode prog_13_method_13_code 19 = .ok (.ireturn, 1) := by decide +kernel
theorem b_Mod_componentPoints_0 : tf_dec prog_13_method_14_code 0 [(.iconst 0, 1), (.istore_n 2, 1), (.iconst 0, 1), (.istore_n 3, 1)] = true := by decide +kernel
theorem b_Mod_componentPoints_4 : tf_dec prog_13_method_14_code 4 [(.iload_n 3, 1), (.aload_n 0, 1)] = true := by decide +kernel
theorem d_Mod_componentPoints_6 : decode prog_13_method_14_code 6 = .ok (.getfield 39, 3) := by decide +kernel
theorem b_Mod_componentPoints_9 : tf_dec prog_13_method_14_code 9 [(.iload_n 1, 1)] = true := by decide +kernel
theorem d_Mod_componentPoints_10 : decode prog_13_method_14_code 10 = .ok (.iaload, 1) := by decide +kernel
theorem d_Mod_componentPoints_11 : decode prog_13_method_14_code 11 = .ok (.if_icmp .ge 27, 3) := by decide +kernel
theorem b_Mod_componentPoints_14 : tf_dec prog_13_method_14_code 14 [(.iload_n 2, 1), (.aload_n 0, 1)] = true := by decide +kernel
theorem d_Mod_componentPoints_16 : decode prog_13_method_14_code 16 = .ok (.getfield 36, 3) := by decide +kernel
theorem b_Mod_componentPoints_19 : tf_dec prog_13_method_14_code 19 [(.aload_n 0, 1)] = true := by decide +kernel
theorem d_Mod_componentPoints_20 : decode prog_13_method_14_code 20 = .ok (.getfield 42, 3) := by decide +kernel
theorem b_Mod_componentPoints_23 : tf_dec prog_13_method_14_code 23 [(.iconst 4, 1), (.iload_n 1, 1), (.imul, 1), (.iload_n 3, 1), (.iadd, 1)] = true := by decide +kernel
theorem d_Mod_componentPoints_28 : decode prog_13_method_14_code 28 = .ok (.iaload, 1) := by decide +kernel
theorem d_Mod_componentPoints_29 : decode prog_13_method_14_code 29 = .ok (.iaload, 1) := by decide +kernel
theorem b_Mod_componentPoints_30 : tf_dec prog_13_method_14_code 30 [(.iadd, 1), (.istore_n 2, 1), (.iinc 3 1, 3)] = true := by decide +kernel
theorem d_Mod_componentPoints_35 : decode prog_13_method_14_code 35 = .ok (.goto (-31), 3) := by decide +kernel
theorem b_Mod_componentPoints_38 : tf_dec prog_13_method_14_code 38 [(.iload_n 2, 1)] = true := by decide +kernel
theorem d_Mod_componentPoints_39 : decode prog_13_method_14_code 39 = .ok (.ireturn, 1) := by decide +kernel
theorem b_Mod_component_0 : tf_dec prog_13_method_15_code 0 [(.aload_n 0, 1), (.iload_n 1, 1)] = true := by decide +kernel
theorem d_Mod_component_2 : decode prog_13_method_15_code 2 = .ok (.invokevirtual 148, 3) := by decide +kernel
theorem d_Mod_component_5 : decode prog_13_method_15_code 5 = .ok (.ifCond .eq 47, 3) := by decide +kernel
theorem b_Mod_component_8 : tf_dec prog_13_method_15_code 8 [(.aload_n 0, 1), (.iload_n 2, 1)] = true := by decide +kernel
theorem d_Mod_component_10 : decode prog_13_method_15_code 10 = .ok (.invokevirtual 148, 3) := by decide +kernel
theorem d_Mod_component_13 : decode prog_13_method_15_code 13 = .ok (.ifCond .eq 39, 3) := by decide +kernel
theorem b_Mod_component_16 : tf_dec prog_13_method_15_code 16 [(.iload_n 1, 1), (.iload_n 2, 1)] = true := by decide +kernel
theorem d_Mod_component_18 : decode prog_13_method_15_code 18 = .ok (.if_icmp .eq 34, 3) := by decide +kernel
theorem b_Mod_component_21 : tf_dec prog_13_method_15_code 21 [(.iload_n 3, 1)] = true := by decide +kernel
theorem d_Mod_component_22 : decode prog_13_method_15_code 22 = .ok (.invokestatic 159, 3) := by decide +kernel
theorem d_Mod_component_25 : decode prog_13_method_15_code 25 = .ok (.ifCond .eq 27, 3) := by decide +kernel
theorem b_Mod_component_28 : tf_dec prog_13_method_15_code 28 [(.iload 4, 2)] = true := by decide +kernel
theorem d_Mod_component_30 : decode prog_13_method_15_code 30 = .ok (.invokestatic 159, 3) := by decide +kernel
theorem d_Mod_component_33 : decode prog_13_method_15_code 33 = .ok (.ifCond .eq 19, 3) := by decide +kernel
theorem b_Mod_component_36 : tf_dec prog_13_method_15_code 36 [(.iload 5, 2)] = true := by decide +kernel
theorem d_Mod_component_38 : decode prog_13_method_15_code 38 = .ok (.ifCond .lt 14, 3) := by decide +kernel
theorem b_Mod_component_41 : tf_dec prog_13_method_15_code 41 [(.iload 5, 2), (.bipush 8, 2)] = true := by decide +kernel
theorem d_Mod_component_45 : decode prog_13_method_15_code 45 = .ok (.if_icmp .ge 7, 3) := by decide +kernel
theorem b_Mod_component_48 : tf_dec prog_13_method_15_code 48 [(.iconst 1, 1)] = true := by decide +kernel
theorem d_Mod_component_49 : decode prog_13_method_15_code 49 = .ok (.goto 4, 3) := by decide +kernel
theorem b_Mod_component_52 : tf_dec prog_13_method_15_code 52 [(.iconst 0, 1)] = true := by decide +kernel
theorem b_Mod_component_53 : tf_dec prog_13_method_15_code 53 [(.istore 6, 2), (.aload_n 0, 1), (.iload 6, 2)] = true := by decide +kernel
theorem d_Mod_component_58 : decode prog_13_method_15_code 58 = .ok (.ifCond .ne 7, 3) := by decide +kernel
theorem b_Mod_component_61 : tf_dec prog_13_method_15_code 61 [(.iconst 1, 1)] = true := by decide +kernel
theorem d_Mod_component_62 : decode prog_13_method_15_code 62 = .ok (.goto 54, 3) := by decide +kernel
theorem b_Mod_component_65 : tf_dec prog_13_method_15_code 65 [(.aload_n 0, 1)] = true := by decide +kernel
theorem d_Mod_component_66 : decode prog_13_method_15_code 66 = .ok (.getfield 29, 3) := by decide +kernel
theorem b_Mod_component_69 : tf_dec prog_13_method_15_code 69 [(.iload_n 1, 1)] = true := by decide +kernel
theorem d_Mod_component_70 : decode prog_13_method_15_code 70 = .ok (.baload, 1) := by decide +kernel
theorem d_Mod_component_71 : decode prog_13_method_15_code 71 = .ok (.ifCond .ne 40, 3) := by decide +kernel
theorem b_Mod_component_74 : tf_dec prog_13_method_15_code 74 [(.aload_n 0, 1)] = true := by decide +kernel
theorem d_Mod_component_75 : decode prog_13_method_15_code 75 = .ok (.getfield 39, 3) := by decide +kernel
theorem b_Mod_component_78 : tf_dec prog_13_method_15_code 78 [(.iload_n 1, 1)] = true := by decide +kernel
theorem d_Mod_component_79 : decode prog_13_method_15_code 79 = .ok (.iaload, 1) := by decide +kernel
theorem b_Mod_component_80 : tf_dec prog_13_method_15_code 80 [(.iconst 4, 1)] = true := by decide +kernel
theorem d_Mod_component_81 : decode prog_13_method_15_code 81 = .ok (.if_icmp .eq 30, 3) := by decide +kernel
theorem b_Mod_component_84 : tf_dec prog_13_method_15_code 84 [(.aload_n 0, 1)] = true := by decide +kernel
theorem d_Mod_component_85 : decode prog_13_method_15_code 85 = .ok (.getfield 33, 3) := by decide +kernel
theorem b_Mod_component_88 : tf_dec prog_13_method_15_code 88 [(.iload_n 2, 1)] = true := by decide +kernel
theorem d_Mod_component_89 : decode prog_13_method_15_code 89 = .ok (.iaload, 1) := by decide +kernel
theorem b_Mod_component_90 : tf_dec prog_13_method_15_code 90 [(.iconst 3, 1)] = true := by decide +kernel
theorem d_Mod_component_91 : decode prog_13_method_15_code 91 = .ok (.if_icmp .gt 20, 3) := by decide +kernel
theorem b_Mod_component_94 : tf_dec prog_13_method_15_code 94 [(.aload_n 0, 1), (.iload_n 1, 1)] = true := by decide +kernel
theorem d_Mod_component_96 : decode prog_13_method_15_code 96 = .ok (.invokevirtual 162, 3) := by decide +kernel
theorem b_Mod_component_99 : tf_dec prog_13_method_15_code 99 [(.aload_n 0, 1)] = true := by decide +kernel
theorem d_Mod_component_100 : decode prog_13_method_15_code 100 = .ok (.getfield 36, 3) := by decide +kernel
theorem b_Mod_component_103 : tf_dec prog_13_method_15_code 103 [(.iload_n 2, 1)] = true := by decide +kernel
theorem d_Mod_component_104 : decode prog_13_method_15_code 104 = .ok (.iaload, 1) := by decide +kernel
theorem b_Mod_component_105 : tf_dec prog_13_method_15_code 105 [(.iadd, 1), (.bipush 120, 2)] = true := by decide +kernel
theorem d_Mod_component_108 : decode prog_13_method_15_code 108 = .ok (.if_icmp .le 7, 3) := by decide +kernel
theorem b_Mod_component_111 : tf_dec prog_13_method_15_code 111 [(.iconst 2, 1)] = true := by decide +kernel
theorem d_Mod_component_112 : decode prog_13_method_15_code 112 = .ok (.goto 4, 3) := by decide +kernel
theorem b_Mod_component_115 : tf_dec prog_13_method_15_code 115 [(.iconst 0, 1)] = true := by decide +kernel
theorem d_Mod_component_116 : decode prog_13_method_15_code 116 = .ok (.putfield 123, 3) := by decide +kernel
theorem b_Mod_component_119 : tf_dec prog_13_method_15_code 119 [(.aload_n 0, 1)] = true := by decide +kernel
theorem d_Mod_component_120 : decode prog_13_method_15_code 120 = .ok (.getfield 123, 3) := by decide +kernel
theorem d_Mod_component_123 : decode prog_13_method_15_code 123 = .ok (.ifCond .le 4, 3) := by decide +kernel
theorem d_Mod_component_126 : decode prog_13_method_15_code 126 = .ok (.return_, 1) := by decide +kernel
theorem b_Mod_component_127 : tf_dec prog_13_method_15_code 127 [(.iconst 4, 1), (.iload_n 1, 1), (.imul, 1), (.aload_n 0, 1)] = true := by decide +kernel
theorem d_Mod_component_131 : decode prog_13_method_15_code 131 = .ok (.getfield 39, 3) := by decide +kernel
theorem b_Mod_component_134 : tf_dec prog_13_method_15_code 134 [(.iload_n 1, 1)] = true := by decide +kernel
theorem d_Mod_component_135 : decode prog_13_method_15_code 135 = .ok (.iaload, 1) := by decide +kernel
theorem b_Mod_component_136 : tf_dec prog_13_method_15_code 136 [(.iadd, 1), (.istore 7, 2), (.aload_n 0, 1)] = true := by decide +kernel
theorem d_Mod_component_140 : decode prog_13_method_15_code 140 = .ok (.getfield 42, 3) := by decide +kernel
theorem b_Mod_component_143 : tf_dec prog_13_method_15_code 143 [(.iload 7, 2), (.iload_n 2, 1)] = true := by decide +kernel
theorem d_Mod_component_146 : decode prog_13_method_15_code 146 = .ok (.iastore, 1) := by decide +kernel
theorem b_Mod_component_147 : tf_dec prog_13_method_15_code 147 [(.aload_n 0, 1)] = true := by decide +kernel
theorem d_Mod_component_148 : decode prog_13_method_15_code 148 = .ok (.getfield 45, 3) := by decide +kernel
theorem b_Mod_component_151 : tf_dec prog_13_method_15_code 151 [(.iload 7, 2), (.iload_n 3, 1)] = true := by decide +kernel
theorem d_Mod_component_154 : decode prog_13_method_15_code 154 = .ok (.iastore, 1) := by decide +kernel
theorem b_Mod_component_155 : tf_dec prog_13_method_15_code 155 [(.aload_n 0, 1)] = true := by decide +kernel
theorem d_Mod_component_156 : decode prog_13_method_15_code 156 = .ok (.getfield 48, 3) := by decide +kernel
theorem b_Mod_component_159 : tf_dec prog_13_method_15_code 159 [(.iload 7, 2), (.iload 4, 2)] = true := by decide +kernel
theorem d_Mod_component_163 : decode prog_13_method_15_code 163 = .ok (.iastore, 1) := by decide +kernel
theorem b_Mod_component_164 : tf_dec prog_13_method_15_code 164 [(.aload_n 0, 1)] = true := by decide +kernel
theorem d_Mod_component_165 : decode prog_13_method_15_code 165 = .ok (.getfield 51, 3) := by decide +kernel
theorem b_Mod_component_168 : tf_dec prog_13_method_15_code 168 [(.iload 7, 2), (.iload 5, 2)] = true := by decide +kernel
theorem d_Mod_component_172 : decode prog_13_method_15_code 172 = .ok (.iastore, 1) := by decide +kernel
theorem b_Mod_component_173 : tf_dec prog_13_method_15_code 173 [(.aload_n 0, 1)] = true := by decide +kernel
theorem d_Mod_component_174 : decode prog_13_method_15_code 174 = .ok (.getfield 39, 3) := by decide +kernel
theorem b_Mod_component_177 : tf_dec prog_13_method_15_code 177 [(.iload_n 1, 1), (.dup2, 1)] = true := by decide +kernel
theorem d_Mod_component_179 : decode prog_13_method_15_code 179 = .ok (.iaload, 1) := by decide +kernel
theorem b_Mod_component_180 : tf_dec prog_13_method_15_code 180 [(.iconst 1, 1), (.iadd, 1)] = true := by decide +kernel
theorem d_Mod_component_182 : decode prog_13_method_15_code 182 = .ok (.iastore, 1) := by decide +kernel
theorem b_Mod_component_183 : tf_dec prog_13_method_15_code 183 [(.aload_n 0, 1)] = true := by decide +kernel
theorem d_Mod_component_184 : decode prog_13_method_15_code 184 = .ok (.getfield 36, 3) := by decide +kernel
theorem b_Mod_component_187 : tf_dec prog_13_method_15_code 187 [(.iload_n 1, 1), (.dup2, 1)] = true := by decide +kernel
theorem d_Mod_component_189 : decode prog_13_method_15_code 189 = .ok (.iaload, 1) := by decide +kernel
theorem b_Mod_component_190 : tf_dec prog_13_method_15_code 190 [(.aload_n 0, 1)] = true := by decide +kernel
theorem d_Mod_component_191 : decode prog_13_method_15_code 191 = .ok (.getfield 36, 3) := by decide +kernel
theorem b_Mod_component_194 : tf_dec prog_13_method_15_code 194 [(.iload_n 2, 1)] = true := by decide +kernel
theorem d_Mod_component_195 : decode prog_13_method_15_code 195 = .ok (.iaload, 1) := by decide +kernel
theorem b_Mod_component_196 : tf_dec prog_13_method_15_code 196 [(.iadd, 1)] = true := by decide +kernel
theorem d_Mod_component_197 : decode prog_13_method_15_code 197 = .ok (.iastore, 1) := by decide +kernel
theorem b_Mod_component_198 : tf_dec prog_13_method_15_code 198 [(.aload_n 0, 1)] = true := by decide +kernel
theorem d_Mod_component_199 : decode prog_13_method_15_code 199 = .ok (.getfield 33, 3) := by decide +kernel
theorem b_Mod_component_202 : tf_dec prog_13_method_15_code 202 [(.iload_n 1, 1), (.aload_n 0, 1)] = true := by decide +kernel
theorem d_Mod_component_204 : decode prog_13_method_15_code 204 = .ok (.getfield 33, 3) := by decide +kernel
theorem b_Mod_component_207 : tf_dec prog_13_method_15_code 207 [(.iload_n 2, 1)] = true := by decide +kernel
theorem d_Mod_component_208 : decode prog_13_method_15_code 208 = .ok (.iaload, 1) := by decide +kernel
theorem b_Mod_component_209 : tf_dec prog_13_method_15_code 209 [(.iconst 1, 1), (.iadd, 1), (.aload_n 0, 1)] = true := by decide +kernel
theorem d_Mod_component_212 : decode prog_13_method_15_code 212 = .ok (.getfield 33, 3) := by decide +kernel
theorem b_Mod_component_215 : tf_dec prog_13_method_15_code 215 [(.iload_n 1, 1)] = true := by decide +kernel
theorem d_Mod_component_216 : decode prog_13_method_15_code 216 = .ok (.iaload, 1) := by decide +kernel
theorem d_Mod_component_217 : decode prog_13_method_15_code 217 = .ok (.if_icmp .le 14, 3) := by decide +kernel
theorem b_Mod_component_220 : tf_dec prog_13_method_15_code 220 [(.aload_n 0, 1)] = true := by decide +kernel
theorem d_Mod_component_221 : decode prog_13_method_15_code 221 = .ok (.getfield 33, 3) := by decide +kernel
theorem b_Mod_component_224 : tf_dec prog_13_method_15_code 224 [(.iload_n 2, 1)] = true := by decide +kernel
theorem d_Mod_component_225 : decode prog_13_method_15_code 225 = .ok (.iaload, 1) := by decide +kernel
theorem b_Mod_component_226 : tf_dec prog_13_method_15_code 226 [(.iconst 1, 1), (.iadd, 1)] = true := by decide +kernel
theorem d_Mod_component_228 : decode prog_13_method_15_code 228 = .ok (.goto 9, 3) := by decide +kernel
theorem b_Mod_component_231 : tf_dec prog_13_method_15_code 231 [(.aload_n 0, 1)] = true := by decide +kernel
theorem d_Mod_component_232 : decode prog_13_method_15_code 232 = .ok (.getfield 33, 3) := by decide +kernel
theorem b_Mod_component_235 : tf_dec prog_13_method_15_code 235 [(.iload_n 1, 1)] = true := by decide +kernel
theorem d_Mod_component_236 : decode prog_13_method_15_code 236 = .ok (.iaload, 1) := by decide +kernel
theorem d_Mod_component_237 : decode prog_13_method_15_code 237 = .ok (.iastore, 1) := by decide +kernel
theorem b_Mod_component_238 : tf_dec prog_13_method_15_code 238 [(.aload_n 0, 1)] = true := by decide +kernel
theorem d_Mod_component_239 : decode prog_13_method_15_code 239 = .ok (.getfield 29, 3) := by decide +kernel
theorem b_Mod_component_242 : tf_dec prog_13_method_15_code 242 [(.iload_n 2, 1), (.iconst 1, 1)] = true := by decide +kernel
theorem d_Mod_component_244 : decode prog_13_method_15_code 244 = .ok (.bastore, 1) := by decide +kernel
theorem d_Mod_component_245 : decode prog_13_method_15_code 245 = .ok (.return_, 1) := by decide +kernel
theorem b_Mod_advance_0 : tf_dec prog_13_method_16_code 0 [(.aload_n 0, 1), (.iconst 0, 1)] = true := by decide +kernel
theorem d_Mod_advance_2 : decode prog_13_method_16_code 2 = .ok (.putfield 123, 3) := by decide +kernel
theorem b_Mod_advance_5 : tf_dec prog_13_method_16_code 5 [(.aload_n 0, 1), (.iload_n 1, 1)] = true := by decide +kernel
theorem d_Mod_advance_7 : decode prog_13_method_16_code 7 = .ok (.invokevirtual 148, 3) := by decide +kernel
theorem d_Mod_advance_10 : decode prog_13_method_16_code 10 = .ok (.ifCond .eq 26, 3) := by decide +kernel
theorem b_Mod_advance_13 : tf_dec prog_13_method_16_code 13 [(.iload_n 2, 1)] = true := by decide +kernel
theorem d_Mod_advance_14 : decode prog_13_method_16_code 14 = .ok (.ifCond .lt 22, 3) := by decide +kernel
theorem b_Mod_advance_17 : tf_dec prog_13_method_16_code 17 [(.iload_n 2, 1), (.aload_n 0, 1)] = true := by decide +kernel
theorem d_Mod_advance_19 : decode prog_13_method_16_code 19 = .ok (.getfield 119, 3) := by decide +kernel
theorem d_Mod_advance_22 : decode prog_13_method_16_code 22 = .ok (.if_icmp .ge 14, 3) := by decide +kernel
theorem b_Mod_advance_25 : tf_dec prog_13_method_16_code 25 [(.iload_n 3, 1)] = true := by decide +kernel
theorem d_Mod_advance_26 : decode prog_13_method_16_code 26 = .ok (.ifCond .lt 10, 3) := by decide +kernel
theorem b_Mod_advance_29 : tf_dec prog_13_method_16_code 29 [(.iload_n 3, 1), (.sipush 4000, 3)] = true := by decide +kernel
theorem d_Mod_advance_33 : decode prog_13_method_16_code 33 = .ok (.if_icmp .le 5, 3) := by decide +kernel
theorem b_Mod_advance_36 : tf_dec prog_13_method_16_code 36 [(.iconst 0, 1)] = true := by decide +kernel
theorem d_Mod_advance_37 : decode prog_13_method_16_code 37 = .ok (.ireturn, 1) := by decide +kernel
theorem b_Mod_advance_38 : tf_dec prog_13_method_16_code 38 [(.aload_n 0, 1)] = true := by decide +kernel
theorem d_Mod_advance_39 : decode prog_13_method_16_code 39 = .ok (.getfield 26, 3) := by decide +kernel
theorem b_Mod_advance_42 : tf_dec prog_13_method_16_code 42 [(.iconst 4, 1), (.iload_n 1, 1), (.imul, 1), (.iload_n 2, 1), (.iadd, 1), (.iload_n 3, 1)] = true := by decide +kernel
theorem d_Mod_advance_48 : decode prog_13_method_16_code 48 = .ok (.iastore, 1) := by decide +kernel
theorem b_Mod_advance_49 : tf_dec prog_13_method_16_code 49 [(.iconst 1, 1)] = true := by decide +kernel
theorem d_Mod_advance_50 : decode prog_13_method_16_code 50 = .ok (.ireturn, 1) := by decide +kernel
theorem b_Mod_instance_0 : tf_dec prog_13_method_17_code 0 [(.aload_n 0, 1), (.iconst 0, 1)] = true := by decide +kernel
theorem d_Mod_instance_2 : decode prog_13_method_17_code 2 = .ok (.putfield 123, 3) := by decide +kernel
theorem b_Mod_instance_5 : tf_dec prog_13_method_17_code 5 [(.iload_n 1, 1)] = true := by decide +kernel
theorem d_Mod_instance_6 : decode prog_13_method_17_code 6 = .ok (.ifCond .lt 21, 3) := by decide +kernel
theorem b_Mod_instance_9 : tf_dec prog_13_method_17_code 9 [(.iload_n 1, 1), (.sipush 1024, 3)] = true := by decide +kernel
theorem d_Mod_instance_13 : decode prog_13_method_17_code 13 = .ok (.if_icmp .gt 14, 3) := by decide +kernel
theorem b_Mod_instance_16 : tf_dec prog_13_method_17_code 16 [(.iload_n 2, 1)] = true := by decide +kernel
theorem d_Mod_instance_17 : decode prog_13_method_17_code 17 = .ok (.ifCond .lt 10, 3) := by decide +kernel
theorem b_Mod_instance_20 : tf_dec prog_13_method_17_code 20 [(.iload_n 2, 1), (.sipush 1024, 3)] = true := by decide +kernel
theorem d_Mod_instance_24 : decode prog_13_method_17_code 24 = .ok (.if_icmp .le 5, 3) := by decide +kernel
theorem b_Mod_instance_27 : tf_dec prog_13_method_17_code 27 [(.iconst 0, 1)] = true := by decide +kernel
theorem d_Mod_instance_28 : decode prog_13_method_17_code 28 = .ok (.ireturn, 1) := by decide +kernel
theorem b_Mod_instance_29 : tf_dec prog_13_method_17_code 29 [(.aload_n 0, 1), (.iload_n 1, 1)] = true := by decide +kernel
theorem d_Mod_instance_31 : decode prog_13_method_17_code 31 = .ok (.putfield 132, 3) := by decide +kernel
theorem b_Mod_instance_34 : tf_dec prog_13_method_17_code 34 [(.aload_n 0, 1), (.iload_n 2, 1)] = true := by decide +kernel
theorem d_Mod_instance_36 : decode prog_13_method_17_code 36 = .ok (.putfield 135, 3) := by decide +kernel
theorem b_Mod_instance_39 : tf_dec prog_13_method_17_code 39 [(.iconst 1, 1)] = true := by decide +kernel
theorem d_Mod_instance_40 : decode prog_13_method_17_code 40 = .ok (.ireturn, 1) := by decide +kernel
theorem b_Mod_xOf_0 : tf_dec prog_13_method_18_code 0 [(.aload_n 0, 1)] = true := by decide +kernel
theorem d_Mod_xOf_1 : decode prog_13_method_18_code 1 = .ok (.getfield 7, 3) := by decide +kernel
theorem b_Mod_xOf_4 : tf_dec prog_13_method_18_code 4 [(.iconst 4, 1), (.iload_n 1, 1), (.imul, 1), (.iload_n 2, 1), (.iadd, 1)] = true := by decide +kernel
theorem d_Mod_xOf_9 : decode prog_13_method_18_code 9 = .ok (.iaload, 1) := by decide +kernel
theorem b_Mod_xOf_10 : tf_dec prog_13_method_18_code 10 [(.bipush 16, 2), (.iushr, 1), (.sipush 8192, 3), (.isub, 1)] = true := by decide +kernel
theorem d_Mod_xOf_17 : decode prog_13_method_18_code 17 = .ok (.ireturn, 1) := by decide +kernel
theorem b_Mod_yOf_0 : tf_dec prog_13_method_19_code 0 [(.aload_n 0, 1)] = true := by decide +kernel
theorem d_Mod_yOf_1 : decode prog_13_method_19_code 1 = .ok (.getfield 7, 3) := by decide +kernel
theorem b_Mod_yOf_4 : tf_dec prog_13_method_19_code 4 [(.iconst 4, 1), (.iload_n 1, 1), (.imul, 1), (.iload_n 2, 1), (.iadd, 1)] = true := by decide +kernel
theorem d_Mod_yOf_9 : decode prog_13_method_19_code 9 = .ok (.iaload, 1) := by decide +kernel
theorem d_Mod_yOf_10 : decode prog_13_method_19_code 10 = .ok (.ldc 166, 2) := by decide +kernel
theorem b_Mod_yOf_12 : tf_dec prog_13_method_19_code 12 [(.iand, 1), (.sipush 8192, 3), (.isub, 1)] = true := by decide +kernel
theorem d_Mod_yOf_17 : decode prog_13_method_19_code 17 = .ok (.ireturn, 1) := by decide +kernel
theorem b_Mod_turnPoint_0 : tf_dec prog_13_method_20_code 0 [(.aload_n 0, 1), (.aload_n 0, 1), (.iload_n 1, 1), (.iconst 0, 1)] = true := by decide +kernel
theorem d_Mod_turnPoint_4 : decode prog_13_method_20_code 4 = .ok (.invokevirtual 167, 3) := by decide +kernel
theorem b_Mod_turnPoint_7 : tf_dec prog_13_method_20_code 7 [(.aload_n 0, 1), (.iload_n 1, 1), (.iconst 1, 1)] = true := by decide +kernel
theorem d_Mod_turnPoint_10 : decode prog_13_method_20_code 10 = .ok (.invokevirtual 167, 3) := by decide +kernel
theorem b_Mod_turnPoint_13 : tf_dec prog_13_method_20_code 13 [(.aload_n 0, 1), (.iload_n 1, 1), (.iconst 2, 1)] = true := by decide +kernel
theorem d_Mod_turnPoint_16 : decode prog_13_method_20_code 16 = .ok (.invokevirtual 167, 3) := by decide +kernel
theorem b_Mod_turnPoint_19 : tf_dec prog_13_method_20_code 19 [(.aload_n 0, 1), (.iload_n 1, 1), (.iconst 3, 1)] = true := by decide +kernel
theorem d_Mod_turnPoint_22 : decode prog_13_method_20_code 22 = .ok (.invokevirtual 167, 3) := by decide +kernel
theorem d_Mod_turnPoint_25 : decode prog_13_method_20_code 25 = .ok (.invokevirtual 170, 3) := by decide +kernel
theorem b_Mod_turnPoint_28 : tf_dec prog_13_method_20_code 28 [(.istore_n 3, 1), (.aload_n 0, 1), (.aload_n 0, 1), (.iload_n 1, 1), (.iconst 0, 1)] = true := by decide +kernel
theorem d_Mod_turnPoint_33 : decode prog_13_method_20_code 33 = .ok (.invokevirtual 174, 3) := by decide +kernel
theorem b_Mod_turnPoint_36 : tf_dec prog_13_method_20_code 36 [(.aload_n 0, 1), (.iload_n 1, 1), (.iconst 1, 1)] = true := by decide +kernel
theorem d_Mod_turnPoint_39 : decode prog_13_method_20_code 39 = .ok (.invokevirtual 174, 3) := by decide +kernel
theorem b_Mod_turnPoint_42 : tf_dec prog_13_method_20_code 42 [(.aload_n 0, 1), (.iload_n 1, 1), (.iconst 2, 1)] = true := by decide +kernel
theorem d_Mod_turnPoint_45 : decode prog_13_method_20_code 45 = .ok (.invokevirtual 174, 3) := by decide +kernel
theorem b_Mod_turnPoint_48 : tf_dec prog_13_method_20_code 48 [(.aload_n 0, 1), (.iload_n 1, 1), (.iconst 3, 1)] = true := by decide +kernel
theorem d_Mod_turnPoint_51 : decode prog_13_method_20_code 51 = .ok (.invokevirtual 174, 3) := by decide +kernel
theorem d_Mod_turnPoint_54 : decode prog_13_method_20_code 54 = .ok (.invokevirtual 170, 3) := by decide +kernel
theorem b_Mod_turnPoint_57 : tf_dec prog_13_method_20_code 57 [(.istore 4, 2), (.iload_n 2, 1), (.iconst 1, 1), (.isub, 1), (.istore 5, 2)] = true := by decide +kernel
theorem b_Mod_turnPoint_64 : tf_dec prog_13_method_20_code 64 [(.iload 5, 2)] = true := by decide +kernel
theorem d_Mod_turnPoint_66 : decode prog_13_method_20_code 66 = .ok (.ifCond .lt 104, 3) := by decide +kernel
theorem b_Mod_turnPoint_69 : tf_dec prog_13_method_20_code 69 [(.iconst 4, 1), (.aload_n 0, 1)] = true := by decide +kernel
theorem d_Mod_turnPoint_71 : decode prog_13_method_20_code 71 = .ok (.getfield 66, 3) := by decide +kernel
theorem b_Mod_turnPoint_74 : tf_dec prog_13_method_20_code 74 [(.iload 5, 2)] = true := by decide +kernel
theorem d_Mod_turnPoint_76 : decode prog_13_method_20_code 76 = .ok (.iaload, 1) := by decide +kernel
theorem b_Mod_turnPoint_77 : tf_dec prog_13_method_20_code 77 [(.imul, 1), (.aload_n 0, 1)] = true := by decide +kernel
theorem d_Mod_turnPoint_79 : decode prog_13_method_20_code 79 = .ok (.getfield 69, 3) := by decide +kernel
theorem b_Mod_turnPoint_82 : tf_dec prog_13_method_20_code 82 [(.iload 5, 2)] = true := by decide +kernel
theorem d_Mod_turnPoint_84 : decode prog_13_method_20_code 84 = .ok (.iaload, 1) := by decide +kernel
theorem b_Mod_turnPoint_85 : tf_dec prog_13_method_20_code 85 [(.iadd, 1), (.iconst 1, 1), (.isub, 1), (.istore 6, 2), (.aload_n 0, 1)] = true := by decide +kernel
theorem d_Mod_turnPoint_91 : decode prog_13_method_20_code 91 = .ok (.getfield 51, 3) := by decide +kernel
theorem b_Mod_turnPoint_94 : tf_dec prog_13_method_20_code 94 [(.iload 6, 2)] = true := by decide +kernel
theorem d_Mod_turnPoint_96 : decode prog_13_method_20_code 96 = .ok (.iaload, 1) := by decide +kernel
theorem b_Mod_turnPoint_97 : tf_dec prog_13_method_20_code 97 [(.iconst 3, 1)] = true := by decide +kernel
theorem d_Mod_turnPoint_98 : decode prog_13_method_20_code 98 = .ok (.if_icmp .le 8, 3) := by decide +kernel
theorem b_Mod_turnPoint_101 : tf_dec prog_13_method_20_code 101 [(.iload_n 3, 1), (.ineg, 1)] = true := by decide +kernel
theorem d_Mod_turnPoint_103 : decode prog_13_method_20_code 103 = .ok (.goto 4, 3) := by decide +kernel
theorem b_Mod_turnPoint_106 : tf_dec prog_13_method_20_code 106 [(.iload_n 3, 1)] = true := by decide +kernel
theorem b_Mod_turnPoint_107 : tf_dec prog_13_method_20_code 107 [(.istore_n 3, 1), (.iconst 0, 1), (.istore 7, 2)] = true := by decide +kernel
theorem b_Mod_turnPoint_111 : tf_dec prog_13_method_20_code 111 [(.iload 7, 2), (.aload_n 0, 1)] = true := by decide +kernel
theorem d_Mod_turnPoint_114 : decode prog_13_method_20_code 114 = .ok (.getfield 51, 3) := by decide +kernel
theorem b_Mod_turnPoint_117 : tf_dec prog_13_method_20_code 117 [(.iload 6, 2)] = true := by decide +kernel
theorem d_Mod_turnPoint_119 : decode prog_13_method_20_code 119 = .ok (.iaload, 1) := by decide +kernel
theorem b_Mod_turnPoint_120 : tf_dec prog_13_method_20_code 120 [(.iconst 4, 1)] = true := by decide +kernel
theorem d_Mod_turnPoint_121 : decode prog_13_method_20_code 121 = .ok (.irem, 1) := by decide +kernel
theorem d_Mod_turnPoint_122 : decode prog_13_method_20_code 122 = .ok (.if_icmp .ge 20, 3) := by decide +kernel
theorem b_Mod_turnPoint_125 : tf_dec prog_13_method_20_code 125 [(.iload_n 3, 1), (.istore 8, 2), (.iload 4, 2), (.ineg, 1), (.istore_n 3, 1), (.iload 8, 2), (.istore 4, 2), (.iinc 7 1, 3)] = true := by decide +kernel
theorem d_Mod_turnPoint_139 : decode prog_13_method_20_code 139 = .ok (.goto (-28), 3) := by decide +kernel
theorem b_Mod_turnPoint_142 : tf_dec prog_13_method_20_code 142 [(.iload_n 3, 1), (.aload_n 0, 1)] = true := by decide +kernel
theorem d_Mod_turnPoint_144 : decode prog_13_method_20_code 144 = .ok (.getfield 45, 3) := by decide +kernel
theorem b_Mod_turnPoint_147 : tf_dec prog_13_method_20_code 147 [(.iload 6, 2)] = true := by decide +kernel
theorem d_Mod_turnPoint_149 : decode prog_13_method_20_code 149 = .ok (.iaload, 1) := by decide +kernel
theorem b_Mod_turnPoint_150 : tf_dec prog_13_method_20_code 150 [(.iadd, 1), (.istore_n 3, 1), (.iload 4, 2), (.aload_n 0, 1)] = true := by decide +kernel
theorem d_Mod_turnPoint_155 : decode prog_13_method_20_code 155 = .ok (.getfield 48, 3) := by decide +kernel
theorem b_Mod_turnPoint_158 : tf_dec prog_13_method_20_code 158 [(.iload 6, 2)] = true := by decide +kernel
theorem d_Mod_turnPoint_160 : decode prog_13_method_20_code 160 = .ok (.iaload, 1) := by decide +kernel
theorem b_Mod_turnPoint_161 : tf_dec prog_13_method_20_code 161 [(.iadd, 1), (.istore 4, 2), (.iinc 5 (-1), 3)] = true := by decide +kernel
theorem d_Mod_turnPoint_167 : decode prog_13_method_20_code 167 = .ok (.goto (-103), 3) := by decide +kernel
theorem b_Mod_turnPoint_170 : tf_dec prog_13_method_20_code 170 [(.aload_n 0, 1), (.iload_n 3, 1)] = true := by decide +kernel
theorem d_Mod_turnPoint_172 : decode prog_13_method_20_code 172 = .ok (.putfield 177, 3) := by decide +kernel
theorem b_Mod_turnPoint_175 : tf_dec prog_13_method_20_code 175 [(.aload_n 0, 1), (.iload 4, 2)] = true := by decide +kernel
theorem d_Mod_turnPoint_178 : decode prog_13_method_20_code 178 = .ok (.putfield 180, 3) := by decide +kernel
theorem d_Mod_turnPoint_181 : decode prog_13_method_20_code 181 = .ok (.return_, 1) := by decide +kernel
theorem b_Mod_tellContours_0 : tf_dec prog_13_method_21_code 0 [(.aload_n 0, 1)] = true := by decide +kernel
theorem d_Mod_tellContours_1 : decode prog_13_method_21_code 1 = .ok (.getfield 66, 3) := by decide +kernel
theorem b_Mod_tellContours_4 : tf_dec prog_13_method_21_code 4 [(.iload_n 1, 1)] = true := by decide +kernel
theorem d_Mod_tellContours_5 : decode prog_13_method_21_code 5 = .ok (.iaload, 1) := by decide +kernel
theorem b_Mod_tellContours_6 : tf_dec prog_13_method_21_code 6 [(.istore_n 2, 1), (.iconst 0, 1), (.istore_n 3, 1), (.iconst 0, 1), (.istore 4, 2)] = true := by decide +kernel
theorem b_Mod_tellContours_12 : tf_dec prog_13_method_21_code 12 [(.iload 4, 2), (.iload_n 1, 1)] = true := by decide +kernel
theorem d_Mod_tellContours_15 : decode prog_13_method_21_code 15 = .ok (.if_icmp .ge 52, 3) := by decide +kernel
theorem b_Mod_tellContours_18 : tf_dec prog_13_method_21_code 18 [(.iload_n 3, 1), (.aload_n 0, 1)] = true := by decide +kernel
theorem d_Mod_tellContours_20 : decode prog_13_method_21_code 20 = .ok (.getfield 51, 3) := by decide +kernel
theorem b_Mod_tellContours_23 : tf_dec prog_13_method_21_code 23 [(.iconst 4, 1), (.aload_n 0, 1)] = true := by decide +kernel
theorem d_Mod_tellContours_25 : decode prog_13_method_21_code 25 = .ok (.getfield 66, 3) := by decide +kernel
theorem b_Mod_tellContours_28 : tf_dec prog_13_method_21_code 28 [(.iload 4, 2)] = true := by decide +kernel
theorem d_Mod_tellContours_30 : decode prog_13_method_21_code 30 = .ok (.iaload, 1) := by decide +kernel
theorem b_Mod_tellContours_31 : tf_dec prog_13_method_21_code 31 [(.imul, 1), (.aload_n 0, 1)] = true := by decide +kernel
theorem d_Mod_tellContours_33 : decode prog_13_method_21_code 33 = .ok (.getfield 69, 3) := by decide +kernel
theorem b_Mod_tellContours_36 : tf_dec prog_13_method_21_code 36 [(.iload 4, 2)] = true := by decide +kernel
theorem d_Mod_tellContours_38 : decode prog_13_method_21_code 38 = .ok (.iaload, 1) := by decide +kernel
theorem b_Mod_tellContours_39 : tf_dec prog_13_method_21_code 39 [(.iadd, 1), (.iconst 1, 1), (.isub, 1)] = true := by decide +kernel
theorem d_Mod_tellContours_42 : decode prog_13_method_21_code 42 = .ok (.iaload, 1) := by decide +kernel
theorem b_Mod_tellContours_43 : tf_dec prog_13_method_21_code 43 [(.iconst 3, 1)] = true := by decide +kernel
theorem d_Mod_tellContours_44 : decode prog_13_method_21_code 44 = .ok (.if_icmp .le 7, 3) := by decide +kernel
theorem b_Mod_tellContours_47 : tf_dec prog_13_method_21_code 47 [(.iconst 1, 1)] = true := by decide +kernel
theorem d_Mod_tellContours_48 : decode prog_13_method_21_code 48 = .ok (.goto 4, 3) := by decide +kernel
theorem b_Mod_tellContours_51 : tf_dec prog_13_method_21_code 51 [(.iconst 0, 1)] = true := by decide +kernel
theorem d_Mod_tellContours_52 : decode prog_13_method_21_code 52 = .ok (.if_icmp .eq 7, 3) := by decide +kernel
theorem b_Mod_tellContours_55 : tf_dec prog_13_method_21_code 55 [(.iconst 1, 1)] = true := by decide +kernel
theorem d_Mod_tellContours_56 : decode prog_13_method_21_code 56 = .ok (.goto 4, 3) := by decide +kernel
theorem b_Mod_tellContours_59 : tf_dec prog_13_method_21_code 59 [(.iconst 0, 1)] = true := by decide +kernel
theorem b_Mod_tellContours_60 : tf_dec prog_13_method_21_code 60 [(.istore_n 3, 1), (.iinc 4 1, 3)] = true := by decide +kernel
theorem d_Mod_tellContours_64 : decode prog_13_method_21_code 64 = .ok (.goto (-52), 3) := by decide +kernel
theorem b_Mod_tellContours_67 : tf_dec prog_13_method_21_code 67 [(.iconst 0, 1), (.istore 4, 2)] = true := by decide +kernel
theorem b_Mod_tellContours_70 : tf_dec prog_13_method_21_code 70 [(.iload 4, 2), (.aload_n 0, 1)] = true := by decide +kernel
theorem d_Mod_tellContours_73 : decode prog_13_method_21_code 73 = .ok (.getfield 23, 3) := by decide +kernel
theorem b_Mod_tellContours_76 : tf_dec prog_13_method_21_code 76 [(.iload_n 2, 1)] = true := by decide +kernel
theorem d_Mod_tellContours_77 : decode prog_13_method_21_code 77 = .ok (.iaload, 1) := by decide +kernel
theorem d_Mod_tellContours_78 : decode prog_13_method_21_code 78 = .ok (.if_icmp .ge 163, 3) := by decide +kernel
theorem b_Mod_tellContours_81 : tf_dec prog_13_method_21_code 81 [(.iconst 0, 1), (.istore 5, 2)] = true := by decide +kernel
theorem b_Mod_tellContours_84 : tf_dec prog_13_method_21_code 84 [(.iload 5, 2), (.aload_n 0, 1)] = true := by decide +kernel
theorem d_Mod_tellContours_87 : decode prog_13_method_21_code 87 = .ok (.getfield 20, 3) := by decide +kernel
theorem b_Mod_tellContours_90 : tf_dec prog_13_method_21_code 90 [(.iload_n 2, 1)] = true := by decide +kernel
theorem d_Mod_tellContours_91 : decode prog_13_method_21_code 91 = .ok (.iaload, 1) := by decide +kernel
theorem d_Mod_tellContours_92 : decode prog_13_method_21_code 92 = .ok (.if_icmp .ge 133, 3) := by decide +kernel
theorem b_Mod_tellContours_95 : tf_dec prog_13_method_21_code 95 [(.bipush 40, 2), (.iload_n 2, 1), (.imul, 1), (.iload_n 3, 1)] = true := by decide +kernel
theorem d_Mod_tellContours_100 : decode prog_13_method_21_code 100 = .ok (.ifCond .eq 17, 3) := by decide +kernel
theorem b_Mod_tellContours_103 : tf_dec prog_13_method_21_code 103 [(.aload_n 0, 1)] = true := by decide +kernel
theorem d_Mod_tellContours_104 : decode prog_13_method_21_code 104 = .ok (.getfield 20, 3) := by decide +kernel
theorem b_Mod_tellContours_107 : tf_dec prog_13_method_21_code 107 [(.iload_n 2, 1)] = true := by decide +kernel
theorem d_Mod_tellContours_108 : decode prog_13_method_21_code 108 = .ok (.iaload, 1) := by decide +kernel
theorem b_Mod_tellContours_109 : tf_dec prog_13_method_21_code 109 [(.iconst 1, 1), (.isub, 1), (.iload 5, 2), (.isub, 1)] = true := by decide +kernel
theorem d_Mod_tellContours_114 : decode prog_13_method_21_code 114 = .ok (.goto 5, 3) := by decide +kernel
theorem b_Mod_tellContours_117 : tf_dec prog_13_method_21_code 117 [(.iload 5, 2)] = true := by decide +kernel
theorem b_Mod_tellContours_119 : tf_dec prog_13_method_21_code 119 [(.iadd, 1), (.istore 6, 2), (.aload_n 0, 1)] = true := by decide +kernel
theorem d_Mod_tellContours_123 : decode prog_13_method_21_code 123 = .ok (.getfield 13, 3) := by decide +kernel
theorem b_Mod_tellContours_126 : tf_dec prog_13_method_21_code 126 [(.iload 6, 2)] = true := by decide +kernel
theorem d_Mod_tellContours_128 : decode prog_13_method_21_code 128 = .ok (.baload, 1) := by decide +kernel
theorem b_Mod_tellContours_129 : tf_dec prog_13_method_21_code 129 [(.iconst 1, 1), (.ishr, 1), (.iload 4, 2)] = true := by decide +kernel
theorem d_Mod_tellContours_133 : decode prog_13_method_21_code 133 = .ok (.if_icmp .ne 86, 3) := by decide +kernel
theorem b_Mod_tellContours_136 : tf_dec prog_13_method_21_code 136 [(.aload_n 0, 1), (.iload 6, 2), (.iload_n 1, 1)] = true := by decide +kernel
theorem d_Mod_tellContours_140 : decode prog_13_method_21_code 140 = .ok (.invokevirtual 183, 3) := by decide +kernel
theorem b_Mod_tellContours_143 : tf_dec prog_13_method_21_code 143 [(.aload_n 0, 1)] = true := by decide +kernel
theorem d_Mod_tellContours_144 : decode prog_13_method_21_code 144 = .ok (.getfield 54, 3) := by decide +kernel
theorem b_Mod_tellContours_147 : tf_dec prog_13_method_21_code 147 [(.aload_n 0, 1)] = true := by decide +kernel
theorem d_Mod_tellContours_148 : decode prog_13_method_21_code 148 = .ok (.getfield 187, 3) := by decide +kernel
theorem b_Mod_tellContours_151 : tf_dec prog_13_method_21_code 151 [(.aload_n 0, 1)] = true := by decide +kernel
theorem d_Mod_tellContours_152 : decode prog_13_method_21_code 152 = .ok (.getfield 177, 3) := by decide +kernel
theorem d_Mod_tellContours_155 : decode prog_13_method_21_code 155 = .ok (.iastore, 1) := by decide +kernel
theorem b_Mod_tellContours_156 : tf_dec prog_13_method_21_code 156 [(.aload_n 0, 1)] = true := by decide +kernel
theorem d_Mod_tellContours_157 : decode prog_13_method_21_code 157 = .ok (.getfield 57, 3) := by decide +kernel
theorem b_Mod_tellContours_160 : tf_dec prog_13_method_21_code 160 [(.aload_n 0, 1)] = true := by decide +kernel
theorem d_Mod_tellContours_161 : decode prog_13_method_21_code 161 = .ok (.getfield 187, 3) := by decide +kernel
theorem b_Mod_tellContours_164 : tf_dec prog_13_method_21_code 164 [(.aload_n 0, 1)] = true := by decide +kernel
theorem d_Mod_tellContours_165 : decode prog_13_method_21_code 165 = .ok (.getfield 180, 3) := by decide +kernel
theorem d_Mod_tellContours_168 : decode prog_13_method_21_code 168 = .ok (.iastore, 1) := by decide +kernel
theorem b_Mod_tellContours_169 : tf_dec prog_13_method_21_code 169 [(.aload_n 0, 1)] = true := by decide +kernel
theorem d_Mod_tellContours_170 : decode prog_13_method_21_code 170 = .ok (.getfield 60, 3) := by decide +kernel
theorem b_Mod_tellContours_173 : tf_dec prog_13_method_21_code 173 [(.aload_n 0, 1)] = true := by decide +kernel
theorem d_Mod_tellContours_174 : decode prog_13_method_21_code 174 = .ok (.getfield 187, 3) := by decide +kernel
theorem b_Mod_tellContours_177 : tf_dec prog_13_method_21_code 177 [(.aload_n 0, 1)] = true := by decide +kernel
theorem d_Mod_tellContours_178 : decode prog_13_method_21_code 178 = .ok (.getfield 13, 3) := by decide +kernel
theorem b_Mod_tellContours_181 : tf_dec prog_13_method_21_code 181 [(.iload 6, 2)] = true := by decide +kernel
theorem d_Mod_tellContours_183 : decode prog_13_method_21_code 183 = .ok (.baload, 1) := by decide +kernel
theorem b_Mod_tellContours_184 : tf_dec prog_13_method_21_code 184 [(.iconst 1, 1), (.iand, 1), (.iconst 1, 1)] = true := by decide +kernel
theorem d_Mod_tellContours_187 : decode prog_13_method_21_code 187 = .ok (.if_icmp .ne 7, 3) := by decide +kernel
theorem b_Mod_tellContours_190 : tf_dec prog_13_method_21_code 190 [(.iconst 1, 1)] = true := by decide +kernel
theorem d_Mod_tellContours_191 : decode prog_13_method_21_code 191 = .ok (.goto 4, 3) := by decide +kernel
theorem b_Mod_tellContours_194 : tf_dec prog_13_method_21_code 194 [(.iconst 0, 1)] = true := by decide +kernel
theorem d_Mod_tellContours_195 : decode prog_13_method_21_code 195 = .ok (.bastore, 1) := by decide +kernel
theorem b_Mod_tellContours_196 : tf_dec prog_13_method_21_code 196 [(.aload_n 0, 1)] = true := by decide +kernel
theorem d_Mod_tellContours_197 : decode prog_13_method_21_code 197 = .ok (.getfield 63, 3) := by decide +kernel
theorem b_Mod_tellContours_200 : tf_dec prog_13_method_21_code 200 [(.aload_n 0, 1)] = true := by decide +kernel
theorem d_Mod_tellContours_201 : decode prog_13_method_21_code 201 = .ok (.getfield 187, 3) := by decide +kernel
theorem b_Mod_tellContours_204 : tf_dec prog_13_method_21_code 204 [(.aload_n 0, 1)] = true := by decide +kernel
theorem d_Mod_tellContours_205 : decode prog_13_method_21_code 205 = .ok (.getfield 190, 3) := by decide +kernel
theorem d_Mod_tellContours_208 : decode prog_13_method_21_code 208 = .ok (.iastore, 1) := by decide +kernel
theorem b_Mod_tellContours_209 : tf_dec prog_13_method_21_code 209 [(.aload_n 0, 1), (.dup, 1)] = true := by decide +kernel
theorem d_Mod_tellContours_211 : decode prog_13_method_21_code 211 = .ok (.getfield 187, 3) := by decide +kernel
theorem b_Mod_tellContours_214 : tf_dec prog_13_method_21_code 214 [(.iconst 1, 1), (.iadd, 1)] = true := by decide +kernel
theorem d_Mod_tellContours_216 : decode prog_13_method_21_code 216 = .ok (.putfield 187, 3) := by decide +kernel
theorem b_Mod_tellContours_219 : tf_dec prog_13_method_21_code 219 [(.iinc 5 1, 3)] = true := by decide +kernel
theorem d_Mod_tellContours_222 : decode prog_13_method_21_code 222 = .ok (.goto (-138), 3) := by decide +kernel
theorem b_Mod_tellContours_225 : tf_dec prog_13_method_21_code 225 [(.aload_n 0, 1), (.dup, 1)] = true := by decide +kernel
theorem d_Mod_tellContours_227 : decode prog_13_method_21_code 227 = .ok (.getfield 190, 3) := by decide +kernel
theorem b_Mod_tellContours_230 : tf_dec prog_13_method_21_code 230 [(.iconst 1, 1), (.iadd, 1)] = true := by decide +kernel
theorem d_Mod_tellContours_232 : decode prog_13_method_21_code 232 = .ok (.putfield 190, 3) := by decide +kernel
theorem b_Mod_tellContours_235 : tf_dec prog_13_method_21_code 235 [(.iinc 4 1, 3)] = true := by decide +kernel
theorem d_Mod_tellContours_238 : decode prog_13_method_21_code 238 = .ok (.goto (-168), 3) := by decide +kernel
theorem d_Mod_tellContours_241 : decode prog_13_method_21_code 241 = .ok (.return_, 1) := by decide +kernel
theorem b_Mod_tell_0 : tf_dec prog_13_method_22_code 0 [(.aload_n 0, 1), (.iconst 0, 1)] = true := by decide +kernel
theorem d_Mod_tell_2 : decode prog_13_method_22_code 2 = .ok (.putfield 187, 3) := by decide +kernel
theorem b_Mod_tell_5 : tf_dec prog_13_method_22_code 5 [(.aload_n 0, 1), (.iconst 0, 1)] = true := by decide +kernel
theorem d_Mod_tell_7 : decode prog_13_method_22_code 7 = .ok (.putfield 190, 3) := by decide +kernel
theorem b_Mod_tell_10 : tf_dec prog_13_method_22_code 10 [(.aload_n 0, 1)] = true := by decide +kernel
theorem d_Mod_tell_11 : decode prog_13_method_22_code 11 = .ok (.getfield 66, 3) := by decide +kernel
theorem b_Mod_tell_14 : tf_dec prog_13_method_22_code 14 [(.iconst 0, 1), (.iload_n 1, 1)] = true := by decide +kernel
theorem d_Mod_tell_16 : decode prog_13_method_22_code 16 = .ok (.iastore, 1) := by decide +kernel
theorem b_Mod_tell_17 : tf_dec prog_13_method_22_code 17 [(.aload_n 0, 1)] = true := by decide +kernel
theorem d_Mod_tell_18 : decode prog_13_method_22_code 18 = .ok (.getfield 69, 3) := by decide +kernel
theorem b_Mod_tell_21 : tf_dec prog_13_method_22_code 21 [(.iconst 0, 1), (.iconst 0, 1)] = true := by decide +kernel
theorem d_Mod_tell_23 : decode prog_13_method_22_code 23 = .ok (.iastore, 1) := by decide +kernel
theorem b_Mod_tell_24 : tf_dec prog_13_method_22_code 24 [(.iconst 0, 1), (.istore_n 2, 1), (.aload_n 0, 1), (.iconst 0, 1)] = true := by decide +kernel
theorem d_Mod_tell_28 : decode prog_13_method_22_code 28 = .ok (.invokevirtual 193, 3) := by decide +kernel
theorem b_Mod_tell_31 : tf_dec prog_13_method_22_code 31 [(.iload_n 2, 1)] = true := by decide +kernel
theorem d_Mod_tell_32 : decode prog_13_method_22_code 32 = .ok (.ifCond .lt 82, 3) := by decide +kernel
theorem b_Mod_tell_35 : tf_dec prog_13_method_22_code 35 [(.aload_n 0, 1)] = true := by decide +kernel
theorem d_Mod_tell_36 : decode prog_13_method_22_code 36 = .ok (.getfield 66, 3) := by decide +kernel
theorem b_Mod_tell_39 : tf_dec prog_13_method_22_code 39 [(.iload_n 2, 1)] = true := by decide +kernel
theorem d_Mod_tell_40 : decode prog_13_method_22_code 40 = .ok (.iaload, 1) := by decide +kernel
theorem b_Mod_tell_41 : tf_dec prog_13_method_22_code 41 [(.istore_n 3, 1), (.aload_n 0, 1)] = true := by decide +kernel
theorem d_Mod_tell_43 : decode prog_13_method_22_code 43 = .ok (.getfield 69, 3) := by decide +kernel
theorem b_Mod_tell_46 : tf_dec prog_13_method_22_code 46 [(.iload_n 2, 1)] = true := by decide +kernel
theorem d_Mod_tell_47 : decode prog_13_method_22_code 47 = .ok (.iaload, 1) := by decide +kernel
theorem b_Mod_tell_48 : tf_dec prog_13_method_22_code 48 [(.aload_n 0, 1)] = true := by decide +kernel
theorem d_Mod_tell_49 : decode prog_13_method_22_code 49 = .ok (.getfield 39, 3) := by decide +kernel
theorem b_Mod_tell_52 : tf_dec prog_13_method_22_code 52 [(.iload_n 3, 1)] = true := by decide +kernel
theorem d_Mod_tell_53 : decode prog_13_method_22_code 53 = .ok (.iaload, 1) := by decide +kernel
theorem d_Mod_tell_54 : decode prog_13_method_22_code 54 = .ok (.if_icmp .ne 9, 3) := by decide +kernel
theorem b_Mod_tell_57 : tf_dec prog_13_method_22_code 57 [(.iinc 2 (-1), 3)] = true := by decide +kernel
theorem d_Mod_tell_60 : decode prog_13_method_22_code 60 = .ok (.goto 51, 3) := by decide +kernel
theorem b_Mod_tell_63 : tf_dec prog_13_method_22_code 63 [(.aload_n 0, 1)] = true := by decide +kernel
theorem d_Mod_tell_64 : decode prog_13_method_22_code 64 = .ok (.getfield 66, 3) := by decide +kernel
theorem b_Mod_tell_67 : tf_dec prog_13_method_22_code 67 [(.iload_n 2, 1), (.iconst 1, 1), (.iadd, 1), (.aload_n 0, 1)] = true := by decide +kernel
theorem d_Mod_tell_71 : decode prog_13_method_22_code 71 = .ok (.getfield 42, 3) := by decide +kernel
theorem b_Mod_tell_74 : tf_dec prog_13_method_22_code 74 [(.iconst 4, 1), (.iload_n 3, 1), (.imul, 1), (.aload_n 0, 1)] = true := by decide +kernel
theorem d_Mod_tell_78 : decode prog_13_method_22_code 78 = .ok (.getfield 69, 3) := by decide +kernel
theorem b_Mod_tell_81 : tf_dec prog_13_method_22_code 81 [(.iload_n 2, 1)] = true := by decide +kernel
theorem d_Mod_tell_82 : decode prog_13_method_22_code 82 = .ok (.iaload, 1) := by decide +kernel
theorem b_Mod_tell_83 : tf_dec prog_13_method_22_code 83 [(.iadd, 1)] = true := by decide +kernel
theorem d_Mod_tell_84 : decode prog_13_method_22_code 84 = .ok (.iaload, 1) := by decide +kernel
theorem d_Mod_tell_85 : decode prog_13_method_22_code 85 = .ok (.iastore, 1) := by decide +kernel
theorem b_Mod_tell_86 : tf_dec prog_13_method_22_code 86 [(.aload_n 0, 1)] = true := by decide +kernel
theorem d_Mod_tell_87 : decode prog_13_method_22_code 87 = .ok (.getfield 69, 3) := by decide +kernel
theorem b_Mod_tell_90 : tf_dec prog_13_method_22_code 90 [(.iload_n 2, 1), (.dup2, 1)] = true := by decide +kernel
theorem d_Mod_tell_92 : decode prog_13_method_22_code 92 = .ok (.iaload, 1) := by decide +kernel
theorem b_Mod_tell_93 : tf_dec prog_13_method_22_code 93 [(.iconst 1, 1), (.iadd, 1)] = true := by decide +kernel
theorem d_Mod_tell_95 : decode prog_13_method_22_code 95 = .ok (.iastore, 1) := by decide +kernel
theorem b_Mod_tell_96 : tf_dec prog_13_method_22_code 96 [(.iinc 2 1, 3), (.aload_n 0, 1)] = true := by decide +kernel
theorem d_Mod_tell_100 : decode prog_13_method_22_code 100 = .ok (.getfield 69, 3) := by decide +kernel
theorem b_Mod_tell_103 : tf_dec prog_13_method_22_code 103 [(.iload_n 2, 1), (.iconst 0, 1)] = true := by decide +kernel
theorem d_Mod_tell_105 : decode prog_13_method_22_code 105 = .ok (.iastore, 1) := by decide +kernel
theorem b_Mod_tell_106 : tf_dec prog_13_method_22_code 106 [(.aload_n 0, 1), (.iload_n 2, 1)] = true := by decide +kernel
theorem d_Mod_tell_108 : decode prog_13_method_22_code 108 = .ok (.invokevirtual 193, 3) := by decide +kernel
theorem d_Mod_tell_111 : decode prog_13_method_22_code 111 = .ok (.goto (-80), 3) := by decide +kernel
theorem d_Mod_tell_114 : decode prog_13_method_22_code 114 = .ok (.return_, 1) := by decide +kernel
theorem b_Mod_widthOf_0 : tf_dec prog_13_method_23_code 0 [(.aload_n 0, 1), (.aload_n 0, 1)] = true := by decide +kernel
theorem d_Mod_widthOf_2 : decode prog_13_method_23_code 2 = .ok (.getfield 26, 3) := by decide +kernel
theorem b_Mod_widthOf_5 : tf_dec prog_13_method_23_code 5 [(.iconst 4, 1), (.iload_n 1, 1), (.imul, 1)] = true := by decide +kernel
theorem d_Mod_widthOf_8 : decode prog_13_method_23_code 8 = .ok (.iaload, 1) := by decide +kernel
theorem b_Mod_widthOf_9 : tf_dec prog_13_method_23_code 9 [(.aload_n 0, 1)] = true := by decide +kernel
theorem d_Mod_widthOf_10 : decode prog_13_method_23_code 10 = .ok (.getfield 26, 3) := by decide +kernel
theorem b_Mod_widthOf_13 : tf_dec prog_13_method_23_code 13 [(.iconst 4, 1), (.iload_n 1, 1), (.imul, 1), (.iconst 1, 1), (.iadd, 1)] = true := by decide +kernel
theorem d_Mod_widthOf_18 : decode prog_13_method_23_code 18 = .ok (.iaload, 1) := by decide +kernel
theorem b_Mod_widthOf_19 : tf_dec prog_13_method_23_code 19 [(.aload_n 0, 1)] = true := by decide +kernel
theorem d_Mod_widthOf_20 : decode prog_13_method_23_code 20 = .ok (.getfield 26, 3) := by decide +kernel
theorem b_Mod_widthOf_23 : tf_dec prog_13_method_23_code 23 [(.iconst 4, 1), (.iload_n 1, 1), (.imul, 1), (.iconst 2, 1), (.iadd, 1)] = true := by decide +kernel
theorem d_Mod_widthOf_28 : decode prog_13_method_23_code 28 = .ok (.iaload, 1) := by decide +kernel
theorem b_Mod_widthOf_29 : tf_dec prog_13_method_23_code 29 [(.aload_n 0, 1)] = true := by decide +kernel
theorem d_Mod_widthOf_30 : decode prog_13_method_23_code 30 = .ok (.getfield 26, 3) := by decide +kernel
theorem b_Mod_widthOf_33 : tf_dec prog_13_method_23_code 33 [(.iconst 4, 1), (.iload_n 1, 1), (.imul, 1), (.iconst 3, 1), (.iadd, 1)] = true := by decide +kernel
theorem d_Mod_widthOf_38 : decode prog_13_method_23_code 38 = .ok (.iaload, 1) := by decide +kernel
theorem d_Mod_widthOf_39 : decode prog_13_method_23_code 39 = .ok (.invokevirtual 170, 3) := by decide +kernel
theorem d_Mod_widthOf_42 : decode prog_13_method_23_code 42 = .ok (.ireturn, 1) := by decide +kernel
theorem b_Mod_outline_0 : tf_dec prog_13_method_24_code 0 [(.aload_n 0, 1), (.aload_n 0, 1), (.iload_n 1, 1)] = true := by decide +kernel
theorem d_Mod_outline_3 : decode prog_13_method_24_code 3 = .ok (.invokevirtual 148, 3) := by decide +kernel
theorem d_Mod_outline_6 : decode prog_13_method_24_code 6 = .ok (.ifCond .eq 17, 3) := by decide +kernel
theorem b_Mod_outline_9 : tf_dec prog_13_method_24_code 9 [(.iload_n 3, 1)] = true := by decide +kernel
theorem d_Mod_outline_10 : decode prog_13_method_24_code 10 = .ok (.ifCond .lt 13, 3) := by decide +kernel
theorem b_Mod_outline_13 : tf_dec prog_13_method_24_code 13 [(.iload_n 3, 1), (.iconst 3, 1)] = true := by decide +kernel
theorem d_Mod_outline_15 : decode prog_13_method_24_code 15 = .ok (.if_icmp .gt 8, 3) := by decide +kernel
theorem b_Mod_outline_18 : tf_dec prog_13_method_24_code 18 [(.iload_n 2, 1), (.iconst (-1), 1)] = true := by decide +kernel
theorem d_Mod_outline_20 : decode prog_13_method_24_code 20 = .ok (.if_icmp .ge 7, 3) := by decide +kernel
theorem b_Mod_outline_23 : tf_dec prog_13_method_24_code 23 [(.iconst 1, 1)] = true := by decide +kernel
theorem d_Mod_outline_24 : decode prog_13_method_24_code 24 = .ok (.goto 4, 3) := by decide +kernel
theorem b_Mod_outline_27 : tf_dec prog_13_method_24_code 27 [(.iconst 0, 1)] = true := by decide +kernel
theorem d_Mod_outline_28 : decode prog_13_method_24_code 28 = .ok (.putfield 123, 3) := by decide +kernel
theorem b_Mod_outline_31 : tf_dec prog_13_method_24_code 31 [(.aload_n 0, 1)] = true := by decide +kernel
theorem d_Mod_outline_32 : decode prog_13_method_24_code 32 = .ok (.getfield 123, 3) := by decide +kernel
theorem d_Mod_outline_35 : decode prog_13_method_24_code 35 = .ok (.ifCond .le 5, 3) := by decide +kernel
theorem b_Mod_outline_38 : tf_dec prog_13_method_24_code 38 [(.iconst 0, 1)] = true := by decide +kernel
theorem d_Mod_outline_39 : decode prog_13_method_24_code 39 = .ok (.ireturn, 1) := by decide +kernel
theorem b_Mod_outline_40 : tf_dec prog_13_method_24_code 40 [(.aload_n 0, 1), (.iload_n 1, 1)] = true := by decide +kernel
theorem d_Mod_outline_42 : decode prog_13_method_24_code 42 = .ok (.invokevirtual 197, 3) := by decide +kernel
theorem b_Mod_outline_45 : tf_dec prog_13_method_24_code 45 [(.aload_n 0, 1), (.iload_n 2, 1), (.aload_n 0, 1)] = true := by decide +kernel
theorem d_Mod_outline_48 : decode prog_13_method_24_code 48 = .ok (.getfield 187, 3) := by decide +kernel
theorem d_Mod_outline_51 : decode prog_13_method_24_code 51 = .ok (.if_icmp .lt 7, 3) := by decide +kernel
theorem b_Mod_outline_54 : tf_dec prog_13_method_24_code 54 [(.iconst 1, 1)] = true := by decide +kernel
theorem d_Mod_outline_55 : decode prog_13_method_24_code 55 = .ok (.goto 4, 3) := by decide +kernel
theorem b_Mod_outline_58 : tf_dec prog_13_method_24_code 58 [(.iconst 0, 1)] = true := by decide +kernel
theorem d_Mod_outline_59 : decode prog_13_method_24_code 59 = .ok (.putfield 123, 3) := by decide +kernel
theorem b_Mod_outline_62 : tf_dec prog_13_method_24_code 62 [(.aload_n 0, 1)] = true := by decide +kernel
theorem d_Mod_outline_63 : decode prog_13_method_24_code 63 = .ok (.getfield 123, 3) := by decide +kernel
theorem d_Mod_outline_66 : decode prog_13_method_24_code 66 = .ok (.ifCond .le 5, 3) := by decide +kernel
theorem b_Mod_outline_69 : tf_dec prog_13_method_24_code 69 [(.iconst 0, 1)] = true := by decide +kernel
theorem d_Mod_outline_70 : decode prog_13_method_24_code 70 = .ok (.ireturn, 1) := by decide +kernel
theorem b_Mod_outline_71 : tf_dec prog_13_method_24_code 71 [(.iload_n 2, 1), (.iconst (-1), 1)] = true := by decide +kernel
theorem d_Mod_outline_73 : decode prog_13_method_24_code 73 = .ok (.if_icmp .ne 46, 3) := by decide +kernel
theorem b_Mod_outline_76 : tf_dec prog_13_method_24_code 76 [(.iload_n 3, 1)] = true := by decide +kernel
theorem d_Mod_outline_77 : decode prog_13_method_24_code 77 = .ok (.ifCond .ne 10, 3) := by decide +kernel
theorem b_Mod_outline_80 : tf_dec prog_13_method_24_code 80 [(.aload_n 0, 1)] = true := by decide +kernel
theorem d_Mod_outline_81 : decode prog_13_method_24_code 81 = .ok (.getfield 187, 3) := by decide +kernel
theorem d_Mod_outline_84 : decode prog_13_method_24_code 84 = .ok (.goto 34, 3) := by decide +kernel
theorem b_Mod_outline_87 : tf_dec prog_13_method_24_code 87 [(.iload_n 3, 1), (.iconst 1, 1)] = true := by decide +kernel
theorem d_Mod_outline_89 : decode prog_13_method_24_code 89 = .ok (.if_icmp .ne 10, 3) := by decide +kernel
theorem b_Mod_outline_92 : tf_dec prog_13_method_24_code 92 [(.aload_n 0, 1)] = true := by decide +kernel
theorem d_Mod_outline_93 : decode prog_13_method_24_code 93 = .ok (.getfield 190, 3) := by decide +kernel
theorem d_Mod_outline_96 : decode prog_13_method_24_code 96 = .ok (.goto 22, 3) := by decide +kernel
theorem b_Mod_outline_99 : tf_dec prog_13_method_24_code 99 [(.iload_n 3, 1), (.iconst 2, 1)] = true := by decide +kernel
theorem d_Mod_outline_101 : decode prog_13_method_24_code 101 = .ok (.if_icmp .ne 11, 3) := by decide +kernel
theorem b_Mod_outline_104 : tf_dec prog_13_method_24_code 104 [(.aload_n 0, 1), (.iload_n 1, 1)] = true := by decide +kernel
theorem d_Mod_outline_106 : decode prog_13_method_24_code 106 = .ok (.invokevirtual 200, 3) := by decide +kernel
theorem d_Mod_outline_109 : decode prog_13_method_24_code 109 = .ok (.goto 9, 3) := by decide +kernel
theorem b_Mod_outline_112 : tf_dec prog_13_method_24_code 112 [(.aload_n 0, 1)] = true := by decide +kernel
theorem d_Mod_outline_113 : decode prog_13_method_24_code 113 = .ok (.getfield 33, 3) := by decide +kernel
theorem b_Mod_outline_116 : tf_dec prog_13_method_24_code 116 [(.iload_n 1, 1)] = true := by decide +kernel
theorem d_Mod_outline_117 : decode prog_13_method_24_code 117 = .ok (.iaload, 1) := by decide +kernel
theorem d_Mod_outline_118 : decode prog_13_method_24_code 118 = .ok (.ireturn, 1) := by decide +kernel
theorem b_Mod_outline_119 : tf_dec prog_13_method_24_code 119 [(.iload_n 3, 1)] = true := by decide +kernel
theorem d_Mod_outline_120 : decode prog_13_method_24_code 120 = .ok (.ifCond .ne 12, 3) := by decide +kernel
theorem b_Mod_outline_123 : tf_dec prog_13_method_24_code 123 [(.aload_n 0, 1)] = true := by decide +kernel
theorem d_Mod_outline_124 : decode prog_13_method_24_code 124 = .ok (.getfield 54, 3) := by decide +kernel
theorem b_Mod_outline_127 : tf_dec prog_13_method_24_code 127 [(.iload_n 2, 1)] = true := by decide +kernel
theorem d_Mod_outline_128 : decode prog_13_method_24_code 128 = .ok (.iaload, 1) := by decide +kernel
theorem d_Mod_outline_129 : decode prog_13_method_24_code 129 = .ok (.goto 45, 3) := by decide +kernel
theorem b_Mod_outline_132 : tf_dec prog_13_method_24_code 132 [(.iload_n 3, 1), (.iconst 1, 1)] = true := by decide +kernel
theorem d_Mod_outline_134 : decode prog_13_method_24_code 134 = .ok (.if_icmp .ne 12, 3) := by decide +kernel
theorem b_Mod_outline_137 : tf_dec prog_13_method_24_code 137 [(.aload_n 0, 1)] = true := by decide +kernel
theorem d_Mod_outline_138 : decode prog_13_method_24_code 138 = .ok (.getfield 57, 3) := by decide +kernel
theorem b_Mod_outline_141 : tf_dec prog_13_method_24_code 141 [(.iload_n 2, 1)] = true := by decide +kernel
theorem d_Mod_outline_142 : decode prog_13_method_24_code 142 = .ok (.iaload, 1) := by decide +kernel
theorem d_Mod_outline_143 : decode prog_13_method_24_code 143 = .ok (.goto 31, 3) := by decide +kernel
theorem b_Mod_outline_146 : tf_dec prog_13_method_24_code 146 [(.iload_n 3, 1), (.iconst 2, 1)] = true := by decide +kernel
theorem d_Mod_outline_148 : decode prog_13_method_24_code 148 = .ok (.if_icmp .ne 20, 3) := by decide +kernel
theorem b_Mod_outline_151 : tf_dec prog_13_method_24_code 151 [(.aload_n 0, 1)] = true := by decide +kernel
theorem d_Mod_outline_152 : decode prog_13_method_24_code 152 = .ok (.getfield 60, 3) := by decide +kernel
theorem b_Mod_outline_155 : tf_dec prog_13_method_24_code 155 [(.iload_n 2, 1)] = true := by decide +kernel
theorem d_Mod_outline_156 : decode prog_13_method_24_code 156 = .ok (.baload, 1) := by decide +kernel
theorem d_Mod_outline_157 : decode prog_13_method_24_code 157 = .ok (.ifCond .eq 7, 3) := by decide +kernel
theorem b_Mod_outline_160 : tf_dec prog_13_method_24_code 160 [(.iconst 1, 1)] = true := by decide +kernel
theorem d_Mod_outline_161 : decode prog_13_method_24_code 161 = .ok (.goto 13, 3) := by decide +kernel
theorem b_Mod_outline_164 : tf_dec prog_13_method_24_code 164 [(.iconst 0, 1)] = true := by decide +kernel
theorem d_Mod_outline_165 : decode prog_13_method_24_code 165 = .ok (.goto 9, 3) := by decide +kernel
theorem b_Mod_outline_168 : tf_dec prog_13_method_24_code 168 [(.aload_n 0, 1)] = true := by decide +kernel
theorem d_Mod_outline_169 : decode prog_13_method_24_code 169 = .ok (.getfield 63, 3) := by decide +kernel
theorem b_Mod_outline_172 : tf_dec prog_13_method_24_code 172 [(.iload_n 2, 1)] = true := by decide +kernel
theorem d_Mod_outline_173 : decode prog_13_method_24_code 173 = .ok (.iaload, 1) := by decide +kernel
theorem d_Mod_outline_174 : decode prog_13_method_24_code 174 = .ok (.ireturn, 1) := by decide +kernel
theorem b_Mod_height_0 : tf_dec prog_13_method_25_code 0 [(.aload_n 0, 1), (.iconst 0, 1)] = true := by decide +kernel
theorem d_Mod_height_2 : decode prog_13_method_25_code 2 = .ok (.putfield 123, 3) := by decide +kernel
theorem b_Mod_height_5 : tf_dec prog_13_method_25_code 5 [(.iconst 0, 1), (.istore_n 2, 1), (.iconst 0, 1), (.istore_n 3, 1)] = true := by decide +kernel
theorem b_Mod_height_9 : tf_dec prog_13_method_25_code 9 [(.iload_n 3, 1), (.aload_n 0, 1)] = true := by decide +kernel
theorem d_Mod_height_11 : decode prog_13_method_25_code 11 = .ok (.getfield 203, 3) := by decide +kernel
theorem d_Mod_height_14 : decode prog_13_method_25_code 14 = .ok (.if_icmp .ge 29, 3) := by decide +kernel
theorem b_Mod_height_17 : tf_dec prog_13_method_25_code 17 [(.iload_n 2, 1)] = true := by decide +kernel
theorem d_Mod_height_18 : decode prog_13_method_25_code 18 = .ok (.ifCond .ne 13, 3) := by decide +kernel
theorem b_Mod_height_21 : tf_dec prog_13_method_25_code 21 [(.aload_n 0, 1)] = true := by decide +kernel
theorem d_Mod_height_22 : decode prog_13_method_25_code 22 = .ok (.getfield 72, 3) := by decide +kernel
theorem b_Mod_height_25 : tf_dec prog_13_method_25_code 25 [(.iload_n 3, 1)] = true := by decide +kernel
theorem d_Mod_height_26 : decode prog_13_method_25_code 26 = .ok (.iaload, 1) := by decide +kernel
theorem b_Mod_height_27 : tf_dec prog_13_method_25_code 27 [(.iload_n 1, 1)] = true := by decide +kernel
theorem d_Mod_height_28 : decode prog_13_method_25_code 28 = .ok (.if_icmp .ne 7, 3) := by decide +kernel
theorem b_Mod_height_31 : tf_dec prog_13_method_25_code 31 [(.iconst 1, 1)] = true := by decide +kernel
theorem d_Mod_height_32 : decode prog_13_method_25_code 32 = .ok (.goto 4, 3) := by decide +kernel
theorem b_Mod_height_35 : tf_dec prog_13_method_25_code 35 [(.iconst 0, 1)] = true := by decide +kernel
theorem b_Mod_height_36 : tf_dec prog_13_method_25_code 36 [(.istore_n 2, 1), (.iinc 3 1, 3)] = true := by decide +kernel
theorem d_Mod_height_40 : decode prog_13_method_25_code 40 = .ok (.goto (-31), 3) := by decide +kernel
theorem b_Mod_height_43 : tf_dec prog_13_method_25_code 43 [(.iload_n 1, 1)] = true := by decide +kernel
theorem d_Mod_height_44 : decode prog_13_method_25_code 44 = .ok (.invokestatic 152, 3) := by decide +kernel
theorem d_Mod_height_47 : decode prog_13_method_25_code 47 = .ok (.ifCond .eq 16, 3) := by decide +kernel
theorem b_Mod_height_50 : tf_dec prog_13_method_25_code 50 [(.iload_n 2, 1)] = true := by decide +kernel
theorem d_Mod_height_51 : decode prog_13_method_25_code 51 = .ok (.ifCond .ne 12, 3) := by decide +kernel
theorem b_Mod_height_54 : tf_dec prog_13_method_25_code 54 [(.aload_n 0, 1)] = true := by decide +kernel
theorem d_Mod_height_55 : decode prog_13_method_25_code 55 = .ok (.getfield 203, 3) := by decide +kernel
theorem b_Mod_height_58 : tf_dec prog_13_method_25_code 58 [(.bipush 8, 2)] = true := by decide +kernel
theorem d_Mod_height_60 : decode prog_13_method_25_code 60 = .ok (.if_icmp .ne 5, 3) := by decide +kernel
theorem b_Mod_height_63 : tf_dec prog_13_method_25_code 63 [(.iconst 0, 1)] = true := by decide +kernel
theorem d_Mod_height_64 : decode prog_13_method_25_code 64 = .ok (.ireturn, 1) := by decide +kernel
theorem b_Mod_height_65 : tf_dec prog_13_method_25_code 65 [(.aload_n 0, 1)] = true := by decide +kernel
theorem d_Mod_height_66 : decode prog_13_method_25_code 66 = .ok (.getfield 72, 3) := by decide +kernel
theorem b_Mod_height_69 : tf_dec prog_13_method_25_code 69 [(.aload_n 0, 1)] = true := by decide +kernel
theorem d_Mod_height_70 : decode prog_13_method_25_code 70 = .ok (.getfield 203, 3) := by decide +kernel
theorem b_Mod_height_73 : tf_dec prog_13_method_25_code 73 [(.iload_n 1, 1)] = true := by decide +kernel
theorem d_Mod_height_74 : decode prog_13_method_25_code 74 = .ok (.iastore, 1) := by decide +kernel
theorem b_Mod_height_75 : tf_dec prog_13_method_25_code 75 [(.aload_n 0, 1), (.dup, 1)] = true := by decide +kernel
theorem d_Mod_height_77 : decode prog_13_method_25_code 77 = .ok (.getfield 203, 3) := by decide +kernel
theorem b_Mod_height_80 : tf_dec prog_13_method_25_code 80 [(.iconst 1, 1), (.iadd, 1)] = true := by decide +kernel
theorem d_Mod_height_82 : decode prog_13_method_25_code 82 = .ok (.putfield 203, 3) := by decide +kernel
theorem b_Mod_height_85 : tf_dec prog_13_method_25_code 85 [(.iconst 1, 1)] = true := by decide +kernel
theorem d_Mod_height_86 : decode prog_13_method_25_code 86 = .ok (.ireturn, 1) := by decide +kernel
theorem b_Mod_goal_0 : tf_dec prog_13_method_26_code 0 [(.iload_n 1, 1), (.i2l, 1), (.aload_n 0, 1)] = true := by decide +kernel
theorem d_Mod_goal_3 : decode prog_13_method_26_code 3 = .ok (.getfield 206, 3) := by decide +kernel
theorem b_Mod_goal_6 : tf_dec prog_13_method_26_code 6 [(.i2l, 1)] = true := by decide +kernel
theorem d_Mod_goal_7 : decode prog_13_method_26_code 7 = .ok (.invokestatic 140, 3) := by decide +kernel
theorem b_Mod_goal_10 : tf_dec prog_13_method_26_code 10 [(.l2i, 1), (.aload_n 0, 1)] = true := by decide +kernel
theorem d_Mod_goal_12 : decode prog_13_method_26_code 12 = .ok (.getfield 206, 3) := by decide +kernel
theorem b_Mod_goal_15 : tf_dec prog_13_method_26_code 15 [(.imul, 1)] = true := by decide +kernel
theorem d_Mod_goal_16 : decode prog_13_method_26_code 16 = .ok (.ireturn, 1) := by decide +kernel
theorem b_Mod_fit_0 : tf_dec prog_13_method_27_code 0 [(.aload_n 0, 1)] = true := by decide +kernel
theorem d_Mod_fit_1 : decode prog_13_method_27_code 1 = .ok (.getfield 209, 3) := by decide +kernel
theorem d_Mod_fit_4 : decode prog_13_method_27_code 4 = .ok (.ifCond .eq 10, 3) := by decide +kernel
theorem b_Mod_fit_7 : tf_dec prog_13_method_27_code 7 [(.aload_n 0, 1)] = true := by decide +kernel
theorem d_Mod_fit_8 : decode prog_13_method_27_code 8 = .ok (.getfield 203, 3) := by decide +kernel
theorem d_Mod_fit_11 : decode prog_13_method_27_code 11 = .ok (.ifCond .ne 5, 3) := by decide +kernel
theorem b_Mod_fit_14 : tf_dec prog_13_method_27_code 14 [(.iload_n 1, 1)] = true := by decide +kernel
theorem d_Mod_fit_15 : decode prog_13_method_27_code 15 = .ok (.ireturn, 1) := by decide +kernel
theorem b_Mod_fit_16 : tf_dec prog_13_method_27_code 16 [(.sipush (-9999), 3), (.istore_n 2, 1), (.sipush 9999, 3), (.istore_n 3, 1), (.iconst 0, 1), (.istore 4, 2)] = true := by decide +kernel
theorem b_Mod_fit_27 : tf_dec prog_13_method_27_code 27 [(.iload 4, 2), (.aload_n 0, 1)] = true := by decide +kernel
theorem d_Mod_fit_30 : decode prog_13_method_27_code 30 = .ok (.getfield 203, 3) := by decide +kernel
theorem d_Mod_fit_33 : decode prog_13_method_27_code 33 = .ok (.if_icmp .ge 56, 3) := by decide +kernel
theorem b_Mod_fit_36 : tf_dec prog_13_method_27_code 36 [(.aload_n 0, 1)] = true := by decide +kernel
theorem d_Mod_fit_37 : decode prog_13_method_27_code 37 = .ok (.getfield 72, 3) := by decide +kernel
theorem b_Mod_fit_40 : tf_dec prog_13_method_27_code 40 [(.iload 4, 2)] = true := by decide +kernel
theorem d_Mod_fit_42 : decode prog_13_method_27_code 42 = .ok (.iaload, 1) := by decide +kernel
theorem b_Mod_fit_43 : tf_dec prog_13_method_27_code 43 [(.istore 5, 2), (.iload 5, 2), (.iload_n 1, 1)] = true := by decide +kernel
theorem d_Mod_fit_48 : decode prog_13_method_27_code 48 = .ok (.if_icmp .gt 14, 3) := by decide +kernel
theorem b_Mod_fit_51 : tf_dec prog_13_method_27_code 51 [(.iload 5, 2), (.iload_n 2, 1)] = true := by decide +kernel
theorem d_Mod_fit_54 : decode prog_13_method_27_code 54 = .ok (.if_icmp .le 8, 3) := by decide +kernel
theorem b_Mod_fit_57 : tf_dec prog_13_method_27_code 57 [(.iload 5, 2)] = true := by decide +kernel
theorem d_Mod_fit_59 : decode prog_13_method_27_code 59 = .ok (.goto 4, 3) := by decide +kernel
theorem b_Mod_fit_62 : tf_dec prog_13_method_27_code 62 [(.iload_n 2, 1)] = true := by decide +kernel
theorem b_Mod_fit_63 : tf_dec prog_13_method_27_code 63 [(.istore_n 2, 1), (.iload 5, 2), (.iload_n 1, 1)] = true := by decide +kernel
theorem d_Mod_fit_67 : decode prog_13_method_27_code 67 = .ok (.if_icmp .lt 14, 3) := by decide +kernel
theorem b_Mod_fit_70 : tf_dec prog_13_method_27_code 70 [(.iload 5, 2), (.iload_n 3, 1)] = true := by decide +kernel
theorem d_Mod_fit_73 : decode prog_13_method_27_code 73 = .ok (.if_icmp .ge 8, 3) := by decide +kernel
theorem b_Mod_fit_76 : tf_dec prog_13_method_27_code 76 [(.iload 5, 2)] = true := by decide +kernel
theorem d_Mod_fit_78 : decode prog_13_method_27_code 78 = .ok (.goto 4, 3) := by decide +kernel
theorem b_Mod_fit_81 : tf_dec prog_13_method_27_code 81 [(.iload_n 3, 1)] = true := by decide +kernel
theorem b_Mod_fit_82 : tf_dec prog_13_method_27_code 82 [(.istore_n 3, 1), (.iinc 4 1, 3)] = true := by decide +kernel
theorem d_Mod_fit_86 : decode prog_13_method_27_code 86 = .ok (.goto (-59), 3) := by decide +kernel
theorem b_Mod_fit_89 : tf_dec prog_13_method_27_code 89 [(.iload_n 2, 1), (.sipush (-9999), 3)] = true := by decide +kernel
theorem d_Mod_fit_93 : decode prog_13_method_27_code 93 = .ok (.if_icmp .ne 13, 3) := by decide +kernel
theorem b_Mod_fit_96 : tf_dec prog_13_method_27_code 96 [(.iload_n 1, 1), (.aload_n 0, 1), (.iload_n 3, 1)] = true := by decide +kernel
theorem d_Mod_fit_99 : decode prog_13_method_27_code 99 = .ok (.invokevirtual 213, 3) := by decide +kernel
theorem b_Mod_fit_102 : tf_dec prog_13_method_27_code 102 [(.iadd, 1), (.iload_n 3, 1), (.isub, 1)] = true := by decide +kernel
theorem d_Mod_fit_105 : decode prog_13_method_27_code 105 = .ok (.ireturn, 1) := by decide +kernel
theorem b_Mod_fit_106 : tf_dec prog_13_method_27_code 106 [(.iload_n 3, 1), (.sipush 9999, 3)] = true := by decide +kernel
theorem d_Mod_fit_110 : decode prog_13_method_27_code 110 = .ok (.if_icmp .eq 8, 3) := by decide +kernel
theorem b_Mod_fit_113 : tf_dec prog_13_method_27_code 113 [(.iload_n 3, 1), (.iload_n 2, 1)] = true := by decide +kernel
theorem d_Mod_fit_115 : decode prog_13_method_27_code 115 = .ok (.if_icmp .ne 13, 3) := by decide +kernel
theorem b_Mod_fit_118 : tf_dec prog_13_method_27_code 118 [(.iload_n 1, 1), (.aload_n 0, 1), (.iload_n 2, 1)] = true := by decide +kernel
theorem d_Mod_fit_121 : decode prog_13_method_27_code 121 = .ok (.invokevirtual 213, 3) := by decide +kernel
theorem b_Mod_fit_124 : tf_dec prog_13_method_27_code 124 [(.iadd, 1), (.iload_n 2, 1), (.isub, 1)] = true := by decide +kernel
theorem d_Mod_fit_127 : decode prog_13_method_27_code 127 = .ok (.ireturn, 1) := by decide +kernel
theorem b_Mod_fit_128 : tf_dec prog_13_method_27_code 128 [(.aload_n 0, 1), (.iload_n 2, 1)] = true := by decide +kernel
theorem d_Mod_fit_130 : decode prog_13_method_27_code 130 = .ok (.invokevirtual 213, 3) := by decide +kernel
theorem b_Mod_fit_133 : tf_dec prog_13_method_27_code 133 [(.i2l, 1), (.iload_n 1, 1), (.iload_n 2, 1), (.isub, 1), (.i2l, 1), (.aload_n 0, 1), (.iload_n 3, 1)] = true := by decide +kernel
theorem d_Mod_fit_140 : decode prog_13_method_27_code 140 = .ok (.invokevirtual 213, 3) := by decide +kernel
theorem b_Mod_fit_143 : tf_dec prog_13_method_27_code 143 [(.aload_n 0, 1), (.iload_n 2, 1)] = true := by decide +kernel
theorem d_Mod_fit_145 : decode prog_13_method_27_code 145 = .ok (.invokevirtual 213, 3) := by decide +kernel
theorem b_Mod_fit_148 : tf_dec prog_13_method_27_code 148 [(.isub, 1), (.i2l, 1), (.lmul, 1), (.iload_n 3, 1), (.iload_n 2, 1), (.isub, 1), (.i2l, 1)] = true := by decide +kernel
theorem d_Mod_fit_155 : decode prog_13_method_27_code 155 = .ok (.invokestatic 140, 3) := by decide +kernel
theorem b_Mod_fit_158 : tf_dec prog_13_method_27_code 158 [(.ladd, 1), (.l2i, 1)] = true := by decide +kernel
theorem d_Mod_fit_160 : decode prog_13_method_27_code 160 = .ok (.ireturn, 1) := by decide +kernel
theorem b_Mod_cover_0 : tf_dec prog_13_method_28_code 0 [(.iload 4, 2), (.iload_n 2, 1), (.isub, 1), (.istore 5, 2), (.iload_n 2, 1), (.iload 4, 2)] = true := by decide +kernel
theorem d_Mod_cover_9 : decode prog_13_method_28_code 9 = .ok (.if_icmp .ge 8, 3) := by decide +kernel
theorem b_Mod_cover_12 : tf_dec prog_13_method_28_code 12 [(.iload_n 2, 1), (.i2l, 1)] = true := by decide +kernel
theorem d_Mod_cover_14 : decode prog_13_method_28_code 14 = .ok (.goto 6, 3) := by decide +kernel
theorem b_Mod_cover_17 : tf_dec prog_13_method_28_code 17 [(.iload 4, 2), (.i2l, 1)] = true := by decide +kernel
theorem b_Mod_cover_20 : tf_dec prog_13_method_28_code 20 [(.aload_n 0, 1)] = true := by decide +kernel
theorem d_Mod_cover_21 : decode prog_13_method_28_code 21 = .ok (.getfield 206, 3) := by decide +kernel
theorem b_Mod_cover_24 : tf_dec prog_13_method_28_code 24 [(.i2l, 1)] = true := by decide +kernel
theorem d_Mod_cover_25 : decode prog_13_method_28_code 25 = .ok (.invokestatic 128, 3) := by decide +kernel
theorem b_Mod_cover_28 : tf_dec prog_13_method_28_code 28 [(.l2i, 1), (.istore 6, 2), (.iload 5, 2)] = true := by decide +kernel
theorem d_Mod_cover_33 : decode prog_13_method_28_code 33 = .ok (.ifCond .eq 17, 3) := by decide +kernel
theorem b_Mod_cover_36 : tf_dec prog_13_method_28_code 36 [(.iload 6, 2)] = true := by decide +kernel
theorem d_Mod_cover_38 : decode prog_13_method_28_code 38 = .ok (.ifCond .lt 12, 3) := by decide +kernel
theorem b_Mod_cover_41 : tf_dec prog_13_method_28_code 41 [(.iload 6, 2), (.aload_n 0, 1)] = true := by decide +kernel
theorem d_Mod_cover_44 : decode prog_13_method_28_code 44 = .ok (.getfield 216, 3) := by decide +kernel
theorem d_Mod_cover_47 : decode prog_13_method_28_code 47 = .ok (.if_icmp .lt 4, 3) := by decide +kernel
theorem d_Mod_cover_50 : decode prog_13_method_28_code 50 = .ok (.return_, 1) := by decide +kernel
theorem b_Mod_cover_51 : tf_dec prog_13_method_28_code 51 [(.iload_n 1, 1), (.iload_n 3, 1)] = true := by decide +kernel
theorem d_Mod_cover_53 : decode prog_13_method_28_code 53 = .ok (.if_icmp .ge 8, 3) := by decide +kernel
theorem b_Mod_cover_56 : tf_dec prog_13_method_28_code 56 [(.iload_n 1, 1), (.i2l, 1)] = true := by decide +kernel
theorem d_Mod_cover_58 : decode prog_13_method_28_code 58 = .ok (.goto 5, 3) := by decide +kernel
theorem b_Mod_cover_61 : tf_dec prog_13_method_28_code 61 [(.iload_n 3, 1), (.i2l, 1)] = true := by decide +kernel
theorem b_Mod_cover_63 : tf_dec prog_13_method_28_code 63 [(.aload_n 0, 1)] = true := by decide +kernel
theorem d_Mod_cover_64 : decode prog_13_method_28_code 64 = .ok (.getfield 206, 3) := by decide +kernel
theorem b_Mod_cover_67 : tf_dec prog_13_method_28_code 67 [(.i2l, 1)] = true := by decide +kernel
theorem d_Mod_cover_68 : decode prog_13_method_28_code 68 = .ok (.invokestatic 128, 3) := by decide +kernel
theorem b_Mod_cover_71 : tf_dec prog_13_method_28_code 71 [(.l2i, 1), (.istore 7, 2), (.iconst 0, 1), (.istore 8, 2)] = true := by decide +kernel
theorem b_Mod_cover_77 : tf_dec prog_13_method_28_code 77 [(.iload 8, 2), (.aload_n 0, 1)] = true := by decide +kernel
theorem d_Mod_cover_80 : decode prog_13_method_28_code 80 = .ok (.getfield 216, 3) := by decide +kernel
theorem d_Mod_cover_83 : decode prog_13_method_28_code 83 = .ok (.if_icmp .ge 43, 3) := by decide +kernel
theorem b_Mod_cover_86 : tf_dec prog_13_method_28_code 86 [(.iload 8, 2), (.iload 7, 2)] = true := by decide +kernel
theorem d_Mod_cover_90 : decode prog_13_method_28_code 90 = .ok (.if_icmp .ge 36, 3) := by decide +kernel
theorem b_Mod_cover_93 : tf_dec prog_13_method_28_code 93 [(.aload_n 0, 1)] = true := by decide +kernel
theorem d_Mod_cover_94 : decode prog_13_method_28_code 94 = .ok (.getfield 75, 3) := by decide +kernel
theorem b_Mod_cover_97 : tf_dec prog_13_method_28_code 97 [(.aload_n 0, 1)] = true := by decide +kernel
theorem d_Mod_cover_98 : decode prog_13_method_28_code 98 = .ok (.getfield 216, 3) := by decide +kernel
theorem b_Mod_cover_101 : tf_dec prog_13_method_28_code 101 [(.iload 6, 2), (.imul, 1), (.iload 8, 2), (.iadd, 1), (.dup2, 1)] = true := by decide +kernel
theorem d_Mod_cover_108 : decode prog_13_method_28_code 108 = .ok (.iaload, 1) := by decide +kernel
theorem b_Mod_cover_109 : tf_dec prog_13_method_28_code 109 [(.iload 5, 2), (.iconst 2, 1), (.imul, 1), (.aload_n 0, 1)] = true := by decide +kernel
theorem d_Mod_cover_114 : decode prog_13_method_28_code 114 = .ok (.getfield 206, 3) := by decide +kernel
theorem b_Mod_cover_117 : tf_dec prog_13_method_28_code 117 [(.imul, 1), (.iadd, 1)] = true := by decide +kernel
theorem d_Mod_cover_119 : decode prog_13_method_28_code 119 = .ok (.iastore, 1) := by decide +kernel
theorem b_Mod_cover_120 : tf_dec prog_13_method_28_code 120 [(.iinc 8 1, 3)] = true := by decide +kernel
theorem d_Mod_cover_123 : decode prog_13_method_28_code 123 = .ok (.goto (-46), 3) := by decide +kernel
theorem b_Mod_cover_126 : tf_dec prog_13_method_28_code 126 [(.iload 7, 2)] = true := by decide +kernel
theorem d_Mod_cover_128 : decode prog_13_method_28_code 128 = .ok (.ifCond .lt 46, 3) := by decide +kernel
theorem b_Mod_cover_131 : tf_dec prog_13_method_28_code 131 [(.iload 7, 2), (.aload_n 0, 1)] = true := by decide +kernel
theorem d_Mod_cover_134 : decode prog_13_method_28_code 134 = .ok (.getfield 216, 3) := by decide +kernel
theorem d_Mod_cover_137 : decode prog_13_method_28_code 137 = .ok (.if_icmp .ge 37, 3) := by decide +kernel
theorem b_Mod_cover_140 : tf_dec prog_13_method_28_code 140 [(.aload_n 0, 1)] = true := by decide +kernel
theorem d_Mod_cover_141 : decode prog_13_method_28_code 141 = .ok (.getfield 75, 3) := by decide +kernel
theorem b_Mod_cover_144 : tf_dec prog_13_method_28_code 144 [(.aload_n 0, 1)] = true := by decide +kernel
theorem d_Mod_cover_145 : decode prog_13_method_28_code 145 = .ok (.getfield 216, 3) := by decide +kernel
theorem b_Mod_cover_148 : tf_dec prog_13_method_28_code 148 [(.iload 6, 2), (.imul, 1), (.iload 7, 2), (.iadd, 1), (.dup2, 1)] = true := by decide +kernel
theorem d_Mod_cover_155 : decode prog_13_method_28_code 155 = .ok (.iaload, 1) := by decide +kernel
theorem b_Mod_cover_156 : tf_dec prog_13_method_28_code 156 [(.iload 5, 2), (.iload_n 1, 1), (.iload_n 3, 1), (.iadd, 1), (.iconst 2, 1), (.iload 7, 2), (.imul, 1), (.aload_n 0, 1)] = true := by decide +kernel
theorem d_Mod_cover_166 : decode prog_13_method_28_code 166 = .ok (.getfield 206, 3) := by decide +kernel
theorem b_Mod_cover_169 : tf_dec prog_13_method_28_code 169 [(.imul, 1), (.isub, 1), (.imul, 1), (.iadd, 1)] = true := by decide +kernel
theorem d_Mod_cover_173 : decode prog_13_method_28_code 173 = .ok (.iastore, 1) := by decide +kernel
theorem d_Mod_cover_174 : decode prog_13_method_28_code 174 = .ok (.return_, 1) := by decide +kernel
theorem b_Mod_nextStop_0 : tf_dec prog_13_method_29_code 0 [(.iload_n 1, 1), (.iload_n 2, 1)] = true := by decide +kernel
theorem d_Mod_nextStop_2 : decode prog_13_method_29_code 2 = .ok (.if_icmp .ne 5, 3) := by decide +kernel
theorem b_Mod_nextStop_5 : tf_dec prog_13_method_29_code 5 [(.iload_n 2, 1)] = true := by decide +kernel
theorem d_Mod_nextStop_6 : decode prog_13_method_29_code 6 = .ok (.ireturn, 1) := by decide +kernel
theorem b_Mod_nextStop_7 : tf_dec prog_13_method_29_code 7 [(.iload_n 1, 1), (.iload_n 2, 1)] = true := by decide +kernel
theorem d_Mod_nextStop_9 : decode prog_13_method_29_code 9 = .ok (.if_icmp .ge 24, 3) := by decide +kernel
theorem b_Mod_nextStop_12 : tf_dec prog_13_method_29_code 12 [(.iload_n 1, 1), (.i2l, 1), (.aload_n 0, 1)] = true := by decide +kernel
theorem d_Mod_nextStop_15 : decode prog_13_method_29_code 15 = .ok (.getfield 206, 3) := by decide +kernel
theorem b_Mod_nextStop_18 : tf_dec prog_13_method_29_code 18 [(.i2l, 1)] = true := by decide +kernel
theorem d_Mod_nextStop_19 : decode prog_13_method_29_code 19 = .ok (.invokestatic 128, 3) := by decide +kernel
theorem b_Mod_nextStop_22 : tf_dec prog_13_method_29_code 22 [(.l2i, 1), (.iconst 1, 1), (.iadd, 1), (.aload_n 0, 1)] = true := by decide +kernel
theorem d_Mod_nextStop_26 : decode prog_13_method_29_code 26 = .ok (.getfield 206, 3) := by decide +kernel
theorem b_Mod_nextStop_29 : tf_dec prog_13_method_29_code 29 [(.imul, 1)] = true := by decide +kernel
theorem d_Mod_nextStop_30 : decode prog_13_method_29_code 30 = .ok (.goto 23, 3) := by decide +kernel
theorem b_Mod_nextStop_33 : tf_dec prog_13_method_29_code 33 [(.iload_n 1, 1), (.ineg, 1), (.i2l, 1), (.aload_n 0, 1)] = true := by decide +kernel
theorem d_Mod_nextStop_37 : decode prog_13_method_29_code 37 = .ok (.getfield 206, 3) := by decide +kernel
theorem b_Mod_nextStop_40 : tf_dec prog_13_method_29_code 40 [(.i2l, 1)] = true := by decide +kernel
theorem d_Mod_nextStop_41 : decode prog_13_method_29_code 41 = .ok (.invokestatic 128, 3) := by decide +kernel
theorem b_Mod_nextStop_44 : tf_dec prog_13_method_29_code 44 [(.l2i, 1), (.ineg, 1), (.iconst 1, 1), (.isub, 1), (.aload_n 0, 1)] = true := by decide +kernel
theorem d_Mod_nextStop_49 : decode prog_13_method_29_code 49 = .ok (.getfield 206, 3) := by decide +kernel
theorem b_Mod_nextStop_52 : tf_dec prog_13_method_29_code 52 [(.imul, 1)] = true := by decide +kernel
theorem b_Mod_nextStop_53 : tf_dec prog_13_method_29_code 53 [(.istore_n 3, 1), (.iload_n 1, 1), (.iload_n 2, 1)] = true := by decide +kernel
theorem d_Mod_nextStop_56 : decode prog_13_method_29_code 56 = .ok (.if_icmp .ge 16, 3) := by decide +kernel
theorem b_Mod_nextStop_59 : tf_dec prog_13_method_29_code 59 [(.iload_n 3, 1), (.iload_n 2, 1)] = true := by decide +kernel
theorem d_Mod_nextStop_61 : decode prog_13_method_29_code 61 = .ok (.if_icmp .ge 7, 3) := by decide +kernel
theorem b_Mod_nextStop_64 : tf_dec prog_13_method_29_code 64 [(.iload_n 3, 1)] = true := by decide +kernel
theorem d_Mod_nextStop_65 : decode prog_13_method_29_code 65 = .ok (.goto 17, 3) := by decide +kernel
theorem b_Mod_nextStop_68 : tf_dec prog_13_method_29_code 68 [(.iload_n 2, 1)] = true := by decide +kernel
theorem d_Mod_nextStop_69 : decode prog_13_method_29_code 69 = .ok (.goto 13, 3) := by decide +kernel
theorem b_Mod_nextStop_72 : tf_dec prog_13_method_29_code 72 [(.iload_n 3, 1), (.iload_n 2, 1)] = true := by decide +kernel
theorem d_Mod_nextStop_74 : decode prog_13_method_29_code 74 = .ok (.if_icmp .le 7, 3) := by decide +kernel
theorem b_Mod_nextStop_77 : tf_dec prog_13_method_29_code 77 [(.iload_n 3, 1)] = true := by decide +kernel
theorem d_Mod_nextStop_78 : decode prog_13_method_29_code 78 = .ok (.goto 4, 3) := by decide +kernel
theorem b_Mod_nextStop_81 : tf_dec prog_13_method_29_code 81 [(.iload_n 2, 1)] = true := by decide +kernel
theorem d_Mod_nextStop_82 : decode prog_13_method_29_code 82 = .ok (.ireturn, 1) := by decide +kernel
theorem b_Mod_at_0 : tf_dec prog_13_method_30_code 0 [(.iload_n 1, 1), (.iload_n 0, 1), (.isub, 1), (.i2l, 1), (.iload 4, 2), (.iload_n 2, 1), (.isub, 1), (.i2l, 1), (.lmul, 1), (.lstore 5, 2), (.iload_n 0, 1), (.iload_n 3, 1), (.iload_n 2, 1)] = true := by decide +kernel
theorem d_Mod_at_15 : decode prog_13_method_30_code 15 = .ok (.if_icmp .le 15, 3) := by decide +kernel
theorem b_Mod_at_18 : tf_dec prog_13_method_30_code 18 [(.lload 5, 2), (.iload_n 3, 1), (.iload_n 2, 1), (.isub, 1), (.i2l, 1)] = true := by decide +kernel
theorem d_Mod_at_24 : decode prog_13_method_30_code 24 = .ok (.invokestatic 140, 3) := by decide +kernel
theorem d_Mod_at_27 : decode prog_13_method_30_code 27 = .ok (.goto 13, 3) := by decide +kernel
theorem b_Mod_at_30 : tf_dec prog_13_method_30_code 30 [(.lload 5, 2), (.lneg, 1), (.iload_n 2, 1), (.iload_n 3, 1), (.isub, 1), (.i2l, 1)] = true := by decide +kernel
theorem d_Mod_at_37 : decode prog_13_method_30_code 37 = .ok (.invokestatic 140, 3) := by decide +kernel
theorem b_Mod_at_40 : tf_dec prog_13_method_30_code 40 [(.l2i, 1), (.iadd, 1)] = true := by decide +kernel
theorem d_Mod_at_42 : decode prog_13_method_30_code 42 = .ok (.ireturn, 1) := by decide +kernel
theorem b_Mod_across_0 : tf_dec prog_13_method_31_code 0 [(.iload_n 1, 1), (.istore 5, 2), (.iload_n 2, 1), (.istore 6, 2)] = true := by decide +kernel
theorem b_Mod_across_6 : tf_dec prog_13_method_31_code 6 [(.iload 5, 2), (.iload_n 3, 1)] = true := by decide +kernel
theorem d_Mod_across_9 : decode prog_13_method_31_code 9 = .ok (.if_icmp .eq 58, 3) := by decide +kernel
theorem b_Mod_across_12 : tf_dec prog_13_method_31_code 12 [(.aload_n 0, 1), (.iload 5, 2), (.iload_n 3, 1)] = true := by decide +kernel
theorem d_Mod_across_16 : decode prog_13_method_31_code 16 = .ok (.invokevirtual 219, 3) := by decide +kernel
theorem b_Mod_across_19 : tf_dec prog_13_method_31_code 19 [(.istore 7, 2), (.iload 7, 2), (.iload_n 3, 1)] = true := by decide +kernel
theorem d_Mod_across_24 : decode prog_13_method_31_code 24 = .ok (.if_icmp .ne 8, 3) := by decide +kernel
theorem b_Mod_across_27 : tf_dec prog_13_method_31_code 27 [(.iload 4, 2)] = true := by decide +kernel
theorem d_Mod_across_29 : decode prog_13_method_31_code 29 = .ok (.goto 13, 3) := by decide +kernel
theorem b_Mod_across_32 : tf_dec prog_13_method_31_code 32 [(.iload_n 2, 1), (.iload 4, 2), (.iload_n 1, 1), (.iload_n 3, 1), (.iload 7, 2)] = true := by decide +kernel
theorem d_Mod_across_39 : decode prog_13_method_31_code 39 = .ok (.invokestatic 222, 3) := by decide +kernel
theorem b_Mod_across_42 : tf_dec prog_13_method_31_code 42 [(.istore 8, 2), (.aload_n 0, 1), (.iload 5, 2), (.iload 6, 2), (.iload 7, 2), (.iload 8, 2)] = true := by decide +kernel
theorem d_Mod_across_53 : decode prog_13_method_31_code 53 = .ok (.invokevirtual 226, 3) := by decide +kernel
theorem b_Mod_across_56 : tf_dec prog_13_method_31_code 56 [(.iload 7, 2), (.istore 5, 2), (.iload 8, 2), (.istore 6, 2)] = true := by decide +kernel
theorem d_Mod_across_64 : decode prog_13_method_31_code 64 = .ok (.goto (-58), 3) := by decide +kernel
theorem b_Mod_across_67 : tf_dec prog_13_method_31_code 67 [(.aload_n 0, 1), (.iload 5, 2), (.iload 6, 2), (.iload_n 3, 1), (.iload 4, 2)] = true := by decide +kernel
theorem d_Mod_across_75 : decode prog_13_method_31_code 75 = .ok (.invokevirtual 226, 3) := by decide +kernel
theorem d_Mod_across_78 : decode prog_13_method_31_code 78 = .ok (.return_, 1) := by decide +kernel
theorem b_Mod_line_0 : tf_dec prog_13_method_32_code 0 [(.aload_n 0, 1), (.iload_n 2, 1)] = true := by decide +kernel
theorem d_Mod_line_2 : decode prog_13_method_32_code 2 = .ok (.invokevirtual 230, 3) := by decide +kernel
theorem b_Mod_line_5 : tf_dec prog_13_method_32_code 5 [(.istore 5, 2), (.aload_n 0, 1), (.iload 4, 2)] = true := by decide +kernel
theorem d_Mod_line_10 : decode prog_13_method_32_code 10 = .ok (.invokevirtual 230, 3) := by decide +kernel
theorem b_Mod_line_13 : tf_dec prog_13_method_32_code 13 [(.istore 6, 2), (.iload_n 1, 1), (.istore 7, 2), (.iload 5, 2), (.istore 8, 2)] = true := by decide +kernel
theorem b_Mod_line_22 : tf_dec prog_13_method_32_code 22 [(.iload 8, 2), (.iload 6, 2)] = true := by decide +kernel
theorem d_Mod_line_26 : decode prog_13_method_32_code 26 = .ok (.if_icmp .eq 60, 3) := by decide +kernel
theorem b_Mod_line_29 : tf_dec prog_13_method_32_code 29 [(.aload_n 0, 1), (.iload 8, 2), (.iload 6, 2)] = true := by decide +kernel
theorem d_Mod_line_34 : decode prog_13_method_32_code 34 = .ok (.invokevirtual 219, 3) := by decide +kernel
theorem b_Mod_line_37 : tf_dec prog_13_method_32_code 37 [(.istore 9, 2), (.iload 9, 2), (.iload 6, 2)] = true := by decide +kernel
theorem d_Mod_line_43 : decode prog_13_method_32_code 43 = .ok (.if_icmp .ne 7, 3) := by decide +kernel
theorem b_Mod_line_46 : tf_dec prog_13_method_32_code 46 [(.iload_n 3, 1)] = true := by decide +kernel
theorem d_Mod_line_47 : decode prog_13_method_32_code 47 = .ok (.goto 14, 3) := by decide +kernel
theorem b_Mod_line_50 : tf_dec prog_13_method_32_code 50 [(.iload_n 1, 1), (.iload_n 3, 1), (.iload 5, 2), (.iload 6, 2), (.iload 9, 2)] = true := by decide +kernel
theorem d_Mod_line_58 : decode prog_13_method_32_code 58 = .ok (.invokestatic 222, 3) := by decide +kernel
theorem b_Mod_line_61 : tf_dec prog_13_method_32_code 61 [(.istore 10, 2), (.aload_n 0, 1), (.iload 7, 2), (.iload 8, 2), (.iload 10, 2), (.iload 9, 2)] = true := by decide +kernel
theorem d_Mod_line_72 : decode prog_13_method_32_code 72 = .ok (.invokevirtual 233, 3) := by decide +kernel
theorem b_Mod_line_75 : tf_dec prog_13_method_32_code 75 [(.iload 10, 2), (.istore 7, 2), (.iload 9, 2), (.istore 8, 2)] = true := by decide +kernel
theorem d_Mod_line_83 : decode prog_13_method_32_code 83 = .ok (.goto (-61), 3) := by decide +kernel
theorem d_Mod_line_86 : decode prog_13_method_32_code 86 = .ok (.return_, 1) := by decide +kernel
theorem b_Mod_lineTo_0 : tf_dec prog_13_method_33_code 0 [(.aload_n 0, 1), (.aload_n 0, 1)] = true := by decide +kernel
theorem d_Mod_lineTo_2 : decode prog_13_method_33_code 2 = .ok (.getfield 236, 3) := by decide +kernel
theorem b_Mod_lineTo_5 : tf_dec prog_13_method_33_code 5 [(.aload_n 0, 1)] = true := by decide +kernel
theorem d_Mod_lineTo_6 : decode prog_13_method_33_code 6 = .ok (.getfield 239, 3) := by decide +kernel
theorem b_Mod_lineTo_9 : tf_dec prog_13_method_33_code 9 [(.iload_n 1, 1), (.iload_n 2, 1)] = true := by decide +kernel
theorem d_Mod_lineTo_11 : decode prog_13_method_33_code 11 = .ok (.invokevirtual 242, 3) := by decide +kernel
theorem b_Mod_lineTo_14 : tf_dec prog_13_method_33_code 14 [(.aload_n 0, 1), (.iload_n 1, 1)] = true := by decide +kernel
theorem d_Mod_lineTo_16 : decode prog_13_method_33_code 16 = .ok (.putfield 236, 3) := by decide +kernel
theorem b_Mod_lineTo_19 : tf_dec prog_13_method_33_code 19 [(.aload_n 0, 1), (.iload_n 2, 1)] = true := by decide +kernel
theorem d_Mod_lineTo_21 : decode prog_13_method_33_code 21 = .ok (.putfield 239, 3) := by decide +kernel
theorem d_Mod_lineTo_24 : decode prog_13_method_33_code 24 = .ok (.return_, 1) := by decide +kernel
theorem b_Mod_quadratic_0 : tf_dec prog_13_method_34_code 0 [(.aload_n 0, 1)] = true := by decide +kernel
theorem d_Mod_quadratic_1 : decode prog_13_method_34_code 1 = .ok (.getfield 236, 3) := by decide +kernel
theorem b_Mod_quadratic_4 : tf_dec prog_13_method_34_code 4 [(.istore 5, 2), (.aload_n 0, 1)] = true := by decide +kernel
theorem d_Mod_quadratic_7 : decode prog_13_method_34_code 7 = .ok (.getfield 239, 3) := by decide +kernel
theorem b_Mod_quadratic_10 : tf_dec prog_13_method_34_code 10 [(.istore 6, 2), (.iconst 1, 1), (.istore 7, 2)] = true := by decide +kernel
theorem b_Mod_quadratic_15 : tf_dec prog_13_method_34_code 15 [(.iload 7, 2), (.bipush 8, 2)] = true := by decide +kernel
theorem d_Mod_quadratic_19 : decode prog_13_method_34_code 19 = .ok (.if_icmp .ge 91, 3) := by decide +kernel
theorem b_Mod_quadratic_22 : tf_dec prog_13_method_34_code 22 [(.bipush 8, 2), (.iload 7, 2), (.isub, 1), (.bipush 8, 2), (.iload 7, 2), (.isub, 1), (.imul, 1), (.istore 8, 2), (.iconst 2, 1), (.iload 7, 2), (.imul, 1), (.bipush 8, 2), (.iload 7, 2), (.isub, 1), (.imul, 1), (.istore 9, 2), (.aload_n 0, 1), (.iload 8, 2), (.iload 5, 2), (.imul, 1), (.iload 9, 2), (.iload_n 1, 1), (.imul, 1), (.iadd, 1), (.iload 7, 2), (.iload 7, 2), (.imul, 1), (.iload_n 3, 1), (.imul, 1), (.iadd, 1), (.i2l, 1)] = true := by decide +kernel
theorem d_Mod_quadratic_67 : decode prog_13_method_34_code 67 = .ok (.ldc2_w 245, 3) := by decide +kernel
theorem d_Mod_quadratic_70 : decode prog_13_method_34_code 70 = .ok (.invokestatic 140, 3) := by decide +kernel
theorem b_Mod_quadratic_73 : tf_dec prog_13_method_34_code 73 [(.l2i, 1), (.iload 8, 2), (.iload 6, 2), (.imul, 1), (.iload 9, 2), (.iload_n 2, 1), (.imul, 1), (.iadd, 1), (.iload 7, 2), (.iload 7, 2), (.imul, 1), (.iload 4, 2), (.imul, 1), (.iadd, 1), (.i2l, 1)] = true := by decide +kernel
theorem d_Mod_quadratic_94 : decode prog_13_method_34_code 94 = .ok (.ldc2_w 245, 3) := by decide +kernel
theorem d_Mod_quadratic_97 : decode prog_13_method_34_code 97 = .ok (.invokestatic 140, 3) := by decide +kernel
theorem b_Mod_quadratic_100 : tf_dec prog_13_method_34_code 100 [(.l2i, 1)] = true := by decide +kernel
theorem d_Mod_quadratic_101 : decode prog_13_method_34_code 101 = .ok (.invokevirtual 247, 3) := by decide +kernel
theorem b_Mod_quadratic_104 : tf_dec prog_13_method_34_code 104 [(.iinc 7 1, 3)] = true := by decide +kernel
theorem d_Mod_quadratic_107 : decode prog_13_method_34_code 107 = .ok (.goto (-92), 3) := by decide +kernel
theorem b_Mod_quadratic_110 : tf_dec prog_13_method_34_code 110 [(.aload_n 0, 1), (.iload_n 3, 1), (.iload 4, 2)] = true := by decide +kernel
theorem d_Mod_quadratic_114 : decode prog_13_method_34_code 114 = .ok (.invokevirtual 247, 3) := by decide +kernel
theorem d_Mod_quadratic_117 : decode prog_13_method_34_code 117 = .ok (.return_, 1) := by decide +kernel
theorem b_Mod_middle_0 : tf_dec prog_13_method_35_code 0 [(.iload_n 0, 1), (.iload_n 1, 1), (.iadd, 1), (.i2l, 1)] = true := by decide +kernel
theorem d_Mod_middle_4 : decode prog_13_method_35_code 4 = .ok (.ldc2_w 126, 3) := by decide +kernel
theorem d_Mod_middle_7 : decode prog_13_method_35_code 7 = .ok (.invokestatic 140, 3) := by decide +kernel
theorem b_Mod_middle_10 : tf_dec prog_13_method_35_code 10 [(.l2i, 1)] = true := by decide +kernel
theorem d_Mod_middle_11 : decode prog_13_method_35_code 11 = .ok (.ireturn, 1) := by decide +kernel
theorem b_Mod_contour_0 : tf_dec prog_13_method_36_code 0 [(.iconst 0, 1), (.istore_n 3, 1)] = true := by decide +kernel
theorem b_Mod_contour_2 : tf_dec prog_13_method_36_code 2 [(.iload_n 3, 1), (.iload_n 2, 1)] = true := by decide +kernel
theorem d_Mod_contour_4 : decode prog_13_method_36_code 4 = .ok (.if_icmp .ge 279, 3) := by decide +kernel
theorem b_Mod_contour_7 : tf_dec prog_13_method_36_code 7 [(.iload_n 1, 1), (.iload_n 3, 1), (.iadd, 1), (.istore 4, 2), (.iload_n 1, 1), (.iload_n 3, 1), (.iconst 1, 1), (.iadd, 1), (.iload_n 2, 1)] = true := by decide +kernel
theorem d_Mod_contour_17 : decode prog_13_method_36_code 17 = .ok (.irem, 1) := by decide +kernel
theorem b_Mod_contour_18 : tf_dec prog_13_method_36_code 18 [(.iadd, 1), (.istore 5, 2), (.iload_n 1, 1), (.iload_n 3, 1), (.iload_n 2, 1), (.iadd, 1), (.iconst 1, 1), (.isub, 1), (.iload_n 2, 1)] = true := by decide +kernel
theorem d_Mod_contour_28 : decode prog_13_method_36_code 28 = .ok (.irem, 1) := by decide +kernel
theorem b_Mod_contour_29 : tf_dec prog_13_method_36_code 29 [(.iadd, 1), (.istore 6, 2), (.aload_n 0, 1)] = true := by decide +kernel
theorem d_Mod_contour_33 : decode prog_13_method_36_code 33 = .ok (.getfield 60, 3) := by decide +kernel
theorem b_Mod_contour_36 : tf_dec prog_13_method_36_code 36 [(.iload 4, 2)] = true := by decide +kernel
theorem d_Mod_contour_38 : decode prog_13_method_36_code 38 = .ok (.baload, 1) := by decide +kernel
theorem d_Mod_contour_39 : decode prog_13_method_36_code 39 = .ok (.ifCond .eq 56, 3) := by decide +kernel
theorem b_Mod_contour_42 : tf_dec prog_13_method_36_code 42 [(.aload_n 0, 1), (.aload_n 0, 1)] = true := by decide +kernel
theorem d_Mod_contour_44 : decode prog_13_method_36_code 44 = .ok (.getfield 54, 3) := by decide +kernel
theorem b_Mod_contour_47 : tf_dec prog_13_method_36_code 47 [(.iload 4, 2)] = true := by decide +kernel
theorem d_Mod_contour_49 : decode prog_13_method_36_code 49 = .ok (.iaload, 1) := by decide +kernel
theorem d_Mod_contour_50 : decode prog_13_method_36_code 50 = .ok (.putfield 236, 3) := by decide +kernel
theorem b_Mod_contour_53 : tf_dec prog_13_method_36_code 53 [(.aload_n 0, 1), (.aload_n 0, 1)] = true := by decide +kernel
theorem d_Mod_contour_55 : decode prog_13_method_36_code 55 = .ok (.getfield 57, 3) := by decide +kernel
theorem b_Mod_contour_58 : tf_dec prog_13_method_36_code 58 [(.iload 4, 2)] = true := by decide +kernel
theorem d_Mod_contour_60 : decode prog_13_method_36_code 60 = .ok (.iaload, 1) := by decide +kernel
theorem d_Mod_contour_61 : decode prog_13_method_36_code 61 = .ok (.putfield 239, 3) := by decide +kernel
theorem b_Mod_contour_64 : tf_dec prog_13_method_36_code 64 [(.aload_n 0, 1)] = true := by decide +kernel
theorem d_Mod_contour_65 : decode prog_13_method_36_code 65 = .ok (.getfield 60, 3) := by decide +kernel
theorem b_Mod_contour_68 : tf_dec prog_13_method_36_code 68 [(.iload 5, 2)] = true := by decide +kernel
theorem d_Mod_contour_70 : decode prog_13_method_36_code 70 = .ok (.baload, 1) := by decide +kernel
theorem d_Mod_contour_71 : decode prog_13_method_36_code 71 = .ok (.ifCond .eq 206, 3) := by decide +kernel
theorem b_Mod_contour_74 : tf_dec prog_13_method_36_code 74 [(.aload_n 0, 1), (.aload_n 0, 1)] = true := by decide +kernel
theorem d_Mod_contour_76 : decode prog_13_method_36_code 76 = .ok (.getfield 54, 3) := by decide +kernel
theorem b_Mod_contour_79 : tf_dec prog_13_method_36_code 79 [(.iload 5, 2)] = true := by decide +kernel
theorem d_Mod_contour_81 : decode prog_13_method_36_code 81 = .ok (.iaload, 1) := by decide +kernel
theorem b_Mod_contour_82 : tf_dec prog_13_method_36_code 82 [(.aload_n 0, 1)] = true := by decide +kernel
theorem d_Mod_contour_83 : decode prog_13_method_36_code 83 = .ok (.getfield 57, 3) := by decide +kernel
theorem b_Mod_contour_86 : tf_dec prog_13_method_36_code 86 [(.iload 5, 2)] = true := by decide +kernel
theorem d_Mod_contour_88 : decode prog_13_method_36_code 88 = .ok (.iaload, 1) := by decide +kernel
theorem d_Mod_contour_89 : decode prog_13_method_36_code 89 = .ok (.invokevirtual 247, 3) := by decide +kernel
theorem d_Mod_contour_92 : decode prog_13_method_36_code 92 = .ok (.goto 185, 3) := by decide +kernel
theorem b_Mod_contour_95 : tf_dec prog_13_method_36_code 95 [(.aload_n 0, 1), (.aload_n 0, 1)] = true := by decide +kernel
theorem d_Mod_contour_97 : decode prog_13_method_36_code 97 = .ok (.getfield 60, 3) := by decide +kernel
theorem b_Mod_contour_100 : tf_dec prog_13_method_36_code 100 [(.iload 6, 2)] = true := by decide +kernel
theorem d_Mod_contour_102 : decode prog_13_method_36_code 102 = .ok (.baload, 1) := by decide +kernel
theorem d_Mod_contour_103 : decode prog_13_method_36_code 103 = .ok (.ifCond .eq 13, 3) := by decide +kernel
theorem b_Mod_contour_106 : tf_dec prog_13_method_36_code 106 [(.aload_n 0, 1)] = true := by decide +kernel
theorem d_Mod_contour_107 : decode prog_13_method_36_code 107 = .ok (.getfield 54, 3) := by decide +kernel
theorem b_Mod_contour_110 : tf_dec prog_13_method_36_code 110 [(.iload 6, 2)] = true := by decide +kernel
theorem d_Mod_contour_112 : decode prog_13_method_36_code 112 = .ok (.iaload, 1) := by decide +kernel
theorem d_Mod_contour_113 : decode prog_13_method_36_code 113 = .ok (.goto 20, 3) := by decide +kernel
theorem b_Mod_contour_116 : tf_dec prog_13_method_36_code 116 [(.aload_n 0, 1)] = true := by decide +kernel
theorem d_Mod_contour_117 : decode prog_13_method_36_code 117 = .ok (.getfield 54, 3) := by decide +kernel
theorem b_Mod_contour_120 : tf_dec prog_13_method_36_code 120 [(.iload 6, 2)] = true := by decide +kernel
theorem d_Mod_contour_122 : decode prog_13_method_36_code 122 = .ok (.iaload, 1) := by decide +kernel
theorem b_Mod_contour_123 : tf_dec prog_13_method_36_code 123 [(.aload_n 0, 1)] = true := by decide +kernel
theorem d_Mod_contour_124 : decode prog_13_method_36_code 124 = .ok (.getfield 54, 3) := by decide +kernel
theorem b_Mod_contour_127 : tf_dec prog_13_method_36_code 127 [(.iload 4, 2)] = true := by decide +kernel
theorem d_Mod_contour_129 : decode prog_13_method_36_code 129 = .ok (.iaload, 1) := by decide +kernel
theorem d_Mod_contour_130 : decode prog_13_method_36_code 130 = .ok (.invokestatic 250, 3) := by decide +kernel
theorem d_Mod_contour_133 : decode prog_13_method_36_code 133 = .ok (.putfield 236, 3) := by decide +kernel
theorem b_Mod_contour_136 : tf_dec prog_13_method_36_code 136 [(.aload_n 0, 1), (.aload_n 0, 1)] = true := by decide +kernel
theorem d_Mod_contour_138 : decode prog_13_method_36_code 138 = .ok (.getfield 60, 3) := by decide +kernel
theorem b_Mod_contour_141 : tf_dec prog_13_method_36_code 141 [(.iload 6, 2)] = true := by decide +kernel
theorem d_Mod_contour_143 : decode prog_13_method_36_code 143 = .ok (.baload, 1) := by decide +kernel
theorem d_Mod_contour_144 : decode prog_13_method_36_code 144 = .ok (.ifCond .eq 13, 3) := by decide +kernel
theorem b_Mod_contour_147 : tf_dec prog_13_method_36_code 147 [(.aload_n 0, 1)] = true := by decide +kernel
theorem d_Mod_contour_148 : decode prog_13_method_36_code 148 = .ok (.getfield 57, 3) := by decide +kernel
theorem b_Mod_contour_151 : tf_dec prog_13_method_36_code 151 [(.iload 6, 2)] = true := by decide +kernel
theorem d_Mod_contour_153 : decode prog_13_method_36_code 153 = .ok (.iaload, 1) := by decide +kernel
theorem d_Mod_contour_154 : decode prog_13_method_36_code 154 = .ok (.goto 20, 3) := by decide +kernel
theorem b_Mod_contour_157 : tf_dec prog_13_method_36_code 157 [(.aload_n 0, 1)] = true := by decide +kernel
theorem d_Mod_contour_158 : decode prog_13_method_36_code 158 = .ok (.getfield 57, 3) := by decide +kernel
theorem b_Mod_contour_161 : tf_dec prog_13_method_36_code 161 [(.iload 6, 2)] = true := by decide +kernel
theorem d_Mod_contour_163 : decode prog_13_method_36_code 163 = .ok (.iaload, 1) := by decide +kernel
theorem b_Mod_contour_164 : tf_dec prog_13_method_36_code 164 [(.aload_n 0, 1)] = true := by decide +kernel
theorem d_Mod_contour_165 : decode prog_13_method_36_code 165 = .ok (.getfield 57, 3) := by decide +kernel
theorem b_Mod_contour_168 : tf_dec prog_13_method_36_code 168 [(.iload 4, 2)] = true := by decide +kernel
theorem d_Mod_contour_170 : decode prog_13_method_36_code 170 = .ok (.iaload, 1) := by decide +kernel
theorem d_Mod_contour_171 : decode prog_13_method_36_code 171 = .ok (.invokestatic 250, 3) := by decide +kernel
theorem d_Mod_contour_174 : decode prog_13_method_36_code 174 = .ok (.putfield 239, 3) := by decide +kernel
theorem b_Mod_contour_177 : tf_dec prog_13_method_36_code 177 [(.aload_n 0, 1)] = true := by decide +kernel
theorem d_Mod_contour_178 : decode prog_13_method_36_code 178 = .ok (.getfield 60, 3) := by decide +kernel
theorem b_Mod_contour_181 : tf_dec prog_13_method_36_code 181 [(.iload 5, 2)] = true := by decide +kernel
theorem d_Mod_contour_183 : decode prog_13_method_36_code 183 = .ok (.baload, 1) := by decide +kernel
theorem d_Mod_contour_184 : decode prog_13_method_36_code 184 = .ok (.ifCond .eq 13, 3) := by decide +kernel
theorem b_Mod_contour_187 : tf_dec prog_13_method_36_code 187 [(.aload_n 0, 1)] = true := by decide +kernel
theorem d_Mod_contour_188 : decode prog_13_method_36_code 188 = .ok (.getfield 54, 3) := by decide +kernel
theorem b_Mod_contour_191 : tf_dec prog_13_method_36_code 191 [(.iload 5, 2)] = true := by decide +kernel
theorem d_Mod_contour_193 : decode prog_13_method_36_code 193 = .ok (.iaload, 1) := by decide +kernel
theorem d_Mod_contour_194 : decode prog_13_method_36_code 194 = .ok (.goto 20, 3) := by decide +kernel
theorem b_Mod_contour_197 : tf_dec prog_13_method_36_code 197 [(.aload_n 0, 1)] = true := by decide +kernel
theorem d_Mod_contour_198 : decode prog_13_method_36_code 198 = .ok (.getfield 54, 3) := by decide +kernel
theorem b_Mod_contour_201 : tf_dec prog_13_method_36_code 201 [(.iload 4, 2)] = true := by decide +kernel
theorem d_Mod_contour_203 : decode prog_13_method_36_code 203 = .ok (.iaload, 1) := by decide +kernel
theorem b_Mod_contour_204 : tf_dec prog_13_method_36_code 204 [(.aload_n 0, 1)] = true := by decide +kernel
theorem d_Mod_contour_205 : decode prog_13_method_36_code 205 = .ok (.getfield 54, 3) := by decide +kernel
theorem b_Mod_contour_208 : tf_dec prog_13_method_36_code 208 [(.iload 5, 2)] = true := by decide +kernel
theorem d_Mod_contour_210 : decode prog_13_method_36_code 210 = .ok (.iaload, 1) := by decide +kernel
theorem d_Mod_contour_211 : decode prog_13_method_36_code 211 = .ok (.invokestatic 250, 3) := by decide +kernel
theorem b_Mod_contour_214 : tf_dec prog_13_method_36_code 214 [(.istore 7, 2), (.aload_n 0, 1)] = true := by decide +kernel
theorem d_Mod_contour_217 : decode prog_13_method_36_code 217 = .ok (.getfield 60, 3) := by decide +kernel
theorem b_Mod_contour_220 : tf_dec prog_13_method_36_code 220 [(.iload 5, 2)] = true := by decide +kernel
theorem d_Mod_contour_222 : decode prog_13_method_36_code 222 = .ok (.baload, 1) := by decide +kernel
theorem d_Mod_contour_223 : decode prog_13_method_36_code 223 = .ok (.ifCond .eq 13, 3) := by decide +kernel
theorem b_Mod_contour_226 : tf_dec prog_13_method_36_code 226 [(.aload_n 0, 1)] = true := by decide +kernel
theorem d_Mod_contour_227 : decode prog_13_method_36_code 227 = .ok (.getfield 57, 3) := by decide +kernel
theorem b_Mod_contour_230 : tf_dec prog_13_method_36_code 230 [(.iload 5, 2)] = true := by decide +kernel
theorem d_Mod_contour_232 : decode prog_13_method_36_code 232 = .ok (.iaload, 1) := by decide +kernel
theorem d_Mod_contour_233 : decode prog_13_method_36_code 233 = .ok (.goto 20, 3) := by decide +kernel
theorem b_Mod_contour_236 : tf_dec prog_13_method_36_code 236 [(.aload_n 0, 1)] = true := by decide +kernel
theorem d_Mod_contour_237 : decode prog_13_method_36_code 237 = .ok (.getfield 57, 3) := by decide +kernel
theorem b_Mod_contour_240 : tf_dec prog_13_method_36_code 240 [(.iload 4, 2)] = true := by decide +kernel
theorem d_Mod_contour_242 : decode prog_13_method_36_code 242 = .ok (.iaload, 1) := by decide +kernel
theorem b_Mod_contour_243 : tf_dec prog_13_method_36_code 243 [(.aload_n 0, 1)] = true := by decide +kernel
theorem d_Mod_contour_244 : decode prog_13_method_36_code 244 = .ok (.getfield 57, 3) := by decide +kernel
theorem b_Mod_contour_247 : tf_dec prog_13_method_36_code 247 [(.iload 5, 2)] = true := by decide +kernel
theorem d_Mod_contour_249 : decode prog_13_method_36_code 249 = .ok (.iaload, 1) := by decide +kernel
theorem d_Mod_contour_250 : decode prog_13_method_36_code 250 = .ok (.invokestatic 250, 3) := by decide +kernel
theorem b_Mod_contour_253 : tf_dec prog_13_method_36_code 253 [(.istore 8, 2), (.aload_n 0, 1), (.aload_n 0, 1)] = true := by decide +kernel
theorem d_Mod_contour_257 : decode prog_13_method_36_code 257 = .ok (.getfield 54, 3) := by decide +kernel
theorem b_Mod_contour_260 : tf_dec prog_13_method_36_code 260 [(.iload 4, 2)] = true := by decide +kernel
theorem d_Mod_contour_262 : decode prog_13_method_36_code 262 = .ok (.iaload, 1) := by decide +kernel
theorem b_Mod_contour_263 : tf_dec prog_13_method_36_code 263 [(.aload_n 0, 1)] = true := by decide +kernel
theorem d_Mod_contour_264 : decode prog_13_method_36_code 264 = .ok (.getfield 57, 3) := by decide +kernel
theorem b_Mod_contour_267 : tf_dec prog_13_method_36_code 267 [(.iload 4, 2)] = true := by decide +kernel
theorem d_Mod_contour_269 : decode prog_13_method_36_code 269 = .ok (.iaload, 1) := by decide +kernel
theorem b_Mod_contour_270 : tf_dec prog_13_method_36_code 270 [(.iload 7, 2), (.iload 8, 2)] = true := by decide +kernel
theorem d_Mod_contour_274 : decode prog_13_method_36_code 274 = .ok (.invokevirtual 253, 3) := by decide +kernel
theorem b_Mod_contour_277 : tf_dec prog_13_method_36_code 277 [(.iinc 3 1, 3)] = true := by decide +kernel
theorem d_Mod_contour_280 : decode prog_13_method_36_code 280 = .ok (.goto (-278), 3) := by decide +kernel
theorem d_Mod_contour_283 : decode prog_13_method_36_code 283 = .ok (.return_, 1) := by decide +kernel
theorem b_Mod_draw_0 : tf_dec prog_13_method_37_code 0 [(.aload_n 0, 1), (.aload_n 0, 1), (.iload_n 1, 1)] = true := by decide +kernel
theorem d_Mod_draw_3 : decode prog_13_method_37_code 3 = .ok (.invokevirtual 148, 3) := by decide +kernel
theorem d_Mod_draw_6 : decode prog_13_method_37_code 6 = .ok (.ifCond .eq 29, 3) := by decide +kernel
theorem b_Mod_draw_9 : tf_dec prog_13_method_37_code 9 [(.iload_n 2, 1), (.bipush 32, 2)] = true := by decide +kernel
theorem d_Mod_draw_12 : decode prog_13_method_37_code 12 = .ok (.if_icmp .eq 27, 3) := by decide +kernel
theorem b_Mod_draw_15 : tf_dec prog_13_method_37_code 15 [(.iload_n 2, 1), (.bipush 64, 2)] = true := by decide +kernel
theorem d_Mod_draw_18 : decode prog_13_method_37_code 18 = .ok (.if_icmp .eq 21, 3) := by decide +kernel
theorem b_Mod_draw_21 : tf_dec prog_13_method_37_code 21 [(.iload_n 2, 1), (.sipush 128, 3)] = true := by decide +kernel
theorem d_Mod_draw_25 : decode prog_13_method_37_code 25 = .ok (.if_icmp .eq 14, 3) := by decide +kernel
theorem b_Mod_draw_28 : tf_dec prog_13_method_37_code 28 [(.iload_n 2, 1), (.sipush 256, 3)] = true := by decide +kernel
theorem d_Mod_draw_32 : decode prog_13_method_37_code 32 = .ok (.if_icmp .eq 7, 3) := by decide +kernel
theorem b_Mod_draw_35 : tf_dec prog_13_method_37_code 35 [(.iconst 1, 1)] = true := by decide +kernel
theorem d_Mod_draw_36 : decode prog_13_method_37_code 36 = .ok (.goto 4, 3) := by decide +kernel
theorem b_Mod_draw_39 : tf_dec prog_13_method_37_code 39 [(.iconst 0, 1)] = true := by decide +kernel
theorem d_Mod_draw_40 : decode prog_13_method_37_code 40 = .ok (.putfield 123, 3) := by decide +kernel
theorem b_Mod_draw_43 : tf_dec prog_13_method_37_code 43 [(.aload_n 0, 1)] = true := by decide +kernel
theorem d_Mod_draw_44 : decode prog_13_method_37_code 44 = .ok (.getfield 123, 3) := by decide +kernel
theorem d_Mod_draw_47 : decode prog_13_method_37_code 47 = .ok (.ifCond .le 5, 3) := by decide +kernel
theorem b_Mod_draw_50 : tf_dec prog_13_method_37_code 50 [(.iconst 0, 1)] = true := by decide +kernel
theorem d_Mod_draw_51 : decode prog_13_method_37_code 51 = .ok (.ireturn, 1) := by decide +kernel
theorem b_Mod_draw_52 : tf_dec prog_13_method_37_code 52 [(.aload_n 0, 1), (.iload_n 1, 1)] = true := by decide +kernel
theorem d_Mod_draw_54 : decode prog_13_method_37_code 54 = .ok (.invokevirtual 197, 3) := by decide +kernel
theorem b_Mod_draw_57 : tf_dec prog_13_method_37_code 57 [(.aload_n 0, 1), (.iload_n 2, 1)] = true := by decide +kernel
theorem d_Mod_draw_59 : decode prog_13_method_37_code 59 = .ok (.putfield 206, 3) := by decide +kernel
theorem b_Mod_draw_62 : tf_dec prog_13_method_37_code 62 [(.aload_n 0, 1), (.sipush 2048, 3), (.iload_n 2, 1)] = true := by decide +kernel
theorem d_Mod_draw_67 : decode prog_13_method_37_code 67 = .ok (.idiv, 1) := by decide +kernel
theorem d_Mod_draw_68 : decode prog_13_method_37_code 68 = .ok (.putfield 216, 3) := by decide +kernel
theorem b_Mod_draw_71 : tf_dec prog_13_method_37_code 71 [(.aload_n 0, 1), (.iload_n 3, 1)] = true := by decide +kernel
theorem d_Mod_draw_73 : decode prog_13_method_37_code 73 = .ok (.putfield 209, 3) := by decide +kernel
theorem b_Mod_draw_76 : tf_dec prog_13_method_37_code 76 [(.iconst 0, 1), (.istore 4, 2)] = true := by decide +kernel
theorem b_Mod_draw_79 : tf_dec prog_13_method_37_code 79 [(.iload 4, 2), (.aload_n 0, 1)] = true := by decide +kernel
theorem d_Mod_draw_82 : decode prog_13_method_37_code 82 = .ok (.getfield 216, 3) := by decide +kernel
theorem b_Mod_draw_85 : tf_dec prog_13_method_37_code 85 [(.aload_n 0, 1)] = true := by decide +kernel
theorem d_Mod_draw_86 : decode prog_13_method_37_code 86 = .ok (.getfield 216, 3) := by decide +kernel
theorem b_Mod_draw_89 : tf_dec prog_13_method_37_code 89 [(.imul, 1)] = true := by decide +kernel
theorem d_Mod_draw_90 : decode prog_13_method_37_code 90 = .ok (.if_icmp .ge 17, 3) := by decide +kernel
theorem b_Mod_draw_93 : tf_dec prog_13_method_37_code 93 [(.aload_n 0, 1)] = true := by decide +kernel
theorem d_Mod_draw_94 : decode prog_13_method_37_code 94 = .ok (.getfield 75, 3) := by decide +kernel
theorem b_Mod_draw_97 : tf_dec prog_13_method_37_code 97 [(.iload 4, 2), (.iconst 0, 1)] = true := by decide +kernel
theorem d_Mod_draw_100 : decode prog_13_method_37_code 100 = .ok (.iastore, 1) := by decide +kernel
theorem b_Mod_draw_101 : tf_dec prog_13_method_37_code 101 [(.iinc 4 1, 3)] = true := by decide +kernel
theorem d_Mod_draw_104 : decode prog_13_method_37_code 104 = .ok (.goto (-25), 3) := by decide +kernel
theorem b_Mod_draw_107 : tf_dec prog_13_method_37_code 107 [(.iconst 0, 1), (.istore 4, 2), (.iconst 0, 1), (.istore 5, 2)] = true := by decide +kernel
theorem b_Mod_draw_113 : tf_dec prog_13_method_37_code 113 [(.iload 5, 2), (.aload_n 0, 1)] = true := by decide +kernel
theorem d_Mod_draw_116 : decode prog_13_method_37_code 116 = .ok (.getfield 190, 3) := by decide +kernel
theorem d_Mod_draw_119 : decode prog_13_method_37_code 119 = .ok (.if_icmp .ge 60, 3) := by decide +kernel
theorem b_Mod_draw_122 : tf_dec prog_13_method_37_code 122 [(.iconst 0, 1), (.istore 6, 2)] = true := by decide +kernel
theorem b_Mod_draw_125 : tf_dec prog_13_method_37_code 125 [(.iload 4, 2), (.iload 6, 2), (.iadd, 1), (.aload_n 0, 1)] = true := by decide +kernel
theorem d_Mod_draw_131 : decode prog_13_method_37_code 131 = .ok (.getfield 187, 3) := by decide +kernel
theorem d_Mod_draw_134 : decode prog_13_method_37_code 134 = .ok (.if_icmp .ge 24, 3) := by decide +kernel
theorem b_Mod_draw_137 : tf_dec prog_13_method_37_code 137 [(.aload_n 0, 1)] = true := by decide +kernel
theorem d_Mod_draw_138 : decode prog_13_method_37_code 138 = .ok (.getfield 63, 3) := by decide +kernel
theorem b_Mod_draw_141 : tf_dec prog_13_method_37_code 141 [(.iload 4, 2), (.iload 6, 2), (.iadd, 1)] = true := by decide +kernel
theorem d_Mod_draw_146 : decode prog_13_method_37_code 146 = .ok (.iaload, 1) := by decide +kernel
theorem b_Mod_draw_147 : tf_dec prog_13_method_37_code 147 [(.iload 5, 2)] = true := by decide +kernel
theorem d_Mod_draw_149 : decode prog_13_method_37_code 149 = .ok (.if_icmp .ne 9, 3) := by decide +kernel
theorem b_Mod_draw_152 : tf_dec prog_13_method_37_code 152 [(.iinc 6 1, 3)] = true := by decide +kernel
theorem d_Mod_draw_155 : decode prog_13_method_37_code 155 = .ok (.goto (-30), 3) := by decide +kernel
theorem b_Mod_draw_158 : tf_dec prog_13_method_37_code 158 [(.aload_n 0, 1), (.iload 4, 2), (.iload 6, 2)] = true := by decide +kernel
theorem d_Mod_draw_163 : decode prog_13_method_37_code 163 = .ok (.invokevirtual 256, 3) := by decide +kernel
theorem b_Mod_draw_166 : tf_dec prog_13_method_37_code 166 [(.iload 4, 2), (.iload 6, 2), (.iadd, 1), (.istore 4, 2), (.iinc 5 1, 3)] = true := by decide +kernel
theorem d_Mod_draw_176 : decode prog_13_method_37_code 176 = .ok (.goto (-63), 3) := by decide +kernel
theorem b_Mod_draw_179 : tf_dec prog_13_method_37_code 179 [(.iconst 0, 1), (.istore 5, 2), (.iconst 0, 1), (.istore 6, 2)] = true := by decide +kernel
theorem b_Mod_draw_185 : tf_dec prog_13_method_37_code 185 [(.iload 6, 2), (.aload_n 0, 1)] = true := by decide +kernel
theorem d_Mod_draw_188 : decode prog_13_method_37_code 188 = .ok (.getfield 216, 3) := by decide +kernel
theorem b_Mod_draw_191 : tf_dec prog_13_method_37_code 191 [(.aload_n 0, 1)] = true := by decide +kernel
theorem d_Mod_draw_192 : decode prog_13_method_37_code 192 = .ok (.getfield 216, 3) := by decide +kernel
theorem b_Mod_draw_195 : tf_dec prog_13_method_37_code 195 [(.imul, 1)] = true := by decide +kernel
theorem d_Mod_draw_196 : decode prog_13_method_37_code 196 = .ok (.if_icmp .ge 83, 3) := by decide +kernel
theorem d_Mod_draw_199 : decode prog_13_method_37_code 199 = .ok (.ldc2_w 259, 3) := by decide +kernel
theorem b_Mod_draw_202 : tf_dec prog_13_method_37_code 202 [(.aload_n 0, 1)] = true := by decide +kernel
theorem d_Mod_draw_203 : decode prog_13_method_37_code 203 = .ok (.getfield 75, 3) := by decide +kernel
theorem b_Mod_draw_206 : tf_dec prog_13_method_37_code 206 [(.iload 6, 2)] = true := by decide +kernel
theorem d_Mod_draw_208 : decode prog_13_method_37_code 208 = .ok (.iaload, 1) := by decide +kernel
theorem b_Mod_draw_209 : tf_dec prog_13_method_37_code 209 [(.i2l, 1), (.lmul, 1)] = true := by decide +kernel
theorem d_Mod_draw_211 : decode prog_13_method_37_code 211 = .ok (.ldc2_w 126, 3) := by decide +kernel
theorem b_Mod_draw_214 : tf_dec prog_13_method_37_code 214 [(.iload_n 2, 1), (.i2l, 1), (.lmul, 1), (.iload_n 2, 1), (.i2l, 1), (.lmul, 1)] = true := by decide +kernel
theorem d_Mod_draw_220 : decode prog_13_method_37_code 220 = .ok (.invokestatic 140, 3) := by decide +kernel
theorem b_Mod_draw_223 : tf_dec prog_13_method_37_code 223 [(.lstore 7, 2), (.aload_n 0, 1)] = true := by decide +kernel
theorem d_Mod_draw_226 : decode prog_13_method_37_code 226 = .ok (.getfield 75, 3) := by decide +kernel
theorem b_Mod_draw_229 : tf_dec prog_13_method_37_code 229 [(.iload 6, 2), (.lload 7, 2), (.lconst 0, 1), (.lcmp, 1)] = true := by decide +kernel
theorem d_Mod_draw_235 : decode prog_13_method_37_code 235 = .ok (.ifCond .ge 7, 3) := by decide +kernel
theorem b_Mod_draw_238 : tf_dec prog_13_method_37_code 238 [(.iconst 0, 1)] = true := by decide +kernel
theorem d_Mod_draw_239 : decode prog_13_method_37_code 239 = .ok (.goto 21, 3) := by decide +kernel
theorem b_Mod_draw_242 : tf_dec prog_13_method_37_code 242 [(.lload 7, 2)] = true := by decide +kernel
theorem d_Mod_draw_244 : decode prog_13_method_37_code 244 = .ok (.ldc2_w 259, 3) := by decide +kernel
theorem b_Mod_draw_247 : tf_dec prog_13_method_37_code 247 [(.lcmp, 1)] = true := by decide +kernel
theorem d_Mod_draw_248 : decode prog_13_method_37_code 248 = .ok (.ifCond .le 9, 3) := by decide +kernel
theorem b_Mod_draw_251 : tf_dec prog_13_method_37_code 251 [(.sipush 255, 3)] = true := by decide +kernel
theorem d_Mod_draw_254 : decode prog_13_method_37_code 254 = .ok (.goto 6, 3) := by decide +kernel
theorem b_Mod_draw_257 : tf_dec prog_13_method_37_code 257 [(.lload 7, 2), (.l2i, 1)] = true := by decide +kernel
theorem d_Mod_draw_260 : decode prog_13_method_37_code 260 = .ok (.iastore, 1) := by decide +kernel
theorem b_Mod_draw_261 : tf_dec prog_13_method_37_code 261 [(.iload 5, 2), (.aload_n 0, 1)] = true := by decide +kernel
theorem d_Mod_draw_264 : decode prog_13_method_37_code 264 = .ok (.getfield 75, 3) := by decide +kernel
theorem b_Mod_draw_267 : tf_dec prog_13_method_37_code 267 [(.iload 6, 2)] = true := by decide +kernel
theorem d_Mod_draw_269 : decode prog_13_method_37_code 269 = .ok (.iaload, 1) := by decide +kernel
theorem b_Mod_draw_270 : tf_dec prog_13_method_37_code 270 [(.iadd, 1), (.istore 5, 2), (.iinc 6 1, 3)] = true := by decide +kernel
theorem d_Mod_draw_276 : decode prog_13_method_37_code 276 = .ok (.goto (-91), 3) := by decide +kernel
theorem b_Mod_draw_279 : tf_dec prog_13_method_37_code 279 [(.iload 5, 2)] = true := by decide +kernel
theorem d_Mod_draw_281 : decode prog_13_method_37_code 281 = .ok (.ireturn, 1) := by decide +kernel
theorem b_Mod_pixel_0 : tf_dec prog_13_method_38_code 0 [(.aload_n 0, 1), (.iconst 0, 1)] = true := by decide +kernel
theorem d_Mod_pixel_2 : decode prog_13_method_38_code 2 = .ok (.putfield 123, 3) := by decide +kernel
theorem b_Mod_pixel_5 : tf_dec prog_13_method_38_code 5 [(.iload_n 1, 1)] = true := by decide +kernel
theorem d_Mod_pixel_6 : decode prog_13_method_38_code 6 = .ok (.ifCond .lt 23, 3) := by decide +kernel
theorem b_Mod_pixel_9 : tf_dec prog_13_method_38_code 9 [(.iload_n 2, 1)] = true := by decide +kernel
theorem d_Mod_pixel_10 : decode prog_13_method_38_code 10 = .ok (.ifCond .lt 19, 3) := by decide +kernel
theorem b_Mod_pixel_13 : tf_dec prog_13_method_38_code 13 [(.iload_n 1, 1), (.aload_n 0, 1)] = true := by decide +kernel
theorem d_Mod_pixel_15 : decode prog_13_method_38_code 15 = .ok (.getfield 216, 3) := by decide +kernel
theorem d_Mod_pixel_18 : decode prog_13_method_38_code 18 = .ok (.if_icmp .ge 11, 3) := by decide +kernel
theorem b_Mod_pixel_21 : tf_dec prog_13_method_38_code 21 [(.iload_n 2, 1), (.aload_n 0, 1)] = true := by decide +kernel
theorem d_Mod_pixel_23 : decode prog_13_method_38_code 23 = .ok (.getfield 216, 3) := by decide +kernel
theorem d_Mod_pixel_26 : decode prog_13_method_38_code 26 = .ok (.if_icmp .lt 7, 3) := by decide +kernel
theorem b_Mod_pixel_29 : tf_dec prog_13_method_38_code 29 [(.iconst (-1), 1)] = true := by decide +kernel
theorem d_Mod_pixel_30 : decode prog_13_method_38_code 30 = .ok (.goto 16, 3) := by decide +kernel
theorem b_Mod_pixel_33 : tf_dec prog_13_method_38_code 33 [(.aload_n 0, 1)] = true := by decide +kernel
theorem d_Mod_pixel_34 : decode prog_13_method_38_code 34 = .ok (.getfield 75, 3) := by decide +kernel
theorem b_Mod_pixel_37 : tf_dec prog_13_method_38_code 37 [(.aload_n 0, 1)] = true := by decide +kernel
theorem d_Mod_pixel_38 : decode prog_13_method_38_code 38 = .ok (.getfield 216, 3) := by decide +kernel
theorem b_Mod_pixel_41 : tf_dec prog_13_method_38_code 41 [(.iload_n 2, 1), (.imul, 1), (.iload_n 1, 1), (.iadd, 1)] = true := by decide +kernel
theorem d_Mod_pixel_45 : decode prog_13_method_38_code 45 = .ok (.iaload, 1) := by decide +kernel
theorem d_Mod_pixel_46 : decode prog_13_method_38_code 46 = .ok (.ireturn, 1) := by decide +kernel
theorem b_Mod_sort_0 : tf_dec prog_13_method_39_code 0 [(.aload_n 0, 1), (.iconst 0, 1)] = true := by decide +kernel
theorem d_Mod_sort_2 : decode prog_13_method_39_code 2 = .ok (.putfield 123, 3) := by decide +kernel
theorem b_Mod_sort_5 : tf_dec prog_13_method_39_code 5 [(.iload_n 1, 1)] = true := by decide +kernel
theorem d_Mod_sort_6 : decode prog_13_method_39_code 6 = .ok (.ifCond .lt 26, 3) := by decide +kernel
theorem b_Mod_sort_9 : tf_dec prog_13_method_39_code 9 [(.iload_n 1, 1), (.iconst 1, 1)] = true := by decide +kernel
theorem d_Mod_sort_11 : decode prog_13_method_39_code 11 = .ok (.if_icmp .gt 21, 3) := by decide +kernel
theorem b_Mod_sort_14 : tf_dec prog_13_method_39_code 14 [(.aload_n 0, 1), (.iload_n 2, 1)] = true := by decide +kernel
theorem d_Mod_sort_16 : decode prog_13_method_39_code 16 = .ok (.invokevirtual 148, 3) := by decide +kernel
theorem d_Mod_sort_19 : decode prog_13_method_39_code 19 = .ok (.ifCond .eq 13, 3) := by decide +kernel
theorem b_Mod_sort_22 : tf_dec prog_13_method_39_code 22 [(.iload_n 3, 1)] = true := by decide +kernel
theorem d_Mod_sort_23 : decode prog_13_method_39_code 23 = .ok (.ifCond .lt 9, 3) := by decide +kernel
theorem b_Mod_sort_26 : tf_dec prog_13_method_39_code 26 [(.iload_n 3, 1), (.bipush 15, 2)] = true := by decide +kernel
theorem d_Mod_sort_29 : decode prog_13_method_39_code 29 = .ok (.if_icmp .le 5, 3) := by decide +kernel
theorem b_Mod_sort_32 : tf_dec prog_13_method_39_code 32 [(.iconst 0, 1)] = true := by decide +kernel
theorem d_Mod_sort_33 : decode prog_13_method_39_code 33 = .ok (.ireturn, 1) := by decide +kernel
theorem b_Mod_sort_34 : tf_dec prog_13_method_39_code 34 [(.iload_n 1, 1)] = true := by decide +kernel
theorem d_Mod_sort_35 : decode prog_13_method_39_code 35 = .ok (.ifCond .ne 14, 3) := by decide +kernel
theorem b_Mod_sort_38 : tf_dec prog_13_method_39_code 38 [(.aload_n 0, 1)] = true := by decide +kernel
theorem d_Mod_sort_39 : decode prog_13_method_39_code 39 = .ok (.getfield 78, 3) := by decide +kernel
theorem b_Mod_sort_42 : tf_dec prog_13_method_39_code 42 [(.iload_n 2, 1), (.iload_n 3, 1), (.i2b, 1)] = true := by decide +kernel
theorem d_Mod_sort_45 : decode prog_13_method_39_code 45 = .ok (.bastore, 1) := by decide +kernel
theorem d_Mod_sort_46 : decode prog_13_method_39_code 46 = .ok (.goto 11, 3) := by decide +kernel
theorem b_Mod_sort_49 : tf_dec prog_13_method_39_code 49 [(.aload_n 0, 1)] = true := by decide +kernel
theorem d_Mod_sort_50 : decode prog_13_method_39_code 50 = .ok (.getfield 81, 3) := by decide +kernel
theorem b_Mod_sort_53 : tf_dec prog_13_method_39_code 53 [(.iload_n 2, 1), (.iload_n 3, 1), (.i2b, 1)] = true := by decide +kernel
theorem d_Mod_sort_56 : decode prog_13_method_39_code 56 = .ok (.bastore, 1) := by decide +kernel
theorem b_Mod_sort_57 : tf_dec prog_13_method_39_code 57 [(.iconst 1, 1)] = true := by decide +kernel
theorem d_Mod_sort_58 : decode prog_13_method_39_code 58 = .ok (.ireturn, 1) := by decide +kernel
theorem b_Mod_isKern_0 : tf_dec prog_13_method_40_code 0 [(.iload_n 0, 1), (.sipush (-1000), 3)] = true := by decide +kernel
theorem d_Mod_isKern_4 : decode prog_13_method_40_code 4 = .ok (.if_icmp .lt 14, 3) := by decide +kernel
theorem b_Mod_isKern_7 : tf_dec prog_13_method_40_code 7 [(.iload_n 0, 1), (.sipush 1000, 3)] = true := by decide +kernel
theorem d_Mod_isKern_11 : decode prog_13_method_40_code 11 = .ok (.if_icmp .gt 7, 3) := by decide +kernel
theorem b_Mod_isKern_14 : tf_dec prog_13_method_40_code 14 [(.iconst 1, 1)] = true := by decide +kernel
theorem d_Mod_isKern_15 : decode prog_13_method_40_code 15 = .ok (.goto 4, 3) := by decide +kernel
theorem b_Mod_isKern_18 : tf_dec prog_13_method_40_code 18 [(.iconst 0, 1)] = true := by decide +kernel
theorem d_Mod_isKern_19 : decode prog_13_method_40_code 19 = .ok (.ireturn, 1) := by decide +kernel
theorem b_Mod_kern_0 : tf_dec prog_13_method_41_code 0 [(.aload_n 0, 1), (.iconst 0, 1)] = true := by decide +kernel
theorem d_Mod_kern_2 : decode prog_13_method_41_code 2 = .ok (.putfield 123, 3) := by decide +kernel
theorem b_Mod_kern_5 : tf_dec prog_13_method_41_code 5 [(.iload_n 1, 1), (.iconst 1, 1)] = true := by decide +kernel
theorem d_Mod_kern_7 : decode prog_13_method_41_code 7 = .ok (.if_icmp .lt 27, 3) := by decide +kernel
theorem b_Mod_kern_10 : tf_dec prog_13_method_41_code 10 [(.iload_n 1, 1), (.bipush 15, 2)] = true := by decide +kernel
theorem d_Mod_kern_13 : decode prog_13_method_41_code 13 = .ok (.if_icmp .gt 21, 3) := by decide +kernel
theorem b_Mod_kern_16 : tf_dec prog_13_method_41_code 16 [(.iload_n 2, 1), (.iconst 1, 1)] = true := by decide +kernel
theorem d_Mod_kern_18 : decode prog_13_method_41_code 18 = .ok (.if_icmp .lt 16, 3) := by decide +kernel
theorem b_Mod_kern_21 : tf_dec prog_13_method_41_code 21 [(.iload_n 2, 1), (.bipush 15, 2)] = true := by decide +kernel
theorem d_Mod_kern_24 : decode prog_13_method_41_code 24 = .ok (.if_icmp .gt 10, 3) := by decide +kernel
theorem b_Mod_kern_27 : tf_dec prog_13_method_41_code 27 [(.iload_n 3, 1)] = true := by decide +kernel
theorem d_Mod_kern_28 : decode prog_13_method_41_code 28 = .ok (.invokestatic 261, 3) := by decide +kernel
theorem d_Mod_kern_31 : decode prog_13_method_41_code 31 = .ok (.ifCond .ne 5, 3) := by decide +kernel
theorem b_Mod_kern_34 : tf_dec prog_13_method_41_code 34 [(.iconst 0, 1)] = true := by decide +kernel
theorem d_Mod_kern_35 : decode prog_13_method_41_code 35 = .ok (.ireturn, 1) := by decide +kernel
theorem b_Mod_kern_36 : tf_dec prog_13_method_41_code 36 [(.aload_n 0, 1)] = true := by decide +kernel
theorem d_Mod_kern_37 : decode prog_13_method_41_code 37 = .ok (.getfield 84, 3) := by decide +kernel
theorem b_Mod_kern_40 : tf_dec prog_13_method_41_code 40 [(.bipush 16, 2), (.iload_n 1, 1), (.imul, 1), (.iload_n 2, 1), (.iadd, 1), (.iload_n 3, 1), (.i2s, 1)] = true := by decide +kernel
theorem d_Mod_kern_48 : decode prog_13_method_41_code 48 = .ok (.sastore, 1) := by decide +kernel
theorem b_Mod_kern_49 : tf_dec prog_13_method_41_code 49 [(.aload_n 0, 1)] = true := by decide +kernel
theorem d_Mod_kern_50 : decode prog_13_method_41_code 50 = .ok (.getfield 88, 3) := by decide +kernel
theorem b_Mod_kern_53 : tf_dec prog_13_method_41_code 53 [(.bipush 16, 2), (.iload_n 1, 1), (.imul, 1), (.iload_n 2, 1), (.iadd, 1), (.iconst 1, 1)] = true := by decide +kernel
theorem d_Mod_kern_60 : decode prog_13_method_41_code 60 = .ok (.bastore, 1) := by decide +kernel
theorem b_Mod_kern_61 : tf_dec prog_13_method_41_code 61 [(.iconst 1, 1)] = true := by decide +kernel
theorem d_Mod_kern_62 : decode prog_13_method_41_code 62 = .ok (.ireturn, 1) := by decide +kernel
theorem b_Mod_pairAt_0 : tf_dec prog_13_method_42_code 0 [(.iconst (-1), 1), (.istore_n 3, 1), (.iconst 0, 1), (.istore 4, 2)] = true := by decide +kernel
theorem b_Mod_pairAt_5 : tf_dec prog_13_method_42_code 5 [(.iload 4, 2), (.aload_n 0, 1)] = true := by decide +kernel
theorem d_Mod_pairAt_8 : decode prog_13_method_42_code 8 = .ok (.getfield 264, 3) := by decide +kernel
theorem d_Mod_pairAt_11 : decode prog_13_method_42_code 11 = .ok (.if_icmp .ge 32, 3) := by decide +kernel
theorem b_Mod_pairAt_14 : tf_dec prog_13_method_42_code 14 [(.aload_n 0, 1)] = true := by decide +kernel
theorem d_Mod_pairAt_15 : decode prog_13_method_42_code 15 = .ok (.getfield 91, 3) := by decide +kernel
theorem b_Mod_pairAt_18 : tf_dec prog_13_method_42_code 18 [(.iload 4, 2)] = true := by decide +kernel
theorem d_Mod_pairAt_20 : decode prog_13_method_42_code 20 = .ok (.iaload, 1) := by decide +kernel
theorem b_Mod_pairAt_21 : tf_dec prog_13_method_42_code 21 [(.bipush 64, 2), (.iload_n 1, 1), (.imul, 1), (.iload_n 2, 1), (.iadd, 1)] = true := by decide +kernel
theorem d_Mod_pairAt_27 : decode prog_13_method_42_code 27 = .ok (.if_icmp .ne 8, 3) := by decide +kernel
theorem b_Mod_pairAt_30 : tf_dec prog_13_method_42_code 30 [(.iload 4, 2)] = true := by decide +kernel
theorem d_Mod_pairAt_32 : decode prog_13_method_42_code 32 = .ok (.goto 4, 3) := by decide +kernel
theorem b_Mod_pairAt_35 : tf_dec prog_13_method_42_code 35 [(.iload_n 3, 1)] = true := by decide +kernel
theorem b_Mod_pairAt_36 : tf_dec prog_13_method_42_code 36 [(.istore_n 3, 1), (.iinc 4 1, 3)] = true := by decide +kernel
theorem d_Mod_pairAt_40 : decode prog_13_method_42_code 40 = .ok (.goto (-35), 3) := by decide +kernel
theorem b_Mod_pairAt_43 : tf_dec prog_13_method_42_code 43 [(.iload_n 3, 1)] = true := by decide +kernel
theorem d_Mod_pairAt_44 : decode prog_13_method_42_code 44 = .ok (.ireturn, 1) := by decide +kernel
theorem b_Mod_pair_0 : tf_dec prog_13_method_43_code 0 [(.aload_n 0, 1), (.iconst 0, 1)] = true := by decide +kernel
theorem d_Mod_pair_2 : decode prog_13_method_43_code 2 = .ok (.putfield 123, 3) := by decide +kernel
theorem b_Mod_pair_5 : tf_dec prog_13_method_43_code 5 [(.aload_n 0, 1), (.iload_n 1, 1)] = true := by decide +kernel
theorem d_Mod_pair_7 : decode prog_13_method_43_code 7 = .ok (.invokevirtual 148, 3) := by decide +kernel
theorem d_Mod_pair_10 : decode prog_13_method_43_code 10 = .ok (.ifCond .eq 18, 3) := by decide +kernel
theorem b_Mod_pair_13 : tf_dec prog_13_method_43_code 13 [(.aload_n 0, 1), (.iload_n 2, 1)] = true := by decide +kernel
theorem d_Mod_pair_15 : decode prog_13_method_43_code 15 = .ok (.invokevirtual 148, 3) := by decide +kernel
theorem d_Mod_pair_18 : decode prog_13_method_43_code 18 = .ok (.ifCond .eq 10, 3) := by decide +kernel
theorem b_Mod_pair_21 : tf_dec prog_13_method_43_code 21 [(.iload_n 3, 1)] = true := by decide +kernel
theorem d_Mod_pair_22 : decode prog_13_method_43_code 22 = .ok (.invokestatic 261, 3) := by decide +kernel
theorem d_Mod_pair_25 : decode prog_13_method_43_code 25 = .ok (.ifCond .ne 5, 3) := by decide +kernel
theorem b_Mod_pair_28 : tf_dec prog_13_method_43_code 28 [(.iconst 0, 1)] = true := by decide +kernel
theorem d_Mod_pair_29 : decode prog_13_method_43_code 29 = .ok (.ireturn, 1) := by decide +kernel
theorem b_Mod_pair_30 : tf_dec prog_13_method_43_code 30 [(.aload_n 0, 1), (.iload_n 1, 1), (.iload_n 2, 1)] = true := by decide +kernel
theorem d_Mod_pair_33 : decode prog_13_method_43_code 33 = .ok (.invokevirtual 267, 3) := by decide +kernel
theorem b_Mod_pair_36 : tf_dec prog_13_method_43_code 36 [(.istore 4, 2), (.iload 4, 2)] = true := by decide +kernel
theorem d_Mod_pair_40 : decode prog_13_method_43_code 40 = .ok (.ifCond .ge 14, 3) := by decide +kernel
theorem b_Mod_pair_43 : tf_dec prog_13_method_43_code 43 [(.aload_n 0, 1)] = true := by decide +kernel
theorem d_Mod_pair_44 : decode prog_13_method_43_code 44 = .ok (.getfield 264, 3) := by decide +kernel
theorem b_Mod_pair_47 : tf_dec prog_13_method_43_code 47 [(.bipush 40, 2)] = true := by decide +kernel
theorem d_Mod_pair_49 : decode prog_13_method_43_code 49 = .ok (.if_icmp .ne 5, 3) := by decide +kernel
theorem b_Mod_pair_52 : tf_dec prog_13_method_43_code 52 [(.iconst 0, 1)] = true := by decide +kernel
theorem d_Mod_pair_53 : decode prog_13_method_43_code 53 = .ok (.ireturn, 1) := by decide +kernel
theorem b_Mod_pair_54 : tf_dec prog_13_method_43_code 54 [(.iload 4, 2)] = true := by decide +kernel
theorem d_Mod_pair_56 : decode prog_13_method_43_code 56 = .ok (.ifCond .ge 10, 3) := by decide +kernel
theorem b_Mod_pair_59 : tf_dec prog_13_method_43_code 59 [(.aload_n 0, 1)] = true := by decide +kernel
theorem d_Mod_pair_60 : decode prog_13_method_43_code 60 = .ok (.getfield 264, 3) := by decide +kernel
theorem d_Mod_pair_63 : decode prog_13_method_43_code 63 = .ok (.goto 5, 3) := by decide +kernel
theorem b_Mod_pair_66 : tf_dec prog_13_method_43_code 66 [(.iload 4, 2)] = true := by decide +kernel
theorem b_Mod_pair_68 : tf_dec prog_13_method_43_code 68 [(.istore 4, 2), (.aload_n 0, 1), (.dup, 1)] = true := by decide +kernel
theorem d_Mod_pair_72 : decode prog_13_method_43_code 72 = .ok (.getfield 264, 3) := by decide +kernel
theorem b_Mod_pair_75 : tf_dec prog_13_method_43_code 75 [(.iload 4, 2), (.aload_n 0, 1)] = true := by decide +kernel
theorem d_Mod_pair_78 : decode prog_13_method_43_code 78 = .ok (.getfield 264, 3) := by decide +kernel
theorem d_Mod_pair_81 : decode prog_13_method_43_code 81 = .ok (.if_icmp .ne 7, 3) := by decide +kernel
theorem b_Mod_pair_84 : tf_dec prog_13_method_43_code 84 [(.iconst 1, 1)] = true := by decide +kernel
theorem d_Mod_pair_85 : decode prog_13_method_43_code 85 = .ok (.goto 4, 3) := by decide +kernel
theorem b_Mod_pair_88 : tf_dec prog_13_method_43_code 88 [(.iconst 0, 1)] = true := by decide +kernel
theorem b_Mod_pair_89 : tf_dec prog_13_method_43_code 89 [(.iadd, 1)] = true := by decide +kernel
theorem d_Mod_pair_90 : decode prog_13_method_43_code 90 = .ok (.putfield 264, 3) := by decide +kernel
theorem b_Mod_pair_93 : tf_dec prog_13_method_43_code 93 [(.aload_n 0, 1)] = true := by decide +kernel
theorem d_Mod_pair_94 : decode prog_13_method_43_code 94 = .ok (.getfield 91, 3) := by decide +kernel
theorem b_Mod_pair_97 : tf_dec prog_13_method_43_code 97 [(.iload 4, 2), (.bipush 64, 2), (.iload_n 1, 1), (.imul, 1), (.iload_n 2, 1), (.iadd, 1)] = true := by decide +kernel
theorem d_Mod_pair_105 : decode prog_13_method_43_code 105 = .ok (.iastore, 1) := by decide +kernel
theorem b_Mod_pair_106 : tf_dec prog_13_method_43_code 106 [(.aload_n 0, 1)] = true := by decide +kernel
theorem d_Mod_pair_107 : decode prog_13_method_43_code 107 = .ok (.getfield 94, 3) := by decide +kernel
theorem b_Mod_pair_110 : tf_dec prog_13_method_43_code 110 [(.iload 4, 2), (.iload_n 3, 1)] = true := by decide +kernel
theorem d_Mod_pair_113 : decode prog_13_method_43_code 113 = .ok (.iastore, 1) := by decide +kernel
theorem b_Mod_pair_114 : tf_dec prog_13_method_43_code 114 [(.iconst 1, 1)] = true := by decide +kernel
theorem d_Mod_pair_115 : decode prog_13_method_43_code 115 = .ok (.ireturn, 1) := by decide +kernel
theorem b_Mod_kernOf_0 : tf_dec prog_13_method_44_code 0 [(.aload_n 0, 1), (.iload_n 1, 1), (.iload_n 2, 1)] = true := by decide +kernel
theorem d_Mod_kernOf_3 : decode prog_13_method_44_code 3 = .ok (.invokevirtual 267, 3) := by decide +kernel
theorem b_Mod_kernOf_6 : tf_dec prog_13_method_44_code 6 [(.istore_n 3, 1), (.iload_n 3, 1)] = true := by decide +kernel
theorem d_Mod_kernOf_8 : decode prog_13_method_44_code 8 = .ok (.ifCond .lt 10, 3) := by decide +kernel
theorem b_Mod_kernOf_11 : tf_dec prog_13_method_44_code 11 [(.aload_n 0, 1)] = true := by decide +kernel
theorem d_Mod_kernOf_12 : decode prog_13_method_44_code 12 = .ok (.getfield 94, 3) := by decide +kernel
theorem b_Mod_kernOf_15 : tf_dec prog_13_method_44_code 15 [(.iload_n 3, 1)] = true := by decide +kernel
theorem d_Mod_kernOf_16 : decode prog_13_method_44_code 16 = .ok (.iaload, 1) := by decide +kernel
theorem d_Mod_kernOf_17 : decode prog_13_method_44_code 17 = .ok (.ireturn, 1) := by decide +kernel
theorem b_Mod_kernOf_18 : tf_dec prog_13_method_44_code 18 [(.bipush 16, 2), (.aload_n 0, 1)] = true := by decide +kernel
theorem d_Mod_kernOf_21 : decode prog_13_method_44_code 21 = .ok (.getfield 78, 3) := by decide +kernel
theorem b_Mod_kernOf_24 : tf_dec prog_13_method_44_code 24 [(.iload_n 1, 1)] = true := by decide +kernel
theorem d_Mod_kernOf_25 : decode prog_13_method_44_code 25 = .ok (.baload, 1) := by decide +kernel
theorem b_Mod_kernOf_26 : tf_dec prog_13_method_44_code 26 [(.imul, 1), (.aload_n 0, 1)] = true := by decide +kernel
theorem d_Mod_kernOf_28 : decode prog_13_method_44_code 28 = .ok (.getfield 81, 3) := by decide +kernel
theorem b_Mod_kernOf_31 : tf_dec prog_13_method_44_code 31 [(.iload_n 2, 1)] = true := by decide +kernel
theorem d_Mod_kernOf_32 : decode prog_13_method_44_code 32 = .ok (.baload, 1) := by decide +kernel
theorem b_Mod_kernOf_33 : tf_dec prog_13_method_44_code 33 [(.iadd, 1), (.istore 4, 2), (.aload_n 0, 1)] = true := by decide +kernel
theorem d_Mod_kernOf_37 : decode prog_13_method_44_code 37 = .ok (.getfield 78, 3) := by decide +kernel
theorem b_Mod_kernOf_40 : tf_dec prog_13_method_44_code 40 [(.iload_n 1, 1)] = true := by decide +kernel
theorem d_Mod_kernOf_41 : decode prog_13_method_44_code 41 = .ok (.baload, 1) := by decide +kernel
theorem d_Mod_kernOf_42 : decode prog_13_method_44_code 42 = .ok (.ifCond .le 32, 3) := by decide +kernel
theorem b_Mod_kernOf_45 : tf_dec prog_13_method_44_code 45 [(.aload_n 0, 1)] = true := by decide +kernel
theorem d_Mod_kernOf_46 : decode prog_13_method_44_code 46 = .ok (.getfield 81, 3) := by decide +kernel
theorem b_Mod_kernOf_49 : tf_dec prog_13_method_44_code 49 [(.iload_n 2, 1)] = true := by decide +kernel
theorem d_Mod_kernOf_50 : decode prog_13_method_44_code 50 = .ok (.baload, 1) := by decide +kernel
theorem d_Mod_kernOf_51 : decode prog_13_method_44_code 51 = .ok (.ifCond .le 23, 3) := by decide +kernel
theorem b_Mod_kernOf_54 : tf_dec prog_13_method_44_code 54 [(.aload_n 0, 1)] = true := by decide +kernel
theorem d_Mod_kernOf_55 : decode prog_13_method_44_code 55 = .ok (.getfield 88, 3) := by decide +kernel
theorem b_Mod_kernOf_58 : tf_dec prog_13_method_44_code 58 [(.iload 4, 2)] = true := by decide +kernel
theorem d_Mod_kernOf_60 : decode prog_13_method_44_code 60 = .ok (.baload, 1) := by decide +kernel
theorem d_Mod_kernOf_61 : decode prog_13_method_44_code 61 = .ok (.ifCond .eq 13, 3) := by decide +kernel
theorem b_Mod_kernOf_64 : tf_dec prog_13_method_44_code 64 [(.aload_n 0, 1)] = true := by decide +kernel
theorem d_Mod_kernOf_65 : decode prog_13_method_44_code 65 = .ok (.getfield 84, 3) := by decide +kernel
theorem b_Mod_kernOf_68 : tf_dec prog_13_method_44_code 68 [(.iload 4, 2)] = true := by decide +kernel
theorem d_Mod_kernOf_70 : decode prog_13_method_44_code 70 = .ok (.saload, 1) := by decide +kernel
theorem d_Mod_kernOf_71 : decode prog_13_method_44_code 71 = .ok (.goto 4, 3) := by decide +kernel
theorem b_Mod_kernOf_74 : tf_dec prog_13_method_44_code 74 [(.iconst 0, 1)] = true := by decide +kernel
theorem d_Mod_kernOf_75 : decode prog_13_method_44_code 75 = .ok (.ireturn, 1) := by decide +kernel
theorem b_Mod_glyphOf_0 : tf_dec prog_13_method_45_code 0 [(.iconst 0, 1), (.istore 4, 2)] = true := by decide +kernel
theorem b_Mod_glyphOf_3 : tf_dec prog_13_method_45_code 3 [(.iload 4, 2), (.iload_n 2, 1)] = true := by decide +kernel
theorem d_Mod_glyphOf_6 : decode prog_13_method_45_code 6 = .ok (.if_icmp .ge 27, 3) := by decide +kernel
theorem b_Mod_glyphOf_9 : tf_dec prog_13_method_45_code 9 [(.lload_n 0, 1), (.bipush 8, 2), (.iload 4, 2), (.imul, 1), (.lshr, 1)] = true := by decide +kernel
theorem d_Mod_glyphOf_16 : decode prog_13_method_45_code 16 = .ok (.ldc2_w 259, 3) := by decide +kernel
theorem b_Mod_glyphOf_19 : tf_dec prog_13_method_45_code 19 [(.land, 1), (.lconst 0, 1), (.lcmp, 1)] = true := by decide +kernel
theorem d_Mod_glyphOf_22 : decode prog_13_method_45_code 22 = .ok (.ifCond .ne 5, 3) := by decide +kernel
theorem b_Mod_glyphOf_25 : tf_dec prog_13_method_45_code 25 [(.iconst (-1), 1)] = true := by decide +kernel
theorem d_Mod_glyphOf_26 : decode prog_13_method_45_code 26 = .ok (.ireturn, 1) := by decide +kernel
theorem b_Mod_glyphOf_27 : tf_dec prog_13_method_45_code 27 [(.iinc 4 1, 3)] = true := by decide +kernel
theorem d_Mod_glyphOf_30 : decode prog_13_method_45_code 30 = .ok (.goto (-27), 3) := by decide +kernel
theorem b_Mod_glyphOf_33 : tf_dec prog_13_method_45_code 33 [(.iload_n 2, 1), (.iload_n 3, 1)] = true := by decide +kernel
theorem d_Mod_glyphOf_35 : decode prog_13_method_45_code 35 = .ok (.if_icmp .lt 7, 3) := by decide +kernel
theorem b_Mod_glyphOf_38 : tf_dec prog_13_method_45_code 38 [(.iconst (-1), 1)] = true := by decide +kernel
theorem d_Mod_glyphOf_39 : decode prog_13_method_45_code 39 = .ok (.goto 16, 3) := by decide +kernel
theorem b_Mod_glyphOf_42 : tf_dec prog_13_method_45_code 42 [(.lload_n 0, 1), (.bipush 8, 2), (.iload_n 2, 1), (.imul, 1), (.lshr, 1)] = true := by decide +kernel
theorem d_Mod_glyphOf_48 : decode prog_13_method_45_code 48 = .ok (.ldc2_w 259, 3) := by decide +kernel
theorem b_Mod_glyphOf_51 : tf_dec prog_13_method_45_code 51 [(.land, 1), (.l2i, 1), (.iconst 1, 1), (.isub, 1)] = true := by decide +kernel
theorem d_Mod_glyphOf_55 : decode prog_13_method_45_code 55 = .ok (.ireturn, 1) := by decide +kernel
theorem b_Mod_lengthOf_0 : tf_dec prog_13_method_46_code 0 [(.iconst 0, 1), (.istore_n 3, 1)] = true := by decide +kernel
theorem b_Mod_lengthOf_2 : tf_dec prog_13_method_46_code 2 [(.lload_n 0, 1), (.iload_n 3, 1), (.iload_n 2, 1)] = true := by decide +kernel
theorem d_Mod_lengthOf_5 : decode prog_13_method_46_code 5 = .ok (.invokestatic 270, 3) := by decide +kernel
theorem d_Mod_lengthOf_8 : decode prog_13_method_46_code 8 = .ok (.ifCond .lt 9, 3) := by decide +kernel
theorem b_Mod_lengthOf_11 : tf_dec prog_13_method_46_code 11 [(.iinc 3 1, 3)] = true := by decide +kernel
theorem d_Mod_lengthOf_14 : decode prog_13_method_46_code 14 = .ok (.goto (-12), 3) := by decide +kernel
theorem b_Mod_lengthOf_17 : tf_dec prog_13_method_46_code 17 [(.iload_n 3, 1)] = true := by decide +kernel
theorem d_Mod_lengthOf_18 : decode prog_13_method_46_code 18 = .ok (.ireturn, 1) := by decide +kernel
theorem b_Mod_isRow_0 : tf_dec prog_13_method_47_code 0 [(.iconst 1, 1), (.istore 4, 2), (.iconst 0, 1), (.istore 5, 2)] = true := by decide +kernel
theorem b_Mod_isRow_6 : tf_dec prog_13_method_47_code 6 [(.iload 5, 2), (.lload_n 1, 1), (.iload_n 3, 1)] = true := by decide +kernel
theorem d_Mod_isRow_10 : decode prog_13_method_47_code 10 = .ok (.invokestatic 274, 3) := by decide +kernel
theorem d_Mod_isRow_13 : decode prog_13_method_47_code 13 = .ok (.if_icmp .ge 35, 3) := by decide +kernel
theorem b_Mod_isRow_16 : tf_dec prog_13_method_47_code 16 [(.iload 4, 2)] = true := by decide +kernel
theorem d_Mod_isRow_18 : decode prog_13_method_47_code 18 = .ok (.ifCond .eq 21, 3) := by decide +kernel
theorem b_Mod_isRow_21 : tf_dec prog_13_method_47_code 21 [(.aload_n 0, 1), (.lload_n 1, 1), (.iload 5, 2), (.iload_n 3, 1)] = true := by decide +kernel
theorem d_Mod_isRow_26 : decode prog_13_method_47_code 26 = .ok (.invokestatic 270, 3) := by decide +kernel
theorem d_Mod_isRow_29 : decode prog_13_method_47_code 29 = .ok (.invokevirtual 148, 3) := by decide +kernel
theorem d_Mod_isRow_32 : decode prog_13_method_47_code 32 = .ok (.ifCond .eq 7, 3) := by decide +kernel
theorem b_Mod_isRow_35 : tf_dec prog_13_method_47_code 35 [(.iconst 1, 1)] = true := by decide +kernel
theorem d_Mod_isRow_36 : decode prog_13_method_47_code 36 = .ok (.goto 4, 3) := by decide +kernel
theorem b_Mod_isRow_39 : tf_dec prog_13_method_47_code 39 [(.iconst 0, 1)] = true := by decide +kernel
theorem b_Mod_isRow_40 : tf_dec prog_13_method_47_code 40 [(.istore 4, 2), (.iinc 5 1, 3)] = true := by decide +kernel
theorem d_Mod_isRow_45 : decode prog_13_method_47_code 45 = .ok (.goto (-39), 3) := by decide +kernel
theorem b_Mod_isRow_48 : tf_dec prog_13_method_47_code 48 [(.iload 4, 2)] = true := by decide +kernel
theorem d_Mod_isRow_50 : decode prog_13_method_47_code 50 = .ok (.ireturn, 1) := by decide +kernel
theorem b_Mod_rule_0 : tf_dec prog_13_method_48_code 0 [(.iload_n 1, 1)] = true := by decide +kernel
theorem d_Mod_rule_1 : decode prog_13_method_48_code 1 = .ok (.ifCond .lt 60, 3) := by decide +kernel
theorem b_Mod_rule_4 : tf_dec prog_13_method_48_code 4 [(.iload_n 1, 1), (.bipush 8, 2)] = true := by decide +kernel
theorem d_Mod_rule_7 : decode prog_13_method_48_code 7 = .ok (.if_icmp .ge 54, 3) := by decide +kernel
theorem b_Mod_rule_10 : tf_dec prog_13_method_48_code 10 [(.lload 4, 2), (.iconst 4, 1)] = true := by decide +kernel
theorem d_Mod_rule_13 : decode prog_13_method_48_code 13 = .ok (.invokestatic 274, 3) := by decide +kernel
theorem d_Mod_rule_16 : decode prog_13_method_48_code 16 = .ok (.ifCond .le 45, 3) := by decide +kernel
theorem b_Mod_rule_19 : tf_dec prog_13_method_48_code 19 [(.aload_n 0, 1), (.lload_n 2, 1), (.iconst 2, 1)] = true := by decide +kernel
theorem d_Mod_rule_22 : decode prog_13_method_48_code 22 = .ok (.invokevirtual 278, 3) := by decide +kernel
theorem d_Mod_rule_25 : decode prog_13_method_48_code 25 = .ok (.ifCond .eq 36, 3) := by decide +kernel
theorem b_Mod_rule_28 : tf_dec prog_13_method_48_code 28 [(.aload_n 0, 1), (.lload 4, 2), (.iconst 4, 1)] = true := by decide +kernel
theorem d_Mod_rule_32 : decode prog_13_method_48_code 32 = .ok (.invokevirtual 278, 3) := by decide +kernel
theorem d_Mod_rule_35 : decode prog_13_method_48_code 35 = .ok (.ifCond .eq 26, 3) := by decide +kernel
theorem b_Mod_rule_38 : tf_dec prog_13_method_48_code 38 [(.aload_n 0, 1), (.lload 6, 2), (.iconst 2, 1)] = true := by decide +kernel
theorem d_Mod_rule_42 : decode prog_13_method_48_code 42 = .ok (.invokevirtual 278, 3) := by decide +kernel
theorem d_Mod_rule_45 : decode prog_13_method_48_code 45 = .ok (.ifCond .eq 16, 3) := by decide +kernel
theorem b_Mod_rule_48 : tf_dec prog_13_method_48_code 48 [(.aload_n 0, 1), (.iload 8, 2)] = true := by decide +kernel
theorem d_Mod_rule_51 : decode prog_13_method_48_code 51 = .ok (.invokevirtual 148, 3) := by decide +kernel
theorem d_Mod_rule_54 : decode prog_13_method_48_code 54 = .ok (.ifCond .eq 7, 3) := by decide +kernel
theorem b_Mod_rule_57 : tf_dec prog_13_method_48_code 57 [(.iconst 1, 1)] = true := by decide +kernel
theorem d_Mod_rule_58 : decode prog_13_method_48_code 58 = .ok (.goto 4, 3) := by decide +kernel
theorem b_Mod_rule_61 : tf_dec prog_13_method_48_code 61 [(.iconst 0, 1)] = true := by decide +kernel
theorem b_Mod_rule_62 : tf_dec prog_13_method_48_code 62 [(.istore 9, 2), (.aload_n 0, 1), (.iload 9, 2)] = true := by decide +kernel
theorem d_Mod_rule_67 : decode prog_13_method_48_code 67 = .ok (.ifCond .ne 7, 3) := by decide +kernel
theorem b_Mod_rule_70 : tf_dec prog_13_method_48_code 70 [(.iconst 1, 1)] = true := by decide +kernel
theorem d_Mod_rule_71 : decode prog_13_method_48_code 71 = .ok (.goto 17, 3) := by decide +kernel
theorem b_Mod_rule_74 : tf_dec prog_13_method_48_code 74 [(.aload_n 0, 1)] = true := by decide +kernel
theorem d_Mod_rule_75 : decode prog_13_method_48_code 75 = .ok (.getfield 282, 3) := by decide +kernel
theorem b_Mod_rule_78 : tf_dec prog_13_method_48_code 78 [(.bipush 40, 2)] = true := by decide +kernel
theorem d_Mod_rule_80 : decode prog_13_method_48_code 80 = .ok (.if_icmp .ne 7, 3) := by decide +kernel
theorem b_Mod_rule_83 : tf_dec prog_13_method_48_code 83 [(.iconst 2, 1)] = true := by decide +kernel
theorem d_Mod_rule_84 : decode prog_13_method_48_code 84 = .ok (.goto 4, 3) := by decide +kernel
theorem b_Mod_rule_87 : tf_dec prog_13_method_48_code 87 [(.iconst 0, 1)] = true := by decide +kernel
theorem d_Mod_rule_88 : decode prog_13_method_48_code 88 = .ok (.putfield 123, 3) := by decide +kernel
theorem b_Mod_rule_91 : tf_dec prog_13_method_48_code 91 [(.aload_n 0, 1)] = true := by decide +kernel
theorem d_Mod_rule_92 : decode prog_13_method_48_code 92 = .ok (.getfield 123, 3) := by decide +kernel
theorem d_Mod_rule_95 : decode prog_13_method_48_code 95 = .ok (.ifCond .le 5, 3) := by decide +kernel
theorem b_Mod_rule_98 : tf_dec prog_13_method_48_code 98 [(.iconst 0, 1)] = true := by decide +kernel
theorem d_Mod_rule_99 : decode prog_13_method_48_code 99 = .ok (.ireturn, 1) := by decide +kernel
theorem b_Mod_rule_100 : tf_dec prog_13_method_48_code 100 [(.aload_n 0, 1)] = true := by decide +kernel
theorem d_Mod_rule_101 : decode prog_13_method_48_code 101 = .ok (.getfield 97, 3) := by decide +kernel
theorem b_Mod_rule_104 : tf_dec prog_13_method_48_code 104 [(.aload_n 0, 1)] = true := by decide +kernel
theorem d_Mod_rule_105 : decode prog_13_method_48_code 105 = .ok (.getfield 282, 3) := by decide +kernel
theorem b_Mod_rule_108 : tf_dec prog_13_method_48_code 108 [(.iload_n 1, 1)] = true := by decide +kernel
theorem d_Mod_rule_109 : decode prog_13_method_48_code 109 = .ok (.iastore, 1) := by decide +kernel
theorem b_Mod_rule_110 : tf_dec prog_13_method_48_code 110 [(.aload_n 0, 1)] = true := by decide +kernel
theorem d_Mod_rule_111 : decode prog_13_method_48_code 111 = .ok (.getfield 100, 3) := by decide +kernel
theorem b_Mod_rule_114 : tf_dec prog_13_method_48_code 114 [(.aload_n 0, 1)] = true := by decide +kernel
theorem d_Mod_rule_115 : decode prog_13_method_48_code 115 = .ok (.getfield 282, 3) := by decide +kernel
theorem b_Mod_rule_118 : tf_dec prog_13_method_48_code 118 [(.iload 8, 2)] = true := by decide +kernel
theorem d_Mod_rule_120 : decode prog_13_method_48_code 120 = .ok (.iastore, 1) := by decide +kernel
theorem b_Mod_rule_121 : tf_dec prog_13_method_48_code 121 [(.aload_n 0, 1)] = true := by decide +kernel
theorem d_Mod_rule_122 : decode prog_13_method_48_code 122 = .ok (.getfield 103, 3) := by decide +kernel
theorem b_Mod_rule_125 : tf_dec prog_13_method_48_code 125 [(.aload_n 0, 1)] = true := by decide +kernel
theorem d_Mod_rule_126 : decode prog_13_method_48_code 126 = .ok (.getfield 282, 3) := by decide +kernel
theorem b_Mod_rule_129 : tf_dec prog_13_method_48_code 129 [(.lload_n 2, 1)] = true := by decide +kernel
theorem d_Mod_rule_130 : decode prog_13_method_48_code 130 = .ok (.ldc2_w 285, 3) := by decide +kernel
theorem b_Mod_rule_133 : tf_dec prog_13_method_48_code 133 [(.land, 1), (.l2i, 1)] = true := by decide +kernel
theorem d_Mod_rule_135 : decode prog_13_method_48_code 135 = .ok (.iastore, 1) := by decide +kernel
theorem b_Mod_rule_136 : tf_dec prog_13_method_48_code 136 [(.aload_n 0, 1)] = true := by decide +kernel
theorem d_Mod_rule_137 : decode prog_13_method_48_code 137 = .ok (.getfield 106, 3) := by decide +kernel
theorem b_Mod_rule_140 : tf_dec prog_13_method_48_code 140 [(.aload_n 0, 1)] = true := by decide +kernel
theorem d_Mod_rule_141 : decode prog_13_method_48_code 141 = .ok (.getfield 282, 3) := by decide +kernel
theorem b_Mod_rule_144 : tf_dec prog_13_method_48_code 144 [(.lload 4, 2)] = true := by decide +kernel
theorem d_Mod_rule_146 : decode prog_13_method_48_code 146 = .ok (.ldc2_w 287, 3) := by decide +kernel
theorem b_Mod_rule_149 : tf_dec prog_13_method_48_code 149 [(.land, 1)] = true := by decide +kernel
theorem d_Mod_rule_150 : decode prog_13_method_48_code 150 = .ok (.lastore, 1) := by decide +kernel
theorem b_Mod_rule_151 : tf_dec prog_13_method_48_code 151 [(.aload_n 0, 1)] = true := by decide +kernel
theorem d_Mod_rule_152 : decode prog_13_method_48_code 152 = .ok (.getfield 110, 3) := by decide +kernel
theorem b_Mod_rule_155 : tf_dec prog_13_method_48_code 155 [(.aload_n 0, 1)] = true := by decide +kernel
theorem d_Mod_rule_156 : decode prog_13_method_48_code 156 = .ok (.getfield 282, 3) := by decide +kernel
theorem b_Mod_rule_159 : tf_dec prog_13_method_48_code 159 [(.lload 6, 2)] = true := by decide +kernel
theorem d_Mod_rule_161 : decode prog_13_method_48_code 161 = .ok (.ldc2_w 285, 3) := by decide +kernel
theorem b_Mod_rule_164 : tf_dec prog_13_method_48_code 164 [(.land, 1), (.l2i, 1)] = true := by decide +kernel
theorem d_Mod_rule_166 : decode prog_13_method_48_code 166 = .ok (.iastore, 1) := by decide +kernel
theorem b_Mod_rule_167 : tf_dec prog_13_method_48_code 167 [(.aload_n 0, 1), (.dup, 1)] = true := by decide +kernel
theorem d_Mod_rule_169 : decode prog_13_method_48_code 169 = .ok (.getfield 282, 3) := by decide +kernel
theorem b_Mod_rule_172 : tf_dec prog_13_method_48_code 172 [(.iconst 1, 1), (.iadd, 1)] = true := by decide +kernel
theorem d_Mod_rule_174 : decode prog_13_method_48_code 174 = .ok (.putfield 282, 3) := by decide +kernel
theorem b_Mod_rule_177 : tf_dec prog_13_method_48_code 177 [(.aload_n 0, 1)] = true := by decide +kernel
theorem d_Mod_rule_178 : decode prog_13_method_48_code 178 = .ok (.getfield 282, 3) := by decide +kernel
theorem b_Mod_rule_181 : tf_dec prog_13_method_48_code 181 [(.iconst 1, 1), (.isub, 1)] = true := by decide +kernel
theorem d_Mod_rule_183 : decode prog_13_method_48_code 183 = .ok (.ireturn, 1) := by decide +kernel
theorem b_Mod_type_0 : tf_dec prog_13_method_49_code 0 [(.aload_n 0, 1), (.iconst 0, 1)] = true := by decide +kernel
theorem d_Mod_type_2 : decode prog_13_method_49_code 2 = .ok (.putfield 123, 3) := by decide +kernel
theorem b_Mod_type_5 : tf_dec prog_13_method_49_code 5 [(.aload_n 0, 1), (.iload_n 1, 1)] = true := by decide +kernel
theorem d_Mod_type_7 : decode prog_13_method_49_code 7 = .ok (.invokevirtual 148, 3) := by decide +kernel
theorem d_Mod_type_10 : decode prog_13_method_49_code 10 = .ok (.ifCond .eq 12, 3) := by decide +kernel
theorem b_Mod_type_13 : tf_dec prog_13_method_49_code 13 [(.aload_n 0, 1)] = true := by decide +kernel
theorem d_Mod_type_14 : decode prog_13_method_49_code 14 = .ok (.getfield 289, 3) := by decide +kernel
theorem b_Mod_type_17 : tf_dec prog_13_method_49_code 17 [(.bipush 60, 2)] = true := by decide +kernel
theorem d_Mod_type_19 : decode prog_13_method_49_code 19 = .ok (.if_icmp .ne 5, 3) := by decide +kernel
theorem b_Mod_type_22 : tf_dec prog_13_method_49_code 22 [(.iconst 0, 1)] = true := by decide +kernel
theorem d_Mod_type_23 : decode prog_13_method_49_code 23 = .ok (.ireturn, 1) := by decide +kernel
theorem b_Mod_type_24 : tf_dec prog_13_method_49_code 24 [(.aload_n 0, 1)] = true := by decide +kernel
theorem d_Mod_type_25 : decode prog_13_method_49_code 25 = .ok (.getfield 113, 3) := by decide +kernel
theorem b_Mod_type_28 : tf_dec prog_13_method_49_code 28 [(.aload_n 0, 1)] = true := by decide +kernel
theorem d_Mod_type_29 : decode prog_13_method_49_code 29 = .ok (.getfield 289, 3) := by decide +kernel
theorem b_Mod_type_32 : tf_dec prog_13_method_49_code 32 [(.iload_n 1, 1)] = true := by decide +kernel
theorem d_Mod_type_33 : decode prog_13_method_49_code 33 = .ok (.iastore, 1) := by decide +kernel
theorem b_Mod_type_34 : tf_dec prog_13_method_49_code 34 [(.aload_n 0, 1), (.dup, 1)] = true := by decide +kernel
theorem d_Mod_type_36 : decode prog_13_method_49_code 36 = .ok (.getfield 289, 3) := by decide +kernel
theorem b_Mod_type_39 : tf_dec prog_13_method_49_code 39 [(.iconst 1, 1), (.iadd, 1)] = true := by decide +kernel
theorem d_Mod_type_41 : decode prog_13_method_49_code 41 = .ok (.putfield 289, 3) := by decide +kernel
theorem b_Mod_type_44 : tf_dec prog_13_method_49_code 44 [(.iconst 1, 1)] = true := by decide +kernel
theorem d_Mod_type_45 : decode prog_13_method_49_code 45 = .ok (.ireturn, 1) := by decide +kernel
theorem b_Mod_stands_0 : tf_dec prog_13_method_50_code 0 [(.lload_n 1, 1), (.iload_n 3, 1)] = true := by decide +kernel
theorem d_Mod_stands_2 : decode prog_13_method_50_code 2 = .ok (.invokestatic 274, 3) := by decide +kernel
theorem b_Mod_stands_5 : tf_dec prog_13_method_50_code 5 [(.istore 5, 2), (.iload 4, 2)] = true := by decide +kernel
theorem d_Mod_stands_9 : decode prog_13_method_50_code 9 = .ok (.ifCond .lt 19, 3) := by decide +kernel
theorem b_Mod_stands_12 : tf_dec prog_13_method_50_code 12 [(.iload 4, 2), (.iload 5, 2), (.iadd, 1), (.aload_n 0, 1)] = true := by decide +kernel
theorem d_Mod_stands_18 : decode prog_13_method_50_code 18 = .ok (.getfield 292, 3) := by decide +kernel
theorem d_Mod_stands_21 : decode prog_13_method_50_code 21 = .ok (.if_icmp .gt 7, 3) := by decide +kernel
theorem b_Mod_stands_24 : tf_dec prog_13_method_50_code 24 [(.iconst 1, 1)] = true := by decide +kernel
theorem d_Mod_stands_25 : decode prog_13_method_50_code 25 = .ok (.goto 4, 3) := by decide +kernel
theorem b_Mod_stands_28 : tf_dec prog_13_method_50_code 28 [(.iconst 0, 1)] = true := by decide +kernel
theorem b_Mod_stands_29 : tf_dec prog_13_method_50_code 29 [(.istore 6, 2), (.iconst 0, 1), (.istore 7, 2)] = true := by decide +kernel
theorem b_Mod_stands_34 : tf_dec prog_13_method_50_code 34 [(.iload 7, 2), (.iload 5, 2)] = true := by decide +kernel
theorem d_Mod_stands_38 : decode prog_13_method_50_code 38 = .ok (.if_icmp .ge 41, 3) := by decide +kernel
theorem b_Mod_stands_41 : tf_dec prog_13_method_50_code 41 [(.iload 6, 2)] = true := by decide +kernel
theorem d_Mod_stands_43 : decode prog_13_method_50_code 43 = .ok (.ifCond .eq 36, 3) := by decide +kernel
theorem b_Mod_stands_46 : tf_dec prog_13_method_50_code 46 [(.aload_n 0, 1)] = true := by decide +kernel
theorem d_Mod_stands_47 : decode prog_13_method_50_code 47 = .ok (.getfield 116, 3) := by decide +kernel
theorem b_Mod_stands_50 : tf_dec prog_13_method_50_code 50 [(.iload 4, 2), (.iload 7, 2), (.iadd, 1)] = true := by decide +kernel
theorem d_Mod_stands_55 : decode prog_13_method_50_code 55 = .ok (.iaload, 1) := by decide +kernel
theorem b_Mod_stands_56 : tf_dec prog_13_method_50_code 56 [(.lload_n 1, 1), (.iload 7, 2), (.iload_n 3, 1)] = true := by decide +kernel
theorem d_Mod_stands_60 : decode prog_13_method_50_code 60 = .ok (.invokestatic 270, 3) := by decide +kernel
theorem d_Mod_stands_63 : decode prog_13_method_50_code 63 = .ok (.if_icmp .ne 7, 3) := by decide +kernel
theorem b_Mod_stands_66 : tf_dec prog_13_method_50_code 66 [(.iconst 1, 1)] = true := by decide +kernel
theorem d_Mod_stands_67 : decode prog_13_method_50_code 67 = .ok (.goto 4, 3) := by decide +kernel
theorem b_Mod_stands_70 : tf_dec prog_13_method_50_code 70 [(.iconst 0, 1)] = true := by decide +kernel
theorem b_Mod_stands_71 : tf_dec prog_13_method_50_code 71 [(.istore 6, 2), (.iinc 7 1, 3)] = true := by decide +kernel
theorem d_Mod_stands_76 : decode prog_13_method_50_code 76 = .ok (.goto (-42), 3) := by decide +kernel
theorem b_Mod_stands_79 : tf_dec prog_13_method_50_code 79 [(.iload 6, 2)] = true := by decide +kernel
theorem d_Mod_stands_81 : decode prog_13_method_50_code 81 = .ok (.ireturn, 1) := by decide +kernel
theorem b_Mod_fitsAt_0 : tf_dec prog_13_method_51_code 0 [(.aload_n 0, 1)] = true := by decide +kernel
theorem d_Mod_fitsAt_1 : decode prog_13_method_51_code 1 = .ok (.getfield 106, 3) := by decide +kernel
theorem b_Mod_fitsAt_4 : tf_dec prog_13_method_51_code 4 [(.iload_n 1, 1)] = true := by decide +kernel
theorem d_Mod_fitsAt_5 : decode prog_13_method_51_code 5 = .ok (.laload, 1) := by decide +kernel
theorem b_Mod_fitsAt_6 : tf_dec prog_13_method_51_code 6 [(.iconst 4, 1)] = true := by decide +kernel
theorem d_Mod_fitsAt_7 : decode prog_13_method_51_code 7 = .ok (.invokestatic 274, 3) := by decide +kernel
theorem b_Mod_fitsAt_10 : tf_dec prog_13_method_51_code 10 [(.istore_n 3, 1), (.aload_n 0, 1), (.aload_n 0, 1)] = true := by decide +kernel
theorem d_Mod_fitsAt_13 : decode prog_13_method_51_code 13 = .ok (.getfield 106, 3) := by decide +kernel
theorem b_Mod_fitsAt_16 : tf_dec prog_13_method_51_code 16 [(.iload_n 1, 1)] = true := by decide +kernel
theorem d_Mod_fitsAt_17 : decode prog_13_method_51_code 17 = .ok (.laload, 1) := by decide +kernel
theorem b_Mod_fitsAt_18 : tf_dec prog_13_method_51_code 18 [(.iconst 4, 1), (.iload_n 2, 1)] = true := by decide +kernel
theorem d_Mod_fitsAt_20 : decode prog_13_method_51_code 20 = .ok (.invokevirtual 295, 3) := by decide +kernel
theorem d_Mod_fitsAt_23 : decode prog_13_method_51_code 23 = .ok (.ifCond .eq 53, 3) := by decide +kernel
theorem b_Mod_fitsAt_26 : tf_dec prog_13_method_51_code 26 [(.aload_n 0, 1), (.aload_n 0, 1)] = true := by decide +kernel
theorem d_Mod_fitsAt_28 : decode prog_13_method_51_code 28 = .ok (.getfield 103, 3) := by decide +kernel
theorem b_Mod_fitsAt_31 : tf_dec prog_13_method_51_code 31 [(.iload_n 1, 1)] = true := by decide +kernel
theorem d_Mod_fitsAt_32 : decode prog_13_method_51_code 32 = .ok (.iaload, 1) := by decide +kernel
theorem b_Mod_fitsAt_33 : tf_dec prog_13_method_51_code 33 [(.i2l, 1), (.iconst 2, 1), (.iload_n 2, 1), (.aload_n 0, 1)] = true := by decide +kernel
theorem d_Mod_fitsAt_37 : decode prog_13_method_51_code 37 = .ok (.getfield 103, 3) := by decide +kernel
theorem b_Mod_fitsAt_40 : tf_dec prog_13_method_51_code 40 [(.iload_n 1, 1)] = true := by decide +kernel
theorem d_Mod_fitsAt_41 : decode prog_13_method_51_code 41 = .ok (.iaload, 1) := by decide +kernel
theorem b_Mod_fitsAt_42 : tf_dec prog_13_method_51_code 42 [(.i2l, 1), (.iconst 2, 1)] = true := by decide +kernel
theorem d_Mod_fitsAt_44 : decode prog_13_method_51_code 44 = .ok (.invokestatic 274, 3) := by decide +kernel
theorem b_Mod_fitsAt_47 : tf_dec prog_13_method_51_code 47 [(.isub, 1)] = true := by decide +kernel
theorem d_Mod_fitsAt_48 : decode prog_13_method_51_code 48 = .ok (.invokevirtual 295, 3) := by decide +kernel
theorem d_Mod_fitsAt_51 : decode prog_13_method_51_code 51 = .ok (.ifCond .eq 25, 3) := by decide +kernel
theorem b_Mod_fitsAt_54 : tf_dec prog_13_method_51_code 54 [(.aload_n 0, 1), (.aload_n 0, 1)] = true := by decide +kernel
theorem d_Mod_fitsAt_56 : decode prog_13_method_51_code 56 = .ok (.getfield 110, 3) := by decide +kernel
theorem b_Mod_fitsAt_59 : tf_dec prog_13_method_51_code 59 [(.iload_n 1, 1)] = true := by decide +kernel
theorem d_Mod_fitsAt_60 : decode prog_13_method_51_code 60 = .ok (.iaload, 1) := by decide +kernel
theorem b_Mod_fitsAt_61 : tf_dec prog_13_method_51_code 61 [(.i2l, 1), (.iconst 2, 1), (.iload_n 2, 1), (.iload_n 3, 1), (.iadd, 1)] = true := by decide +kernel
theorem d_Mod_fitsAt_66 : decode prog_13_method_51_code 66 = .ok (.invokevirtual 295, 3) := by decide +kernel
theorem d_Mod_fitsAt_69 : decode prog_13_method_51_code 69 = .ok (.ifCond .eq 7, 3) := by decide +kernel
theorem b_Mod_fitsAt_72 : tf_dec prog_13_method_51_code 72 [(.iconst 1, 1)] = true := by decide +kernel
theorem d_Mod_fitsAt_73 : decode prog_13_method_51_code 73 = .ok (.goto 4, 3) := by decide +kernel
theorem b_Mod_fitsAt_76 : tf_dec prog_13_method_51_code 76 [(.iconst 0, 1)] = true := by decide +kernel
theorem d_Mod_fitsAt_77 : decode prog_13_method_51_code 77 = .ok (.ireturn, 1) := by decide +kernel
theorem b_Mod_bestRule_0 : tf_dec prog_13_method_52_code 0 [(.iconst (-1), 1), (.istore_n 3, 1), (.iconst 0, 1), (.istore 4, 2), (.iconst 0, 1), (.istore 5, 2)] = true := by decide +kernel
theorem b_Mod_bestRule_8 : tf_dec prog_13_method_52_code 8 [(.iload 5, 2), (.aload_n 0, 1)] = true := by decide +kernel
theorem d_Mod_bestRule_11 : decode prog_13_method_52_code 11 = .ok (.getfield 282, 3) := by decide +kernel
theorem d_Mod_bestRule_14 : decode prog_13_method_52_code 14 = .ok (.if_icmp .ge 57, 3) := by decide +kernel
theorem b_Mod_bestRule_17 : tf_dec prog_13_method_52_code 17 [(.aload_n 0, 1)] = true := by decide +kernel
theorem d_Mod_bestRule_18 : decode prog_13_method_52_code 18 = .ok (.getfield 106, 3) := by decide +kernel
theorem b_Mod_bestRule_21 : tf_dec prog_13_method_52_code 21 [(.iload 5, 2)] = true := by decide +kernel
theorem d_Mod_bestRule_23 : decode prog_13_method_52_code 23 = .ok (.laload, 1) := by decide +kernel
theorem b_Mod_bestRule_24 : tf_dec prog_13_method_52_code 24 [(.iconst 4, 1)] = true := by decide +kernel
theorem d_Mod_bestRule_25 : decode prog_13_method_52_code 25 = .ok (.invokestatic 274, 3) := by decide +kernel
theorem b_Mod_bestRule_28 : tf_dec prog_13_method_52_code 28 [(.istore 6, 2), (.aload_n 0, 1)] = true := by decide +kernel
theorem d_Mod_bestRule_31 : decode prog_13_method_52_code 31 = .ok (.getfield 97, 3) := by decide +kernel
theorem b_Mod_bestRule_34 : tf_dec prog_13_method_52_code 34 [(.iload 5, 2)] = true := by decide +kernel
theorem d_Mod_bestRule_36 : decode prog_13_method_52_code 36 = .ok (.iaload, 1) := by decide +kernel
theorem b_Mod_bestRule_37 : tf_dec prog_13_method_52_code 37 [(.iload_n 1, 1)] = true := by decide +kernel
theorem d_Mod_bestRule_38 : decode prog_13_method_52_code 38 = .ok (.if_icmp .ne 27, 3) := by decide +kernel
theorem b_Mod_bestRule_41 : tf_dec prog_13_method_52_code 41 [(.iload 6, 2), (.iload 4, 2)] = true := by decide +kernel
theorem d_Mod_bestRule_45 : decode prog_13_method_52_code 45 = .ok (.if_icmp .le 20, 3) := by decide +kernel
theorem b_Mod_bestRule_48 : tf_dec prog_13_method_52_code 48 [(.aload_n 0, 1), (.iload 5, 2), (.iload_n 2, 1)] = true := by decide +kernel
theorem d_Mod_bestRule_52 : decode prog_13_method_52_code 52 = .ok (.invokevirtual 299, 3) := by decide +kernel
theorem d_Mod_bestRule_55 : decode prog_13_method_52_code 55 = .ok (.ifCond .eq 10, 3) := by decide +kernel
theorem b_Mod_bestRule_58 : tf_dec prog_13_method_52_code 58 [(.iload 5, 2), (.istore_n 3, 1), (.iload 6, 2), (.istore 4, 2)] = true := by decide +kernel
theorem b_Mod_bestRule_65 : tf_dec prog_13_method_52_code 65 [(.iinc 5 1, 3)] = true := by decide +kernel
theorem d_Mod_bestRule_68 : decode prog_13_method_52_code 68 = .ok (.goto (-60), 3) := by decide +kernel
theorem b_Mod_bestRule_71 : tf_dec prog_13_method_52_code 71 [(.iload_n 3, 1)] = true := by decide +kernel
theorem d_Mod_bestRule_72 : decode prog_13_method_52_code 72 = .ok (.ireturn, 1) := by decide +kernel
theorem b_Mod_change_0 : tf_dec prog_13_method_53_code 0 [(.aload_n 0, 1)] = true := by decide +kernel
theorem d_Mod_change_1 : decode prog_13_method_53_code 1 = .ok (.getfield 106, 3) := by decide +kernel
theorem b_Mod_change_4 : tf_dec prog_13_method_53_code 4 [(.iload_n 1, 1)] = true := by decide +kernel
theorem d_Mod_change_5 : decode prog_13_method_53_code 5 = .ok (.laload, 1) := by decide +kernel
theorem b_Mod_change_6 : tf_dec prog_13_method_53_code 6 [(.iconst 4, 1)] = true := by decide +kernel
theorem d_Mod_change_7 : decode prog_13_method_53_code 7 = .ok (.invokestatic 274, 3) := by decide +kernel
theorem b_Mod_change_10 : tf_dec prog_13_method_53_code 10 [(.istore_n 3, 1), (.aload_n 0, 1)] = true := by decide +kernel
theorem d_Mod_change_12 : decode prog_13_method_53_code 12 = .ok (.getfield 116, 3) := by decide +kernel
theorem b_Mod_change_15 : tf_dec prog_13_method_53_code 15 [(.iload_n 2, 1), (.aload_n 0, 1)] = true := by decide +kernel
theorem d_Mod_change_17 : decode prog_13_method_53_code 17 = .ok (.getfield 100, 3) := by decide +kernel
theorem b_Mod_change_20 : tf_dec prog_13_method_53_code 20 [(.iload_n 1, 1)] = true := by decide +kernel
theorem d_Mod_change_21 : decode prog_13_method_53_code 21 = .ok (.iaload, 1) := by decide +kernel
theorem d_Mod_change_22 : decode prog_13_method_53_code 22 = .ok (.iastore, 1) := by decide +kernel
theorem b_Mod_change_23 : tf_dec prog_13_method_53_code 23 [(.iload_n 2, 1), (.iload_n 3, 1), (.iadd, 1), (.istore 4, 2)] = true := by decide +kernel
theorem b_Mod_change_28 : tf_dec prog_13_method_53_code 28 [(.iload 4, 2), (.aload_n 0, 1)] = true := by decide +kernel
theorem d_Mod_change_31 : decode prog_13_method_53_code 31 = .ok (.getfield 292, 3) := by decide +kernel
theorem d_Mod_change_34 : decode prog_13_method_53_code 34 = .ok (.if_icmp .ge 27, 3) := by decide +kernel
theorem b_Mod_change_37 : tf_dec prog_13_method_53_code 37 [(.aload_n 0, 1)] = true := by decide +kernel
theorem d_Mod_change_38 : decode prog_13_method_53_code 38 = .ok (.getfield 116, 3) := by decide +kernel
theorem b_Mod_change_41 : tf_dec prog_13_method_53_code 41 [(.iload 4, 2), (.iload_n 3, 1), (.isub, 1), (.iconst 1, 1), (.iadd, 1), (.aload_n 0, 1)] = true := by decide +kernel
theorem d_Mod_change_48 : decode prog_13_method_53_code 48 = .ok (.getfield 116, 3) := by decide +kernel
theorem b_Mod_change_51 : tf_dec prog_13_method_53_code 51 [(.iload 4, 2)] = true := by decide +kernel
theorem d_Mod_change_53 : decode prog_13_method_53_code 53 = .ok (.iaload, 1) := by decide +kernel
theorem d_Mod_change_54 : decode prog_13_method_53_code 54 = .ok (.iastore, 1) := by decide +kernel
theorem b_Mod_change_55 : tf_dec prog_13_method_53_code 55 [(.iinc 4 1, 3)] = true := by decide +kernel
theorem d_Mod_change_58 : decode prog_13_method_53_code 58 = .ok (.goto (-30), 3) := by decide +kernel
theorem b_Mod_change_61 : tf_dec prog_13_method_53_code 61 [(.aload_n 0, 1), (.dup, 1)] = true := by decide +kernel
theorem d_Mod_change_63 : decode prog_13_method_53_code 63 = .ok (.getfield 292, 3) := by decide +kernel
theorem b_Mod_change_66 : tf_dec prog_13_method_53_code 66 [(.iload_n 3, 1), (.iconst 1, 1), (.isub, 1), (.isub, 1)] = true := by decide +kernel
theorem d_Mod_change_70 : decode prog_13_method_53_code 70 = .ok (.putfield 292, 3) := by decide +kernel
theorem b_Mod_change_73 : tf_dec prog_13_method_53_code 73 [(.aload_n 0, 1), (.dup, 1)] = true := by decide +kernel
theorem d_Mod_change_75 : decode prog_13_method_53_code 75 = .ok (.getfield 303, 3) := by decide +kernel
theorem b_Mod_change_78 : tf_dec prog_13_method_53_code 78 [(.iconst 1, 1), (.iadd, 1)] = true := by decide +kernel
theorem d_Mod_change_80 : decode prog_13_method_53_code 80 = .ok (.putfield 303, 3) := by decide +kernel
theorem d_Mod_change_83 : decode prog_13_method_53_code 83 = .ok (.return_, 1) := by decide +kernel
theorem b_Mod_shape_0 : tf_dec prog_13_method_54_code 0 [(.aload_n 0, 1), (.iconst 0, 1)] = true := by decide +kernel
theorem d_Mod_shape_2 : decode prog_13_method_54_code 2 = .ok (.putfield 123, 3) := by decide +kernel
theorem b_Mod_shape_5 : tf_dec prog_13_method_54_code 5 [(.aload_n 0, 1), (.aload_n 0, 1)] = true := by decide +kernel
theorem d_Mod_shape_7 : decode prog_13_method_54_code 7 = .ok (.getfield 289, 3) := by decide +kernel
theorem d_Mod_shape_10 : decode prog_13_method_54_code 10 = .ok (.putfield 292, 3) := by decide +kernel
theorem b_Mod_shape_13 : tf_dec prog_13_method_54_code 13 [(.iconst 0, 1), (.istore_n 1, 1)] = true := by decide +kernel
theorem b_Mod_shape_15 : tf_dec prog_13_method_54_code 15 [(.iload_n 1, 1), (.aload_n 0, 1)] = true := by decide +kernel
theorem d_Mod_shape_17 : decode prog_13_method_54_code 17 = .ok (.getfield 289, 3) := by decide +kernel
theorem d_Mod_shape_20 : decode prog_13_method_54_code 20 = .ok (.if_icmp .ge 21, 3) := by decide +kernel
theorem b_Mod_shape_23 : tf_dec prog_13_method_54_code 23 [(.aload_n 0, 1)] = true := by decide +kernel
theorem d_Mod_shape_24 : decode prog_13_method_54_code 24 = .ok (.getfield 116, 3) := by decide +kernel
theorem b_Mod_shape_27 : tf_dec prog_13_method_54_code 27 [(.iload_n 1, 1), (.aload_n 0, 1)] = true := by decide +kernel
theorem d_Mod_shape_29 : decode prog_13_method_54_code 29 = .ok (.getfield 113, 3) := by decide +kernel
theorem b_Mod_shape_32 : tf_dec prog_13_method_54_code 32 [(.iload_n 1, 1)] = true := by decide +kernel
theorem d_Mod_shape_33 : decode prog_13_method_54_code 33 = .ok (.iaload, 1) := by decide +kernel
theorem d_Mod_shape_34 : decode prog_13_method_54_code 34 = .ok (.iastore, 1) := by decide +kernel
theorem b_Mod_shape_35 : tf_dec prog_13_method_54_code 35 [(.iinc 1 1, 3)] = true := by decide +kernel
theorem d_Mod_shape_38 : decode prog_13_method_54_code 38 = .ok (.goto (-23), 3) := by decide +kernel
theorem b_Mod_shape_41 : tf_dec prog_13_method_54_code 41 [(.aload_n 0, 1), (.iconst 0, 1)] = true := by decide +kernel
theorem d_Mod_shape_43 : decode prog_13_method_54_code 43 = .ok (.putfield 289, 3) := by decide +kernel
theorem b_Mod_shape_46 : tf_dec prog_13_method_54_code 46 [(.aload_n 0, 1), (.iconst 0, 1)] = true := by decide +kernel
theorem d_Mod_shape_48 : decode prog_13_method_54_code 48 = .ok (.putfield 303, 3) := by decide +kernel
theorem b_Mod_shape_51 : tf_dec prog_13_method_54_code 51 [(.iconst 0, 1), (.istore_n 1, 1)] = true := by decide +kernel
theorem b_Mod_shape_53 : tf_dec prog_13_method_54_code 53 [(.iload_n 1, 1), (.bipush 8, 2)] = true := by decide +kernel
theorem d_Mod_shape_56 : decode prog_13_method_54_code 56 = .ok (.if_icmp .ge 42, 3) := by decide +kernel
theorem b_Mod_shape_59 : tf_dec prog_13_method_54_code 59 [(.iconst 0, 1), (.istore_n 2, 1)] = true := by decide +kernel
theorem b_Mod_shape_61 : tf_dec prog_13_method_54_code 61 [(.iload_n 2, 1), (.aload_n 0, 1)] = true := by decide +kernel
theorem d_Mod_shape_63 : decode prog_13_method_54_code 63 = .ok (.getfield 292, 3) := by decide +kernel
theorem d_Mod_shape_66 : decode prog_13_method_54_code 66 = .ok (.if_icmp .ge 26, 3) := by decide +kernel
theorem b_Mod_shape_69 : tf_dec prog_13_method_54_code 69 [(.aload_n 0, 1), (.iload_n 1, 1), (.iload_n 2, 1)] = true := by decide +kernel
theorem d_Mod_shape_72 : decode prog_13_method_54_code 72 = .ok (.invokevirtual 306, 3) := by decide +kernel
theorem b_Mod_shape_75 : tf_dec prog_13_method_54_code 75 [(.istore_n 3, 1), (.iload_n 3, 1)] = true := by decide +kernel
theorem d_Mod_shape_77 : decode prog_13_method_54_code 77 = .ok (.ifCond .lt 9, 3) := by decide +kernel
theorem b_Mod_shape_80 : tf_dec prog_13_method_54_code 80 [(.aload_n 0, 1), (.iload_n 3, 1), (.iload_n 2, 1)] = true := by decide +kernel
theorem d_Mod_shape_83 : decode prog_13_method_54_code 83 = .ok (.invokevirtual 309, 3) := by decide +kernel
theorem b_Mod_shape_86 : tf_dec prog_13_method_54_code 86 [(.iinc 2 1, 3)] = true := by decide +kernel
theorem d_Mod_shape_89 : decode prog_13_method_54_code 89 = .ok (.goto (-28), 3) := by decide +kernel
theorem b_Mod_shape_92 : tf_dec prog_13_method_54_code 92 [(.iinc 1 1, 3)] = true := by decide +kernel
theorem d_Mod_shape_95 : decode prog_13_method_54_code 95 = .ok (.goto (-42), 3) := by decide +kernel
theorem b_Mod_shape_98 : tf_dec prog_13_method_54_code 98 [(.aload_n 0, 1)] = true := by decide +kernel
theorem d_Mod_shape_99 : decode prog_13_method_54_code 99 = .ok (.getfield 292, 3) := by decide +kernel
theorem d_Mod_shape_102 : decode prog_13_method_54_code 102 = .ok (.ireturn, 1) := by decide +kernel
theorem b_Mod_shaped_0 : tf_dec prog_13_method_55_code 0 [(.iload_n 1, 1)] = true := by decide +kernel
theorem d_Mod_shaped_1 : decode prog_13_method_55_code 1 = .ok (.ifCond .lt 32, 3) := by decide +kernel
theorem b_Mod_shaped_4 : tf_dec prog_13_method_55_code 4 [(.iload_n 2, 1)] = true := by decide +kernel
theorem d_Mod_shaped_5 : decode prog_13_method_55_code 5 = .ok (.ifCond .ne 11, 3) := by decide +kernel
theorem b_Mod_shaped_8 : tf_dec prog_13_method_55_code 8 [(.iload_n 1, 1), (.aload_n 0, 1)] = true := by decide +kernel
theorem d_Mod_shaped_10 : decode prog_13_method_55_code 10 = .ok (.getfield 292, 3) := by decide +kernel
theorem d_Mod_shaped_13 : decode prog_13_method_55_code 13 = .ok (.if_icmp .lt 16, 3) := by decide +kernel
theorem b_Mod_shaped_16 : tf_dec prog_13_method_55_code 16 [(.iload_n 2, 1), (.iconst 1, 1)] = true := by decide +kernel
theorem d_Mod_shaped_18 : decode prog_13_method_55_code 18 = .ok (.if_icmp .ne 15, 3) := by decide +kernel
theorem b_Mod_shaped_21 : tf_dec prog_13_method_55_code 21 [(.iload_n 1, 1), (.aload_n 0, 1)] = true := by decide +kernel
theorem d_Mod_shaped_23 : decode prog_13_method_55_code 23 = .ok (.getfield 292, 3) := by decide +kernel
theorem d_Mod_shaped_26 : decode prog_13_method_55_code 26 = .ok (.if_icmp .gt 7, 3) := by decide +kernel
theorem b_Mod_shaped_29 : tf_dec prog_13_method_55_code 29 [(.iconst 1, 1)] = true := by decide +kernel
theorem d_Mod_shaped_30 : decode prog_13_method_55_code 30 = .ok (.goto 4, 3) := by decide +kernel
theorem b_Mod_shaped_33 : tf_dec prog_13_method_55_code 33 [(.iconst 0, 1)] = true := by decide +kernel
theorem b_Mod_shaped_34 : tf_dec prog_13_method_55_code 34 [(.istore_n 3, 1), (.aload_n 0, 1), (.iload_n 3, 1)] = true := by decide +kernel
theorem d_Mod_shaped_37 : decode prog_13_method_55_code 37 = .ok (.ifCond .eq 7, 3) := by decide +kernel
theorem b_Mod_shaped_40 : tf_dec prog_13_method_55_code 40 [(.iconst 0, 1)] = true := by decide +kernel
theorem d_Mod_shaped_41 : decode prog_13_method_55_code 41 = .ok (.goto 4, 3) := by decide +kernel
theorem b_Mod_shaped_44 : tf_dec prog_13_method_55_code 44 [(.iconst 1, 1)] = true := by decide +kernel
theorem d_Mod_shaped_45 : decode prog_13_method_55_code 45 = .ok (.putfield 123, 3) := by decide +kernel
theorem b_Mod_shaped_48 : tf_dec prog_13_method_55_code 48 [(.iload_n 3, 1)] = true := by decide +kernel
theorem d_Mod_shaped_49 : decode prog_13_method_55_code 49 = .ok (.ifCond .ne 5, 3) := by decide +kernel
theorem b_Mod_shaped_52 : tf_dec prog_13_method_55_code 52 [(.iconst 0, 1)] = true := by decide +kernel
theorem d_Mod_shaped_53 : decode prog_13_method_55_code 53 = .ok (.ireturn, 1) := by decide +kernel
theorem b_Mod_shaped_54 : tf_dec prog_13_method_55_code 54 [(.iload_n 2, 1)] = true := by decide +kernel
theorem d_Mod_shaped_55 : decode prog_13_method_55_code 55 = .ok (.ifCond .ne 10, 3) := by decide +kernel
theorem b_Mod_shaped_58 : tf_dec prog_13_method_55_code 58 [(.aload_n 0, 1)] = true := by decide +kernel
theorem d_Mod_shaped_59 : decode prog_13_method_55_code 59 = .ok (.getfield 116, 3) := by decide +kernel
theorem b_Mod_shaped_62 : tf_dec prog_13_method_55_code 62 [(.iload_n 1, 1)] = true := by decide +kernel
theorem d_Mod_shaped_63 : decode prog_13_method_55_code 63 = .ok (.iaload, 1) := by decide +kernel
theorem d_Mod_shaped_64 : decode prog_13_method_55_code 64 = .ok (.ireturn, 1) := by decide +kernel
theorem b_Mod_shaped_65 : tf_dec prog_13_method_55_code 65 [(.iconst 0, 1), (.istore 4, 2), (.iconst 0, 1), (.istore 5, 2)] = true := by decide +kernel
theorem b_Mod_shaped_71 : tf_dec prog_13_method_55_code 71 [(.iload 5, 2), (.iload_n 1, 1)] = true := by decide +kernel
theorem d_Mod_shaped_74 : decode prog_13_method_55_code 74 = .ok (.if_icmp .ge 61, 3) := by decide +kernel
theorem b_Mod_shaped_77 : tf_dec prog_13_method_55_code 77 [(.iload 4, 2), (.aload_n 0, 1), (.aload_n 0, 1)] = true := by decide +kernel
theorem d_Mod_shaped_81 : decode prog_13_method_55_code 81 = .ok (.getfield 116, 3) := by decide +kernel
theorem b_Mod_shaped_84 : tf_dec prog_13_method_55_code 84 [(.iload 5, 2)] = true := by decide +kernel
theorem d_Mod_shaped_86 : decode prog_13_method_55_code 86 = .ok (.iaload, 1) := by decide +kernel
theorem d_Mod_shaped_87 : decode prog_13_method_55_code 87 = .ok (.invokevirtual 200, 3) := by decide +kernel
theorem b_Mod_shaped_90 : tf_dec prog_13_method_55_code 90 [(.iload 5, 2), (.iconst 1, 1), (.iadd, 1), (.aload_n 0, 1)] = true := by decide +kernel
theorem d_Mod_shaped_95 : decode prog_13_method_55_code 95 = .ok (.getfield 292, 3) := by decide +kernel
theorem d_Mod_shaped_98 : decode prog_13_method_55_code 98 = .ok (.if_icmp .ge 26, 3) := by decide +kernel
theorem b_Mod_shaped_101 : tf_dec prog_13_method_55_code 101 [(.aload_n 0, 1), (.aload_n 0, 1)] = true := by decide +kernel
theorem d_Mod_shaped_103 : decode prog_13_method_55_code 103 = .ok (.getfield 116, 3) := by decide +kernel
theorem b_Mod_shaped_106 : tf_dec prog_13_method_55_code 106 [(.iload 5, 2)] = true := by decide +kernel
theorem d_Mod_shaped_108 : decode prog_13_method_55_code 108 = .ok (.iaload, 1) := by decide +kernel
theorem b_Mod_shaped_109 : tf_dec prog_13_method_55_code 109 [(.aload_n 0, 1)] = true := by decide +kernel
theorem d_Mod_shaped_110 : decode prog_13_method_55_code 110 = .ok (.getfield 116, 3) := by decide +kernel
theorem b_Mod_shaped_113 : tf_dec prog_13_method_55_code 113 [(.iload 5, 2), (.iconst 1, 1), (.iadd, 1)] = true := by decide +kernel
theorem d_Mod_shaped_117 : decode prog_13_method_55_code 117 = .ok (.iaload, 1) := by decide +kernel
theorem d_Mod_shaped_118 : decode prog_13_method_55_code 118 = .ok (.invokevirtual 312, 3) := by decide +kernel
theorem d_Mod_shaped_121 : decode prog_13_method_55_code 121 = .ok (.goto 4, 3) := by decide +kernel
theorem b_Mod_shaped_124 : tf_dec prog_13_method_55_code 124 [(.iconst 0, 1)] = true := by decide +kernel
theorem b_Mod_shaped_125 : tf_dec prog_13_method_55_code 125 [(.iadd, 1), (.iadd, 1), (.istore 4, 2), (.iinc 5 1, 3)] = true := by decide +kernel
theorem d_Mod_shaped_132 : decode prog_13_method_55_code 132 = .ok (.goto (-61), 3) := by decide +kernel
theorem b_Mod_shaped_135 : tf_dec prog_13_method_55_code 135 [(.iload 4, 2)] = true := by decide +kernel
theorem d_Mod_shaped_137 : decode prog_13_method_55_code 137 = .ok (.ireturn, 1) := by decide +kernel
theorem b_Mod_count_0 : tf_dec prog_13_method_56_code 0 [(.aload_n 0, 1), (.iconst 0, 1)] = true := by decide +kernel
theorem d_Mod_count_2 : decode prog_13_method_56_code 2 = .ok (.putfield 123, 3) := by decide +kernel
theorem b_Mod_count_5 : tf_dec prog_13_method_56_code 5 [(.iload_n 1, 1)] = true := by decide +kernel
theorem d_Mod_count_6 : decode prog_13_method_56_code 6 = .ok (.tableswitch 77 0 6 #[42, 47, 52, 57, 62, 67, 72], 42) := by decide +kernel
theorem b_Mod_count_48 : tf_dec prog_13_method_56_code 48 [(.aload_n 0, 1)] = true := by decide +kernel
theorem d_Mod_count_49 : decode prog_13_method_56_code 49 = .ok (.getfield 145, 3) := by decide +kernel
theorem d_Mod_count_52 : decode prog_13_method_56_code 52 = .ok (.ireturn, 1) := by decide +kernel
theorem b_Mod_count_53 : tf_dec prog_13_method_56_code 53 [(.aload_n 0, 1)] = true := by decide +kernel
theorem d_Mod_count_54 : decode prog_13_method_56_code 54 = .ok (.getfield 282, 3) := by decide +kernel
theorem d_Mod_count_57 : decode prog_13_method_56_code 57 = .ok (.ireturn, 1) := by decide +kernel
theorem b_Mod_count_58 : tf_dec prog_13_method_56_code 58 [(.aload_n 0, 1)] = true := by decide +kernel
theorem d_Mod_count_59 : decode prog_13_method_56_code 59 = .ok (.getfield 203, 3) := by decide +kernel
theorem d_Mod_count_62 : decode prog_13_method_56_code 62 = .ok (.ireturn, 1) := by decide +kernel
theorem b_Mod_count_63 : tf_dec prog_13_method_56_code 63 [(.aload_n 0, 1)] = true := by decide +kernel
theorem d_Mod_count_64 : decode prog_13_method_56_code 64 = .ok (.getfield 289, 3) := by decide +kernel
theorem d_Mod_count_67 : decode prog_13_method_56_code 67 = .ok (.ireturn, 1) := by decide +kernel
theorem b_Mod_count_68 : tf_dec prog_13_method_56_code 68 [(.aload_n 0, 1)] = true := by decide +kernel
theorem d_Mod_count_69 : decode prog_13_method_56_code 69 = .ok (.getfield 292, 3) := by decide +kernel
theorem d_Mod_count_72 : decode prog_13_method_56_code 72 = .ok (.ireturn, 1) := by decide +kernel
theorem b_Mod_count_73 : tf_dec prog_13_method_56_code 73 [(.aload_n 0, 1)] = true := by decide +kernel
theorem d_Mod_count_74 : decode prog_13_method_56_code 74 = .ok (.getfield 264, 3) := by decide +kernel
theorem d_Mod_count_77 : decode prog_13_method_56_code 77 = .ok (.ireturn, 1) := by decide +kernel
theorem b_Mod_count_78 : tf_dec prog_13_method_56_code 78 [(.aload_n 0, 1)] = true := by decide +kernel
theorem d_Mod_count_79 : decode prog_13_method_56_code 79 = .ok (.getfield 303, 3) := by decide +kernel
theorem d_Mod_count_82 : decode prog_13_method_56_code 82 = .ok (.ireturn, 1) := by decide +kernel
theorem b_Mod_count_83 : tf_dec prog_13_method_56_code 83 [(.iconst (-1), 1)] = true := by decide +kernel
theorem d_Mod_count_84 : decode prog_13_method_56_code 84 = .ok (.ireturn, 1) := by decide +kernel
