theorem b_Law_cell_0 : tf_dec method_2_code 0 [(.iload_n 1, 1), (.aload_n 0, 1)] = true := by decide +kernel
theorem d_Law_cell_2 : decode method_2_code 2 = .ok (.arraylength, 1) := by decide +kernel
theorem d_Law_cell_3 : decode method_2_code 3 = .ok (.if_icmp .ge 9, 3) := by decide +kernel
theorem b_Law_cell_6 : tf_dec method_2_code 6 [(.aload_n 0, 1), (.iload_n 1, 1)] = true := by decide +kernel
theorem d_Law_cell_8 : decode method_2_code 8 = .ok (.iaload, 1) := by decide +kernel
theorem d_Law_cell_9 : decode method_2_code 9 = .ok (.goto 4, 3) := by decide +kernel
theorem b_Law_cell_12 : tf_dec method_2_code 12 [(.iconst 0, 1)] = true := by decide +kernel
theorem d_Law_cell_13 : decode method_2_code 13 = .ok (.ireturn, 1) := by decide +kernel
theorem b_Law_glyph_0 : tf_dec method_3_code 0 [(.aload_n 1, 1), (.iconst 0, 1), (.aload_n 0, 1)] = true := by decide +kernel
theorem d_Law_glyph_3 : decode method_3_code 3 = .ok (.invokevirtual 7, 3) := by decide +kernel
theorem b_Law_glyph_6 : tf_dec method_3_code 6 [(.i2l, 1)] = true := by decide +kernel
theorem d_Law_glyph_7 : decode method_3_code 7 = .ok (.lastore, 1) := by decide +kernel
theorem d_Law_glyph_8 : decode method_3_code 8 = .ok (.goto 6, 3) := by decide +kernel
theorem b_Law_glyph_11 : tf_dec method_3_code 11 [(.astore_n 2, 1), (.iconst 1, 1)] = true := by decide +kernel
theorem d_Law_glyph_13 : decode method_3_code 13 = .ok (.ireturn, 1) := by decide +kernel
theorem b_Law_glyph_14 : tf_dec method_3_code 14 [(.iconst 0, 1)] = true := by decide +kernel
theorem d_Law_glyph_15 : decode method_3_code 15 = .ok (.ireturn, 1) := by decide +kernel
theorem b_Law_point_0 : tf_dec method_4_code 0 [(.aload 5, 2), (.iconst 0, 1), (.aload_n 0, 1), (.iload_n 1, 1), (.iload_n 2, 1), (.iload_n 3, 1), (.iload 4, 2)] = true := by decide +kernel
theorem d_Law_point_9 : decode method_4_code 9 = .ok (.invokevirtual 15, 3) := by decide +kernel
theorem b_Law_point_12 : tf_dec method_4_code 12 [(.i2l, 1)] = true := by decide +kernel
theorem d_Law_point_13 : decode method_4_code 13 = .ok (.lastore, 1) := by decide +kernel
theorem d_Law_point_14 : decode method_4_code 14 = .ok (.goto 11, 3) := by decide +kernel
theorem b_Law_point_17 : tf_dec method_4_code 17 [(.astore 6, 2), (.iconst 1, 1)] = true := by decide +kernel
theorem d_Law_point_20 : decode method_4_code 20 = .ok (.ireturn, 1) := by decide +kernel
theorem b_Law_point_21 : tf_dec method_4_code 21 [(.astore 6, 2), (.iconst 2, 1)] = true := by decide +kernel
theorem d_Law_point_24 : decode method_4_code 24 = .ok (.ireturn, 1) := by decide +kernel
theorem b_Law_point_25 : tf_dec method_4_code 25 [(.iconst 0, 1)] = true := by decide +kernel
theorem d_Law_point_26 : decode method_4_code 26 = .ok (.ireturn, 1) := by decide +kernel
theorem b_Law_place_0 : tf_dec method_5_code 0 [(.aload_n 0, 1), (.iload_n 1, 1), (.iload_n 2, 1), (.iload_n 3, 1), (.iload 4, 2), (.iload 5, 2)] = true := by decide +kernel
theorem d_Law_place_8 : decode method_5_code 8 = .ok (.invokevirtual 21, 3) := by decide +kernel
theorem d_Law_place_11 : decode method_5_code 11 = .ok (.goto 11, 3) := by decide +kernel
theorem b_Law_place_14 : tf_dec method_5_code 14 [(.astore 6, 2), (.iconst 1, 1)] = true := by decide +kernel
theorem d_Law_place_17 : decode method_5_code 17 = .ok (.ireturn, 1) := by decide +kernel
theorem b_Law_place_18 : tf_dec method_5_code 18 [(.astore 6, 2), (.iconst 2, 1)] = true := by decide +kernel
theorem d_Law_place_21 : decode method_5_code 21 = .ok (.ireturn, 1) := by decide +kernel
theorem b_Law_place_22 : tf_dec method_5_code 22 [(.iconst 0, 1)] = true := by decide +kernel
theorem d_Law_place_23 : decode method_5_code 23 = .ok (.ireturn, 1) := by decide +kernel
theorem b_Law_component_0 : tf_dec method_6_code 0 [(.aload_n 0, 1), (.iload_n 1, 1), (.iload_n 2, 1), (.iload_n 3, 1), (.iload 4, 2), (.iload 5, 2)] = true := by decide +kernel
theorem d_Law_component_8 : decode method_6_code 8 = .ok (.invokevirtual 27, 3) := by decide +kernel
theorem d_Law_component_11 : decode method_6_code 11 = .ok (.goto 11, 3) := by decide +kernel
theorem b_Law_component_14 : tf_dec method_6_code 14 [(.astore 6, 2), (.iconst 1, 1)] = true := by decide +kernel
theorem d_Law_component_17 : decode method_6_code 17 = .ok (.ireturn, 1) := by decide +kernel
theorem b_Law_component_18 : tf_dec method_6_code 18 [(.astore 6, 2), (.iconst 2, 1)] = true := by decide +kernel
theorem d_Law_component_21 : decode method_6_code 21 = .ok (.ireturn, 1) := by decide +kernel
theorem b_Law_component_22 : tf_dec method_6_code 22 [(.iconst 0, 1)] = true := by decide +kernel
theorem d_Law_component_23 : decode method_6_code 23 = .ok (.ireturn, 1) := by decide +kernel
theorem b_Law_outline_0 : tf_dec method_7_code 0 [(.aload 4, 2), (.iconst 0, 1), (.aload_n 0, 1), (.iload_n 1, 1), (.iload_n 2, 1), (.iload_n 3, 1)] = true := by decide +kernel
theorem d_Law_outline_7 : decode method_7_code 7 = .ok (.invokevirtual 30, 3) := by decide +kernel
theorem b_Law_outline_10 : tf_dec method_7_code 10 [(.i2l, 1)] = true := by decide +kernel
theorem d_Law_outline_11 : decode method_7_code 11 = .ok (.lastore, 1) := by decide +kernel
theorem d_Law_outline_12 : decode method_7_code 12 = .ok (.goto 7, 3) := by decide +kernel
theorem b_Law_outline_15 : tf_dec method_7_code 15 [(.astore 5, 2), (.iconst 1, 1)] = true := by decide +kernel
theorem d_Law_outline_18 : decode method_7_code 18 = .ok (.ireturn, 1) := by decide +kernel
theorem b_Law_outline_19 : tf_dec method_7_code 19 [(.iconst 0, 1)] = true := by decide +kernel
theorem d_Law_outline_20 : decode method_7_code 20 = .ok (.ireturn, 1) := by decide +kernel
theorem b_Law_draw_0 : tf_dec method_8_code 0 [(.aload 4, 2), (.iconst 0, 1), (.aload_n 0, 1), (.iload_n 1, 1), (.iload_n 2, 1), (.iload_n 3, 1)] = true := by decide +kernel
theorem d_Law_draw_7 : decode method_8_code 7 = .ok (.invokevirtual 34, 3) := by decide +kernel
theorem b_Law_draw_10 : tf_dec method_8_code 10 [(.i2l, 1)] = true := by decide +kernel
theorem d_Law_draw_11 : decode method_8_code 11 = .ok (.lastore, 1) := by decide +kernel
theorem d_Law_draw_12 : decode method_8_code 12 = .ok (.goto 7, 3) := by decide +kernel
theorem b_Law_draw_15 : tf_dec method_8_code 15 [(.astore 5, 2), (.iconst 1, 1)] = true := by decide +kernel
theorem d_Law_draw_18 : decode method_8_code 18 = .ok (.ireturn, 1) := by decide +kernel
theorem b_Law_draw_19 : tf_dec method_8_code 19 [(.iconst 0, 1)] = true := by decide +kernel
theorem d_Law_draw_20 : decode method_8_code 20 = .ok (.ireturn, 1) := by decide +kernel
theorem b_Law_rule_0 : tf_dec method_9_code 0 [(.aload 9, 2), (.iconst 0, 1), (.aload_n 0, 1), (.iload_n 1, 1), (.lload_n 2, 1), (.lload 4, 2), (.lload 6, 2), (.iload 8, 2)] = true := by decide +kernel
theorem d_Law_rule_12 : decode method_9_code 12 = .ok (.invokevirtual 38, 3) := by decide +kernel
theorem b_Law_rule_15 : tf_dec method_9_code 15 [(.i2l, 1)] = true := by decide +kernel
theorem d_Law_rule_16 : decode method_9_code 16 = .ok (.lastore, 1) := by decide +kernel
theorem d_Law_rule_17 : decode method_9_code 17 = .ok (.goto 11, 3) := by decide +kernel
theorem b_Law_rule_20 : tf_dec method_9_code 20 [(.astore 10, 2), (.iconst 1, 1)] = true := by decide +kernel
theorem d_Law_rule_23 : decode method_9_code 23 = .ok (.ireturn, 1) := by decide +kernel
theorem b_Law_rule_24 : tf_dec method_9_code 24 [(.astore 10, 2), (.iconst 2, 1)] = true := by decide +kernel
theorem d_Law_rule_27 : decode method_9_code 27 = .ok (.ireturn, 1) := by decide +kernel
theorem b_Law_rule_28 : tf_dec method_9_code 28 [(.iconst 0, 1)] = true := by decide +kernel
theorem d_Law_rule_29 : decode method_9_code 29 = .ok (.ireturn, 1) := by decide +kernel
theorem b_Law_shaped_0 : tf_dec method_10_code 0 [(.aload_n 3, 1), (.iconst 0, 1), (.aload_n 0, 1), (.iload_n 1, 1), (.iload_n 2, 1)] = true := by decide +kernel
theorem d_Law_shaped_5 : decode method_10_code 5 = .ok (.invokevirtual 42, 3) := by decide +kernel
theorem b_Law_shaped_8 : tf_dec method_10_code 8 [(.i2l, 1)] = true := by decide +kernel
theorem d_Law_shaped_9 : decode method_10_code 9 = .ok (.lastore, 1) := by decide +kernel
theorem d_Law_shaped_10 : decode method_10_code 10 = .ok (.goto 7, 3) := by decide +kernel
theorem b_Law_shaped_13 : tf_dec method_10_code 13 [(.astore 4, 2), (.iconst 1, 1)] = true := by decide +kernel
theorem d_Law_shaped_16 : decode method_10_code 16 = .ok (.ireturn, 1) := by decide +kernel
theorem b_Law_shaped_17 : tf_dec method_10_code 17 [(.iconst 0, 1)] = true := by decide +kernel
theorem d_Law_shaped_18 : decode method_10_code 18 = .ok (.ireturn, 1) := by decide +kernel
theorem d_Law_law_0 : decode code 0 = .ok (.new 8, 3) := by decide +kernel
theorem b_Law_law_3 : tf_dec code 3 [(.dup, 1), (.aload_n 0, 1), (.iconst 0, 1)] = true := by decide +kernel
theorem d_Law_law_6 : decode code 6 = .ok (.invokestatic 46, 3) := by decide +kernel
theorem d_Law_law_9 : decode code 9 = .ok (.invokespecial 52, 3) := by decide +kernel
theorem b_Law_law_12 : tf_dec code 12 [(.astore_n 1, 1)] = true := by decide +kernel
theorem d_Law_law_13 : decode code 13 = .ok (.new 55, 3) := by decide +kernel
theorem b_Law_law_16 : tf_dec code 16 [(.dup, 1), (.aload_n 0, 1), (.iconst 0, 1)] = true := by decide +kernel
theorem d_Law_law_19 : decode code 19 = .ok (.invokestatic 46, 3) := by decide +kernel
theorem d_Law_law_22 : decode code 22 = .ok (.invokespecial 57, 3) := by decide +kernel
theorem b_Law_law_25 : tf_dec code 25 [(.astore_n 2, 1), (.iconst 1, 1)] = true := by decide +kernel
theorem d_Law_law_27 : decode code 27 = .ok (.newarray .long, 2) := by decide +kernel
theorem b_Law_law_29 : tf_dec code 29 [(.astore_n 3, 1), (.iconst 1, 1), (.istore 4, 2)] = true := by decide +kernel
theorem b_Law_law_33 : tf_dec code 33 [(.iload 4, 2), (.aload_n 0, 1)] = true := by decide +kernel
theorem d_Law_law_36 : decode code 36 = .ok (.arraylength, 1) := by decide +kernel
theorem b_Law_law_37 : tf_dec code 37 [(.bipush 9, 2), (.isub, 1)] = true := by decide +kernel
theorem d_Law_law_40 : decode code 40 = .ok (.if_icmp .gt 1259, 3) := by decide +kernel
theorem b_Law_law_43 : tf_dec code 43 [(.aload_n 0, 1), (.iload 4, 2)] = true := by decide +kernel
theorem d_Law_law_46 : decode code 46 = .ok (.iaload, 1) := by decide +kernel
theorem b_Law_law_47 : tf_dec code 47 [(.bipush 31, 2), (.iand, 1)] = true := by decide +kernel
theorem d_Law_law_50 : decode code 50 = .ok (.tableswitch 1243 0 18 #[90, 134, 242, 267, 351, 435, 484, 521, 601, 626, 722, 759, 808, 857, 906, 1112, 1137, 1150, 1218], 90) := by decide +kernel
theorem b_Law_law_140 : tf_dec code 140 [(.aload_n 1, 1), (.aload_n 3, 1)] = true := by decide +kernel
theorem d_Law_law_142 : decode code 142 = .ok (.invokestatic 58, 3) := by decide +kernel
theorem b_Law_law_145 : tf_dec code 145 [(.istore 5, 2), (.aload_n 2, 1)] = true := by decide +kernel
theorem d_Law_law_148 : decode code 148 = .ok (.invokevirtual 61, 3) := by decide +kernel
theorem b_Law_law_151 : tf_dec code 151 [(.istore 6, 2), (.aload_n 2, 1)] = true := by decide +kernel
theorem d_Law_law_154 : decode code 154 = .ok (.invokevirtual 62, 3) := by decide +kernel
theorem b_Law_law_157 : tf_dec code 157 [(.iload 5, 2)] = true := by decide +kernel
theorem d_Law_law_159 : decode code 159 = .ok (.if_icmp .eq 5, 3) := by decide +kernel
theorem b_Law_law_162 : tf_dec code 162 [(.iconst 0, 1)] = true := by decide +kernel
theorem d_Law_law_163 : decode code 163 = .ok (.ireturn, 1) := by decide +kernel
theorem b_Law_law_164 : tf_dec code 164 [(.iload 5, 2)] = true := by decide +kernel
theorem d_Law_law_166 : decode code 166 = .ok (.ifCond .ne 15, 3) := by decide +kernel
theorem b_Law_law_169 : tf_dec code 169 [(.aload_n 3, 1), (.iconst 0, 1)] = true := by decide +kernel
theorem d_Law_law_171 : decode code 171 = .ok (.laload, 1) := by decide +kernel
theorem b_Law_law_172 : tf_dec code 172 [(.iload 6, 2), (.i2l, 1), (.lcmp, 1)] = true := by decide +kernel
theorem d_Law_law_176 : decode code 176 = .ok (.ifCond .eq 5, 3) := by decide +kernel
theorem b_Law_law_179 : tf_dec code 179 [(.iconst 0, 1)] = true := by decide +kernel
theorem d_Law_law_180 : decode code 180 = .ok (.ireturn, 1) := by decide +kernel
theorem d_Law_law_181 : decode code 181 = .ok (.goto 1112, 3) := by decide +kernel
theorem b_Law_law_184 : tf_dec code 184 [(.aload_n 1, 1), (.aload_n 0, 1), (.iload 4, 2), (.iconst 1, 1), (.iadd, 1)] = true := by decide +kernel
theorem d_Law_law_190 : decode code 190 = .ok (.iaload, 1) := by decide +kernel
theorem b_Law_law_191 : tf_dec code 191 [(.aload_n 0, 1), (.iload 4, 2), (.iconst 2, 1), (.iadd, 1)] = true := by decide +kernel
theorem d_Law_law_196 : decode code 196 = .ok (.iaload, 1) := by decide +kernel
theorem b_Law_law_197 : tf_dec code 197 [(.aload_n 0, 1), (.iload 4, 2), (.iconst 3, 1), (.iadd, 1)] = true := by decide +kernel
theorem d_Law_law_202 : decode code 202 = .ok (.iaload, 1) := by decide +kernel
theorem b_Law_law_203 : tf_dec code 203 [(.aload_n 0, 1), (.iload 4, 2), (.iconst 4, 1), (.iadd, 1)] = true := by decide +kernel
theorem d_Law_law_208 : decode code 208 = .ok (.iaload, 1) := by decide +kernel
theorem d_Law_law_209 : decode code 209 = .ok (.ifCond .eq 7, 3) := by decide +kernel
theorem b_Law_law_212 : tf_dec code 212 [(.iconst 1, 1)] = true := by decide +kernel
theorem d_Law_law_213 : decode code 213 = .ok (.goto 4, 3) := by decide +kernel
theorem b_Law_law_216 : tf_dec code 216 [(.iconst 0, 1)] = true := by decide +kernel
theorem b_Law_law_217 : tf_dec code 217 [(.aload_n 3, 1)] = true := by decide +kernel
theorem d_Law_law_218 : decode code 218 = .ok (.invokestatic 65, 3) := by decide +kernel
theorem b_Law_law_221 : tf_dec code 221 [(.istore 5, 2), (.aload_n 2, 1), (.aload_n 0, 1), (.iload 4, 2), (.iconst 1, 1), (.iadd, 1)] = true := by decide +kernel
theorem d_Law_law_229 : decode code 229 = .ok (.iaload, 1) := by decide +kernel
theorem b_Law_law_230 : tf_dec code 230 [(.aload_n 0, 1), (.iload 4, 2), (.iconst 2, 1), (.iadd, 1)] = true := by decide +kernel
theorem d_Law_law_235 : decode code 235 = .ok (.iaload, 1) := by decide +kernel
theorem b_Law_law_236 : tf_dec code 236 [(.aload_n 0, 1), (.iload 4, 2), (.iconst 3, 1), (.iadd, 1)] = true := by decide +kernel
theorem d_Law_law_241 : decode code 241 = .ok (.iaload, 1) := by decide +kernel
theorem b_Law_law_242 : tf_dec code 242 [(.aload_n 0, 1), (.iload 4, 2), (.iconst 4, 1), (.iadd, 1)] = true := by decide +kernel
theorem d_Law_law_247 : decode code 247 = .ok (.iaload, 1) := by decide +kernel
theorem d_Law_law_248 : decode code 248 = .ok (.ifCond .eq 7, 3) := by decide +kernel
theorem b_Law_law_251 : tf_dec code 251 [(.iconst 1, 1)] = true := by decide +kernel
theorem d_Law_law_252 : decode code 252 = .ok (.goto 4, 3) := by decide +kernel
theorem b_Law_law_255 : tf_dec code 255 [(.iconst 0, 1)] = true := by decide +kernel
theorem d_Law_law_256 : decode code 256 = .ok (.invokevirtual 68, 3) := by decide +kernel
theorem b_Law_law_259 : tf_dec code 259 [(.istore 6, 2), (.aload_n 2, 1)] = true := by decide +kernel
theorem d_Law_law_262 : decode code 262 = .ok (.invokevirtual 62, 3) := by decide +kernel
theorem b_Law_law_265 : tf_dec code 265 [(.iload 5, 2)] = true := by decide +kernel
theorem d_Law_law_267 : decode code 267 = .ok (.if_icmp .eq 5, 3) := by decide +kernel
theorem b_Law_law_270 : tf_dec code 270 [(.iconst 0, 1)] = true := by decide +kernel
theorem d_Law_law_271 : decode code 271 = .ok (.ireturn, 1) := by decide +kernel
theorem b_Law_law_272 : tf_dec code 272 [(.iload 5, 2)] = true := by decide +kernel
theorem d_Law_law_274 : decode code 274 = .ok (.ifCond .ne 15, 3) := by decide +kernel
theorem b_Law_law_277 : tf_dec code 277 [(.aload_n 3, 1), (.iconst 0, 1)] = true := by decide +kernel
theorem d_Law_law_279 : decode code 279 = .ok (.laload, 1) := by decide +kernel
theorem b_Law_law_280 : tf_dec code 280 [(.iload 6, 2), (.i2l, 1), (.lcmp, 1)] = true := by decide +kernel
theorem d_Law_law_284 : decode code 284 = .ok (.ifCond .eq 5, 3) := by decide +kernel
theorem b_Law_law_287 : tf_dec code 287 [(.iconst 0, 1)] = true := by decide +kernel
theorem d_Law_law_288 : decode code 288 = .ok (.ireturn, 1) := by decide +kernel
theorem d_Law_law_289 : decode code 289 = .ok (.goto 1004, 3) := by decide +kernel
theorem b_Law_law_292 : tf_dec code 292 [(.aload_n 1, 1), (.aload_n 0, 1), (.iload 4, 2), (.iconst 1, 1), (.iadd, 1)] = true := by decide +kernel
theorem d_Law_law_298 : decode code 298 = .ok (.iaload, 1) := by decide +kernel
theorem d_Law_law_299 : decode code 299 = .ok (.invokevirtual 69, 3) := by decide +kernel
theorem b_Law_law_302 : tf_dec code 302 [(.aload_n 2, 1), (.aload_n 0, 1), (.iload 4, 2), (.iconst 1, 1), (.iadd, 1)] = true := by decide +kernel
theorem d_Law_law_308 : decode code 308 = .ok (.iaload, 1) := by decide +kernel
theorem d_Law_law_309 : decode code 309 = .ok (.invokevirtual 73, 3) := by decide +kernel
theorem d_Law_law_312 : decode code 312 = .ok (.if_icmp .eq 981, 3) := by decide +kernel
theorem b_Law_law_315 : tf_dec code 315 [(.iconst 0, 1)] = true := by decide +kernel
theorem d_Law_law_316 : decode code 316 = .ok (.ireturn, 1) := by decide +kernel
theorem b_Law_law_317 : tf_dec code 317 [(.aload_n 1, 1), (.aload_n 0, 1), (.iload 4, 2), (.iconst 1, 1), (.iadd, 1)] = true := by decide +kernel
theorem d_Law_law_323 : decode code 323 = .ok (.iaload, 1) := by decide +kernel
theorem b_Law_law_324 : tf_dec code 324 [(.aload_n 0, 1), (.iload 4, 2), (.iconst 2, 1), (.iadd, 1)] = true := by decide +kernel
theorem d_Law_law_329 : decode code 329 = .ok (.iaload, 1) := by decide +kernel
theorem b_Law_law_330 : tf_dec code 330 [(.aload_n 0, 1), (.iload 4, 2), (.iconst 3, 1), (.iadd, 1)] = true := by decide +kernel
theorem d_Law_law_335 : decode code 335 = .ok (.iaload, 1) := by decide +kernel
theorem b_Law_law_336 : tf_dec code 336 [(.aload_n 0, 1), (.iload 4, 2), (.iconst 4, 1), (.iadd, 1)] = true := by decide +kernel
theorem d_Law_law_341 : decode code 341 = .ok (.iaload, 1) := by decide +kernel
theorem b_Law_law_342 : tf_dec code 342 [(.aload_n 0, 1), (.iload 4, 2), (.iconst 5, 1), (.iadd, 1)] = true := by decide +kernel
theorem d_Law_law_347 : decode code 347 = .ok (.iaload, 1) := by decide +kernel
theorem d_Law_law_348 : decode code 348 = .ok (.invokestatic 74, 3) := by decide +kernel
theorem b_Law_law_351 : tf_dec code 351 [(.istore 5, 2), (.aload_n 2, 1), (.aload_n 0, 1), (.iload 4, 2), (.iconst 1, 1), (.iadd, 1)] = true := by decide +kernel
theorem d_Law_law_359 : decode code 359 = .ok (.iaload, 1) := by decide +kernel
theorem b_Law_law_360 : tf_dec code 360 [(.aload_n 0, 1), (.iload 4, 2), (.iconst 2, 1), (.iadd, 1)] = true := by decide +kernel
theorem d_Law_law_365 : decode code 365 = .ok (.iaload, 1) := by decide +kernel
theorem b_Law_law_366 : tf_dec code 366 [(.aload_n 0, 1), (.iload 4, 2), (.iconst 3, 1), (.iadd, 1)] = true := by decide +kernel
theorem d_Law_law_371 : decode code 371 = .ok (.iaload, 1) := by decide +kernel
theorem b_Law_law_372 : tf_dec code 372 [(.aload_n 0, 1), (.iload 4, 2), (.iconst 4, 1), (.iadd, 1)] = true := by decide +kernel
theorem d_Law_law_377 : decode code 377 = .ok (.iaload, 1) := by decide +kernel
theorem b_Law_law_378 : tf_dec code 378 [(.aload_n 0, 1), (.iload 4, 2), (.iconst 5, 1), (.iadd, 1)] = true := by decide +kernel
theorem d_Law_law_383 : decode code 383 = .ok (.iaload, 1) := by decide +kernel
theorem d_Law_law_384 : decode code 384 = .ok (.invokevirtual 77, 3) := by decide +kernel
theorem b_Law_law_387 : tf_dec code 387 [(.aload_n 2, 1)] = true := by decide +kernel
theorem d_Law_law_388 : decode code 388 = .ok (.invokevirtual 62, 3) := by decide +kernel
theorem b_Law_law_391 : tf_dec code 391 [(.iload 5, 2)] = true := by decide +kernel
theorem d_Law_law_393 : decode code 393 = .ok (.if_icmp .eq 5, 3) := by decide +kernel
theorem b_Law_law_396 : tf_dec code 396 [(.iconst 0, 1)] = true := by decide +kernel
theorem d_Law_law_397 : decode code 397 = .ok (.ireturn, 1) := by decide +kernel
theorem d_Law_law_398 : decode code 398 = .ok (.goto 895, 3) := by decide +kernel
theorem b_Law_law_401 : tf_dec code 401 [(.aload_n 1, 1), (.aload_n 0, 1), (.iload 4, 2), (.iconst 1, 1), (.iadd, 1)] = true := by decide +kernel
theorem d_Law_law_407 : decode code 407 = .ok (.iaload, 1) := by decide +kernel
theorem b_Law_law_408 : tf_dec code 408 [(.aload_n 0, 1), (.iload 4, 2), (.iconst 2, 1), (.iadd, 1)] = true := by decide +kernel
theorem d_Law_law_413 : decode code 413 = .ok (.iaload, 1) := by decide +kernel
theorem b_Law_law_414 : tf_dec code 414 [(.aload_n 0, 1), (.iload 4, 2), (.iconst 3, 1), (.iadd, 1)] = true := by decide +kernel
theorem d_Law_law_419 : decode code 419 = .ok (.iaload, 1) := by decide +kernel
theorem b_Law_law_420 : tf_dec code 420 [(.aload_n 0, 1), (.iload 4, 2), (.iconst 4, 1), (.iadd, 1)] = true := by decide +kernel
theorem d_Law_law_425 : decode code 425 = .ok (.iaload, 1) := by decide +kernel
theorem b_Law_law_426 : tf_dec code 426 [(.aload_n 0, 1), (.iload 4, 2), (.iconst 5, 1), (.iadd, 1)] = true := by decide +kernel
theorem d_Law_law_431 : decode code 431 = .ok (.iaload, 1) := by decide +kernel
theorem d_Law_law_432 : decode code 432 = .ok (.invokestatic 78, 3) := by decide +kernel
theorem b_Law_law_435 : tf_dec code 435 [(.istore 5, 2), (.aload_n 2, 1), (.aload_n 0, 1), (.iload 4, 2), (.iconst 1, 1), (.iadd, 1)] = true := by decide +kernel
theorem d_Law_law_443 : decode code 443 = .ok (.iaload, 1) := by decide +kernel
theorem b_Law_law_444 : tf_dec code 444 [(.aload_n 0, 1), (.iload 4, 2), (.iconst 2, 1), (.iadd, 1)] = true := by decide +kernel
theorem d_Law_law_449 : decode code 449 = .ok (.iaload, 1) := by decide +kernel
theorem b_Law_law_450 : tf_dec code 450 [(.aload_n 0, 1), (.iload 4, 2), (.iconst 3, 1), (.iadd, 1)] = true := by decide +kernel
theorem d_Law_law_455 : decode code 455 = .ok (.iaload, 1) := by decide +kernel
theorem b_Law_law_456 : tf_dec code 456 [(.aload_n 0, 1), (.iload 4, 2), (.iconst 4, 1), (.iadd, 1)] = true := by decide +kernel
theorem d_Law_law_461 : decode code 461 = .ok (.iaload, 1) := by decide +kernel
theorem b_Law_law_462 : tf_dec code 462 [(.aload_n 0, 1), (.iload 4, 2), (.iconst 5, 1), (.iadd, 1)] = true := by decide +kernel
theorem d_Law_law_467 : decode code 467 = .ok (.iaload, 1) := by decide +kernel
theorem d_Law_law_468 : decode code 468 = .ok (.invokevirtual 80, 3) := by decide +kernel
theorem b_Law_law_471 : tf_dec code 471 [(.aload_n 2, 1)] = true := by decide +kernel
theorem d_Law_law_472 : decode code 472 = .ok (.invokevirtual 62, 3) := by decide +kernel
theorem b_Law_law_475 : tf_dec code 475 [(.iload 5, 2)] = true := by decide +kernel
theorem d_Law_law_477 : decode code 477 = .ok (.if_icmp .eq 5, 3) := by decide +kernel
theorem b_Law_law_480 : tf_dec code 480 [(.iconst 0, 1)] = true := by decide +kernel
theorem d_Law_law_481 : decode code 481 = .ok (.ireturn, 1) := by decide +kernel
theorem d_Law_law_482 : decode code 482 = .ok (.goto 811, 3) := by decide +kernel
theorem b_Law_law_485 : tf_dec code 485 [(.aload_n 1, 1), (.aload_n 0, 1), (.iload 4, 2), (.iconst 1, 1), (.iadd, 1)] = true := by decide +kernel
theorem d_Law_law_491 : decode code 491 = .ok (.iaload, 1) := by decide +kernel
theorem b_Law_law_492 : tf_dec code 492 [(.aload_n 0, 1), (.iload 4, 2), (.iconst 2, 1), (.iadd, 1)] = true := by decide +kernel
theorem d_Law_law_497 : decode code 497 = .ok (.iaload, 1) := by decide +kernel
theorem b_Law_law_498 : tf_dec code 498 [(.aload_n 0, 1), (.iload 4, 2), (.iconst 3, 1), (.iadd, 1)] = true := by decide +kernel
theorem d_Law_law_503 : decode code 503 = .ok (.iaload, 1) := by decide +kernel
theorem d_Law_law_504 : decode code 504 = .ok (.invokevirtual 81, 3) := by decide +kernel
theorem b_Law_law_507 : tf_dec code 507 [(.aload_n 2, 1), (.aload_n 0, 1), (.iload 4, 2), (.iconst 1, 1), (.iadd, 1)] = true := by decide +kernel
theorem d_Law_law_513 : decode code 513 = .ok (.iaload, 1) := by decide +kernel
theorem b_Law_law_514 : tf_dec code 514 [(.aload_n 0, 1), (.iload 4, 2), (.iconst 2, 1), (.iadd, 1)] = true := by decide +kernel
theorem d_Law_law_519 : decode code 519 = .ok (.iaload, 1) := by decide +kernel
theorem b_Law_law_520 : tf_dec code 520 [(.aload_n 0, 1), (.iload 4, 2), (.iconst 3, 1), (.iadd, 1)] = true := by decide +kernel
theorem d_Law_law_525 : decode code 525 = .ok (.iaload, 1) := by decide +kernel
theorem d_Law_law_526 : decode code 526 = .ok (.invokevirtual 85, 3) := by decide +kernel
theorem d_Law_law_529 : decode code 529 = .ok (.if_icmp .eq 764, 3) := by decide +kernel
theorem b_Law_law_532 : tf_dec code 532 [(.iconst 0, 1)] = true := by decide +kernel
theorem d_Law_law_533 : decode code 533 = .ok (.ireturn, 1) := by decide +kernel
theorem b_Law_law_534 : tf_dec code 534 [(.aload_n 1, 1), (.aload_n 0, 1), (.iload 4, 2), (.iconst 1, 1), (.iadd, 1)] = true := by decide +kernel
theorem d_Law_law_540 : decode code 540 = .ok (.iaload, 1) := by decide +kernel
theorem b_Law_law_541 : tf_dec code 541 [(.aload_n 0, 1), (.iload 4, 2), (.iconst 2, 1), (.iadd, 1)] = true := by decide +kernel
theorem d_Law_law_546 : decode code 546 = .ok (.iaload, 1) := by decide +kernel
theorem d_Law_law_547 : decode code 547 = .ok (.invokevirtual 86, 3) := by decide +kernel
theorem b_Law_law_550 : tf_dec code 550 [(.aload_n 2, 1), (.aload_n 0, 1), (.iload 4, 2), (.iconst 1, 1), (.iadd, 1)] = true := by decide +kernel
theorem d_Law_law_556 : decode code 556 = .ok (.iaload, 1) := by decide +kernel
theorem b_Law_law_557 : tf_dec code 557 [(.aload_n 0, 1), (.iload 4, 2), (.iconst 2, 1), (.iadd, 1)] = true := by decide +kernel
theorem d_Law_law_562 : decode code 562 = .ok (.iaload, 1) := by decide +kernel
theorem d_Law_law_563 : decode code 563 = .ok (.invokevirtual 90, 3) := by decide +kernel
theorem d_Law_law_566 : decode code 566 = .ok (.if_icmp .eq 727, 3) := by decide +kernel
theorem b_Law_law_569 : tf_dec code 569 [(.iconst 0, 1)] = true := by decide +kernel
theorem d_Law_law_570 : decode code 570 = .ok (.ireturn, 1) := by decide +kernel
theorem b_Law_law_571 : tf_dec code 571 [(.aload_n 1, 1), (.aload_n 0, 1), (.iload 4, 2), (.iconst 1, 1), (.iadd, 1)] = true := by decide +kernel
theorem d_Law_law_577 : decode code 577 = .ok (.iaload, 1) := by decide +kernel
theorem b_Law_law_578 : tf_dec code 578 [(.aload_n 0, 1), (.iload 4, 2), (.iconst 2, 1), (.iadd, 1)] = true := by decide +kernel
theorem d_Law_law_583 : decode code 583 = .ok (.iaload, 1) := by decide +kernel
theorem b_Law_law_584 : tf_dec code 584 [(.aload_n 0, 1), (.iload 4, 2), (.iconst 3, 1), (.iadd, 1)] = true := by decide +kernel
theorem d_Law_law_589 : decode code 589 = .ok (.iaload, 1) := by decide +kernel
theorem b_Law_law_590 : tf_dec code 590 [(.aload_n 3, 1)] = true := by decide +kernel
theorem d_Law_law_591 : decode code 591 = .ok (.invokestatic 91, 3) := by decide +kernel
theorem b_Law_law_594 : tf_dec code 594 [(.istore 5, 2), (.aload_n 2, 1), (.aload_n 0, 1), (.iload 4, 2), (.iconst 1, 1), (.iadd, 1)] = true := by decide +kernel
theorem d_Law_law_602 : decode code 602 = .ok (.iaload, 1) := by decide +kernel
theorem b_Law_law_603 : tf_dec code 603 [(.aload_n 0, 1), (.iload 4, 2), (.iconst 2, 1), (.iadd, 1)] = true := by decide +kernel
theorem d_Law_law_608 : decode code 608 = .ok (.iaload, 1) := by decide +kernel
theorem b_Law_law_609 : tf_dec code 609 [(.aload_n 0, 1), (.iload 4, 2), (.iconst 3, 1), (.iadd, 1)] = true := by decide +kernel
theorem d_Law_law_614 : decode code 614 = .ok (.iaload, 1) := by decide +kernel
theorem d_Law_law_615 : decode code 615 = .ok (.invokevirtual 94, 3) := by decide +kernel
theorem b_Law_law_618 : tf_dec code 618 [(.istore 6, 2), (.aload_n 2, 1)] = true := by decide +kernel
theorem d_Law_law_621 : decode code 621 = .ok (.invokevirtual 62, 3) := by decide +kernel
theorem b_Law_law_624 : tf_dec code 624 [(.iload 5, 2)] = true := by decide +kernel
theorem d_Law_law_626 : decode code 626 = .ok (.if_icmp .eq 5, 3) := by decide +kernel
theorem b_Law_law_629 : tf_dec code 629 [(.iconst 0, 1)] = true := by decide +kernel
theorem d_Law_law_630 : decode code 630 = .ok (.ireturn, 1) := by decide +kernel
theorem b_Law_law_631 : tf_dec code 631 [(.iload 5, 2)] = true := by decide +kernel
theorem d_Law_law_633 : decode code 633 = .ok (.ifCond .ne 15, 3) := by decide +kernel
theorem b_Law_law_636 : tf_dec code 636 [(.aload_n 3, 1), (.iconst 0, 1)] = true := by decide +kernel
theorem d_Law_law_638 : decode code 638 = .ok (.laload, 1) := by decide +kernel
theorem b_Law_law_639 : tf_dec code 639 [(.iload 6, 2), (.i2l, 1), (.lcmp, 1)] = true := by decide +kernel
theorem d_Law_law_643 : decode code 643 = .ok (.ifCond .eq 5, 3) := by decide +kernel
theorem b_Law_law_646 : tf_dec code 646 [(.iconst 0, 1)] = true := by decide +kernel
theorem d_Law_law_647 : decode code 647 = .ok (.ireturn, 1) := by decide +kernel
theorem d_Law_law_648 : decode code 648 = .ok (.goto 645, 3) := by decide +kernel
theorem b_Law_law_651 : tf_dec code 651 [(.aload_n 1, 1), (.aload_n 0, 1), (.iload 4, 2), (.iconst 1, 1), (.iadd, 1)] = true := by decide +kernel
theorem d_Law_law_657 : decode code 657 = .ok (.iaload, 1) := by decide +kernel
theorem d_Law_law_658 : decode code 658 = .ok (.invokevirtual 95, 3) := by decide +kernel
theorem b_Law_law_661 : tf_dec code 661 [(.aload_n 2, 1), (.aload_n 0, 1), (.iload 4, 2), (.iconst 1, 1), (.iadd, 1)] = true := by decide +kernel
theorem d_Law_law_667 : decode code 667 = .ok (.iaload, 1) := by decide +kernel
theorem d_Law_law_668 : decode code 668 = .ok (.invokevirtual 98, 3) := by decide +kernel
theorem d_Law_law_671 : decode code 671 = .ok (.if_icmp .eq 622, 3) := by decide +kernel
theorem b_Law_law_674 : tf_dec code 674 [(.iconst 0, 1)] = true := by decide +kernel
theorem d_Law_law_675 : decode code 675 = .ok (.ireturn, 1) := by decide +kernel
theorem b_Law_law_676 : tf_dec code 676 [(.aload_n 1, 1), (.aload_n 0, 1), (.iload 4, 2), (.iconst 1, 1), (.iadd, 1)] = true := by decide +kernel
theorem d_Law_law_682 : decode code 682 = .ok (.iaload, 1) := by decide +kernel
theorem b_Law_law_683 : tf_dec code 683 [(.aload_n 0, 1), (.iload 4, 2), (.iconst 2, 1), (.iadd, 1)] = true := by decide +kernel
theorem d_Law_law_688 : decode code 688 = .ok (.iaload, 1) := by decide +kernel
theorem b_Law_law_689 : tf_dec code 689 [(.aload_n 0, 1), (.iload 4, 2), (.iconst 3, 1), (.iadd, 1)] = true := by decide +kernel
theorem d_Law_law_694 : decode code 694 = .ok (.iaload, 1) := by decide +kernel
theorem d_Law_law_695 : decode code 695 = .ok (.ifCond .eq 7, 3) := by decide +kernel
theorem b_Law_law_698 : tf_dec code 698 [(.iconst 1, 1)] = true := by decide +kernel
theorem d_Law_law_699 : decode code 699 = .ok (.goto 4, 3) := by decide +kernel
theorem b_Law_law_702 : tf_dec code 702 [(.iconst 0, 1)] = true := by decide +kernel
theorem b_Law_law_703 : tf_dec code 703 [(.aload_n 3, 1)] = true := by decide +kernel
theorem d_Law_law_704 : decode code 704 = .ok (.invokestatic 99, 3) := by decide +kernel
theorem b_Law_law_707 : tf_dec code 707 [(.istore 5, 2), (.aload_n 2, 1), (.aload_n 0, 1), (.iload 4, 2), (.iconst 1, 1), (.iadd, 1)] = true := by decide +kernel
theorem d_Law_law_715 : decode code 715 = .ok (.iaload, 1) := by decide +kernel
theorem b_Law_law_716 : tf_dec code 716 [(.aload_n 0, 1), (.iload 4, 2), (.iconst 2, 1), (.iadd, 1)] = true := by decide +kernel
theorem d_Law_law_721 : decode code 721 = .ok (.iaload, 1) := by decide +kernel
theorem b_Law_law_722 : tf_dec code 722 [(.aload_n 0, 1), (.iload 4, 2), (.iconst 3, 1), (.iadd, 1)] = true := by decide +kernel
theorem d_Law_law_727 : decode code 727 = .ok (.iaload, 1) := by decide +kernel
theorem d_Law_law_728 : decode code 728 = .ok (.ifCond .eq 7, 3) := by decide +kernel
theorem b_Law_law_731 : tf_dec code 731 [(.iconst 1, 1)] = true := by decide +kernel
theorem d_Law_law_732 : decode code 732 = .ok (.goto 4, 3) := by decide +kernel
theorem b_Law_law_735 : tf_dec code 735 [(.iconst 0, 1)] = true := by decide +kernel
theorem d_Law_law_736 : decode code 736 = .ok (.invokevirtual 102, 3) := by decide +kernel
theorem b_Law_law_739 : tf_dec code 739 [(.istore 6, 2), (.aload_n 2, 1)] = true := by decide +kernel
theorem d_Law_law_742 : decode code 742 = .ok (.invokevirtual 62, 3) := by decide +kernel
theorem b_Law_law_745 : tf_dec code 745 [(.iload 5, 2)] = true := by decide +kernel
theorem d_Law_law_747 : decode code 747 = .ok (.if_icmp .eq 5, 3) := by decide +kernel
theorem b_Law_law_750 : tf_dec code 750 [(.iconst 0, 1)] = true := by decide +kernel
theorem d_Law_law_751 : decode code 751 = .ok (.ireturn, 1) := by decide +kernel
theorem b_Law_law_752 : tf_dec code 752 [(.iload 5, 2)] = true := by decide +kernel
theorem d_Law_law_754 : decode code 754 = .ok (.ifCond .ne 15, 3) := by decide +kernel
theorem b_Law_law_757 : tf_dec code 757 [(.aload_n 3, 1), (.iconst 0, 1)] = true := by decide +kernel
theorem d_Law_law_759 : decode code 759 = .ok (.laload, 1) := by decide +kernel
theorem b_Law_law_760 : tf_dec code 760 [(.iload 6, 2), (.i2l, 1), (.lcmp, 1)] = true := by decide +kernel
theorem d_Law_law_764 : decode code 764 = .ok (.ifCond .eq 5, 3) := by decide +kernel
theorem b_Law_law_767 : tf_dec code 767 [(.iconst 0, 1)] = true := by decide +kernel
theorem d_Law_law_768 : decode code 768 = .ok (.ireturn, 1) := by decide +kernel
theorem d_Law_law_769 : decode code 769 = .ok (.goto 524, 3) := by decide +kernel
theorem b_Law_law_772 : tf_dec code 772 [(.aload_n 1, 1), (.aload_n 0, 1), (.iload 4, 2), (.iconst 1, 1), (.iadd, 1)] = true := by decide +kernel
theorem d_Law_law_778 : decode code 778 = .ok (.iaload, 1) := by decide +kernel
theorem b_Law_law_779 : tf_dec code 779 [(.aload_n 0, 1), (.iload 4, 2), (.iconst 2, 1), (.iadd, 1)] = true := by decide +kernel
theorem d_Law_law_784 : decode code 784 = .ok (.iaload, 1) := by decide +kernel
theorem d_Law_law_785 : decode code 785 = .ok (.invokevirtual 103, 3) := by decide +kernel
theorem b_Law_law_788 : tf_dec code 788 [(.aload_n 2, 1), (.aload_n 0, 1), (.iload 4, 2), (.iconst 1, 1), (.iadd, 1)] = true := by decide +kernel
theorem d_Law_law_794 : decode code 794 = .ok (.iaload, 1) := by decide +kernel
theorem b_Law_law_795 : tf_dec code 795 [(.aload_n 0, 1), (.iload 4, 2), (.iconst 2, 1), (.iadd, 1)] = true := by decide +kernel
theorem d_Law_law_800 : decode code 800 = .ok (.iaload, 1) := by decide +kernel
theorem d_Law_law_801 : decode code 801 = .ok (.invokevirtual 106, 3) := by decide +kernel
theorem d_Law_law_804 : decode code 804 = .ok (.if_icmp .eq 489, 3) := by decide +kernel
theorem b_Law_law_807 : tf_dec code 807 [(.iconst 0, 1)] = true := by decide +kernel
theorem d_Law_law_808 : decode code 808 = .ok (.ireturn, 1) := by decide +kernel
theorem b_Law_law_809 : tf_dec code 809 [(.aload_n 1, 1), (.aload_n 0, 1), (.iload 4, 2), (.iconst 1, 1), (.iadd, 1)] = true := by decide +kernel
theorem d_Law_law_815 : decode code 815 = .ok (.iaload, 1) := by decide +kernel
theorem b_Law_law_816 : tf_dec code 816 [(.aload_n 0, 1), (.iload 4, 2), (.iconst 2, 1), (.iadd, 1)] = true := by decide +kernel
theorem d_Law_law_821 : decode code 821 = .ok (.iaload, 1) := by decide +kernel
theorem b_Law_law_822 : tf_dec code 822 [(.aload_n 0, 1), (.iload 4, 2), (.iconst 3, 1), (.iadd, 1)] = true := by decide +kernel
theorem d_Law_law_827 : decode code 827 = .ok (.iaload, 1) := by decide +kernel
theorem d_Law_law_828 : decode code 828 = .ok (.invokevirtual 107, 3) := by decide +kernel
theorem b_Law_law_831 : tf_dec code 831 [(.aload_n 2, 1), (.aload_n 0, 1), (.iload 4, 2), (.iconst 1, 1), (.iadd, 1)] = true := by decide +kernel
theorem d_Law_law_837 : decode code 837 = .ok (.iaload, 1) := by decide +kernel
theorem b_Law_law_838 : tf_dec code 838 [(.aload_n 0, 1), (.iload 4, 2), (.iconst 2, 1), (.iadd, 1)] = true := by decide +kernel
theorem d_Law_law_843 : decode code 843 = .ok (.iaload, 1) := by decide +kernel
theorem b_Law_law_844 : tf_dec code 844 [(.aload_n 0, 1), (.iload 4, 2), (.iconst 3, 1), (.iadd, 1)] = true := by decide +kernel
theorem d_Law_law_849 : decode code 849 = .ok (.iaload, 1) := by decide +kernel
theorem d_Law_law_850 : decode code 850 = .ok (.invokevirtual 110, 3) := by decide +kernel
theorem d_Law_law_853 : decode code 853 = .ok (.if_icmp .eq 440, 3) := by decide +kernel
theorem b_Law_law_856 : tf_dec code 856 [(.iconst 0, 1)] = true := by decide +kernel
theorem d_Law_law_857 : decode code 857 = .ok (.ireturn, 1) := by decide +kernel
theorem b_Law_law_858 : tf_dec code 858 [(.aload_n 1, 1), (.aload_n 0, 1), (.iload 4, 2), (.iconst 1, 1), (.iadd, 1)] = true := by decide +kernel
theorem d_Law_law_864 : decode code 864 = .ok (.iaload, 1) := by decide +kernel
theorem b_Law_law_865 : tf_dec code 865 [(.aload_n 0, 1), (.iload 4, 2), (.iconst 2, 1), (.iadd, 1)] = true := by decide +kernel
theorem d_Law_law_870 : decode code 870 = .ok (.iaload, 1) := by decide +kernel
theorem b_Law_law_871 : tf_dec code 871 [(.aload_n 0, 1), (.iload 4, 2), (.iconst 3, 1), (.iadd, 1)] = true := by decide +kernel
theorem d_Law_law_876 : decode code 876 = .ok (.iaload, 1) := by decide +kernel
theorem d_Law_law_877 : decode code 877 = .ok (.invokevirtual 111, 3) := by decide +kernel
theorem b_Law_law_880 : tf_dec code 880 [(.aload_n 2, 1), (.aload_n 0, 1), (.iload 4, 2), (.iconst 1, 1), (.iadd, 1)] = true := by decide +kernel
theorem d_Law_law_886 : decode code 886 = .ok (.iaload, 1) := by decide +kernel
theorem b_Law_law_887 : tf_dec code 887 [(.aload_n 0, 1), (.iload 4, 2), (.iconst 2, 1), (.iadd, 1)] = true := by decide +kernel
theorem d_Law_law_892 : decode code 892 = .ok (.iaload, 1) := by decide +kernel
theorem b_Law_law_893 : tf_dec code 893 [(.aload_n 0, 1), (.iload 4, 2), (.iconst 3, 1), (.iadd, 1)] = true := by decide +kernel
theorem d_Law_law_898 : decode code 898 = .ok (.iaload, 1) := by decide +kernel
theorem d_Law_law_899 : decode code 899 = .ok (.invokevirtual 114, 3) := by decide +kernel
theorem d_Law_law_902 : decode code 902 = .ok (.if_icmp .eq 391, 3) := by decide +kernel
theorem b_Law_law_905 : tf_dec code 905 [(.iconst 0, 1)] = true := by decide +kernel
theorem d_Law_law_906 : decode code 906 = .ok (.ireturn, 1) := by decide +kernel
theorem b_Law_law_907 : tf_dec code 907 [(.aload_n 1, 1), (.aload_n 0, 1), (.iload 4, 2), (.iconst 1, 1), (.iadd, 1)] = true := by decide +kernel
theorem d_Law_law_913 : decode code 913 = .ok (.iaload, 1) := by decide +kernel
theorem b_Law_law_914 : tf_dec code 914 [(.aload_n 0, 1), (.iload 4, 2), (.iconst 2, 1), (.iadd, 1)] = true := by decide +kernel
theorem d_Law_law_919 : decode code 919 = .ok (.iaload, 1) := by decide +kernel
theorem b_Law_law_920 : tf_dec code 920 [(.aload_n 0, 1), (.iload 4, 2), (.iconst 3, 1), (.iadd, 1)] = true := by decide +kernel
theorem d_Law_law_925 : decode code 925 = .ok (.iaload, 1) := by decide +kernel
theorem d_Law_law_926 : decode code 926 = .ok (.invokevirtual 115, 3) := by decide +kernel
theorem b_Law_law_929 : tf_dec code 929 [(.aload_n 2, 1), (.aload_n 0, 1), (.iload 4, 2), (.iconst 1, 1), (.iadd, 1)] = true := by decide +kernel
theorem d_Law_law_935 : decode code 935 = .ok (.iaload, 1) := by decide +kernel
theorem b_Law_law_936 : tf_dec code 936 [(.aload_n 0, 1), (.iload 4, 2), (.iconst 2, 1), (.iadd, 1)] = true := by decide +kernel
theorem d_Law_law_941 : decode code 941 = .ok (.iaload, 1) := by decide +kernel
theorem b_Law_law_942 : tf_dec code 942 [(.aload_n 0, 1), (.iload 4, 2), (.iconst 3, 1), (.iadd, 1)] = true := by decide +kernel
theorem d_Law_law_947 : decode code 947 = .ok (.iaload, 1) := by decide +kernel
theorem d_Law_law_948 : decode code 948 = .ok (.invokevirtual 118, 3) := by decide +kernel
theorem d_Law_law_951 : decode code 951 = .ok (.if_icmp .eq 342, 3) := by decide +kernel
theorem b_Law_law_954 : tf_dec code 954 [(.iconst 0, 1)] = true := by decide +kernel
theorem d_Law_law_955 : decode code 955 = .ok (.ireturn, 1) := by decide +kernel
theorem b_Law_law_956 : tf_dec code 956 [(.aload_n 1, 1), (.aload_n 0, 1), (.iload 4, 2), (.iconst 1, 1), (.iadd, 1)] = true := by decide +kernel
theorem d_Law_law_962 : decode code 962 = .ok (.iaload, 1) := by decide +kernel
theorem b_Law_law_963 : tf_dec code 963 [(.aload_n 0, 1), (.iload 4, 2), (.iconst 2, 1), (.iadd, 1)] = true := by decide +kernel
theorem d_Law_law_968 : decode code 968 = .ok (.iaload, 1) := by decide +kernel
theorem b_Law_law_969 : tf_dec code 969 [(.i2l, 1), (.bipush 32, 2), (.lshl, 1), (.aload_n 0, 1), (.iload 4, 2), (.iconst 3, 1), (.iadd, 1)] = true := by decide +kernel
theorem d_Law_law_978 : decode code 978 = .ok (.iaload, 1) := by decide +kernel
theorem b_Law_law_979 : tf_dec code 979 [(.i2l, 1)] = true := by decide +kernel
theorem d_Law_law_980 : decode code 980 = .ok (.ldc2_w 119, 3) := by decide +kernel
theorem b_Law_law_983 : tf_dec code 983 [(.land, 1), (.lor, 1), (.aload_n 0, 1), (.iload 4, 2), (.iconst 4, 1), (.iadd, 1)] = true := by decide +kernel
theorem d_Law_law_990 : decode code 990 = .ok (.iaload, 1) := by decide +kernel
theorem b_Law_law_991 : tf_dec code 991 [(.i2l, 1), (.bipush 32, 2), (.lshl, 1), (.aload_n 0, 1), (.iload 4, 2), (.iconst 5, 1), (.iadd, 1)] = true := by decide +kernel
theorem d_Law_law_1000 : decode code 1000 = .ok (.iaload, 1) := by decide +kernel
theorem b_Law_law_1001 : tf_dec code 1001 [(.i2l, 1)] = true := by decide +kernel
theorem d_Law_law_1002 : decode code 1002 = .ok (.ldc2_w 119, 3) := by decide +kernel
theorem b_Law_law_1005 : tf_dec code 1005 [(.land, 1), (.lor, 1), (.aload_n 0, 1), (.iload 4, 2), (.bipush 6, 2), (.iadd, 1)] = true := by decide +kernel
theorem d_Law_law_1013 : decode code 1013 = .ok (.iaload, 1) := by decide +kernel
theorem b_Law_law_1014 : tf_dec code 1014 [(.i2l, 1), (.bipush 32, 2), (.lshl, 1), (.aload_n 0, 1), (.iload 4, 2), (.bipush 7, 2), (.iadd, 1)] = true := by decide +kernel
theorem d_Law_law_1024 : decode code 1024 = .ok (.iaload, 1) := by decide +kernel
theorem b_Law_law_1025 : tf_dec code 1025 [(.i2l, 1)] = true := by decide +kernel
theorem d_Law_law_1026 : decode code 1026 = .ok (.ldc2_w 119, 3) := by decide +kernel
theorem b_Law_law_1029 : tf_dec code 1029 [(.land, 1), (.lor, 1), (.aload_n 0, 1), (.iload 4, 2), (.bipush 8, 2), (.iadd, 1)] = true := by decide +kernel
theorem d_Law_law_1037 : decode code 1037 = .ok (.iaload, 1) := by decide +kernel
theorem b_Law_law_1038 : tf_dec code 1038 [(.aload_n 3, 1)] = true := by decide +kernel
theorem d_Law_law_1039 : decode code 1039 = .ok (.invokestatic 121, 3) := by decide +kernel
theorem b_Law_law_1042 : tf_dec code 1042 [(.istore 5, 2), (.aload_n 2, 1), (.aload_n 0, 1), (.iload 4, 2), (.iconst 1, 1), (.iadd, 1)] = true := by decide +kernel
theorem d_Law_law_1050 : decode code 1050 = .ok (.iaload, 1) := by decide +kernel
theorem b_Law_law_1051 : tf_dec code 1051 [(.aload_n 0, 1), (.iload 4, 2), (.iconst 2, 1), (.iadd, 1)] = true := by decide +kernel
theorem d_Law_law_1056 : decode code 1056 = .ok (.iaload, 1) := by decide +kernel
theorem b_Law_law_1057 : tf_dec code 1057 [(.i2l, 1), (.bipush 32, 2), (.lshl, 1), (.aload_n 0, 1), (.iload 4, 2), (.iconst 3, 1), (.iadd, 1)] = true := by decide +kernel
theorem d_Law_law_1066 : decode code 1066 = .ok (.iaload, 1) := by decide +kernel
theorem b_Law_law_1067 : tf_dec code 1067 [(.i2l, 1)] = true := by decide +kernel
theorem d_Law_law_1068 : decode code 1068 = .ok (.ldc2_w 119, 3) := by decide +kernel
theorem b_Law_law_1071 : tf_dec code 1071 [(.land, 1), (.lor, 1), (.aload_n 0, 1), (.iload 4, 2), (.iconst 4, 1), (.iadd, 1)] = true := by decide +kernel
theorem d_Law_law_1078 : decode code 1078 = .ok (.iaload, 1) := by decide +kernel
theorem b_Law_law_1079 : tf_dec code 1079 [(.i2l, 1), (.bipush 32, 2), (.lshl, 1), (.aload_n 0, 1), (.iload 4, 2), (.iconst 5, 1), (.iadd, 1)] = true := by decide +kernel
theorem d_Law_law_1088 : decode code 1088 = .ok (.iaload, 1) := by decide +kernel
theorem b_Law_law_1089 : tf_dec code 1089 [(.i2l, 1)] = true := by decide +kernel
theorem d_Law_law_1090 : decode code 1090 = .ok (.ldc2_w 119, 3) := by decide +kernel
theorem b_Law_law_1093 : tf_dec code 1093 [(.land, 1), (.lor, 1), (.aload_n 0, 1), (.iload 4, 2), (.bipush 6, 2), (.iadd, 1)] = true := by decide +kernel
theorem d_Law_law_1101 : decode code 1101 = .ok (.iaload, 1) := by decide +kernel
theorem b_Law_law_1102 : tf_dec code 1102 [(.i2l, 1), (.bipush 32, 2), (.lshl, 1), (.aload_n 0, 1), (.iload 4, 2), (.bipush 7, 2), (.iadd, 1)] = true := by decide +kernel
theorem d_Law_law_1112 : decode code 1112 = .ok (.iaload, 1) := by decide +kernel
theorem b_Law_law_1113 : tf_dec code 1113 [(.i2l, 1)] = true := by decide +kernel
theorem d_Law_law_1114 : decode code 1114 = .ok (.ldc2_w 119, 3) := by decide +kernel
theorem b_Law_law_1117 : tf_dec code 1117 [(.land, 1), (.lor, 1), (.aload_n 0, 1), (.iload 4, 2), (.bipush 8, 2), (.iadd, 1)] = true := by decide +kernel
theorem d_Law_law_1125 : decode code 1125 = .ok (.iaload, 1) := by decide +kernel
theorem d_Law_law_1126 : decode code 1126 = .ok (.invokevirtual 124, 3) := by decide +kernel
theorem b_Law_law_1129 : tf_dec code 1129 [(.istore 6, 2), (.aload_n 2, 1)] = true := by decide +kernel
theorem d_Law_law_1132 : decode code 1132 = .ok (.invokevirtual 62, 3) := by decide +kernel
theorem b_Law_law_1135 : tf_dec code 1135 [(.iload 5, 2)] = true := by decide +kernel
theorem d_Law_law_1137 : decode code 1137 = .ok (.if_icmp .eq 5, 3) := by decide +kernel
theorem b_Law_law_1140 : tf_dec code 1140 [(.iconst 0, 1)] = true := by decide +kernel
theorem d_Law_law_1141 : decode code 1141 = .ok (.ireturn, 1) := by decide +kernel
theorem b_Law_law_1142 : tf_dec code 1142 [(.iload 5, 2)] = true := by decide +kernel
theorem d_Law_law_1144 : decode code 1144 = .ok (.ifCond .ne 15, 3) := by decide +kernel
theorem b_Law_law_1147 : tf_dec code 1147 [(.aload_n 3, 1), (.iconst 0, 1)] = true := by decide +kernel
theorem d_Law_law_1149 : decode code 1149 = .ok (.laload, 1) := by decide +kernel
theorem b_Law_law_1150 : tf_dec code 1150 [(.iload 6, 2), (.i2l, 1), (.lcmp, 1)] = true := by decide +kernel
theorem d_Law_law_1154 : decode code 1154 = .ok (.ifCond .eq 5, 3) := by decide +kernel
theorem b_Law_law_1157 : tf_dec code 1157 [(.iconst 0, 1)] = true := by decide +kernel
theorem d_Law_law_1158 : decode code 1158 = .ok (.ireturn, 1) := by decide +kernel
theorem d_Law_law_1159 : decode code 1159 = .ok (.goto 134, 3) := by decide +kernel
theorem b_Law_law_1162 : tf_dec code 1162 [(.aload_n 1, 1), (.aload_n 0, 1), (.iload 4, 2), (.iconst 1, 1), (.iadd, 1)] = true := by decide +kernel
theorem d_Law_law_1168 : decode code 1168 = .ok (.iaload, 1) := by decide +kernel
theorem d_Law_law_1169 : decode code 1169 = .ok (.invokevirtual 125, 3) := by decide +kernel
theorem b_Law_law_1172 : tf_dec code 1172 [(.aload_n 2, 1), (.aload_n 0, 1), (.iload 4, 2), (.iconst 1, 1), (.iadd, 1)] = true := by decide +kernel
theorem d_Law_law_1178 : decode code 1178 = .ok (.iaload, 1) := by decide +kernel
theorem d_Law_law_1179 : decode code 1179 = .ok (.invokevirtual 128, 3) := by decide +kernel
theorem d_Law_law_1182 : decode code 1182 = .ok (.if_icmp .eq 111, 3) := by decide +kernel
theorem b_Law_law_1185 : tf_dec code 1185 [(.iconst 0, 1)] = true := by decide +kernel
theorem d_Law_law_1186 : decode code 1186 = .ok (.ireturn, 1) := by decide +kernel
theorem b_Law_law_1187 : tf_dec code 1187 [(.aload_n 1, 1)] = true := by decide +kernel
theorem d_Law_law_1188 : decode code 1188 = .ok (.invokevirtual 129, 3) := by decide +kernel
theorem b_Law_law_1191 : tf_dec code 1191 [(.aload_n 2, 1)] = true := by decide +kernel
theorem d_Law_law_1192 : decode code 1192 = .ok (.invokevirtual 132, 3) := by decide +kernel
theorem d_Law_law_1195 : decode code 1195 = .ok (.if_icmp .eq 98, 3) := by decide +kernel
theorem b_Law_law_1198 : tf_dec code 1198 [(.iconst 0, 1)] = true := by decide +kernel
theorem d_Law_law_1199 : decode code 1199 = .ok (.ireturn, 1) := by decide +kernel
theorem b_Law_law_1200 : tf_dec code 1200 [(.aload_n 1, 1), (.aload_n 0, 1), (.iload 4, 2), (.iconst 1, 1), (.iadd, 1)] = true := by decide +kernel
theorem d_Law_law_1206 : decode code 1206 = .ok (.iaload, 1) := by decide +kernel
theorem b_Law_law_1207 : tf_dec code 1207 [(.aload_n 0, 1), (.iload 4, 2), (.iconst 2, 1), (.iadd, 1)] = true := by decide +kernel
theorem d_Law_law_1212 : decode code 1212 = .ok (.iaload, 1) := by decide +kernel
theorem b_Law_law_1213 : tf_dec code 1213 [(.aload_n 3, 1)] = true := by decide +kernel
theorem d_Law_law_1214 : decode code 1214 = .ok (.invokestatic 133, 3) := by decide +kernel
theorem b_Law_law_1217 : tf_dec code 1217 [(.istore 5, 2), (.aload_n 2, 1), (.aload_n 0, 1), (.iload 4, 2), (.iconst 1, 1), (.iadd, 1)] = true := by decide +kernel
theorem d_Law_law_1225 : decode code 1225 = .ok (.iaload, 1) := by decide +kernel
theorem b_Law_law_1226 : tf_dec code 1226 [(.aload_n 0, 1), (.iload 4, 2), (.iconst 2, 1), (.iadd, 1)] = true := by decide +kernel
theorem d_Law_law_1231 : decode code 1231 = .ok (.iaload, 1) := by decide +kernel
theorem d_Law_law_1232 : decode code 1232 = .ok (.invokevirtual 136, 3) := by decide +kernel
theorem b_Law_law_1235 : tf_dec code 1235 [(.istore 6, 2), (.aload_n 2, 1)] = true := by decide +kernel
theorem d_Law_law_1238 : decode code 1238 = .ok (.invokevirtual 62, 3) := by decide +kernel
theorem b_Law_law_1241 : tf_dec code 1241 [(.iload 5, 2)] = true := by decide +kernel
theorem d_Law_law_1243 : decode code 1243 = .ok (.if_icmp .eq 5, 3) := by decide +kernel
theorem b_Law_law_1246 : tf_dec code 1246 [(.iconst 0, 1)] = true := by decide +kernel
theorem d_Law_law_1247 : decode code 1247 = .ok (.ireturn, 1) := by decide +kernel
theorem b_Law_law_1248 : tf_dec code 1248 [(.iload 5, 2)] = true := by decide +kernel
theorem d_Law_law_1250 : decode code 1250 = .ok (.ifCond .ne 15, 3) := by decide +kernel
theorem b_Law_law_1253 : tf_dec code 1253 [(.aload_n 3, 1), (.iconst 0, 1)] = true := by decide +kernel
theorem d_Law_law_1255 : decode code 1255 = .ok (.laload, 1) := by decide +kernel
theorem b_Law_law_1256 : tf_dec code 1256 [(.iload 6, 2), (.i2l, 1), (.lcmp, 1)] = true := by decide +kernel
theorem d_Law_law_1260 : decode code 1260 = .ok (.ifCond .eq 5, 3) := by decide +kernel
theorem b_Law_law_1263 : tf_dec code 1263 [(.iconst 0, 1)] = true := by decide +kernel
theorem d_Law_law_1264 : decode code 1264 = .ok (.ireturn, 1) := by decide +kernel
theorem d_Law_law_1265 : decode code 1265 = .ok (.goto 28, 3) := by decide +kernel
theorem b_Law_law_1268 : tf_dec code 1268 [(.aload_n 1, 1), (.aload_n 0, 1), (.iload 4, 2), (.iconst 1, 1), (.iadd, 1)] = true := by decide +kernel
theorem d_Law_law_1274 : decode code 1274 = .ok (.iaload, 1) := by decide +kernel
theorem d_Law_law_1275 : decode code 1275 = .ok (.invokevirtual 137, 3) := by decide +kernel
theorem b_Law_law_1278 : tf_dec code 1278 [(.aload_n 2, 1), (.aload_n 0, 1), (.iload 4, 2), (.iconst 1, 1), (.iadd, 1)] = true := by decide +kernel
theorem d_Law_law_1284 : decode code 1284 = .ok (.iaload, 1) := by decide +kernel
theorem d_Law_law_1285 : decode code 1285 = .ok (.invokevirtual 141, 3) := by decide +kernel
theorem d_Law_law_1288 : decode code 1288 = .ok (.if_icmp .eq 5, 3) := by decide +kernel
theorem b_Law_law_1291 : tf_dec code 1291 [(.iconst 0, 1)] = true := by decide +kernel
theorem d_Law_law_1292 : decode code 1292 = .ok (.ireturn, 1) := by decide +kernel
theorem b_Law_law_1293 : tf_dec code 1293 [(.iinc 4 9, 3)] = true := by decide +kernel
theorem d_Law_law_1296 : decode code 1296 = .ok (.goto (-1263), 3) := by decide +kernel
theorem b_Law_law_1299 : tf_dec code 1299 [(.iconst 1, 1)] = true := by decide +kernel
theorem d_Law_law_1300 : decode code 1300 = .ok (.ireturn, 1) := by decide +kernel
