theorem dX12_find_0 : decode cX12_find 0 = .ok (.iconst (-1), 1) := by decide +kernel
theorem dX12_find_1 : decode cX12_find 1 = .ok (.istore_n 1, 1) := by decide +kernel
theorem dX12_find_2 : decode cX12_find 2 = .ok (.iconst 0, 1) := by decide +kernel
theorem dX12_find_3 : decode cX12_find 3 = .ok (.istore_n 2, 1) := by decide +kernel
theorem dX12_find_4 : decode cX12_find 4 = .ok (.iload_n 2, 1) := by decide +kernel
theorem dX12_find_5 : decode cX12_find 5 = .ok (.aload_n 0, 1) := by decide +kernel
theorem dX12_find_6 : decode cX12_find 6 = .ok (.getfield 259, 3) := by decide +kernel
theorem dX12_find_9 : decode cX12_find 9 = .ok (.if_icmp .ge 29, 3) := by decide +kernel
theorem dX12_find_12 : decode cX12_find 12 = .ok (.aload_n 0, 1) := by decide +kernel
theorem dX12_find_13 : decode cX12_find 13 = .ok (.getfield 17, 3) := by decide +kernel
theorem dX12_find_16 : decode cX12_find 16 = .ok (.iload_n 2, 1) := by decide +kernel
theorem dX12_find_17 : decode cX12_find 17 = .ok (.laload, 1) := by decide +kernel
theorem dX12_find_18 : decode cX12_find 18 = .ok (.aload_n 0, 1) := by decide +kernel
theorem dX12_find_19 : decode cX12_find 19 = .ok (.getfield 177, 3) := by decide +kernel
theorem dX12_find_22 : decode cX12_find 22 = .ok (.lcmp, 1) := by decide +kernel
theorem dX12_find_23 : decode cX12_find 23 = .ok (.ifCond .ne 7, 3) := by decide +kernel
theorem dX12_find_26 : decode cX12_find 26 = .ok (.iload_n 2, 1) := by decide +kernel
theorem dX12_find_27 : decode cX12_find 27 = .ok (.goto 4, 3) := by decide +kernel
theorem dX12_find_30 : decode cX12_find 30 = .ok (.iload_n 1, 1) := by decide +kernel
theorem dX12_find_31 : decode cX12_find 31 = .ok (.istore_n 1, 1) := by decide +kernel
theorem dX12_find_32 : decode cX12_find 32 = .ok (.iinc 2 1, 3) := by decide +kernel
theorem dX12_find_35 : decode cX12_find 35 = .ok (.goto (-31), 3) := by decide +kernel
theorem dX12_find_38 : decode cX12_find 38 = .ok (.iload_n 1, 1) := by decide +kernel
theorem dX12_find_39 : decode cX12_find 39 = .ok (.ireturn, 1) := by decide +kernel
theorem dX12_old_0 : decode cX12_old 0 = .ok (.aload_n 0, 1) := by decide +kernel
theorem dX12_old_1 : decode cX12_old 1 = .ok (.getfield 194, 3) := by decide +kernel
theorem dX12_old_4 : decode cX12_old 4 = .ok (.ifCond .le 5, 3) := by decide +kernel
theorem dX12_old_7 : decode cX12_old 7 = .ok (.iconst 0, 1) := by decide +kernel
theorem dX12_old_8 : decode cX12_old 8 = .ok (.ireturn, 1) := by decide +kernel
theorem dX12_old_9 : decode cX12_old 9 = .ok (.aload_n 0, 1) := by decide +kernel
theorem dX12_old_10 : decode cX12_old 10 = .ok (.invokevirtual 262, 3) := by decide +kernel
theorem dX12_old_13 : decode cX12_old 13 = .ok (.istore_n 1, 1) := by decide +kernel
theorem dX12_old_14 : decode cX12_old 14 = .ok (.aload_n 0, 1) := by decide +kernel
theorem dX12_old_15 : decode cX12_old 15 = .ok (.invokevirtual 266, 3) := by decide +kernel
theorem dX12_old_18 : decode cX12_old 18 = .ok (.ifCond .ne 11, 3) := by decide +kernel
theorem dX12_old_21 : decode cX12_old 21 = .ok (.aload_n 0, 1) := by decide +kernel
theorem dX12_old_22 : decode cX12_old 22 = .ok (.iconst 2, 1) := by decide +kernel
theorem dX12_old_23 : decode cX12_old 23 = .ok (.invokevirtual 245, 3) := by decide +kernel
theorem dX12_old_26 : decode cX12_old 26 = .ok (.goto 12, 3) := by decide +kernel
theorem dX12_old_29 : decode cX12_old 29 = .ok (.iload_n 1, 1) := by decide +kernel
theorem dX12_old_30 : decode cX12_old 30 = .ok (.ifCond .ge 8, 3) := by decide +kernel
theorem dX12_old_33 : decode cX12_old 33 = .ok (.aload_n 0, 1) := by decide +kernel
theorem dX12_old_34 : decode cX12_old 34 = .ok (.iconst 5, 1) := by decide +kernel
theorem dX12_old_35 : decode cX12_old 35 = .ok (.invokevirtual 245, 3) := by decide +kernel
theorem dX12_old_38 : decode cX12_old 38 = .ok (.aload_n 0, 1) := by decide +kernel
theorem dX12_old_39 : decode cX12_old 39 = .ok (.getfield 194, 3) := by decide +kernel
theorem dX12_old_42 : decode cX12_old 42 = .ok (.ifCond .ne 7, 3) := by decide +kernel
theorem dX12_old_45 : decode cX12_old 45 = .ok (.aload_n 0, 1) := by decide +kernel
theorem dX12_old_46 : decode cX12_old 46 = .ok (.invokevirtual 248, 3) := by decide +kernel
theorem dX12_old_49 : decode cX12_old 49 = .ok (.iload_n 1, 1) := by decide +kernel
theorem dX12_old_50 : decode cX12_old 50 = .ok (.ireturn, 1) := by decide +kernel
theorem dX12_readYard_0 : decode cX12_readYard 0 = .ok (.aload_n 0, 1) := by decide +kernel
theorem dX12_readYard_1 : decode cX12_readYard 1 = .ok (.invokevirtual 248, 3) := by decide +kernel
theorem dX12_readYard_4 : decode cX12_readYard 4 = .ok (.aload_n 0, 1) := by decide +kernel
theorem dX12_readYard_5 : decode cX12_readYard 5 = .ok (.invokevirtual 266, 3) := by decide +kernel
theorem dX12_readYard_8 : decode cX12_readYard 8 = .ok (.ifCond .ne 11, 3) := by decide +kernel
theorem dX12_readYard_11 : decode cX12_readYard 11 = .ok (.aload_n 0, 1) := by decide +kernel
theorem dX12_readYard_12 : decode cX12_readYard 12 = .ok (.iconst 2, 1) := by decide +kernel
theorem dX12_readYard_13 : decode cX12_readYard 13 = .ok (.invokevirtual 245, 3) := by decide +kernel
theorem dX12_readYard_16 : decode cX12_readYard 16 = .ok (.goto 15, 3) := by decide +kernel
theorem dX12_readYard_19 : decode cX12_readYard 19 = .ok (.aload_n 0, 1) := by decide +kernel
theorem dX12_readYard_20 : decode cX12_readYard 20 = .ok (.invokevirtual 262, 3) := by decide +kernel
theorem dX12_readYard_23 : decode cX12_readYard 23 = .ok (.ifCond .lt 8, 3) := by decide +kernel
theorem dX12_readYard_26 : decode cX12_readYard 26 = .ok (.aload_n 0, 1) := by decide +kernel
theorem dX12_readYard_27 : decode cX12_readYard 27 = .ok (.iconst 3, 1) := by decide +kernel
theorem dX12_readYard_28 : decode cX12_readYard 28 = .ok (.invokevirtual 245, 3) := by decide +kernel
theorem dX12_readYard_31 : decode cX12_readYard 31 = .ok (.aload_n 0, 1) := by decide +kernel
theorem dX12_readYard_32 : decode cX12_readYard 32 = .ok (.getfield 177, 3) := by decide +kernel
theorem dX12_readYard_35 : decode cX12_readYard 35 = .ok (.lstore_n 1, 1) := by decide +kernel
theorem dX12_readYard_36 : decode cX12_readYard 36 = .ok (.aload_n 0, 1) := by decide +kernel
theorem dX12_readYard_37 : decode cX12_readYard 37 = .ok (.getfield 194, 3) := by decide +kernel
theorem dX12_readYard_40 : decode cX12_readYard 40 = .ok (.ifCond .ne 7, 3) := by decide +kernel
theorem dX12_readYard_43 : decode cX12_readYard 43 = .ok (.aload_n 0, 1) := by decide +kernel
theorem dX12_readYard_44 : decode cX12_readYard 44 = .ok (.invokevirtual 248, 3) := by decide +kernel
theorem dX12_readYard_47 : decode cX12_readYard 47 = .ok (.aload_n 0, 1) := by decide +kernel
theorem dX12_readYard_48 : decode cX12_readYard 48 = .ok (.ldc2_w 233, 3) := by decide +kernel
theorem dX12_readYard_51 : decode cX12_readYard 51 = .ok (.invokevirtual 241, 3) := by decide +kernel
theorem dX12_readYard_54 : decode cX12_readYard 54 = .ok (.ifCond .eq 7, 3) := by decide +kernel
theorem dX12_readYard_57 : decode cX12_readYard 57 = .ok (.iconst 0, 1) := by decide +kernel
theorem dX12_readYard_58 : decode cX12_readYard 58 = .ok (.goto 46, 3) := by decide +kernel
theorem dX12_readYard_61 : decode cX12_readYard 61 = .ok (.aload_n 0, 1) := by decide +kernel
theorem dX12_readYard_62 : decode cX12_readYard 62 = .ok (.ldc2_w 235, 3) := by decide +kernel
theorem dX12_readYard_65 : decode cX12_readYard 65 = .ok (.invokevirtual 241, 3) := by decide +kernel
theorem dX12_readYard_68 : decode cX12_readYard 68 = .ok (.ifCond .eq 7, 3) := by decide +kernel
theorem dX12_readYard_71 : decode cX12_readYard 71 = .ok (.iconst 1, 1) := by decide +kernel
theorem dX12_readYard_72 : decode cX12_readYard 72 = .ok (.goto 32, 3) := by decide +kernel
theorem dX12_readYard_75 : decode cX12_readYard 75 = .ok (.aload_n 0, 1) := by decide +kernel
theorem dX12_readYard_76 : decode cX12_readYard 76 = .ok (.ldc2_w 237, 3) := by decide +kernel
theorem dX12_readYard_79 : decode cX12_readYard 79 = .ok (.invokevirtual 241, 3) := by decide +kernel
theorem dX12_readYard_82 : decode cX12_readYard 82 = .ok (.ifCond .eq 7, 3) := by decide +kernel
theorem dX12_readYard_85 : decode cX12_readYard 85 = .ok (.iconst 2, 1) := by decide +kernel
theorem dX12_readYard_86 : decode cX12_readYard 86 = .ok (.goto 18, 3) := by decide +kernel
theorem dX12_readYard_89 : decode cX12_readYard 89 = .ok (.aload_n 0, 1) := by decide +kernel
theorem dX12_readYard_90 : decode cX12_readYard 90 = .ok (.ldc2_w 239, 3) := by decide +kernel
theorem dX12_readYard_93 : decode cX12_readYard 93 = .ok (.invokevirtual 241, 3) := by decide +kernel
theorem dX12_readYard_96 : decode cX12_readYard 96 = .ok (.ifCond .eq 7, 3) := by decide +kernel
theorem dX12_readYard_99 : decode cX12_readYard 99 = .ok (.iconst 3, 1) := by decide +kernel
theorem dX12_readYard_100 : decode cX12_readYard 100 = .ok (.goto 4, 3) := by decide +kernel
theorem dX12_readYard_103 : decode cX12_readYard 103 = .ok (.iconst (-1), 1) := by decide +kernel
theorem dX12_readYard_104 : decode cX12_readYard 104 = .ok (.istore_n 3, 1) := by decide +kernel
theorem dX12_readYard_105 : decode cX12_readYard 105 = .ok (.iload_n 3, 1) := by decide +kernel
theorem dX12_readYard_106 : decode cX12_readYard 106 = .ok (.ifCond .ge 8, 3) := by decide +kernel
theorem dX12_readYard_109 : decode cX12_readYard 109 = .ok (.aload_n 0, 1) := by decide +kernel
theorem dX12_readYard_110 : decode cX12_readYard 110 = .ok (.iconst 2, 1) := by decide +kernel
theorem dX12_readYard_111 : decode cX12_readYard 111 = .ok (.invokevirtual 245, 3) := by decide +kernel
theorem dX12_readYard_114 : decode cX12_readYard 114 = .ok (.aload_n 0, 1) := by decide +kernel
theorem dX12_readYard_115 : decode cX12_readYard 115 = .ok (.getfield 194, 3) := by decide +kernel
theorem dX12_readYard_118 : decode cX12_readYard 118 = .ok (.ifCond .le 4, 3) := by decide +kernel
theorem dX12_readYard_121 : decode cX12_readYard 121 = .ok (.return_, 1) := by decide +kernel
theorem dX12_readYard_122 : decode cX12_readYard 122 = .ok (.aload_n 0, 1) := by decide +kernel
theorem dX12_readYard_123 : decode cX12_readYard 123 = .ok (.invokevirtual 248, 3) := by decide +kernel
theorem dX12_readYard_126 : decode cX12_readYard 126 = .ok (.aload_n 0, 1) := by decide +kernel
theorem dX12_readYard_127 : decode cX12_readYard 127 = .ok (.getfield 21, 3) := by decide +kernel
theorem dX12_readYard_130 : decode cX12_readYard 130 = .ok (.aload_n 0, 1) := by decide +kernel
theorem dX12_readYard_131 : decode cX12_readYard 131 = .ok (.getfield 259, 3) := by decide +kernel
theorem dX12_readYard_134 : decode cX12_readYard 134 = .ok (.iload_n 3, 1) := by decide +kernel
theorem dX12_readYard_135 : decode cX12_readYard 135 = .ok (.iastore, 1) := by decide +kernel
theorem dX12_readYard_136 : decode cX12_readYard 136 = .ok (.aload_n 0, 1) := by decide +kernel
theorem dX12_readYard_137 : decode cX12_readYard 137 = .ok (.getfield 24, 3) := by decide +kernel
theorem dX12_readYard_140 : decode cX12_readYard 140 = .ok (.aload_n 0, 1) := by decide +kernel
theorem dX12_readYard_141 : decode cX12_readYard 141 = .ok (.getfield 259, 3) := by decide +kernel
theorem dX12_readYard_144 : decode cX12_readYard 144 = .ok (.aload_n 0, 1) := by decide +kernel
theorem dX12_readYard_145 : decode cX12_readYard 145 = .ok (.ldc2_w 203, 3) := by decide +kernel
theorem dX12_readYard_148 : decode cX12_readYard 148 = .ok (.iconst 0, 1) := by decide +kernel
theorem dX12_readYard_149 : decode cX12_readYard 149 = .ok (.bipush 99, 2) := by decide +kernel
theorem dX12_readYard_151 : decode cX12_readYard 151 = .ok (.invokevirtual 270, 3) := by decide +kernel
theorem dX12_readYard_154 : decode cX12_readYard 154 = .ok (.iastore, 1) := by decide +kernel
theorem dX12_readYard_155 : decode cX12_readYard 155 = .ok (.aload_n 0, 1) := by decide +kernel
theorem dX12_readYard_156 : decode cX12_readYard 156 = .ok (.getfield 27, 3) := by decide +kernel
theorem dX12_readYard_159 : decode cX12_readYard 159 = .ok (.aload_n 0, 1) := by decide +kernel
theorem dX12_readYard_160 : decode cX12_readYard 160 = .ok (.getfield 259, 3) := by decide +kernel
theorem dX12_readYard_163 : decode cX12_readYard 163 = .ok (.aload_n 0, 1) := by decide +kernel
theorem dX12_readYard_164 : decode cX12_readYard 164 = .ok (.ldc2_w 205, 3) := by decide +kernel
theorem dX12_readYard_167 : decode cX12_readYard 167 = .ok (.iconst 0, 1) := by decide +kernel
theorem dX12_readYard_168 : decode cX12_readYard 168 = .ok (.bipush 99, 2) := by decide +kernel
theorem dX12_readYard_170 : decode cX12_readYard 170 = .ok (.invokevirtual 270, 3) := by decide +kernel
theorem dX12_readYard_173 : decode cX12_readYard 173 = .ok (.iastore, 1) := by decide +kernel
theorem dX12_readYard_174 : decode cX12_readYard 174 = .ok (.aload_n 0, 1) := by decide +kernel
theorem dX12_readYard_175 : decode cX12_readYard 175 = .ok (.ldc2_w 207, 3) := by decide +kernel
theorem dX12_readYard_178 : decode cX12_readYard 178 = .ok (.invokevirtual 251, 3) := by decide +kernel
theorem dX12_readYard_181 : decode cX12_readYard 181 = .ok (.iconst 0, 1) := by decide +kernel
theorem dX12_readYard_182 : decode cX12_readYard 182 = .ok (.istore 4, 2) := by decide +kernel
theorem dX12_readYard_184 : decode cX12_readYard 184 = .ok (.iconst 1, 1) := by decide +kernel
theorem dX12_readYard_185 : decode cX12_readYard 185 = .ok (.istore 5, 2) := by decide +kernel
theorem dX12_readYard_187 : decode cX12_readYard 187 = .ok (.iload 5, 2) := by decide +kernel
theorem dX12_readYard_189 : decode cX12_readYard 189 = .ok (.ifCond .eq 84, 3) := by decide +kernel
theorem dX12_readYard_192 : decode cX12_readYard 192 = .ok (.aload_n 0, 1) := by decide +kernel
theorem dX12_readYard_193 : decode cX12_readYard 193 = .ok (.getfield 194, 3) := by decide +kernel
theorem dX12_readYard_196 : decode cX12_readYard 196 = .ok (.ifCond .ne 77, 3) := by decide +kernel
theorem dX12_readYard_199 : decode cX12_readYard 199 = .ok (.iload 4, 2) := by decide +kernel
theorem dX12_readYard_201 : decode cX12_readYard 201 = .ok (.iconst 5, 1) := by decide +kernel
theorem dX12_readYard_202 : decode cX12_readYard 202 = .ok (.if_icmp .ne 8, 3) := by decide +kernel
theorem dX12_readYard_205 : decode cX12_readYard 205 = .ok (.aload_n 0, 1) := by decide +kernel
theorem dX12_readYard_206 : decode cX12_readYard 206 = .ok (.iconst 2, 1) := by decide +kernel
theorem dX12_readYard_207 : decode cX12_readYard 207 = .ok (.invokevirtual 245, 3) := by decide +kernel
theorem dX12_readYard_210 : decode cX12_readYard 210 = .ok (.aload_n 0, 1) := by decide +kernel
theorem dX12_readYard_211 : decode cX12_readYard 211 = .ok (.sipush 200, 3) := by decide +kernel
theorem dX12_readYard_214 : decode cX12_readYard 214 = .ok (.invokevirtual 274, 3) := by decide +kernel
theorem dX12_readYard_217 : decode cX12_readYard 217 = .ok (.istore 6, 2) := by decide +kernel
theorem dX12_readYard_219 : decode cX12_readYard 219 = .ok (.aload_n 0, 1) := by decide +kernel
theorem dX12_readYard_220 : decode cX12_readYard 220 = .ok (.getfield 194, 3) := by decide +kernel
theorem dX12_readYard_223 : decode cX12_readYard 223 = .ok (.ifCond .le 4, 3) := by decide +kernel
theorem dX12_readYard_226 : decode cX12_readYard 226 = .ok (.return_, 1) := by decide +kernel
theorem dX12_readYard_227 : decode cX12_readYard 227 = .ok (.aload_n 0, 1) := by decide +kernel
theorem dX12_readYard_228 : decode cX12_readYard 228 = .ok (.getfield 33, 3) := by decide +kernel
theorem dX12_readYard_231 : decode cX12_readYard 231 = .ok (.iconst 5, 1) := by decide +kernel
theorem dX12_readYard_232 : decode cX12_readYard 232 = .ok (.aload_n 0, 1) := by decide +kernel
theorem dX12_readYard_233 : decode cX12_readYard 233 = .ok (.getfield 259, 3) := by decide +kernel
theorem dX12_readYard_236 : decode cX12_readYard 236 = .ok (.imul, 1) := by decide +kernel
theorem dX12_readYard_237 : decode cX12_readYard 237 = .ok (.iload 4, 2) := by decide +kernel
theorem dX12_readYard_239 : decode cX12_readYard 239 = .ok (.iadd, 1) := by decide +kernel
theorem dX12_readYard_240 : decode cX12_readYard 240 = .ok (.iload 6, 2) := by decide +kernel
theorem dX12_readYard_242 : decode cX12_readYard 242 = .ok (.iastore, 1) := by decide +kernel
theorem dX12_readYard_243 : decode cX12_readYard 243 = .ok (.iinc 4 1, 3) := by decide +kernel
theorem dX12_readYard_246 : decode cX12_readYard 246 = .ok (.aload_n 0, 1) := by decide +kernel
theorem dX12_readYard_247 : decode cX12_readYard 247 = .ok (.getfield 184, 3) := by decide +kernel
theorem dX12_readYard_250 : decode cX12_readYard 250 = .ok (.iconst 2, 1) := by decide +kernel
theorem dX12_readYard_251 : decode cX12_readYard 251 = .ok (.if_icmp .eq 12, 3) := by decide +kernel
theorem dX12_readYard_254 : decode cX12_readYard 254 = .ok (.aload_n 0, 1) := by decide +kernel
theorem dX12_readYard_255 : decode cX12_readYard 255 = .ok (.getfield 184, 3) := by decide +kernel
theorem dX12_readYard_258 : decode cX12_readYard 258 = .ok (.bipush 45, 2) := by decide +kernel
theorem dX12_readYard_260 : decode cX12_readYard 260 = .ok (.if_icmp .ne 7, 3) := by decide +kernel
theorem dX12_readYard_263 : decode cX12_readYard 263 = .ok (.iconst 1, 1) := by decide +kernel
theorem dX12_readYard_264 : decode cX12_readYard 264 = .ok (.goto 4, 3) := by decide +kernel
theorem dX12_readYard_267 : decode cX12_readYard 267 = .ok (.iconst 0, 1) := by decide +kernel
theorem dX12_readYard_268 : decode cX12_readYard 268 = .ok (.istore 5, 2) := by decide +kernel
theorem dX12_readYard_270 : decode cX12_readYard 270 = .ok (.goto (-83), 3) := by decide +kernel
theorem dX12_readYard_273 : decode cX12_readYard 273 = .ok (.aload_n 0, 1) := by decide +kernel
theorem dX12_readYard_274 : decode cX12_readYard 274 = .ok (.getfield 194, 3) := by decide +kernel
theorem dX12_readYard_277 : decode cX12_readYard 277 = .ok (.ifCond .le 4, 3) := by decide +kernel
theorem dX12_readYard_280 : decode cX12_readYard 280 = .ok (.return_, 1) := by decide +kernel
theorem dX12_readYard_281 : decode cX12_readYard 281 = .ok (.aload_n 0, 1) := by decide +kernel
theorem dX12_readYard_282 : decode cX12_readYard 282 = .ok (.getfield 30, 3) := by decide +kernel
theorem dX12_readYard_285 : decode cX12_readYard 285 = .ok (.aload_n 0, 1) := by decide +kernel
theorem dX12_readYard_286 : decode cX12_readYard 286 = .ok (.getfield 259, 3) := by decide +kernel
theorem dX12_readYard_289 : decode cX12_readYard 289 = .ok (.iload 4, 2) := by decide +kernel
theorem dX12_readYard_291 : decode cX12_readYard 291 = .ok (.iastore, 1) := by decide +kernel
theorem dX12_readYard_292 : decode cX12_readYard 292 = .ok (.aload_n 0, 1) := by decide +kernel
theorem dX12_readYard_293 : decode cX12_readYard 293 = .ok (.getfield 17, 3) := by decide +kernel
theorem dX12_readYard_296 : decode cX12_readYard 296 = .ok (.aload_n 0, 1) := by decide +kernel
theorem dX12_readYard_297 : decode cX12_readYard 297 = .ok (.getfield 259, 3) := by decide +kernel
theorem dX12_readYard_300 : decode cX12_readYard 300 = .ok (.lload_n 1, 1) := by decide +kernel
theorem dX12_readYard_301 : decode cX12_readYard 301 = .ok (.lastore, 1) := by decide +kernel
theorem dX12_readYard_302 : decode cX12_readYard 302 = .ok (.aload_n 0, 1) := by decide +kernel
theorem dX12_readYard_303 : decode cX12_readYard 303 = .ok (.dup, 1) := by decide +kernel
theorem dX12_readYard_304 : decode cX12_readYard 304 = .ok (.getfield 259, 3) := by decide +kernel
theorem dX12_readYard_307 : decode cX12_readYard 307 = .ok (.iconst 1, 1) := by decide +kernel
theorem dX12_readYard_308 : decode cX12_readYard 308 = .ok (.iadd, 1) := by decide +kernel
theorem dX12_readYard_309 : decode cX12_readYard 309 = .ok (.putfield 259, 3) := by decide +kernel
theorem dX12_readYard_312 : decode cX12_readYard 312 = .ok (.return_, 1) := by decide +kernel
theorem dX12_readWay_0 : decode cX12_readWay 0 = .ok (.aload_n 0, 1) := by decide +kernel
theorem dX12_readWay_1 : decode cX12_readWay 1 = .ok (.invokevirtual 248, 3) := by decide +kernel
theorem dX12_readWay_4 : decode cX12_readWay 4 = .ok (.aload_n 0, 1) := by decide +kernel
theorem dX12_readWay_5 : decode cX12_readWay 5 = .ok (.invokevirtual 277, 3) := by decide +kernel
theorem dX12_readWay_8 : decode cX12_readWay 8 = .ok (.istore_n 1, 1) := by decide +kernel
theorem dX12_readWay_9 : decode cX12_readWay 9 = .ok (.aload_n 0, 1) := by decide +kernel
theorem dX12_readWay_10 : decode cX12_readWay 10 = .ok (.getfield 194, 3) := by decide +kernel
theorem dX12_readWay_13 : decode cX12_readWay 13 = .ok (.ifCond .le 4, 3) := by decide +kernel
theorem dX12_readWay_16 : decode cX12_readWay 16 = .ok (.return_, 1) := by decide +kernel
theorem dX12_readWay_17 : decode cX12_readWay 17 = .ok (.aload_n 0, 1) := by decide +kernel
theorem dX12_readWay_18 : decode cX12_readWay 18 = .ok (.invokevirtual 262, 3) := by decide +kernel
theorem dX12_readWay_21 : decode cX12_readWay 21 = .ok (.istore_n 2, 1) := by decide +kernel
theorem dX12_readWay_22 : decode cX12_readWay 22 = .ok (.aload_n 0, 1) := by decide +kernel
theorem dX12_readWay_23 : decode cX12_readWay 23 = .ok (.invokevirtual 266, 3) := by decide +kernel
theorem dX12_readWay_26 : decode cX12_readWay 26 = .ok (.ifCond .eq 31, 3) := by decide +kernel
theorem dX12_readWay_29 : decode cX12_readWay 29 = .ok (.iload_n 2, 1) := by decide +kernel
theorem dX12_readWay_30 : decode cX12_readWay 30 = .ok (.ifCond .lt 27, 3) := by decide +kernel
theorem dX12_readWay_33 : decode cX12_readWay 33 = .ok (.iload_n 1, 1) := by decide +kernel
theorem dX12_readWay_34 : decode cX12_readWay 34 = .ok (.iload_n 2, 1) := by decide +kernel
theorem dX12_readWay_35 : decode cX12_readWay 35 = .ok (.if_icmp .eq 17, 3) := by decide +kernel
theorem dX12_readWay_38 : decode cX12_readWay 38 = .ok (.aload_n 0, 1) := by decide +kernel
theorem dX12_readWay_39 : decode cX12_readWay 39 = .ok (.getfield 36, 3) := by decide +kernel
theorem dX12_readWay_42 : decode cX12_readWay 42 = .ok (.bipush 8, 2) := by decide +kernel
theorem dX12_readWay_44 : decode cX12_readWay 44 = .ok (.iload_n 1, 1) := by decide +kernel
theorem dX12_readWay_45 : decode cX12_readWay 45 = .ok (.imul, 1) := by decide +kernel
theorem dX12_readWay_46 : decode cX12_readWay 46 = .ok (.iload_n 2, 1) := by decide +kernel
theorem dX12_readWay_47 : decode cX12_readWay 47 = .ok (.iadd, 1) := by decide +kernel
theorem dX12_readWay_48 : decode cX12_readWay 48 = .ok (.iaload, 1) := by decide +kernel
theorem dX12_readWay_49 : decode cX12_readWay 49 = .ok (.ifCond .le 8, 3) := by decide +kernel
theorem dX12_readWay_52 : decode cX12_readWay 52 = .ok (.aload_n 0, 1) := by decide +kernel
theorem dX12_readWay_53 : decode cX12_readWay 53 = .ok (.iconst 3, 1) := by decide +kernel
theorem dX12_readWay_54 : decode cX12_readWay 54 = .ok (.invokevirtual 245, 3) := by decide +kernel
theorem dX12_readWay_57 : decode cX12_readWay 57 = .ok (.aload_n 0, 1) := by decide +kernel
theorem dX12_readWay_58 : decode cX12_readWay 58 = .ok (.invokevirtual 277, 3) := by decide +kernel
theorem dX12_readWay_61 : decode cX12_readWay 61 = .ok (.istore_n 2, 1) := by decide +kernel
theorem dX12_readWay_62 : decode cX12_readWay 62 = .ok (.aload_n 0, 1) := by decide +kernel
theorem dX12_readWay_63 : decode cX12_readWay 63 = .ok (.ldc2_w 211, 3) := by decide +kernel
theorem dX12_readWay_66 : decode cX12_readWay 66 = .ok (.iconst 1, 1) := by decide +kernel
theorem dX12_readWay_67 : decode cX12_readWay 67 = .ok (.bipush 60, 2) := by decide +kernel
theorem dX12_readWay_69 : decode cX12_readWay 69 = .ok (.invokevirtual 270, 3) := by decide +kernel
theorem dX12_readWay_72 : decode cX12_readWay 72 = .ok (.istore_n 3, 1) := by decide +kernel
theorem dX12_readWay_73 : decode cX12_readWay 73 = .ok (.aload_n 0, 1) := by decide +kernel
theorem dX12_readWay_74 : decode cX12_readWay 74 = .ok (.getfield 194, 3) := by decide +kernel
theorem dX12_readWay_77 : decode cX12_readWay 77 = .ok (.ifCond .le 4, 3) := by decide +kernel
theorem dX12_readWay_80 : decode cX12_readWay 80 = .ok (.return_, 1) := by decide +kernel
theorem dX12_readWay_81 : decode cX12_readWay 81 = .ok (.aload_n 0, 1) := by decide +kernel
theorem dX12_readWay_82 : decode cX12_readWay 82 = .ok (.getfield 36, 3) := by decide +kernel
theorem dX12_readWay_85 : decode cX12_readWay 85 = .ok (.bipush 8, 2) := by decide +kernel
theorem dX12_readWay_87 : decode cX12_readWay 87 = .ok (.iload_n 1, 1) := by decide +kernel
theorem dX12_readWay_88 : decode cX12_readWay 88 = .ok (.imul, 1) := by decide +kernel
theorem dX12_readWay_89 : decode cX12_readWay 89 = .ok (.iload_n 2, 1) := by decide +kernel
theorem dX12_readWay_90 : decode cX12_readWay 90 = .ok (.iadd, 1) := by decide +kernel
theorem dX12_readWay_91 : decode cX12_readWay 91 = .ok (.iload_n 3, 1) := by decide +kernel
theorem dX12_readWay_92 : decode cX12_readWay 92 = .ok (.iastore, 1) := by decide +kernel
theorem dX12_readWay_93 : decode cX12_readWay 93 = .ok (.aload_n 0, 1) := by decide +kernel
theorem dX12_readWay_94 : decode cX12_readWay 94 = .ok (.getfield 36, 3) := by decide +kernel
theorem dX12_readWay_97 : decode cX12_readWay 97 = .ok (.bipush 8, 2) := by decide +kernel
theorem dX12_readWay_99 : decode cX12_readWay 99 = .ok (.iload_n 2, 1) := by decide +kernel
theorem dX12_readWay_100 : decode cX12_readWay 100 = .ok (.imul, 1) := by decide +kernel
theorem dX12_readWay_101 : decode cX12_readWay 101 = .ok (.iload_n 1, 1) := by decide +kernel
theorem dX12_readWay_102 : decode cX12_readWay 102 = .ok (.iadd, 1) := by decide +kernel
theorem dX12_readWay_103 : decode cX12_readWay 103 = .ok (.iload_n 3, 1) := by decide +kernel
theorem dX12_readWay_104 : decode cX12_readWay 104 = .ok (.iastore, 1) := by decide +kernel
theorem dX12_readWay_105 : decode cX12_readWay 105 = .ok (.aload_n 0, 1) := by decide +kernel
theorem dX12_readWay_106 : decode cX12_readWay 106 = .ok (.dup, 1) := by decide +kernel
theorem dX12_readWay_107 : decode cX12_readWay 107 = .ok (.getfield 280, 3) := by decide +kernel
theorem dX12_readWay_110 : decode cX12_readWay 110 = .ok (.iconst 1, 1) := by decide +kernel
theorem dX12_readWay_111 : decode cX12_readWay 111 = .ok (.iadd, 1) := by decide +kernel
theorem dX12_readWay_112 : decode cX12_readWay 112 = .ok (.putfield 280, 3) := by decide +kernel
theorem dX12_readWay_115 : decode cX12_readWay 115 = .ok (.return_, 1) := by decide +kernel
theorem dX12_readHour_0 : decode cX12_readHour 0 = .ok (.aload_n 0, 1) := by decide +kernel
theorem dX12_readHour_1 : decode cX12_readHour 1 = .ok (.invokevirtual 248, 3) := by decide +kernel
theorem dX12_readHour_4 : decode cX12_readHour 4 = .ok (.aload_n 0, 1) := by decide +kernel
theorem dX12_readHour_5 : decode cX12_readHour 5 = .ok (.getfield 39, 3) := by decide +kernel
theorem dX12_readHour_8 : decode cX12_readHour 8 = .ok (.aload_n 0, 1) := by decide +kernel
theorem dX12_readHour_9 : decode cX12_readHour 9 = .ok (.getfield 283, 3) := by decide +kernel
theorem dX12_readHour_12 : decode cX12_readHour 12 = .ok (.aload_n 0, 1) := by decide +kernel
theorem dX12_readHour_13 : decode cX12_readHour 13 = .ok (.ldc2_w 215, 3) := by decide +kernel
theorem dX12_readHour_16 : decode cX12_readHour 16 = .ok (.iconst 0, 1) := by decide +kernel
theorem dX12_readHour_17 : decode cX12_readHour 17 = .ok (.bipush 99, 2) := by decide +kernel
theorem dX12_readHour_19 : decode cX12_readHour 19 = .ok (.invokevirtual 270, 3) := by decide +kernel
theorem dX12_readHour_22 : decode cX12_readHour 22 = .ok (.iastore, 1) := by decide +kernel
theorem dX12_readHour_23 : decode cX12_readHour 23 = .ok (.aload_n 0, 1) := by decide +kernel
theorem dX12_readHour_24 : decode cX12_readHour 24 = .ok (.ldc2_w 217, 3) := by decide +kernel
theorem dX12_readHour_27 : decode cX12_readHour 27 = .ok (.invokevirtual 251, 3) := by decide +kernel
theorem dX12_readHour_30 : decode cX12_readHour 30 = .ok (.aload_n 0, 1) := by decide +kernel
theorem dX12_readHour_31 : decode cX12_readHour 31 = .ok (.getfield 42, 3) := by decide +kernel
theorem dX12_readHour_34 : decode cX12_readHour 34 = .ok (.aload_n 0, 1) := by decide +kernel
theorem dX12_readHour_35 : decode cX12_readHour 35 = .ok (.getfield 283, 3) := by decide +kernel
theorem dX12_readHour_38 : decode cX12_readHour 38 = .ok (.aload_n 0, 1) := by decide +kernel
theorem dX12_readHour_39 : decode cX12_readHour 39 = .ok (.sipush 200, 3) := by decide +kernel
theorem dX12_readHour_42 : decode cX12_readHour 42 = .ok (.invokevirtual 274, 3) := by decide +kernel
theorem dX12_readHour_45 : decode cX12_readHour 45 = .ok (.iastore, 1) := by decide +kernel
theorem dX12_readHour_46 : decode cX12_readHour 46 = .ok (.aload_n 0, 1) := by decide +kernel
theorem dX12_readHour_47 : decode cX12_readHour 47 = .ok (.getfield 45, 3) := by decide +kernel
theorem dX12_readHour_50 : decode cX12_readHour 50 = .ok (.aload_n 0, 1) := by decide +kernel
theorem dX12_readHour_51 : decode cX12_readHour 51 = .ok (.getfield 283, 3) := by decide +kernel
theorem dX12_readHour_54 : decode cX12_readHour 54 = .ok (.aload_n 0, 1) := by decide +kernel
theorem dX12_readHour_55 : decode cX12_readHour 55 = .ok (.ldc2_w 219, 3) := by decide +kernel
theorem dX12_readHour_58 : decode cX12_readHour 58 = .ok (.iconst 0, 1) := by decide +kernel
theorem dX12_readHour_59 : decode cX12_readHour 59 = .ok (.bipush 10, 2) := by decide +kernel
theorem dX12_readHour_61 : decode cX12_readHour 61 = .ok (.invokevirtual 270, 3) := by decide +kernel
theorem dX12_readHour_64 : decode cX12_readHour 64 = .ok (.iastore, 1) := by decide +kernel
theorem dX12_readHour_65 : decode cX12_readHour 65 = .ok (.aload_n 0, 1) := by decide +kernel
theorem dX12_readHour_66 : decode cX12_readHour 66 = .ok (.getfield 194, 3) := by decide +kernel
theorem dX12_readHour_69 : decode cX12_readHour 69 = .ok (.ifCond .ne 13, 3) := by decide +kernel
theorem dX12_readHour_72 : decode cX12_readHour 72 = .ok (.aload_n 0, 1) := by decide +kernel
theorem dX12_readHour_73 : decode cX12_readHour 73 = .ok (.dup, 1) := by decide +kernel
theorem dX12_readHour_74 : decode cX12_readHour 74 = .ok (.getfield 283, 3) := by decide +kernel
theorem dX12_readHour_77 : decode cX12_readHour 77 = .ok (.iconst 1, 1) := by decide +kernel
theorem dX12_readHour_78 : decode cX12_readHour 78 = .ok (.iadd, 1) := by decide +kernel
theorem dX12_readHour_79 : decode cX12_readHour 79 = .ok (.putfield 283, 3) := by decide +kernel
theorem dX12_readHour_82 : decode cX12_readHour 82 = .ok (.return_, 1) := by decide +kernel
theorem dX12_readSlip_0 : decode cX12_readSlip 0 = .ok (.aload_n 0, 1) := by decide +kernel
theorem dX12_readSlip_1 : decode cX12_readSlip 1 = .ok (.invokevirtual 248, 3) := by decide +kernel
theorem dX12_readSlip_4 : decode cX12_readSlip 4 = .ok (.aload_n 0, 1) := by decide +kernel
theorem dX12_readSlip_5 : decode cX12_readSlip 5 = .ok (.getfield 174, 3) := by decide +kernel
theorem dX12_readSlip_8 : decode cX12_readSlip 8 = .ok (.istore_n 1, 1) := by decide +kernel
theorem dX12_readSlip_9 : decode cX12_readSlip 9 = .ok (.aload_n 0, 1) := by decide +kernel
theorem dX12_readSlip_10 : decode cX12_readSlip 10 = .ok (.bipush 50, 2) := by decide +kernel
theorem dX12_readSlip_12 : decode cX12_readSlip 12 = .ok (.invokevirtual 274, 3) := by decide +kernel
theorem dX12_readSlip_15 : decode cX12_readSlip 15 = .ok (.istore_n 2, 1) := by decide +kernel
theorem dX12_readSlip_16 : decode cX12_readSlip 16 = .ok (.iconst 0, 1) := by decide +kernel
theorem dX12_readSlip_17 : decode cX12_readSlip 17 = .ok (.istore_n 3, 1) := by decide +kernel
theorem dX12_readSlip_18 : decode cX12_readSlip 18 = .ok (.iconst 0, 1) := by decide +kernel
theorem dX12_readSlip_19 : decode cX12_readSlip 19 = .ok (.istore 4, 2) := by decide +kernel
theorem dX12_readSlip_21 : decode cX12_readSlip 21 = .ok (.iload 4, 2) := by decide +kernel
theorem dX12_readSlip_23 : decode cX12_readSlip 23 = .ok (.aload_n 0, 1) := by decide +kernel
theorem dX12_readSlip_24 : decode cX12_readSlip 24 = .ok (.getfield 286, 3) := by decide +kernel
theorem dX12_readSlip_27 : decode cX12_readSlip 27 = .ok (.if_icmp .ge 30, 3) := by decide +kernel
theorem dX12_readSlip_30 : decode cX12_readSlip 30 = .ok (.iload_n 3, 1) := by decide +kernel
theorem dX12_readSlip_31 : decode cX12_readSlip 31 = .ok (.ifCond .ne 14, 3) := by decide +kernel
theorem dX12_readSlip_34 : decode cX12_readSlip 34 = .ok (.aload_n 0, 1) := by decide +kernel
theorem dX12_readSlip_35 : decode cX12_readSlip 35 = .ok (.getfield 48, 3) := by decide +kernel
theorem dX12_readSlip_38 : decode cX12_readSlip 38 = .ok (.iload 4, 2) := by decide +kernel
theorem dX12_readSlip_40 : decode cX12_readSlip 40 = .ok (.iaload, 1) := by decide +kernel
theorem dX12_readSlip_41 : decode cX12_readSlip 41 = .ok (.iload_n 2, 1) := by decide +kernel
theorem dX12_readSlip_42 : decode cX12_readSlip 42 = .ok (.if_icmp .ne 7, 3) := by decide +kernel
theorem dX12_readSlip_45 : decode cX12_readSlip 45 = .ok (.iconst 1, 1) := by decide +kernel
theorem dX12_readSlip_46 : decode cX12_readSlip 46 = .ok (.goto 4, 3) := by decide +kernel
theorem dX12_readSlip_49 : decode cX12_readSlip 49 = .ok (.iconst 0, 1) := by decide +kernel
theorem dX12_readSlip_50 : decode cX12_readSlip 50 = .ok (.istore_n 3, 1) := by decide +kernel
theorem dX12_readSlip_51 : decode cX12_readSlip 51 = .ok (.iinc 4 1, 3) := by decide +kernel
theorem dX12_readSlip_54 : decode cX12_readSlip 54 = .ok (.goto (-33), 3) := by decide +kernel
theorem dX12_readSlip_57 : decode cX12_readSlip 57 = .ok (.iload_n 3, 1) := by decide +kernel
theorem dX12_readSlip_58 : decode cX12_readSlip 58 = .ok (.ifCond .eq 9, 3) := by decide +kernel
theorem dX12_readSlip_61 : decode cX12_readSlip 61 = .ok (.aload_n 0, 1) := by decide +kernel
theorem dX12_readSlip_62 : decode cX12_readSlip 62 = .ok (.iconst 3, 1) := by decide +kernel
theorem dX12_readSlip_63 : decode cX12_readSlip 63 = .ok (.iload_n 1, 1) := by decide +kernel
theorem dX12_readSlip_64 : decode cX12_readSlip 64 = .ok (.invokevirtual 197, 3) := by decide +kernel
theorem dX12_readSlip_67 : decode cX12_readSlip 67 = .ok (.aload_n 0, 1) := by decide +kernel
theorem dX12_readSlip_68 : decode cX12_readSlip 68 = .ok (.getfield 48, 3) := by decide +kernel
theorem dX12_readSlip_71 : decode cX12_readSlip 71 = .ok (.aload_n 0, 1) := by decide +kernel
theorem dX12_readSlip_72 : decode cX12_readSlip 72 = .ok (.getfield 286, 3) := by decide +kernel
theorem dX12_readSlip_75 : decode cX12_readSlip 75 = .ok (.iload_n 2, 1) := by decide +kernel
theorem dX12_readSlip_76 : decode cX12_readSlip 76 = .ok (.iastore, 1) := by decide +kernel
theorem dX12_readSlip_77 : decode cX12_readSlip 77 = .ok (.aload_n 0, 1) := by decide +kernel
theorem dX12_readSlip_78 : decode cX12_readSlip 78 = .ok (.getfield 51, 3) := by decide +kernel
theorem dX12_readSlip_81 : decode cX12_readSlip 81 = .ok (.aload_n 0, 1) := by decide +kernel
theorem dX12_readSlip_82 : decode cX12_readSlip 82 = .ok (.getfield 286, 3) := by decide +kernel
theorem dX12_readSlip_85 : decode cX12_readSlip 85 = .ok (.aload_n 0, 1) := by decide +kernel
theorem dX12_readSlip_86 : decode cX12_readSlip 86 = .ok (.ldc2_w 223, 3) := by decide +kernel
theorem dX12_readSlip_89 : decode cX12_readSlip 89 = .ok (.iconst 1, 1) := by decide +kernel
theorem dX12_readSlip_90 : decode cX12_readSlip 90 = .ok (.bipush 99, 2) := by decide +kernel
theorem dX12_readSlip_92 : decode cX12_readSlip 92 = .ok (.invokevirtual 270, 3) := by decide +kernel
theorem dX12_readSlip_95 : decode cX12_readSlip 95 = .ok (.iastore, 1) := by decide +kernel
theorem dX12_readSlip_96 : decode cX12_readSlip 96 = .ok (.aload_n 0, 1) := by decide +kernel
theorem dX12_readSlip_97 : decode cX12_readSlip 97 = .ok (.getfield 194, 3) := by decide +kernel
theorem dX12_readSlip_100 : decode cX12_readSlip 100 = .ok (.ifCond .ne 13, 3) := by decide +kernel
theorem dX12_readSlip_103 : decode cX12_readSlip 103 = .ok (.aload_n 0, 1) := by decide +kernel
theorem dX12_readSlip_104 : decode cX12_readSlip 104 = .ok (.dup, 1) := by decide +kernel
theorem dX12_readSlip_105 : decode cX12_readSlip 105 = .ok (.getfield 286, 3) := by decide +kernel
theorem dX12_readSlip_108 : decode cX12_readSlip 108 = .ok (.iconst 1, 1) := by decide +kernel
theorem dX12_readSlip_109 : decode cX12_readSlip 109 = .ok (.iadd, 1) := by decide +kernel
theorem dX12_readSlip_110 : decode cX12_readSlip 110 = .ok (.putfield 286, 3) := by decide +kernel
theorem dX12_readSlip_113 : decode cX12_readSlip 113 = .ok (.return_, 1) := by decide +kernel
theorem dX12_readNumber_0 : decode cX12_readNumber 0 = .ok (.aload_n 0, 1) := by decide +kernel
theorem dX12_readNumber_1 : decode cX12_readNumber 1 = .ok (.invokevirtual 248, 3) := by decide +kernel
theorem dX12_readNumber_4 : decode cX12_readNumber 4 = .ok (.aload_n 0, 1) := by decide +kernel
theorem dX12_readNumber_5 : decode cX12_readNumber 5 = .ok (.iconst 0, 1) := by decide +kernel
theorem dX12_readNumber_6 : decode cX12_readNumber 6 = .ok (.sipush 9999, 3) := by decide +kernel
theorem dX12_readNumber_9 : decode cX12_readNumber 9 = .ok (.invokevirtual 255, 3) := by decide +kernel
theorem dX12_readNumber_12 : decode cX12_readNumber 12 = .ok (.ireturn, 1) := by decide +kernel
theorem dX12_readOld_0 : decode cX12_readOld 0 = .ok (.aload_n 0, 1) := by decide +kernel
theorem dX12_readOld_1 : decode cX12_readOld 1 = .ok (.invokevirtual 248, 3) := by decide +kernel
theorem dX12_readOld_4 : decode cX12_readOld 4 = .ok (.aload_n 0, 1) := by decide +kernel
theorem dX12_readOld_5 : decode cX12_readOld 5 = .ok (.invokevirtual 277, 3) := by decide +kernel
theorem dX12_readOld_8 : decode cX12_readOld 8 = .ok (.ireturn, 1) := by decide +kernel
theorem dX12_readLine_0 : decode cX12_readLine 0 = .ok (.aload_n 0, 1) := by decide +kernel
theorem dX12_readLine_1 : decode cX12_readLine 1 = .ok (.ldc2_w 201, 3) := by decide +kernel
theorem dX12_readLine_4 : decode cX12_readLine 4 = .ok (.invokevirtual 241, 3) := by decide +kernel
theorem dX12_readLine_7 : decode cX12_readLine 7 = .ok (.ifCond .eq 19, 3) := by decide +kernel
theorem dX12_readLine_10 : decode cX12_readLine 10 = .ok (.aload_n 0, 1) := by decide +kernel
theorem dX12_readLine_11 : decode cX12_readLine 11 = .ok (.getfield 259, 3) := by decide +kernel
theorem dX12_readLine_14 : decode cX12_readLine 14 = .ok (.bipush 8, 2) := by decide +kernel
theorem dX12_readLine_16 : decode cX12_readLine 16 = .ok (.if_icmp .ge 10, 3) := by decide +kernel
theorem dX12_readLine_19 : decode cX12_readLine 19 = .ok (.aload_n 0, 1) := by decide +kernel
theorem dX12_readLine_20 : decode cX12_readLine 20 = .ok (.invokevirtual 289, 3) := by decide +kernel
theorem dX12_readLine_23 : decode cX12_readLine 23 = .ok (.goto 198, 3) := by decide +kernel
theorem dX12_readLine_26 : decode cX12_readLine 26 = .ok (.aload_n 0, 1) := by decide +kernel
theorem dX12_readLine_27 : decode cX12_readLine 27 = .ok (.ldc2_w 209, 3) := by decide +kernel
theorem dX12_readLine_30 : decode cX12_readLine 30 = .ok (.invokevirtual 241, 3) := by decide +kernel
theorem dX12_readLine_33 : decode cX12_readLine 33 = .ok (.ifCond .eq 19, 3) := by decide +kernel
theorem dX12_readLine_36 : decode cX12_readLine 36 = .ok (.aload_n 0, 1) := by decide +kernel
theorem dX12_readLine_37 : decode cX12_readLine 37 = .ok (.getfield 280, 3) := by decide +kernel
theorem dX12_readLine_40 : decode cX12_readLine 40 = .ok (.bipush 16, 2) := by decide +kernel
theorem dX12_readLine_42 : decode cX12_readLine 42 = .ok (.if_icmp .ge 10, 3) := by decide +kernel
theorem dX12_readLine_45 : decode cX12_readLine 45 = .ok (.aload_n 0, 1) := by decide +kernel
theorem dX12_readLine_46 : decode cX12_readLine 46 = .ok (.invokevirtual 292, 3) := by decide +kernel
theorem dX12_readLine_49 : decode cX12_readLine 49 = .ok (.goto 172, 3) := by decide +kernel
theorem dX12_readLine_52 : decode cX12_readLine 52 = .ok (.aload_n 0, 1) := by decide +kernel
theorem dX12_readLine_53 : decode cX12_readLine 53 = .ok (.ldc2_w 213, 3) := by decide +kernel
theorem dX12_readLine_56 : decode cX12_readLine 56 = .ok (.invokevirtual 241, 3) := by decide +kernel
theorem dX12_readLine_59 : decode cX12_readLine 59 = .ok (.ifCond .eq 19, 3) := by decide +kernel
theorem dX12_readLine_62 : decode cX12_readLine 62 = .ok (.aload_n 0, 1) := by decide +kernel
theorem dX12_readLine_63 : decode cX12_readLine 63 = .ok (.getfield 283, 3) := by decide +kernel
theorem dX12_readLine_66 : decode cX12_readLine 66 = .ok (.bipush 12, 2) := by decide +kernel
theorem dX12_readLine_68 : decode cX12_readLine 68 = .ok (.if_icmp .ge 10, 3) := by decide +kernel
theorem dX12_readLine_71 : decode cX12_readLine 71 = .ok (.aload_n 0, 1) := by decide +kernel
theorem dX12_readLine_72 : decode cX12_readLine 72 = .ok (.invokevirtual 295, 3) := by decide +kernel
theorem dX12_readLine_75 : decode cX12_readLine 75 = .ok (.goto 146, 3) := by decide +kernel
theorem dX12_readLine_78 : decode cX12_readLine 78 = .ok (.aload_n 0, 1) := by decide +kernel
theorem dX12_readLine_79 : decode cX12_readLine 79 = .ok (.ldc2_w 221, 3) := by decide +kernel
theorem dX12_readLine_82 : decode cX12_readLine 82 = .ok (.invokevirtual 241, 3) := by decide +kernel
theorem dX12_readLine_85 : decode cX12_readLine 85 = .ok (.ifCond .eq 19, 3) := by decide +kernel
theorem dX12_readLine_88 : decode cX12_readLine 88 = .ok (.aload_n 0, 1) := by decide +kernel
theorem dX12_readLine_89 : decode cX12_readLine 89 = .ok (.getfield 286, 3) := by decide +kernel
theorem dX12_readLine_92 : decode cX12_readLine 92 = .ok (.bipush 7, 2) := by decide +kernel
theorem dX12_readLine_94 : decode cX12_readLine 94 = .ok (.if_icmp .ge 10, 3) := by decide +kernel
theorem dX12_readLine_97 : decode cX12_readLine 97 = .ok (.aload_n 0, 1) := by decide +kernel
theorem dX12_readLine_98 : decode cX12_readLine 98 = .ok (.invokevirtual 298, 3) := by decide +kernel
theorem dX12_readLine_101 : decode cX12_readLine 101 = .ok (.goto 120, 3) := by decide +kernel
theorem dX12_readLine_104 : decode cX12_readLine 104 = .ok (.aload_n 0, 1) := by decide +kernel
theorem dX12_readLine_105 : decode cX12_readLine 105 = .ok (.ldc2_w 225, 3) := by decide +kernel
theorem dX12_readLine_108 : decode cX12_readLine 108 = .ok (.invokevirtual 241, 3) := by decide +kernel
theorem dX12_readLine_111 : decode cX12_readLine 111 = .ok (.ifCond .eq 21, 3) := by decide +kernel
theorem dX12_readLine_114 : decode cX12_readLine 114 = .ok (.aload_n 0, 1) := by decide +kernel
theorem dX12_readLine_115 : decode cX12_readLine 115 = .ok (.getfield 301, 3) := by decide +kernel
theorem dX12_readLine_118 : decode cX12_readLine 118 = .ok (.ifCond .ge 14, 3) := by decide +kernel
theorem dX12_readLine_121 : decode cX12_readLine 121 = .ok (.aload_n 0, 1) := by decide +kernel
theorem dX12_readLine_122 : decode cX12_readLine 122 = .ok (.aload_n 0, 1) := by decide +kernel
theorem dX12_readLine_123 : decode cX12_readLine 123 = .ok (.invokevirtual 304, 3) := by decide +kernel
theorem dX12_readLine_126 : decode cX12_readLine 126 = .ok (.putfield 301, 3) := by decide +kernel
theorem dX12_readLine_129 : decode cX12_readLine 129 = .ok (.goto 92, 3) := by decide +kernel
theorem dX12_readLine_132 : decode cX12_readLine 132 = .ok (.aload_n 0, 1) := by decide +kernel
theorem dX12_readLine_133 : decode cX12_readLine 133 = .ok (.ldc2_w 227, 3) := by decide +kernel
theorem dX12_readLine_136 : decode cX12_readLine 136 = .ok (.invokevirtual 241, 3) := by decide +kernel
theorem dX12_readLine_139 : decode cX12_readLine 139 = .ok (.ifCond .eq 21, 3) := by decide +kernel
theorem dX12_readLine_142 : decode cX12_readLine 142 = .ok (.aload_n 0, 1) := by decide +kernel
theorem dX12_readLine_143 : decode cX12_readLine 143 = .ok (.getfield 307, 3) := by decide +kernel
theorem dX12_readLine_146 : decode cX12_readLine 146 = .ok (.ifCond .ge 14, 3) := by decide +kernel
theorem dX12_readLine_149 : decode cX12_readLine 149 = .ok (.aload_n 0, 1) := by decide +kernel
theorem dX12_readLine_150 : decode cX12_readLine 150 = .ok (.aload_n 0, 1) := by decide +kernel
theorem dX12_readLine_151 : decode cX12_readLine 151 = .ok (.invokevirtual 304, 3) := by decide +kernel
theorem dX12_readLine_154 : decode cX12_readLine 154 = .ok (.putfield 307, 3) := by decide +kernel
theorem dX12_readLine_157 : decode cX12_readLine 157 = .ok (.goto 64, 3) := by decide +kernel
theorem dX12_readLine_160 : decode cX12_readLine 160 = .ok (.aload_n 0, 1) := by decide +kernel
theorem dX12_readLine_161 : decode cX12_readLine 161 = .ok (.ldc2_w 229, 3) := by decide +kernel
theorem dX12_readLine_164 : decode cX12_readLine 164 = .ok (.invokevirtual 241, 3) := by decide +kernel
theorem dX12_readLine_167 : decode cX12_readLine 167 = .ok (.ifCond .eq 21, 3) := by decide +kernel
theorem dX12_readLine_170 : decode cX12_readLine 170 = .ok (.aload_n 0, 1) := by decide +kernel
theorem dX12_readLine_171 : decode cX12_readLine 171 = .ok (.getfield 310, 3) := by decide +kernel
theorem dX12_readLine_174 : decode cX12_readLine 174 = .ok (.ifCond .ge 14, 3) := by decide +kernel
theorem dX12_readLine_177 : decode cX12_readLine 177 = .ok (.aload_n 0, 1) := by decide +kernel
theorem dX12_readLine_178 : decode cX12_readLine 178 = .ok (.aload_n 0, 1) := by decide +kernel
theorem dX12_readLine_179 : decode cX12_readLine 179 = .ok (.invokevirtual 313, 3) := by decide +kernel
theorem dX12_readLine_182 : decode cX12_readLine 182 = .ok (.putfield 310, 3) := by decide +kernel
theorem dX12_readLine_185 : decode cX12_readLine 185 = .ok (.goto 36, 3) := by decide +kernel
theorem dX12_readLine_188 : decode cX12_readLine 188 = .ok (.aload_n 0, 1) := by decide +kernel
theorem dX12_readLine_189 : decode cX12_readLine 189 = .ok (.ldc2_w 231, 3) := by decide +kernel
theorem dX12_readLine_192 : decode cX12_readLine 192 = .ok (.invokevirtual 241, 3) := by decide +kernel
theorem dX12_readLine_195 : decode cX12_readLine 195 = .ok (.ifCond .eq 21, 3) := by decide +kernel
theorem dX12_readLine_198 : decode cX12_readLine 198 = .ok (.aload_n 0, 1) := by decide +kernel
theorem dX12_readLine_199 : decode cX12_readLine 199 = .ok (.getfield 316, 3) := by decide +kernel
theorem dX12_readLine_202 : decode cX12_readLine 202 = .ok (.ifCond .ge 14, 3) := by decide +kernel
theorem dX12_readLine_205 : decode cX12_readLine 205 = .ok (.aload_n 0, 1) := by decide +kernel
theorem dX12_readLine_206 : decode cX12_readLine 206 = .ok (.aload_n 0, 1) := by decide +kernel
theorem dX12_readLine_207 : decode cX12_readLine 207 = .ok (.invokevirtual 304, 3) := by decide +kernel
theorem dX12_readLine_210 : decode cX12_readLine 210 = .ok (.putfield 316, 3) := by decide +kernel
theorem dX12_readLine_213 : decode cX12_readLine 213 = .ok (.goto 8, 3) := by decide +kernel
theorem dX12_readLine_216 : decode cX12_readLine 216 = .ok (.aload_n 0, 1) := by decide +kernel
theorem dX12_readLine_217 : decode cX12_readLine 217 = .ok (.iconst 2, 1) := by decide +kernel
theorem dX12_readLine_218 : decode cX12_readLine 218 = .ok (.invokevirtual 245, 3) := by decide +kernel
theorem dX12_readLine_221 : decode cX12_readLine 221 = .ok (.aload_n 0, 1) := by decide +kernel
theorem dX12_readLine_222 : decode cX12_readLine 222 = .ok (.getfield 194, 3) := by decide +kernel
theorem dX12_readLine_225 : decode cX12_readLine 225 = .ok (.ifCond .ne 17, 3) := by decide +kernel
theorem dX12_readLine_228 : decode cX12_readLine 228 = .ok (.aload_n 0, 1) := by decide +kernel
theorem dX12_readLine_229 : decode cX12_readLine 229 = .ok (.getfield 184, 3) := by decide +kernel
theorem dX12_readLine_232 : decode cX12_readLine 232 = .ok (.bipush 59, 2) := by decide +kernel
theorem dX12_readLine_234 : decode cX12_readLine 234 = .ok (.if_icmp .eq 8, 3) := by decide +kernel
theorem dX12_readLine_237 : decode cX12_readLine 237 = .ok (.aload_n 0, 1) := by decide +kernel
theorem dX12_readLine_238 : decode cX12_readLine 238 = .ok (.iconst 2, 1) := by decide +kernel
theorem dX12_readLine_239 : decode cX12_readLine 239 = .ok (.invokevirtual 245, 3) := by decide +kernel
theorem dX12_readLine_242 : decode cX12_readLine 242 = .ok (.aload_n 0, 1) := by decide +kernel
theorem dX12_readLine_243 : decode cX12_readLine 243 = .ok (.getfield 194, 3) := by decide +kernel
theorem dX12_readLine_246 : decode cX12_readLine 246 = .ok (.ifCond .ne 7, 3) := by decide +kernel
theorem dX12_readLine_249 : decode cX12_readLine 249 = .ok (.aload_n 0, 1) := by decide +kernel
theorem dX12_readLine_250 : decode cX12_readLine 250 = .ok (.invokevirtual 248, 3) := by decide +kernel
theorem dX12_readLine_253 : decode cX12_readLine 253 = .ok (.return_, 1) := by decide +kernel
theorem dX12_readAll_0 : decode cX12_readAll 0 = .ok (.aload_n 0, 1) := by decide +kernel
theorem dX12_readAll_1 : decode cX12_readAll 1 = .ok (.aload_n 0, 1) := by decide +kernel
theorem dX12_readAll_2 : decode cX12_readAll 2 = .ok (.getfield 157, 3) := by decide +kernel
theorem dX12_readAll_5 : decode cX12_readAll 5 = .ok (.putfield 167, 3) := by decide +kernel
theorem dX12_readAll_8 : decode cX12_readAll 8 = .ok (.aload_n 0, 1) := by decide +kernel
theorem dX12_readAll_9 : decode cX12_readAll 9 = .ok (.iconst 0, 1) := by decide +kernel
theorem dX12_readAll_10 : decode cX12_readAll 10 = .ok (.putfield 157, 3) := by decide +kernel
theorem dX12_readAll_13 : decode cX12_readAll 13 = .ok (.aload_n 0, 1) := by decide +kernel
theorem dX12_readAll_14 : decode cX12_readAll 14 = .ok (.iconst 0, 1) := by decide +kernel
theorem dX12_readAll_15 : decode cX12_readAll 15 = .ok (.putfield 164, 3) := by decide +kernel
theorem dX12_readAll_18 : decode cX12_readAll 18 = .ok (.aload_n 0, 1) := by decide +kernel
theorem dX12_readAll_19 : decode cX12_readAll 19 = .ok (.iconst 0, 1) := by decide +kernel
theorem dX12_readAll_20 : decode cX12_readAll 20 = .ok (.putfield 194, 3) := by decide +kernel
theorem dX12_readAll_23 : decode cX12_readAll 23 = .ok (.aload_n 0, 1) := by decide +kernel
theorem dX12_readAll_24 : decode cX12_readAll 24 = .ok (.iconst (-1), 1) := by decide +kernel
theorem dX12_readAll_25 : decode cX12_readAll 25 = .ok (.putfield 13, 3) := by decide +kernel
theorem dX12_readAll_28 : decode cX12_readAll 28 = .ok (.aload_n 0, 1) := by decide +kernel
theorem dX12_readAll_29 : decode cX12_readAll 29 = .ok (.iconst 0, 1) := by decide +kernel
theorem dX12_readAll_30 : decode cX12_readAll 30 = .ok (.putfield 259, 3) := by decide +kernel
theorem dX12_readAll_33 : decode cX12_readAll 33 = .ok (.aload_n 0, 1) := by decide +kernel
theorem dX12_readAll_34 : decode cX12_readAll 34 = .ok (.iconst 0, 1) := by decide +kernel
theorem dX12_readAll_35 : decode cX12_readAll 35 = .ok (.putfield 280, 3) := by decide +kernel
theorem dX12_readAll_38 : decode cX12_readAll 38 = .ok (.aload_n 0, 1) := by decide +kernel
theorem dX12_readAll_39 : decode cX12_readAll 39 = .ok (.iconst 0, 1) := by decide +kernel
theorem dX12_readAll_40 : decode cX12_readAll 40 = .ok (.putfield 283, 3) := by decide +kernel
theorem dX12_readAll_43 : decode cX12_readAll 43 = .ok (.aload_n 0, 1) := by decide +kernel
theorem dX12_readAll_44 : decode cX12_readAll 44 = .ok (.iconst 0, 1) := by decide +kernel
theorem dX12_readAll_45 : decode cX12_readAll 45 = .ok (.putfield 286, 3) := by decide +kernel
theorem dX12_readAll_48 : decode cX12_readAll 48 = .ok (.aload_n 0, 1) := by decide +kernel
theorem dX12_readAll_49 : decode cX12_readAll 49 = .ok (.iconst (-1), 1) := by decide +kernel
theorem dX12_readAll_50 : decode cX12_readAll 50 = .ok (.putfield 301, 3) := by decide +kernel
theorem dX12_readAll_53 : decode cX12_readAll 53 = .ok (.aload_n 0, 1) := by decide +kernel
theorem dX12_readAll_54 : decode cX12_readAll 54 = .ok (.iconst (-1), 1) := by decide +kernel
theorem dX12_readAll_55 : decode cX12_readAll 55 = .ok (.putfield 307, 3) := by decide +kernel
theorem dX12_readAll_58 : decode cX12_readAll 58 = .ok (.aload_n 0, 1) := by decide +kernel
theorem dX12_readAll_59 : decode cX12_readAll 59 = .ok (.iconst (-1), 1) := by decide +kernel
theorem dX12_readAll_60 : decode cX12_readAll 60 = .ok (.putfield 310, 3) := by decide +kernel
theorem dX12_readAll_63 : decode cX12_readAll 63 = .ok (.aload_n 0, 1) := by decide +kernel
theorem dX12_readAll_64 : decode cX12_readAll 64 = .ok (.iconst (-1), 1) := by decide +kernel
theorem dX12_readAll_65 : decode cX12_readAll 65 = .ok (.putfield 316, 3) := by decide +kernel
theorem dX12_readAll_68 : decode cX12_readAll 68 = .ok (.iconst 0, 1) := by decide +kernel
theorem dX12_readAll_69 : decode cX12_readAll 69 = .ok (.istore_n 1, 1) := by decide +kernel
theorem dX12_readAll_70 : decode cX12_readAll 70 = .ok (.iload_n 1, 1) := by decide +kernel
theorem dX12_readAll_71 : decode cX12_readAll 71 = .ok (.bipush 64, 2) := by decide +kernel
theorem dX12_readAll_73 : decode cX12_readAll 73 = .ok (.if_icmp .ge 16, 3) := by decide +kernel
theorem dX12_readAll_76 : decode cX12_readAll 76 = .ok (.aload_n 0, 1) := by decide +kernel
theorem dX12_readAll_77 : decode cX12_readAll 77 = .ok (.getfield 36, 3) := by decide +kernel
theorem dX12_readAll_80 : decode cX12_readAll 80 = .ok (.iload_n 1, 1) := by decide +kernel
theorem dX12_readAll_81 : decode cX12_readAll 81 = .ok (.iconst 0, 1) := by decide +kernel
theorem dX12_readAll_82 : decode cX12_readAll 82 = .ok (.iastore, 1) := by decide +kernel
theorem dX12_readAll_83 : decode cX12_readAll 83 = .ok (.iinc 1 1, 3) := by decide +kernel
theorem dX12_readAll_86 : decode cX12_readAll 86 = .ok (.goto (-16), 3) := by decide +kernel
theorem dX12_readAll_89 : decode cX12_readAll 89 = .ok (.aload_n 0, 1) := by decide +kernel
theorem dX12_readAll_90 : decode cX12_readAll 90 = .ok (.invokevirtual 248, 3) := by decide +kernel
theorem dX12_readAll_93 : decode cX12_readAll 93 = .ok (.aload_n 0, 1) := by decide +kernel
theorem dX12_readAll_94 : decode cX12_readAll 94 = .ok (.getfield 194, 3) := by decide +kernel
theorem dX12_readAll_97 : decode cX12_readAll 97 = .ok (.ifCond .ne 17, 3) := by decide +kernel
theorem dX12_readAll_100 : decode cX12_readAll 100 = .ok (.aload_n 0, 1) := by decide +kernel
theorem dX12_readAll_101 : decode cX12_readAll 101 = .ok (.getfield 184, 3) := by decide +kernel
theorem dX12_readAll_104 : decode cX12_readAll 104 = .ok (.ifCond .eq 10, 3) := by decide +kernel
theorem dX12_readAll_107 : decode cX12_readAll 107 = .ok (.aload_n 0, 1) := by decide +kernel
theorem dX12_readAll_108 : decode cX12_readAll 108 = .ok (.invokevirtual 319, 3) := by decide +kernel
theorem dX12_readAll_111 : decode cX12_readAll 111 = .ok (.goto (-18), 3) := by decide +kernel
theorem dX12_readAll_114 : decode cX12_readAll 114 = .ok (.return_, 1) := by decide +kernel
theorem dX12_land_0 : decode cX12_land 0 = .ok (.aload_n 0, 1) := by decide +kernel
theorem dX12_land_1 : decode cX12_land 1 = .ok (.invokevirtual 322, 3) := by decide +kernel
theorem dX12_land_4 : decode cX12_land 4 = .ok (.aload_n 0, 1) := by decide +kernel
theorem dX12_land_5 : decode cX12_land 5 = .ok (.getfield 194, 3) := by decide +kernel
theorem dX12_land_8 : decode cX12_land 8 = .ok (.ifCond .le 5, 3) := by decide +kernel
theorem dX12_land_11 : decode cX12_land 11 = .ok (.iconst (-1), 1) := by decide +kernel
theorem dX12_land_12 : decode cX12_land 12 = .ok (.ireturn, 1) := by decide +kernel
theorem dX12_land_13 : decode cX12_land 13 = .ok (.aload_n 0, 1) := by decide +kernel
theorem dX12_land_14 : decode cX12_land 14 = .ok (.aload_n 0, 1) := by decide +kernel
theorem dX12_land_15 : decode cX12_land 15 = .ok (.getfield 259, 3) := by decide +kernel
theorem dX12_land_18 : decode cX12_land 18 = .ok (.putfield 325, 3) := by decide +kernel
theorem dX12_land_21 : decode cX12_land 21 = .ok (.aload_n 0, 1) := by decide +kernel
theorem dX12_land_22 : decode cX12_land 22 = .ok (.aload_n 0, 1) := by decide +kernel
theorem dX12_land_23 : decode cX12_land 23 = .ok (.getfield 280, 3) := by decide +kernel
theorem dX12_land_26 : decode cX12_land 26 = .ok (.putfield 328, 3) := by decide +kernel
theorem dX12_land_29 : decode cX12_land 29 = .ok (.aload_n 0, 1) := by decide +kernel
theorem dX12_land_30 : decode cX12_land 30 = .ok (.aload_n 0, 1) := by decide +kernel
theorem dX12_land_31 : decode cX12_land 31 = .ok (.getfield 283, 3) := by decide +kernel
theorem dX12_land_34 : decode cX12_land 34 = .ok (.putfield 331, 3) := by decide +kernel
theorem dX12_land_37 : decode cX12_land 37 = .ok (.aload_n 0, 1) := by decide +kernel
theorem dX12_land_38 : decode cX12_land 38 = .ok (.aload_n 0, 1) := by decide +kernel
theorem dX12_land_39 : decode cX12_land 39 = .ok (.getfield 286, 3) := by decide +kernel
theorem dX12_land_42 : decode cX12_land 42 = .ok (.putfield 334, 3) := by decide +kernel
theorem dX12_land_45 : decode cX12_land 45 = .ok (.aload_n 0, 1) := by decide +kernel
theorem dX12_land_46 : decode cX12_land 46 = .ok (.aload_n 0, 1) := by decide +kernel
theorem dX12_land_47 : decode cX12_land 47 = .ok (.getfield 301, 3) := by decide +kernel
theorem dX12_land_50 : decode cX12_land 50 = .ok (.ifCond .ge 7, 3) := by decide +kernel
theorem dX12_land_53 : decode cX12_land 53 = .ok (.iconst 0, 1) := by decide +kernel
theorem dX12_land_54 : decode cX12_land 54 = .ok (.goto 7, 3) := by decide +kernel
theorem dX12_land_57 : decode cX12_land 57 = .ok (.aload_n 0, 1) := by decide +kernel
theorem dX12_land_58 : decode cX12_land 58 = .ok (.getfield 301, 3) := by decide +kernel
theorem dX12_land_61 : decode cX12_land 61 = .ok (.putfield 337, 3) := by decide +kernel
theorem dX12_land_64 : decode cX12_land 64 = .ok (.aload_n 0, 1) := by decide +kernel
theorem dX12_land_65 : decode cX12_land 65 = .ok (.aload_n 0, 1) := by decide +kernel
theorem dX12_land_66 : decode cX12_land 66 = .ok (.getfield 307, 3) := by decide +kernel
theorem dX12_land_69 : decode cX12_land 69 = .ok (.ifCond .ge 7, 3) := by decide +kernel
theorem dX12_land_72 : decode cX12_land 72 = .ok (.iconst 0, 1) := by decide +kernel
theorem dX12_land_73 : decode cX12_land 73 = .ok (.goto 7, 3) := by decide +kernel
theorem dX12_land_76 : decode cX12_land 76 = .ok (.aload_n 0, 1) := by decide +kernel
theorem dX12_land_77 : decode cX12_land 77 = .ok (.getfield 307, 3) := by decide +kernel
theorem dX12_land_80 : decode cX12_land 80 = .ok (.putfield 340, 3) := by decide +kernel
theorem dX12_land_83 : decode cX12_land 83 = .ok (.aload_n 0, 1) := by decide +kernel
theorem dX12_land_84 : decode cX12_land 84 = .ok (.aload_n 0, 1) := by decide +kernel
theorem dX12_land_85 : decode cX12_land 85 = .ok (.getfield 310, 3) := by decide +kernel
theorem dX12_land_88 : decode cX12_land 88 = .ok (.putfield 154, 3) := by decide +kernel
theorem dX12_land_91 : decode cX12_land 91 = .ok (.iconst 0, 1) := by decide +kernel
theorem dX12_land_92 : decode cX12_land 92 = .ok (.istore_n 1, 1) := by decide +kernel
theorem dX12_land_93 : decode cX12_land 93 = .ok (.iload_n 1, 1) := by decide +kernel
theorem dX12_land_94 : decode cX12_land 94 = .ok (.bipush 8, 2) := by decide +kernel
theorem dX12_land_96 : decode cX12_land 96 = .ok (.if_icmp .ge 57, 3) := by decide +kernel
theorem dX12_land_99 : decode cX12_land 99 = .ok (.aload_n 0, 1) := by decide +kernel
theorem dX12_land_100 : decode cX12_land 100 = .ok (.getfield 54, 3) := by decide +kernel
theorem dX12_land_103 : decode cX12_land 103 = .ok (.iload_n 1, 1) := by decide +kernel
theorem dX12_land_104 : decode cX12_land 104 = .ok (.aload_n 0, 1) := by decide +kernel
theorem dX12_land_105 : decode cX12_land 105 = .ok (.getfield 21, 3) := by decide +kernel
theorem dX12_land_108 : decode cX12_land 108 = .ok (.iload_n 1, 1) := by decide +kernel
theorem dX12_land_109 : decode cX12_land 109 = .ok (.iaload, 1) := by decide +kernel
theorem dX12_land_110 : decode cX12_land 110 = .ok (.iastore, 1) := by decide +kernel
theorem dX12_land_111 : decode cX12_land 111 = .ok (.aload_n 0, 1) := by decide +kernel
theorem dX12_land_112 : decode cX12_land 112 = .ok (.getfield 57, 3) := by decide +kernel
theorem dX12_land_115 : decode cX12_land 115 = .ok (.iload_n 1, 1) := by decide +kernel
theorem dX12_land_116 : decode cX12_land 116 = .ok (.aload_n 0, 1) := by decide +kernel
theorem dX12_land_117 : decode cX12_land 117 = .ok (.getfield 24, 3) := by decide +kernel
theorem dX12_land_120 : decode cX12_land 120 = .ok (.iload_n 1, 1) := by decide +kernel
theorem dX12_land_121 : decode cX12_land 121 = .ok (.iaload, 1) := by decide +kernel
theorem dX12_land_122 : decode cX12_land 122 = .ok (.iastore, 1) := by decide +kernel
theorem dX12_land_123 : decode cX12_land 123 = .ok (.aload_n 0, 1) := by decide +kernel
theorem dX12_land_124 : decode cX12_land 124 = .ok (.getfield 60, 3) := by decide +kernel
theorem dX12_land_127 : decode cX12_land 127 = .ok (.iload_n 1, 1) := by decide +kernel
theorem dX12_land_128 : decode cX12_land 128 = .ok (.aload_n 0, 1) := by decide +kernel
theorem dX12_land_129 : decode cX12_land 129 = .ok (.getfield 27, 3) := by decide +kernel
theorem dX12_land_132 : decode cX12_land 132 = .ok (.iload_n 1, 1) := by decide +kernel
theorem dX12_land_133 : decode cX12_land 133 = .ok (.iaload, 1) := by decide +kernel
theorem dX12_land_134 : decode cX12_land 134 = .ok (.iastore, 1) := by decide +kernel
theorem dX12_land_135 : decode cX12_land 135 = .ok (.aload_n 0, 1) := by decide +kernel
theorem dX12_land_136 : decode cX12_land 136 = .ok (.getfield 63, 3) := by decide +kernel
theorem dX12_land_139 : decode cX12_land 139 = .ok (.iload_n 1, 1) := by decide +kernel
theorem dX12_land_140 : decode cX12_land 140 = .ok (.aload_n 0, 1) := by decide +kernel
theorem dX12_land_141 : decode cX12_land 141 = .ok (.getfield 30, 3) := by decide +kernel
theorem dX12_land_144 : decode cX12_land 144 = .ok (.iload_n 1, 1) := by decide +kernel
theorem dX12_land_145 : decode cX12_land 145 = .ok (.iaload, 1) := by decide +kernel
theorem dX12_land_146 : decode cX12_land 146 = .ok (.iastore, 1) := by decide +kernel
theorem dX12_land_147 : decode cX12_land 147 = .ok (.iinc 1 1, 3) := by decide +kernel
theorem dX12_land_150 : decode cX12_land 150 = .ok (.goto (-57), 3) := by decide +kernel
theorem dX12_land_153 : decode cX12_land 153 = .ok (.iconst 0, 1) := by decide +kernel
theorem dX12_land_154 : decode cX12_land 154 = .ok (.istore_n 1, 1) := by decide +kernel
theorem dX12_land_155 : decode cX12_land 155 = .ok (.iload_n 1, 1) := by decide +kernel
theorem dX12_land_156 : decode cX12_land 156 = .ok (.bipush 40, 2) := by decide +kernel
theorem dX12_land_158 : decode cX12_land 158 = .ok (.if_icmp .ge 21, 3) := by decide +kernel
theorem dX12_land_161 : decode cX12_land 161 = .ok (.aload_n 0, 1) := by decide +kernel
theorem dX12_land_162 : decode cX12_land 162 = .ok (.getfield 66, 3) := by decide +kernel
theorem dX12_land_165 : decode cX12_land 165 = .ok (.iload_n 1, 1) := by decide +kernel
theorem dX12_land_166 : decode cX12_land 166 = .ok (.aload_n 0, 1) := by decide +kernel
theorem dX12_land_167 : decode cX12_land 167 = .ok (.getfield 33, 3) := by decide +kernel
theorem dX12_land_170 : decode cX12_land 170 = .ok (.iload_n 1, 1) := by decide +kernel
theorem dX12_land_171 : decode cX12_land 171 = .ok (.iaload, 1) := by decide +kernel
theorem dX12_land_172 : decode cX12_land 172 = .ok (.iastore, 1) := by decide +kernel
theorem dX12_land_173 : decode cX12_land 173 = .ok (.iinc 1 1, 3) := by decide +kernel
theorem dX12_land_176 : decode cX12_land 176 = .ok (.goto (-21), 3) := by decide +kernel
theorem dX12_land_179 : decode cX12_land 179 = .ok (.iconst 0, 1) := by decide +kernel
theorem dX12_land_180 : decode cX12_land 180 = .ok (.istore_n 1, 1) := by decide +kernel
theorem dX12_land_181 : decode cX12_land 181 = .ok (.iload_n 1, 1) := by decide +kernel
theorem dX12_land_182 : decode cX12_land 182 = .ok (.bipush 64, 2) := by decide +kernel
theorem dX12_land_184 : decode cX12_land 184 = .ok (.if_icmp .ge 21, 3) := by decide +kernel
theorem dX12_land_187 : decode cX12_land 187 = .ok (.aload_n 0, 1) := by decide +kernel
theorem dX12_land_188 : decode cX12_land 188 = .ok (.getfield 69, 3) := by decide +kernel
theorem dX12_land_191 : decode cX12_land 191 = .ok (.iload_n 1, 1) := by decide +kernel
theorem dX12_land_192 : decode cX12_land 192 = .ok (.aload_n 0, 1) := by decide +kernel
theorem dX12_land_193 : decode cX12_land 193 = .ok (.getfield 36, 3) := by decide +kernel
theorem dX12_land_196 : decode cX12_land 196 = .ok (.iload_n 1, 1) := by decide +kernel
theorem dX12_land_197 : decode cX12_land 197 = .ok (.iaload, 1) := by decide +kernel
theorem dX12_land_198 : decode cX12_land 198 = .ok (.iastore, 1) := by decide +kernel
theorem dX12_land_199 : decode cX12_land 199 = .ok (.iinc 1 1, 3) := by decide +kernel
theorem dX12_land_202 : decode cX12_land 202 = .ok (.goto (-21), 3) := by decide +kernel
theorem dX12_land_205 : decode cX12_land 205 = .ok (.iconst 0, 1) := by decide +kernel
theorem dX12_land_206 : decode cX12_land 206 = .ok (.istore_n 1, 1) := by decide +kernel
theorem dX12_land_207 : decode cX12_land 207 = .ok (.iload_n 1, 1) := by decide +kernel
theorem dX12_land_208 : decode cX12_land 208 = .ok (.bipush 12, 2) := by decide +kernel
theorem dX12_land_210 : decode cX12_land 210 = .ok (.if_icmp .ge 45, 3) := by decide +kernel
theorem dX12_land_213 : decode cX12_land 213 = .ok (.aload_n 0, 1) := by decide +kernel
theorem dX12_land_214 : decode cX12_land 214 = .ok (.getfield 72, 3) := by decide +kernel
theorem dX12_land_217 : decode cX12_land 217 = .ok (.iload_n 1, 1) := by decide +kernel
theorem dX12_land_218 : decode cX12_land 218 = .ok (.aload_n 0, 1) := by decide +kernel
theorem dX12_land_219 : decode cX12_land 219 = .ok (.getfield 39, 3) := by decide +kernel
theorem dX12_land_222 : decode cX12_land 222 = .ok (.iload_n 1, 1) := by decide +kernel
theorem dX12_land_223 : decode cX12_land 223 = .ok (.iaload, 1) := by decide +kernel
theorem dX12_land_224 : decode cX12_land 224 = .ok (.iastore, 1) := by decide +kernel
theorem dX12_land_225 : decode cX12_land 225 = .ok (.aload_n 0, 1) := by decide +kernel
theorem dX12_land_226 : decode cX12_land 226 = .ok (.getfield 75, 3) := by decide +kernel
theorem dX12_land_229 : decode cX12_land 229 = .ok (.iload_n 1, 1) := by decide +kernel
theorem dX12_land_230 : decode cX12_land 230 = .ok (.aload_n 0, 1) := by decide +kernel
theorem dX12_land_231 : decode cX12_land 231 = .ok (.getfield 42, 3) := by decide +kernel
theorem dX12_land_234 : decode cX12_land 234 = .ok (.iload_n 1, 1) := by decide +kernel
theorem dX12_land_235 : decode cX12_land 235 = .ok (.iaload, 1) := by decide +kernel
theorem dX12_land_236 : decode cX12_land 236 = .ok (.iastore, 1) := by decide +kernel
theorem dX12_land_237 : decode cX12_land 237 = .ok (.aload_n 0, 1) := by decide +kernel
theorem dX12_land_238 : decode cX12_land 238 = .ok (.getfield 78, 3) := by decide +kernel
theorem dX12_land_241 : decode cX12_land 241 = .ok (.iload_n 1, 1) := by decide +kernel
theorem dX12_land_242 : decode cX12_land 242 = .ok (.aload_n 0, 1) := by decide +kernel
theorem dX12_land_243 : decode cX12_land 243 = .ok (.getfield 45, 3) := by decide +kernel
theorem dX12_land_246 : decode cX12_land 246 = .ok (.iload_n 1, 1) := by decide +kernel
theorem dX12_land_247 : decode cX12_land 247 = .ok (.iaload, 1) := by decide +kernel
theorem dX12_land_248 : decode cX12_land 248 = .ok (.iastore, 1) := by decide +kernel
theorem dX12_land_249 : decode cX12_land 249 = .ok (.iinc 1 1, 3) := by decide +kernel
theorem dX12_land_252 : decode cX12_land 252 = .ok (.goto (-45), 3) := by decide +kernel
theorem dX12_land_255 : decode cX12_land 255 = .ok (.iconst 0, 1) := by decide +kernel
theorem dX12_land_256 : decode cX12_land 256 = .ok (.istore_n 1, 1) := by decide +kernel
theorem dX12_land_257 : decode cX12_land 257 = .ok (.iload_n 1, 1) := by decide +kernel
theorem dX12_land_258 : decode cX12_land 258 = .ok (.bipush 7, 2) := by decide +kernel
theorem dX12_land_260 : decode cX12_land 260 = .ok (.if_icmp .ge 33, 3) := by decide +kernel
theorem dX12_land_263 : decode cX12_land 263 = .ok (.aload_n 0, 1) := by decide +kernel
theorem dX12_land_264 : decode cX12_land 264 = .ok (.getfield 81, 3) := by decide +kernel
theorem dX12_land_267 : decode cX12_land 267 = .ok (.iload_n 1, 1) := by decide +kernel
theorem dX12_land_268 : decode cX12_land 268 = .ok (.aload_n 0, 1) := by decide +kernel
theorem dX12_land_269 : decode cX12_land 269 = .ok (.getfield 48, 3) := by decide +kernel
theorem dX12_land_272 : decode cX12_land 272 = .ok (.iload_n 1, 1) := by decide +kernel
theorem dX12_land_273 : decode cX12_land 273 = .ok (.iaload, 1) := by decide +kernel
theorem dX12_land_274 : decode cX12_land 274 = .ok (.iastore, 1) := by decide +kernel
theorem dX12_land_275 : decode cX12_land 275 = .ok (.aload_n 0, 1) := by decide +kernel
theorem dX12_land_276 : decode cX12_land 276 = .ok (.getfield 84, 3) := by decide +kernel
theorem dX12_land_279 : decode cX12_land 279 = .ok (.iload_n 1, 1) := by decide +kernel
theorem dX12_land_280 : decode cX12_land 280 = .ok (.aload_n 0, 1) := by decide +kernel
theorem dX12_land_281 : decode cX12_land 281 = .ok (.getfield 51, 3) := by decide +kernel
theorem dX12_land_284 : decode cX12_land 284 = .ok (.iload_n 1, 1) := by decide +kernel
theorem dX12_land_285 : decode cX12_land 285 = .ok (.iaload, 1) := by decide +kernel
theorem dX12_land_286 : decode cX12_land 286 = .ok (.iastore, 1) := by decide +kernel
theorem dX12_land_287 : decode cX12_land 287 = .ok (.iinc 1 1, 3) := by decide +kernel
theorem dX12_land_290 : decode cX12_land 290 = .ok (.goto (-33), 3) := by decide +kernel
theorem dX12_land_293 : decode cX12_land 293 = .ok (.iconst 0, 1) := by decide +kernel
theorem dX12_land_294 : decode cX12_land 294 = .ok (.istore_n 1, 1) := by decide +kernel
theorem dX12_land_295 : decode cX12_land 295 = .ok (.iload_n 1, 1) := by decide +kernel
theorem dX12_land_296 : decode cX12_land 296 = .ok (.bipush 40, 2) := by decide +kernel
theorem dX12_land_298 : decode cX12_land 298 = .ok (.if_icmp .ge 21, 3) := by decide +kernel
theorem dX12_land_301 : decode cX12_land 301 = .ok (.aload_n 0, 1) := by decide +kernel
theorem dX12_land_302 : decode cX12_land 302 = .ok (.getfield 90, 3) := by decide +kernel
theorem dX12_land_305 : decode cX12_land 305 = .ok (.iload_n 1, 1) := by decide +kernel
theorem dX12_land_306 : decode cX12_land 306 = .ok (.aload_n 0, 1) := by decide +kernel
theorem dX12_land_307 : decode cX12_land 307 = .ok (.getfield 66, 3) := by decide +kernel
theorem dX12_land_310 : decode cX12_land 310 = .ok (.iload_n 1, 1) := by decide +kernel
theorem dX12_land_311 : decode cX12_land 311 = .ok (.iaload, 1) := by decide +kernel
theorem dX12_land_312 : decode cX12_land 312 = .ok (.iastore, 1) := by decide +kernel
theorem dX12_land_313 : decode cX12_land 313 = .ok (.iinc 1 1, 3) := by decide +kernel
theorem dX12_land_316 : decode cX12_land 316 = .ok (.goto (-21), 3) := by decide +kernel
theorem dX12_land_319 : decode cX12_land 319 = .ok (.iconst 0, 1) := by decide +kernel
theorem dX12_land_320 : decode cX12_land 320 = .ok (.istore_n 1, 1) := by decide +kernel
theorem dX12_land_321 : decode cX12_land 321 = .ok (.iload_n 1, 1) := by decide +kernel
theorem dX12_land_322 : decode cX12_land 322 = .ok (.bipush 32, 2) := by decide +kernel
theorem dX12_land_324 : decode cX12_land 324 = .ok (.if_icmp .ge 16, 3) := by decide +kernel
theorem dX12_land_327 : decode cX12_land 327 = .ok (.aload_n 0, 1) := by decide +kernel
theorem dX12_land_328 : decode cX12_land 328 = .ok (.getfield 93, 3) := by decide +kernel
theorem dX12_land_331 : decode cX12_land 331 = .ok (.iload_n 1, 1) := by decide +kernel
theorem dX12_land_332 : decode cX12_land 332 = .ok (.iconst 0, 1) := by decide +kernel
theorem dX12_land_333 : decode cX12_land 333 = .ok (.iastore, 1) := by decide +kernel
theorem dX12_land_334 : decode cX12_land 334 = .ok (.iinc 1 1, 3) := by decide +kernel
theorem dX12_land_337 : decode cX12_land 337 = .ok (.goto (-16), 3) := by decide +kernel
theorem dX12_land_340 : decode cX12_land 340 = .ok (.aload_n 0, 1) := by decide +kernel
theorem dX12_land_341 : decode cX12_land 341 = .ok (.iconst 0, 1) := by decide +kernel
theorem dX12_land_342 : decode cX12_land 342 = .ok (.putfield 343, 3) := by decide +kernel
theorem dX12_land_345 : decode cX12_land 345 = .ok (.aload_n 0, 1) := by decide +kernel
theorem dX12_land_346 : decode cX12_land 346 = .ok (.iconst 0, 1) := by decide +kernel
theorem dX12_land_347 : decode cX12_land 347 = .ok (.putfield 346, 3) := by decide +kernel
theorem dX12_land_350 : decode cX12_land 350 = .ok (.aload_n 0, 1) := by decide +kernel
theorem dX12_land_351 : decode cX12_land 351 = .ok (.aload_n 0, 1) := by decide +kernel
theorem dX12_land_352 : decode cX12_land 352 = .ok (.getfield 316, 3) := by decide +kernel
theorem dX12_land_355 : decode cX12_land 355 = .ok (.ifCond .ge 9, 3) := by decide +kernel
theorem dX12_land_358 : decode cX12_land 358 = .ok (.sipush 999, 3) := by decide +kernel
theorem dX12_land_361 : decode cX12_land 361 = .ok (.goto 7, 3) := by decide +kernel
theorem dX12_land_364 : decode cX12_land 364 = .ok (.aload_n 0, 1) := by decide +kernel
theorem dX12_land_365 : decode cX12_land 365 = .ok (.getfield 316, 3) := by decide +kernel
theorem dX12_land_368 : decode cX12_land 368 = .ok (.putfield 151, 3) := by decide +kernel
theorem dX12_land_371 : decode cX12_land 371 = .ok (.aload_n 0, 1) := by decide +kernel
theorem dX12_land_372 : decode cX12_land 372 = .ok (.iconst 0, 1) := by decide +kernel
theorem dX12_land_373 : decode cX12_land 373 = .ok (.putfield 349, 3) := by decide +kernel
theorem dX12_land_376 : decode cX12_land 376 = .ok (.aload_n 0, 1) := by decide +kernel
theorem dX12_land_377 : decode cX12_land 377 = .ok (.iconst 0, 1) := by decide +kernel
theorem dX12_land_378 : decode cX12_land 378 = .ok (.putfield 352, 3) := by decide +kernel
theorem dX12_land_381 : decode cX12_land 381 = .ok (.iconst 0, 1) := by decide +kernel
theorem dX12_land_382 : decode cX12_land 382 = .ok (.istore_n 1, 1) := by decide +kernel
theorem dX12_land_383 : decode cX12_land 383 = .ok (.iload_n 1, 1) := by decide +kernel
theorem dX12_land_384 : decode cX12_land 384 = .ok (.iconst 3, 1) := by decide +kernel
theorem dX12_land_385 : decode cX12_land 385 = .ok (.if_icmp .ge 16, 3) := by decide +kernel
theorem dX12_land_388 : decode cX12_land 388 = .ok (.aload_n 0, 1) := by decide +kernel
theorem dX12_land_389 : decode cX12_land 389 = .ok (.getfield 139, 3) := by decide +kernel
theorem dX12_land_392 : decode cX12_land 392 = .ok (.iload_n 1, 1) := by decide +kernel
theorem dX12_land_393 : decode cX12_land 393 = .ok (.iconst 0, 1) := by decide +kernel
theorem dX12_land_394 : decode cX12_land 394 = .ok (.bastore, 1) := by decide +kernel
theorem dX12_land_395 : decode cX12_land 395 = .ok (.iinc 1 1, 3) := by decide +kernel
theorem dX12_land_398 : decode cX12_land 398 = .ok (.goto (-15), 3) := by decide +kernel
theorem dX12_land_401 : decode cX12_land 401 = .ok (.aload_n 0, 1) := by decide +kernel
theorem dX12_land_402 : decode cX12_land 402 = .ok (.getfield 325, 3) := by decide +kernel
theorem dX12_land_405 : decode cX12_land 405 = .ok (.ireturn, 1) := by decide +kernel
theorem dX12_fault_0 : decode cX12_fault 0 = .ok (.iload_n 1, 1) := by decide +kernel
theorem dX12_fault_1 : decode cX12_fault 1 = .ok (.ifCond .ne 10, 3) := by decide +kernel
theorem dX12_fault_4 : decode cX12_fault 4 = .ok (.aload_n 0, 1) := by decide +kernel
theorem dX12_fault_5 : decode cX12_fault 5 = .ok (.getfield 194, 3) := by decide +kernel
theorem dX12_fault_8 : decode cX12_fault 8 = .ok (.goto 16, 3) := by decide +kernel
theorem dX12_fault_11 : decode cX12_fault 11 = .ok (.iload_n 1, 1) := by decide +kernel
theorem dX12_fault_12 : decode cX12_fault 12 = .ok (.iconst 1, 1) := by decide +kernel
theorem dX12_fault_13 : decode cX12_fault 13 = .ok (.if_icmp .ne 10, 3) := by decide +kernel
theorem dX12_fault_16 : decode cX12_fault 16 = .ok (.aload_n 0, 1) := by decide +kernel
theorem dX12_fault_17 : decode cX12_fault 17 = .ok (.getfield 13, 3) := by decide +kernel
theorem dX12_fault_20 : decode cX12_fault 20 = .ok (.goto 4, 3) := by decide +kernel
theorem dX12_fault_23 : decode cX12_fault 23 = .ok (.iconst (-1), 1) := by decide +kernel
theorem dX12_fault_24 : decode cX12_fault 24 = .ok (.ireturn, 1) := by decide +kernel
theorem dX12_isIn_0 : decode cX12_isIn 0 = .ok (.iload_n 0, 1) := by decide +kernel
theorem dX12_isIn_1 : decode cX12_isIn 1 = .ok (.iload_n 1, 1) := by decide +kernel
theorem dX12_isIn_2 : decode cX12_isIn 2 = .ok (.if_icmp .lt 12, 3) := by decide +kernel
theorem dX12_isIn_5 : decode cX12_isIn 5 = .ok (.iload_n 0, 1) := by decide +kernel
theorem dX12_isIn_6 : decode cX12_isIn 6 = .ok (.iload_n 2, 1) := by decide +kernel
theorem dX12_isIn_7 : decode cX12_isIn 7 = .ok (.if_icmp .gt 7, 3) := by decide +kernel
theorem dX12_isIn_10 : decode cX12_isIn 10 = .ok (.iconst 1, 1) := by decide +kernel
theorem dX12_isIn_11 : decode cX12_isIn 11 = .ok (.goto 4, 3) := by decide +kernel
theorem dX12_isIn_14 : decode cX12_isIn 14 = .ok (.iconst 0, 1) := by decide +kernel
theorem dX12_isIn_15 : decode cX12_isIn 15 = .ok (.ireturn, 1) := by decide +kernel
theorem dX12_isYard_0 : decode cX12_isYard 0 = .ok (.iload_n 1, 1) := by decide +kernel
theorem dX12_isYard_1 : decode cX12_isYard 1 = .ok (.iconst 0, 1) := by decide +kernel
theorem dX12_isYard_2 : decode cX12_isYard 2 = .ok (.aload_n 0, 1) := by decide +kernel
theorem dX12_isYard_3 : decode cX12_isYard 3 = .ok (.getfield 325, 3) := by decide +kernel
theorem dX12_isYard_6 : decode cX12_isYard 6 = .ok (.iconst 1, 1) := by decide +kernel
theorem dX12_isYard_7 : decode cX12_isYard 7 = .ok (.isub, 1) := by decide +kernel
theorem dX12_isYard_8 : decode cX12_isYard 8 = .ok (.invokestatic 355, 3) := by decide +kernel
theorem dX12_isYard_11 : decode cX12_isYard 11 = .ok (.ireturn, 1) := by decide +kernel
theorem dX12_bring_0 : decode cX12_bring 0 = .ok (.iconst 0, 1) := by decide +kernel
theorem dX12_bring_1 : decode cX12_bring 1 = .ok (.istore_n 2, 1) := by decide +kernel
theorem dX12_bring_2 : decode cX12_bring 2 = .ok (.iload_n 2, 1) := by decide +kernel
theorem dX12_bring_3 : decode cX12_bring 3 = .ok (.iconst 5, 1) := by decide +kernel
theorem dX12_bring_4 : decode cX12_bring 4 = .ok (.if_icmp .ge 25, 3) := by decide +kernel
theorem dX12_bring_7 : decode cX12_bring 7 = .ok (.aload_n 0, 1) := by decide +kernel
theorem dX12_bring_8 : decode cX12_bring 8 = .ok (.getfield 87, 3) := by decide +kernel
theorem dX12_bring_11 : decode cX12_bring 11 = .ok (.iload_n 2, 1) := by decide +kernel
theorem dX12_bring_12 : decode cX12_bring 12 = .ok (.aload_n 0, 1) := by decide +kernel
theorem dX12_bring_13 : decode cX12_bring 13 = .ok (.getfield 90, 3) := by decide +kernel
theorem dX12_bring_16 : decode cX12_bring 16 = .ok (.iconst 5, 1) := by decide +kernel
theorem dX12_bring_17 : decode cX12_bring 17 = .ok (.iload_n 1, 1) := by decide +kernel
theorem dX12_bring_18 : decode cX12_bring 18 = .ok (.imul, 1) := by decide +kernel
theorem dX12_bring_19 : decode cX12_bring 19 = .ok (.iload_n 2, 1) := by decide +kernel
theorem dX12_bring_20 : decode cX12_bring 20 = .ok (.iadd, 1) := by decide +kernel
theorem dX12_bring_21 : decode cX12_bring 21 = .ok (.iaload, 1) := by decide +kernel
theorem dX12_bring_22 : decode cX12_bring 22 = .ok (.iastore, 1) := by decide +kernel
theorem dX12_bring_23 : decode cX12_bring 23 = .ok (.iinc 2 1, 3) := by decide +kernel
theorem dX12_bring_26 : decode cX12_bring 26 = .ok (.goto (-24), 3) := by decide +kernel
theorem dX12_bring_29 : decode cX12_bring 29 = .ok (.aload_n 0, 1) := by decide +kernel
theorem dX12_bring_30 : decode cX12_bring 30 = .ok (.aload_n 0, 1) := by decide +kernel
theorem dX12_bring_31 : decode cX12_bring 31 = .ok (.getfield 93, 3) := by decide +kernel
theorem dX12_bring_34 : decode cX12_bring 34 = .ok (.iconst 4, 1) := by decide +kernel
theorem dX12_bring_35 : decode cX12_bring 35 = .ok (.iload_n 1, 1) := by decide +kernel
theorem dX12_bring_36 : decode cX12_bring 36 = .ok (.imul, 1) := by decide +kernel
theorem dX12_bring_37 : decode cX12_bring 37 = .ok (.iconst 0, 1) := by decide +kernel
theorem dX12_bring_38 : decode cX12_bring 38 = .ok (.iadd, 1) := by decide +kernel
theorem dX12_bring_39 : decode cX12_bring 39 = .ok (.iaload, 1) := by decide +kernel
theorem dX12_bring_40 : decode cX12_bring 40 = .ok (.putfield 359, 3) := by decide +kernel
theorem dX12_bring_43 : decode cX12_bring 43 = .ok (.aload_n 0, 1) := by decide +kernel
theorem dX12_bring_44 : decode cX12_bring 44 = .ok (.aload_n 0, 1) := by decide +kernel
theorem dX12_bring_45 : decode cX12_bring 45 = .ok (.getfield 93, 3) := by decide +kernel
theorem dX12_bring_48 : decode cX12_bring 48 = .ok (.iconst 4, 1) := by decide +kernel
theorem dX12_bring_49 : decode cX12_bring 49 = .ok (.iload_n 1, 1) := by decide +kernel
theorem dX12_bring_50 : decode cX12_bring 50 = .ok (.imul, 1) := by decide +kernel
theorem dX12_bring_51 : decode cX12_bring 51 = .ok (.iconst 1, 1) := by decide +kernel
theorem dX12_bring_52 : decode cX12_bring 52 = .ok (.iadd, 1) := by decide +kernel
theorem dX12_bring_53 : decode cX12_bring 53 = .ok (.iaload, 1) := by decide +kernel
theorem dX12_bring_54 : decode cX12_bring 54 = .ok (.putfield 362, 3) := by decide +kernel
theorem dX12_bring_57 : decode cX12_bring 57 = .ok (.aload_n 0, 1) := by decide +kernel
theorem dX12_bring_58 : decode cX12_bring 58 = .ok (.aload_n 0, 1) := by decide +kernel
theorem dX12_bring_59 : decode cX12_bring 59 = .ok (.getfield 93, 3) := by decide +kernel
theorem dX12_bring_62 : decode cX12_bring 62 = .ok (.iconst 4, 1) := by decide +kernel
theorem dX12_bring_63 : decode cX12_bring 63 = .ok (.iload_n 1, 1) := by decide +kernel
theorem dX12_bring_64 : decode cX12_bring 64 = .ok (.imul, 1) := by decide +kernel
theorem dX12_bring_65 : decode cX12_bring 65 = .ok (.iconst 2, 1) := by decide +kernel
theorem dX12_bring_66 : decode cX12_bring 66 = .ok (.iadd, 1) := by decide +kernel
theorem dX12_bring_67 : decode cX12_bring 67 = .ok (.iaload, 1) := by decide +kernel
theorem dX12_bring_68 : decode cX12_bring 68 = .ok (.putfield 365, 3) := by decide +kernel
theorem dX12_bring_71 : decode cX12_bring 71 = .ok (.aload_n 0, 1) := by decide +kernel
theorem dX12_bring_72 : decode cX12_bring 72 = .ok (.aload_n 0, 1) := by decide +kernel
theorem dX12_bring_73 : decode cX12_bring 73 = .ok (.getfield 93, 3) := by decide +kernel
theorem dX12_bring_76 : decode cX12_bring 76 = .ok (.iconst 4, 1) := by decide +kernel
theorem dX12_bring_77 : decode cX12_bring 77 = .ok (.iload_n 1, 1) := by decide +kernel
theorem dX12_bring_78 : decode cX12_bring 78 = .ok (.imul, 1) := by decide +kernel
theorem dX12_bring_79 : decode cX12_bring 79 = .ok (.iconst 3, 1) := by decide +kernel
theorem dX12_bring_80 : decode cX12_bring 80 = .ok (.iadd, 1) := by decide +kernel
theorem dX12_bring_81 : decode cX12_bring 81 = .ok (.iaload, 1) := by decide +kernel
theorem dX12_bring_82 : decode cX12_bring 82 = .ok (.putfield 368, 3) := by decide +kernel
theorem dX12_bring_85 : decode cX12_bring 85 = .ok (.return_, 1) := by decide +kernel
theorem dX12_takeBack_0 : decode cX12_takeBack 0 = .ok (.iconst 0, 1) := by decide +kernel
theorem dX12_takeBack_1 : decode cX12_takeBack 1 = .ok (.istore_n 2, 1) := by decide +kernel
theorem dX12_takeBack_2 : decode cX12_takeBack 2 = .ok (.iload_n 2, 1) := by decide +kernel
theorem dX12_takeBack_3 : decode cX12_takeBack 3 = .ok (.iconst 5, 1) := by decide +kernel
theorem dX12_takeBack_4 : decode cX12_takeBack 4 = .ok (.if_icmp .ge 25, 3) := by decide +kernel
theorem dX12_takeBack_7 : decode cX12_takeBack 7 = .ok (.aload_n 0, 1) := by decide +kernel
theorem dX12_takeBack_8 : decode cX12_takeBack 8 = .ok (.getfield 90, 3) := by decide +kernel
theorem dX12_takeBack_11 : decode cX12_takeBack 11 = .ok (.iconst 5, 1) := by decide +kernel
theorem dX12_takeBack_12 : decode cX12_takeBack 12 = .ok (.iload_n 1, 1) := by decide +kernel
theorem dX12_takeBack_13 : decode cX12_takeBack 13 = .ok (.imul, 1) := by decide +kernel
theorem dX12_takeBack_14 : decode cX12_takeBack 14 = .ok (.iload_n 2, 1) := by decide +kernel
theorem dX12_takeBack_15 : decode cX12_takeBack 15 = .ok (.iadd, 1) := by decide +kernel
theorem dX12_takeBack_16 : decode cX12_takeBack 16 = .ok (.aload_n 0, 1) := by decide +kernel
theorem dX12_takeBack_17 : decode cX12_takeBack 17 = .ok (.getfield 87, 3) := by decide +kernel
theorem dX12_takeBack_20 : decode cX12_takeBack 20 = .ok (.iload_n 2, 1) := by decide +kernel
theorem dX12_takeBack_21 : decode cX12_takeBack 21 = .ok (.iaload, 1) := by decide +kernel
theorem dX12_takeBack_22 : decode cX12_takeBack 22 = .ok (.iastore, 1) := by decide +kernel
theorem dX12_takeBack_23 : decode cX12_takeBack 23 = .ok (.iinc 2 1, 3) := by decide +kernel
theorem dX12_takeBack_26 : decode cX12_takeBack 26 = .ok (.goto (-24), 3) := by decide +kernel
theorem dX12_takeBack_29 : decode cX12_takeBack 29 = .ok (.aload_n 0, 1) := by decide +kernel
theorem dX12_takeBack_30 : decode cX12_takeBack 30 = .ok (.getfield 93, 3) := by decide +kernel
theorem dX12_takeBack_33 : decode cX12_takeBack 33 = .ok (.iconst 4, 1) := by decide +kernel
theorem dX12_takeBack_34 : decode cX12_takeBack 34 = .ok (.iload_n 1, 1) := by decide +kernel
theorem dX12_takeBack_35 : decode cX12_takeBack 35 = .ok (.imul, 1) := by decide +kernel
theorem dX12_takeBack_36 : decode cX12_takeBack 36 = .ok (.iconst 0, 1) := by decide +kernel
theorem dX12_takeBack_37 : decode cX12_takeBack 37 = .ok (.iadd, 1) := by decide +kernel
theorem dX12_takeBack_38 : decode cX12_takeBack 38 = .ok (.aload_n 0, 1) := by decide +kernel
theorem dX12_takeBack_39 : decode cX12_takeBack 39 = .ok (.getfield 359, 3) := by decide +kernel
theorem dX12_takeBack_42 : decode cX12_takeBack 42 = .ok (.iastore, 1) := by decide +kernel
theorem dX12_takeBack_43 : decode cX12_takeBack 43 = .ok (.aload_n 0, 1) := by decide +kernel
theorem dX12_takeBack_44 : decode cX12_takeBack 44 = .ok (.getfield 93, 3) := by decide +kernel
theorem dX12_takeBack_47 : decode cX12_takeBack 47 = .ok (.iconst 4, 1) := by decide +kernel
theorem dX12_takeBack_48 : decode cX12_takeBack 48 = .ok (.iload_n 1, 1) := by decide +kernel
theorem dX12_takeBack_49 : decode cX12_takeBack 49 = .ok (.imul, 1) := by decide +kernel
theorem dX12_takeBack_50 : decode cX12_takeBack 50 = .ok (.iconst 1, 1) := by decide +kernel
theorem dX12_takeBack_51 : decode cX12_takeBack 51 = .ok (.iadd, 1) := by decide +kernel
theorem dX12_takeBack_52 : decode cX12_takeBack 52 = .ok (.aload_n 0, 1) := by decide +kernel
theorem dX12_takeBack_53 : decode cX12_takeBack 53 = .ok (.getfield 362, 3) := by decide +kernel
theorem dX12_takeBack_56 : decode cX12_takeBack 56 = .ok (.iastore, 1) := by decide +kernel
theorem dX12_takeBack_57 : decode cX12_takeBack 57 = .ok (.aload_n 0, 1) := by decide +kernel
theorem dX12_takeBack_58 : decode cX12_takeBack 58 = .ok (.getfield 93, 3) := by decide +kernel
theorem dX12_takeBack_61 : decode cX12_takeBack 61 = .ok (.iconst 4, 1) := by decide +kernel
theorem dX12_takeBack_62 : decode cX12_takeBack 62 = .ok (.iload_n 1, 1) := by decide +kernel
theorem dX12_takeBack_63 : decode cX12_takeBack 63 = .ok (.imul, 1) := by decide +kernel
theorem dX12_takeBack_64 : decode cX12_takeBack 64 = .ok (.iconst 2, 1) := by decide +kernel
theorem dX12_takeBack_65 : decode cX12_takeBack 65 = .ok (.iadd, 1) := by decide +kernel
theorem dX12_takeBack_66 : decode cX12_takeBack 66 = .ok (.aload_n 0, 1) := by decide +kernel
theorem dX12_takeBack_67 : decode cX12_takeBack 67 = .ok (.getfield 365, 3) := by decide +kernel
theorem dX12_takeBack_70 : decode cX12_takeBack 70 = .ok (.iastore, 1) := by decide +kernel
theorem dX12_takeBack_71 : decode cX12_takeBack 71 = .ok (.aload_n 0, 1) := by decide +kernel
theorem dX12_takeBack_72 : decode cX12_takeBack 72 = .ok (.getfield 93, 3) := by decide +kernel
theorem dX12_takeBack_75 : decode cX12_takeBack 75 = .ok (.iconst 4, 1) := by decide +kernel
theorem dX12_takeBack_76 : decode cX12_takeBack 76 = .ok (.iload_n 1, 1) := by decide +kernel
theorem dX12_takeBack_77 : decode cX12_takeBack 77 = .ok (.imul, 1) := by decide +kernel
theorem dX12_takeBack_78 : decode cX12_takeBack 78 = .ok (.iconst 3, 1) := by decide +kernel
theorem dX12_takeBack_79 : decode cX12_takeBack 79 = .ok (.iadd, 1) := by decide +kernel
theorem dX12_takeBack_80 : decode cX12_takeBack 80 = .ok (.aload_n 0, 1) := by decide +kernel
theorem dX12_takeBack_81 : decode cX12_takeBack 81 = .ok (.getfield 368, 3) := by decide +kernel
theorem dX12_takeBack_84 : decode cX12_takeBack 84 = .ok (.iastore, 1) := by decide +kernel
theorem dX12_takeBack_85 : decode cX12_takeBack 85 = .ok (.return_, 1) := by decide +kernel
theorem dX12_beginYard_0 : decode cX12_beginYard 0 = .ok (.iconst 0, 1) := by decide +kernel
theorem dX12_beginYard_1 : decode cX12_beginYard 1 = .ok (.istore_n 2, 1) := by decide +kernel
theorem dX12_beginYard_2 : decode cX12_beginYard 2 = .ok (.iload_n 2, 1) := by decide +kernel
theorem dX12_beginYard_3 : decode cX12_beginYard 3 = .ok (.iconst 5, 1) := by decide +kernel
theorem dX12_beginYard_4 : decode cX12_beginYard 4 = .ok (.if_icmp .ge 25, 3) := by decide +kernel
theorem dX12_beginYard_7 : decode cX12_beginYard 7 = .ok (.aload_n 0, 1) := by decide +kernel
theorem dX12_beginYard_8 : decode cX12_beginYard 8 = .ok (.getfield 87, 3) := by decide +kernel
theorem dX12_beginYard_11 : decode cX12_beginYard 11 = .ok (.iload_n 2, 1) := by decide +kernel
theorem dX12_beginYard_12 : decode cX12_beginYard 12 = .ok (.aload_n 0, 1) := by decide +kernel
theorem dX12_beginYard_13 : decode cX12_beginYard 13 = .ok (.getfield 66, 3) := by decide +kernel
theorem dX12_beginYard_16 : decode cX12_beginYard 16 = .ok (.iconst 5, 1) := by decide +kernel
theorem dX12_beginYard_17 : decode cX12_beginYard 17 = .ok (.iload_n 1, 1) := by decide +kernel
theorem dX12_beginYard_18 : decode cX12_beginYard 18 = .ok (.imul, 1) := by decide +kernel
theorem dX12_beginYard_19 : decode cX12_beginYard 19 = .ok (.iload_n 2, 1) := by decide +kernel
theorem dX12_beginYard_20 : decode cX12_beginYard 20 = .ok (.iadd, 1) := by decide +kernel
theorem dX12_beginYard_21 : decode cX12_beginYard 21 = .ok (.iaload, 1) := by decide +kernel
theorem dX12_beginYard_22 : decode cX12_beginYard 22 = .ok (.iastore, 1) := by decide +kernel
theorem dX12_beginYard_23 : decode cX12_beginYard 23 = .ok (.iinc 2 1, 3) := by decide +kernel
theorem dX12_beginYard_26 : decode cX12_beginYard 26 = .ok (.goto (-24), 3) := by decide +kernel
theorem dX12_beginYard_29 : decode cX12_beginYard 29 = .ok (.aload_n 0, 1) := by decide +kernel
theorem dX12_beginYard_30 : decode cX12_beginYard 30 = .ok (.iconst 0, 1) := by decide +kernel
theorem dX12_beginYard_31 : decode cX12_beginYard 31 = .ok (.putfield 359, 3) := by decide +kernel
theorem dX12_beginYard_34 : decode cX12_beginYard 34 = .ok (.aload_n 0, 1) := by decide +kernel
theorem dX12_beginYard_35 : decode cX12_beginYard 35 = .ok (.iconst 0, 1) := by decide +kernel
theorem dX12_beginYard_36 : decode cX12_beginYard 36 = .ok (.putfield 362, 3) := by decide +kernel
theorem dX12_beginYard_39 : decode cX12_beginYard 39 = .ok (.aload_n 0, 1) := by decide +kernel
theorem dX12_beginYard_40 : decode cX12_beginYard 40 = .ok (.iconst 0, 1) := by decide +kernel
theorem dX12_beginYard_41 : decode cX12_beginYard 41 = .ok (.putfield 365, 3) := by decide +kernel
theorem dX12_beginYard_44 : decode cX12_beginYard 44 = .ok (.aload_n 0, 1) := by decide +kernel
theorem dX12_beginYard_45 : decode cX12_beginYard 45 = .ok (.iconst 0, 1) := by decide +kernel
theorem dX12_beginYard_46 : decode cX12_beginYard 46 = .ok (.putfield 368, 3) := by decide +kernel
theorem dX12_beginYard_49 : decode cX12_beginYard 49 = .ok (.return_, 1) := by decide +kernel
theorem dX12_lesser_0 : decode cX12_lesser 0 = .ok (.iload_n 0, 1) := by decide +kernel
theorem dX12_lesser_1 : decode cX12_lesser 1 = .ok (.iload_n 1, 1) := by decide +kernel
theorem dX12_lesser_2 : decode cX12_lesser 2 = .ok (.if_icmp .ge 7, 3) := by decide +kernel
theorem dX12_lesser_5 : decode cX12_lesser 5 = .ok (.iload_n 0, 1) := by decide +kernel
theorem dX12_lesser_6 : decode cX12_lesser 6 = .ok (.goto 4, 3) := by decide +kernel
theorem dX12_lesser_9 : decode cX12_lesser 9 = .ok (.iload_n 1, 1) := by decide +kernel
theorem dX12_lesser_10 : decode cX12_lesser 10 = .ok (.ireturn, 1) := by decide +kernel
theorem dX12_goOn_0 : decode cX12_goOn 0 = .ok (.iload_n 2, 1) := by decide +kernel
theorem dX12_goOn_1 : decode cX12_goOn 1 = .ok (.bipush 6, 2) := by decide +kernel
theorem dX12_goOn_3 : decode cX12_goOn 3 = .ok (.idiv, 1) := by decide +kernel
theorem dX12_goOn_4 : decode cX12_goOn 4 = .ok (.aload_n 0, 1) := by decide +kernel
theorem dX12_goOn_5 : decode cX12_goOn 5 = .ok (.getfield 331, 3) := by decide +kernel
theorem dX12_goOn_8 : decode cX12_goOn 8 = .ok (.iconst 1, 1) := by decide +kernel
theorem dX12_goOn_9 : decode cX12_goOn 9 = .ok (.isub, 1) := by decide +kernel
theorem dX12_goOn_10 : decode cX12_goOn 10 = .ok (.invokestatic 371, 3) := by decide +kernel
theorem dX12_goOn_13 : decode cX12_goOn 13 = .ok (.istore 4, 2) := by decide +kernel
theorem dX12_goOn_15 : decode cX12_goOn 15 = .ok (.aload_n 0, 1) := by decide +kernel
theorem dX12_goOn_16 : decode cX12_goOn 16 = .ok (.getfield 331, 3) := by decide +kernel
theorem dX12_goOn_19 : decode cX12_goOn 19 = .ok (.ifCond .ne 7, 3) := by decide +kernel
theorem dX12_goOn_22 : decode cX12_goOn 22 = .ok (.iconst 0, 1) := by decide +kernel
theorem dX12_goOn_23 : decode cX12_goOn 23 = .ok (.goto 10, 3) := by decide +kernel
theorem dX12_goOn_26 : decode cX12_goOn 26 = .ok (.aload_n 0, 1) := by decide +kernel
theorem dX12_goOn_27 : decode cX12_goOn 27 = .ok (.getfield 75, 3) := by decide +kernel
theorem dX12_goOn_30 : decode cX12_goOn 30 = .ok (.iload 4, 2) := by decide +kernel
theorem dX12_goOn_32 : decode cX12_goOn 32 = .ok (.iaload, 1) := by decide +kernel
theorem dX12_goOn_33 : decode cX12_goOn 33 = .ok (.iload_n 3, 1) := by decide +kernel
theorem dX12_goOn_34 : decode cX12_goOn 34 = .ok (.iadd, 1) := by decide +kernel
theorem dX12_goOn_35 : decode cX12_goOn 35 = .ok (.istore 5, 2) := by decide +kernel
theorem dX12_goOn_37 : decode cX12_goOn 37 = .ok (.aload_n 0, 1) := by decide +kernel
theorem dX12_goOn_38 : decode cX12_goOn 38 = .ok (.getfield 331, 3) := by decide +kernel
theorem dX12_goOn_41 : decode cX12_goOn 41 = .ok (.ifCond .ne 7, 3) := by decide +kernel
theorem dX12_goOn_44 : decode cX12_goOn 44 = .ok (.iconst 0, 1) := by decide +kernel
theorem dX12_goOn_45 : decode cX12_goOn 45 = .ok (.goto 10, 3) := by decide +kernel
theorem dX12_goOn_48 : decode cX12_goOn 48 = .ok (.aload_n 0, 1) := by decide +kernel
theorem dX12_goOn_49 : decode cX12_goOn 49 = .ok (.getfield 72, 3) := by decide +kernel
theorem dX12_goOn_52 : decode cX12_goOn 52 = .ok (.iload 4, 2) := by decide +kernel
theorem dX12_goOn_54 : decode cX12_goOn 54 = .ok (.iaload, 1) := by decide +kernel
theorem dX12_goOn_55 : decode cX12_goOn 55 = .ok (.istore 6, 2) := by decide +kernel
theorem dX12_goOn_57 : decode cX12_goOn 57 = .ok (.aload_n 0, 1) := by decide +kernel
theorem dX12_goOn_58 : decode cX12_goOn 58 = .ok (.getfield 331, 3) := by decide +kernel
theorem dX12_goOn_61 : decode cX12_goOn 61 = .ok (.ifCond .ne 7, 3) := by decide +kernel
theorem dX12_goOn_64 : decode cX12_goOn 64 = .ok (.iconst 0, 1) := by decide +kernel
theorem dX12_goOn_65 : decode cX12_goOn 65 = .ok (.goto 16, 3) := by decide +kernel
theorem dX12_goOn_68 : decode cX12_goOn 68 = .ok (.iload 6, 2) := by decide +kernel
theorem dX12_goOn_70 : decode cX12_goOn 70 = .ok (.aload_n 0, 1) := by decide +kernel
theorem dX12_goOn_71 : decode cX12_goOn 71 = .ok (.getfield 78, 3) := by decide +kernel
theorem dX12_goOn_74 : decode cX12_goOn 74 = .ok (.iload 4, 2) := by decide +kernel
theorem dX12_goOn_76 : decode cX12_goOn 76 = .ok (.iaload, 1) := by decide +kernel
theorem dX12_goOn_77 : decode cX12_goOn 77 = .ok (.imul, 1) := by decide +kernel
theorem dX12_goOn_78 : decode cX12_goOn 78 = .ok (.bipush 10, 2) := by decide +kernel
theorem dX12_goOn_80 : decode cX12_goOn 80 = .ok (.idiv, 1) := by decide +kernel
theorem dX12_goOn_81 : decode cX12_goOn 81 = .ok (.istore 7, 2) := by decide +kernel
theorem dX12_goOn_83 : decode cX12_goOn 83 = .ok (.aload_n 0, 1) := by decide +kernel
theorem dX12_goOn_84 : decode cX12_goOn 84 = .ok (.getfield 54, 3) := by decide +kernel
theorem dX12_goOn_87 : decode cX12_goOn 87 = .ok (.iload_n 1, 1) := by decide +kernel
theorem dX12_goOn_88 : decode cX12_goOn 88 = .ok (.iaload, 1) := by decide +kernel
theorem dX12_goOn_89 : decode cX12_goOn 89 = .ok (.istore 8, 2) := by decide +kernel
theorem dX12_goOn_91 : decode cX12_goOn 91 = .ok (.aload_n 0, 1) := by decide +kernel
theorem dX12_goOn_92 : decode cX12_goOn 92 = .ok (.getfield 63, 3) := by decide +kernel
theorem dX12_goOn_95 : decode cX12_goOn 95 = .ok (.iload_n 1, 1) := by decide +kernel
theorem dX12_goOn_96 : decode cX12_goOn 96 = .ok (.iaload, 1) := by decide +kernel
theorem dX12_goOn_97 : decode cX12_goOn 97 = .ok (.istore 9, 2) := by decide +kernel
theorem dX12_goOn_99 : decode cX12_goOn 99 = .ok (.aload_n 0, 1) := by decide +kernel
theorem dX12_goOn_100 : decode cX12_goOn 100 = .ok (.getfield 87, 3) := by decide +kernel
theorem dX12_goOn_103 : decode cX12_goOn 103 = .ok (.iconst 0, 1) := by decide +kernel
theorem dX12_goOn_104 : decode cX12_goOn 104 = .ok (.dup2, 1) := by decide +kernel
theorem dX12_goOn_105 : decode cX12_goOn 105 = .ok (.iaload, 1) := by decide +kernel
theorem dX12_goOn_106 : decode cX12_goOn 106 = .ok (.iload 5, 2) := by decide +kernel
theorem dX12_goOn_108 : decode cX12_goOn 108 = .ok (.aload_n 0, 1) := by decide +kernel
theorem dX12_goOn_109 : decode cX12_goOn 109 = .ok (.getfield 87, 3) := by decide +kernel
theorem dX12_goOn_112 : decode cX12_goOn 112 = .ok (.iconst 0, 1) := by decide +kernel
theorem dX12_goOn_113 : decode cX12_goOn 113 = .ok (.iaload, 1) := by decide +kernel
theorem dX12_goOn_114 : decode cX12_goOn 114 = .ok (.isub, 1) := by decide +kernel
theorem dX12_goOn_115 : decode cX12_goOn 115 = .ok (.iload 8, 2) := by decide +kernel
theorem dX12_goOn_117 : decode cX12_goOn 117 = .ok (.ifCond .ne 7, 3) := by decide +kernel
theorem dX12_goOn_120 : decode cX12_goOn 120 = .ok (.iconst 2, 1) := by decide +kernel
theorem dX12_goOn_121 : decode cX12_goOn 121 = .ok (.goto 14, 3) := by decide +kernel
theorem dX12_goOn_124 : decode cX12_goOn 124 = .ok (.iload 8, 2) := by decide +kernel
theorem dX12_goOn_126 : decode cX12_goOn 126 = .ok (.iconst 3, 1) := by decide +kernel
theorem dX12_goOn_127 : decode cX12_goOn 127 = .ok (.if_icmp .ne 7, 3) := by decide +kernel
theorem dX12_goOn_130 : decode cX12_goOn 130 = .ok (.iconst 3, 1) := by decide +kernel
theorem dX12_goOn_131 : decode cX12_goOn 131 = .ok (.goto 4, 3) := by decide +kernel
theorem dX12_goOn_134 : decode cX12_goOn 134 = .ok (.iconst 4, 1) := by decide +kernel
theorem dX12_goOn_135 : decode cX12_goOn 135 = .ok (.idiv, 1) := by decide +kernel
theorem dX12_goOn_136 : decode cX12_goOn 136 = .ok (.iadd, 1) := by decide +kernel
theorem dX12_goOn_137 : decode cX12_goOn 137 = .ok (.iastore, 1) := by decide +kernel
theorem dX12_goOn_138 : decode cX12_goOn 138 = .ok (.iload 8, 2) := by decide +kernel
theorem dX12_goOn_140 : decode cX12_goOn 140 = .ok (.iconst 2, 1) := by decide +kernel
theorem dX12_goOn_141 : decode cX12_goOn 141 = .ok (.if_icmp .ne 35, 3) := by decide +kernel
theorem dX12_goOn_144 : decode cX12_goOn 144 = .ok (.iload 9, 2) := by decide +kernel
theorem dX12_goOn_146 : decode cX12_goOn 146 = .ok (.iconst 1, 1) := by decide +kernel
theorem dX12_goOn_147 : decode cX12_goOn 147 = .ok (.if_icmp .le 29, 3) := by decide +kernel
theorem dX12_goOn_150 : decode cX12_goOn 150 = .ok (.aload_n 0, 1) := by decide +kernel
theorem dX12_goOn_151 : decode cX12_goOn 151 = .ok (.getfield 87, 3) := by decide +kernel
theorem dX12_goOn_154 : decode cX12_goOn 154 = .ok (.iload 9, 2) := by decide +kernel
theorem dX12_goOn_156 : decode cX12_goOn 156 = .ok (.iconst 1, 1) := by decide +kernel
theorem dX12_goOn_157 : decode cX12_goOn 157 = .ok (.isub, 1) := by decide +kernel
theorem dX12_goOn_158 : decode cX12_goOn 158 = .ok (.dup2, 1) := by decide +kernel
theorem dX12_goOn_159 : decode cX12_goOn 159 = .ok (.iaload, 1) := by decide +kernel
theorem dX12_goOn_160 : decode cX12_goOn 160 = .ok (.iload 5, 2) := by decide +kernel
theorem dX12_goOn_162 : decode cX12_goOn 162 = .ok (.aload_n 0, 1) := by decide +kernel
theorem dX12_goOn_163 : decode cX12_goOn 163 = .ok (.getfield 87, 3) := by decide +kernel
theorem dX12_goOn_166 : decode cX12_goOn 166 = .ok (.iload 9, 2) := by decide +kernel
theorem dX12_goOn_168 : decode cX12_goOn 168 = .ok (.iconst 1, 1) := by decide +kernel
theorem dX12_goOn_169 : decode cX12_goOn 169 = .ok (.isub, 1) := by decide +kernel
theorem dX12_goOn_170 : decode cX12_goOn 170 = .ok (.iaload, 1) := by decide +kernel
theorem dX12_goOn_171 : decode cX12_goOn 171 = .ok (.isub, 1) := by decide +kernel
theorem dX12_goOn_172 : decode cX12_goOn 172 = .ok (.iconst 4, 1) := by decide +kernel
theorem dX12_goOn_173 : decode cX12_goOn 173 = .ok (.idiv, 1) := by decide +kernel
theorem dX12_goOn_174 : decode cX12_goOn 174 = .ok (.iadd, 1) := by decide +kernel
theorem dX12_goOn_175 : decode cX12_goOn 175 = .ok (.iastore, 1) := by decide +kernel
theorem dX12_goOn_176 : decode cX12_goOn 176 = .ok (.iconst 0, 1) := by decide +kernel
theorem dX12_goOn_177 : decode cX12_goOn 177 = .ok (.istore 10, 2) := by decide +kernel
theorem dX12_goOn_179 : decode cX12_goOn 179 = .ok (.iload 10, 2) := by decide +kernel
theorem dX12_goOn_181 : decode cX12_goOn 181 = .ok (.iload 9, 2) := by decide +kernel
theorem dX12_goOn_183 : decode cX12_goOn 183 = .ok (.iconst 1, 1) := by decide +kernel
theorem dX12_goOn_184 : decode cX12_goOn 184 = .ok (.isub, 1) := by decide +kernel
theorem dX12_goOn_185 : decode cX12_goOn 185 = .ok (.if_icmp .ge 56, 3) := by decide +kernel
theorem dX12_goOn_188 : decode cX12_goOn 188 = .ok (.aload_n 0, 1) := by decide +kernel
theorem dX12_goOn_189 : decode cX12_goOn 189 = .ok (.getfield 87, 3) := by decide +kernel
theorem dX12_goOn_192 : decode cX12_goOn 192 = .ok (.iload 10, 2) := by decide +kernel
theorem dX12_goOn_194 : decode cX12_goOn 194 = .ok (.iconst 1, 1) := by decide +kernel
theorem dX12_goOn_195 : decode cX12_goOn 195 = .ok (.iadd, 1) := by decide +kernel
theorem dX12_goOn_196 : decode cX12_goOn 196 = .ok (.iaload, 1) := by decide +kernel
theorem dX12_goOn_197 : decode cX12_goOn 197 = .ok (.aload_n 0, 1) := by decide +kernel
theorem dX12_goOn_198 : decode cX12_goOn 198 = .ok (.getfield 87, 3) := by decide +kernel
theorem dX12_goOn_201 : decode cX12_goOn 201 = .ok (.iload 10, 2) := by decide +kernel
theorem dX12_goOn_203 : decode cX12_goOn 203 = .ok (.iaload, 1) := by decide +kernel
theorem dX12_goOn_204 : decode cX12_goOn 204 = .ok (.isub, 1) := by decide +kernel
theorem dX12_goOn_205 : decode cX12_goOn 205 = .ok (.iconst 4, 1) := by decide +kernel
theorem dX12_goOn_206 : decode cX12_goOn 206 = .ok (.idiv, 1) := by decide +kernel
theorem dX12_goOn_207 : decode cX12_goOn 207 = .ok (.istore 11, 2) := by decide +kernel
theorem dX12_goOn_209 : decode cX12_goOn 209 = .ok (.aload_n 0, 1) := by decide +kernel
theorem dX12_goOn_210 : decode cX12_goOn 210 = .ok (.getfield 87, 3) := by decide +kernel
theorem dX12_goOn_213 : decode cX12_goOn 213 = .ok (.iload 10, 2) := by decide +kernel
theorem dX12_goOn_215 : decode cX12_goOn 215 = .ok (.dup2, 1) := by decide +kernel
theorem dX12_goOn_216 : decode cX12_goOn 216 = .ok (.iaload, 1) := by decide +kernel
theorem dX12_goOn_217 : decode cX12_goOn 217 = .ok (.iload 11, 2) := by decide +kernel
theorem dX12_goOn_219 : decode cX12_goOn 219 = .ok (.iadd, 1) := by decide +kernel
theorem dX12_goOn_220 : decode cX12_goOn 220 = .ok (.iastore, 1) := by decide +kernel
theorem dX12_goOn_221 : decode cX12_goOn 221 = .ok (.aload_n 0, 1) := by decide +kernel
theorem dX12_goOn_222 : decode cX12_goOn 222 = .ok (.getfield 87, 3) := by decide +kernel
theorem dX12_goOn_225 : decode cX12_goOn 225 = .ok (.iload 10, 2) := by decide +kernel
theorem dX12_goOn_227 : decode cX12_goOn 227 = .ok (.iconst 1, 1) := by decide +kernel
theorem dX12_goOn_228 : decode cX12_goOn 228 = .ok (.iadd, 1) := by decide +kernel
theorem dX12_goOn_229 : decode cX12_goOn 229 = .ok (.dup2, 1) := by decide +kernel
theorem dX12_goOn_230 : decode cX12_goOn 230 = .ok (.iaload, 1) := by decide +kernel
theorem dX12_goOn_231 : decode cX12_goOn 231 = .ok (.iload 11, 2) := by decide +kernel
theorem dX12_goOn_233 : decode cX12_goOn 233 = .ok (.isub, 1) := by decide +kernel
theorem dX12_goOn_234 : decode cX12_goOn 234 = .ok (.iastore, 1) := by decide +kernel
theorem dX12_goOn_235 : decode cX12_goOn 235 = .ok (.iinc 10 1, 3) := by decide +kernel
theorem dX12_goOn_238 : decode cX12_goOn 238 = .ok (.goto (-59), 3) := by decide +kernel
theorem dX12_goOn_241 : decode cX12_goOn 241 = .ok (.aload_n 0, 1) := by decide +kernel
theorem dX12_goOn_242 : decode cX12_goOn 242 = .ok (.dup, 1) := by decide +kernel
theorem dX12_goOn_243 : decode cX12_goOn 243 = .ok (.getfield 359, 3) := by decide +kernel
theorem dX12_goOn_246 : decode cX12_goOn 246 = .ok (.iload 7, 2) := by decide +kernel
theorem dX12_goOn_248 : decode cX12_goOn 248 = .ok (.iadd, 1) := by decide +kernel
theorem dX12_goOn_249 : decode cX12_goOn 249 = .ok (.putfield 359, 3) := by decide +kernel
theorem dX12_goOn_252 : decode cX12_goOn 252 = .ok (.aload_n 0, 1) := by decide +kernel
theorem dX12_goOn_253 : decode cX12_goOn 253 = .ok (.dup, 1) := by decide +kernel
theorem dX12_goOn_254 : decode cX12_goOn 254 = .ok (.getfield 362, 3) := by decide +kernel
theorem dX12_goOn_257 : decode cX12_goOn 257 = .ok (.iload 6, 2) := by decide +kernel
theorem dX12_goOn_259 : decode cX12_goOn 259 = .ok (.iload 7, 2) := by decide +kernel
theorem dX12_goOn_261 : decode cX12_goOn 261 = .ok (.isub, 1) := by decide +kernel
theorem dX12_goOn_262 : decode cX12_goOn 262 = .ok (.iadd, 1) := by decide +kernel
theorem dX12_goOn_263 : decode cX12_goOn 263 = .ok (.putfield 362, 3) := by decide +kernel
theorem dX12_goOn_266 : decode cX12_goOn 266 = .ok (.aload_n 0, 1) := by decide +kernel
theorem dX12_goOn_267 : decode cX12_goOn 267 = .ok (.invokevirtual 374, 3) := by decide +kernel
theorem dX12_goOn_270 : decode cX12_goOn 270 = .ok (.aload_n 0, 1) := by decide +kernel
theorem dX12_goOn_271 : decode cX12_goOn 271 = .ok (.iload 8, 2) := by decide +kernel
theorem dX12_goOn_273 : decode cX12_goOn 273 = .ok (.ifCond .ne 8, 3) := by decide +kernel
theorem dX12_goOn_276 : decode cX12_goOn 276 = .ok (.bipush 60, 2) := by decide +kernel
theorem dX12_goOn_278 : decode cX12_goOn 278 = .ok (.goto 16, 3) := by decide +kernel
theorem dX12_goOn_281 : decode cX12_goOn 281 = .ok (.iload 8, 2) := by decide +kernel
theorem dX12_goOn_283 : decode cX12_goOn 283 = .ok (.iconst 3, 1) := by decide +kernel
theorem dX12_goOn_284 : decode cX12_goOn 284 = .ok (.if_icmp .ne 8, 3) := by decide +kernel
theorem dX12_goOn_287 : decode cX12_goOn 287 = .ok (.bipush 10, 2) := by decide +kernel
theorem dX12_goOn_289 : decode cX12_goOn 289 = .ok (.goto 5, 3) := by decide +kernel
theorem dX12_goOn_292 : decode cX12_goOn 292 = .ok (.bipush 20, 2) := by decide +kernel
theorem dX12_goOn_294 : decode cX12_goOn 294 = .ok (.invokevirtual 377, 3) := by decide +kernel
theorem dX12_goOn_297 : decode cX12_goOn 297 = .ok (.aload_n 0, 1) := by decide +kernel
theorem dX12_goOn_298 : decode cX12_goOn 298 = .ok (.dup, 1) := by decide +kernel
theorem dX12_goOn_299 : decode cX12_goOn 299 = .ok (.getfield 368, 3) := by decide +kernel
theorem dX12_goOn_302 : decode cX12_goOn 302 = .ok (.aload_n 0, 1) := by decide +kernel
theorem dX12_goOn_303 : decode cX12_goOn 303 = .ok (.getfield 368, 3) := by decide +kernel
theorem dX12_goOn_306 : decode cX12_goOn 306 = .ok (.aload_n 0, 1) := by decide +kernel
theorem dX12_goOn_307 : decode cX12_goOn 307 = .ok (.getfield 60, 3) := by decide +kernel
theorem dX12_goOn_310 : decode cX12_goOn 310 = .ok (.iload_n 1, 1) := by decide +kernel
theorem dX12_goOn_311 : decode cX12_goOn 311 = .ok (.iaload, 1) := by decide +kernel
theorem dX12_goOn_312 : decode cX12_goOn 312 = .ok (.imul, 1) := by decide +kernel
theorem dX12_goOn_313 : decode cX12_goOn 313 = .ok (.bipush 100, 2) := by decide +kernel
theorem dX12_goOn_315 : decode cX12_goOn 315 = .ok (.idiv, 1) := by decide +kernel
theorem dX12_goOn_316 : decode cX12_goOn 316 = .ok (.isub, 1) := by decide +kernel
theorem dX12_goOn_317 : decode cX12_goOn 317 = .ok (.putfield 368, 3) := by decide +kernel
theorem dX12_goOn_320 : decode cX12_goOn 320 = .ok (.aload_n 0, 1) := by decide +kernel
theorem dX12_goOn_321 : decode cX12_goOn 321 = .ok (.getfield 60, 3) := by decide +kernel
theorem dX12_goOn_324 : decode cX12_goOn 324 = .ok (.iload_n 1, 1) := by decide +kernel
theorem dX12_goOn_325 : decode cX12_goOn 325 = .ok (.iaload, 1) := by decide +kernel
theorem dX12_goOn_326 : decode cX12_goOn 326 = .ok (.bipush 20, 2) := by decide +kernel
theorem dX12_goOn_328 : decode cX12_goOn 328 = .ok (.idiv, 1) := by decide +kernel
theorem dX12_goOn_329 : decode cX12_goOn 329 = .ok (.aload_n 0, 1) := by decide +kernel
theorem dX12_goOn_330 : decode cX12_goOn 330 = .ok (.getfield 362, 3) := by decide +kernel
theorem dX12_goOn_333 : decode cX12_goOn 333 = .ok (.invokestatic 371, 3) := by decide +kernel
theorem dX12_goOn_336 : decode cX12_goOn 336 = .ok (.istore 10, 2) := by decide +kernel
theorem dX12_goOn_338 : decode cX12_goOn 338 = .ok (.aload_n 0, 1) := by decide +kernel
theorem dX12_goOn_339 : decode cX12_goOn 339 = .ok (.dup, 1) := by decide +kernel
theorem dX12_goOn_340 : decode cX12_goOn 340 = .ok (.getfield 362, 3) := by decide +kernel
theorem dX12_goOn_343 : decode cX12_goOn 343 = .ok (.iload 10, 2) := by decide +kernel
theorem dX12_goOn_345 : decode cX12_goOn 345 = .ok (.isub, 1) := by decide +kernel
theorem dX12_goOn_346 : decode cX12_goOn 346 = .ok (.putfield 362, 3) := by decide +kernel
theorem dX12_goOn_349 : decode cX12_goOn 349 = .ok (.aload_n 0, 1) := by decide +kernel
theorem dX12_goOn_350 : decode cX12_goOn 350 = .ok (.dup, 1) := by decide +kernel
theorem dX12_goOn_351 : decode cX12_goOn 351 = .ok (.getfield 365, 3) := by decide +kernel
theorem dX12_goOn_354 : decode cX12_goOn 354 = .ok (.iload 10, 2) := by decide +kernel
theorem dX12_goOn_356 : decode cX12_goOn 356 = .ok (.iadd, 1) := by decide +kernel
theorem dX12_goOn_357 : decode cX12_goOn 357 = .ok (.putfield 365, 3) := by decide +kernel
theorem dX12_goOn_360 : decode cX12_goOn 360 = .ok (.return_, 1) := by decide +kernel
theorem dX12_turn_0 : decode cX12_turn 0 = .ok (.bipush 10, 2) := by decide +kernel
theorem dX12_turn_2 : decode cX12_turn 2 = .ok (.aload_n 0, 1) := by decide +kernel
theorem dX12_turn_3 : decode cX12_turn 3 = .ok (.getfield 368, 3) := by decide +kernel
theorem dX12_turn_6 : decode cX12_turn 6 = .ok (.imul, 1) := by decide +kernel
theorem dX12_turn_7 : decode cX12_turn 7 = .ok (.aload_n 0, 1) := by decide +kernel
theorem dX12_turn_8 : decode cX12_turn 8 = .ok (.getfield 359, 3) := by decide +kernel
theorem dX12_turn_11 : decode cX12_turn 11 = .ok (.aload_n 0, 1) := by decide +kernel
theorem dX12_turn_12 : decode cX12_turn 12 = .ok (.getfield 362, 3) := by decide +kernel
theorem dX12_turn_15 : decode cX12_turn 15 = .ok (.iadd, 1) := by decide +kernel
theorem dX12_turn_16 : decode cX12_turn 16 = .ok (.aload_n 0, 1) := by decide +kernel
theorem dX12_turn_17 : decode cX12_turn 17 = .ok (.getfield 365, 3) := by decide +kernel
theorem dX12_turn_20 : decode cX12_turn 20 = .ok (.iadd, 1) := by decide +kernel
theorem dX12_turn_21 : decode cX12_turn 21 = .ok (.bipush 10, 2) := by decide +kernel
theorem dX12_turn_23 : decode cX12_turn 23 = .ok (.iadd, 1) := by decide +kernel
theorem dX12_turn_24 : decode cX12_turn 24 = .ok (.idiv, 1) := by decide +kernel
theorem dX12_turn_25 : decode cX12_turn 25 = .ok (.ineg, 1) := by decide +kernel
theorem dX12_turn_26 : decode cX12_turn 26 = .ok (.istore_n 1, 1) := by decide +kernel
theorem dX12_turn_27 : decode cX12_turn 27 = .ok (.iload_n 1, 1) := by decide +kernel
theorem dX12_turn_28 : decode cX12_turn 28 = .ok (.bipush (-80), 2) := by decide +kernel
theorem dX12_turn_30 : decode cX12_turn 30 = .ok (.if_icmp .ge 8, 3) := by decide +kernel
theorem dX12_turn_33 : decode cX12_turn 33 = .ok (.bipush (-80), 2) := by decide +kernel
theorem dX12_turn_35 : decode cX12_turn 35 = .ok (.goto 4, 3) := by decide +kernel
theorem dX12_turn_38 : decode cX12_turn 38 = .ok (.iload_n 1, 1) := by decide +kernel
theorem dX12_turn_39 : decode cX12_turn 39 = .ok (.istore_n 1, 1) := by decide +kernel
theorem dX12_turn_40 : decode cX12_turn 40 = .ok (.aload_n 0, 1) := by decide +kernel
theorem dX12_turn_41 : decode cX12_turn 41 = .ok (.getfield 87, 3) := by decide +kernel
theorem dX12_turn_44 : decode cX12_turn 44 = .ok (.iconst 0, 1) := by decide +kernel
theorem dX12_turn_45 : decode cX12_turn 45 = .ok (.iaload, 1) := by decide +kernel
theorem dX12_turn_46 : decode cX12_turn 46 = .ok (.iload_n 1, 1) := by decide +kernel
theorem dX12_turn_47 : decode cX12_turn 47 = .ok (.if_icmp .le 106, 3) := by decide +kernel
theorem dX12_turn_50 : decode cX12_turn 50 = .ok (.aload_n 0, 1) := by decide +kernel
theorem dX12_turn_51 : decode cX12_turn 51 = .ok (.getfield 87, 3) := by decide +kernel
theorem dX12_turn_54 : decode cX12_turn 54 = .ok (.iconst 0, 1) := by decide +kernel
theorem dX12_turn_55 : decode cX12_turn 55 = .ok (.iaload, 1) := by decide +kernel
theorem dX12_turn_56 : decode cX12_turn 56 = .ok (.iload_n 1, 1) := by decide +kernel
theorem dX12_turn_57 : decode cX12_turn 57 = .ok (.isub, 1) := by decide +kernel
theorem dX12_turn_58 : decode cX12_turn 58 = .ok (.iconst 2, 1) := by decide +kernel
theorem dX12_turn_59 : decode cX12_turn 59 = .ok (.idiv, 1) := by decide +kernel
theorem dX12_turn_60 : decode cX12_turn 60 = .ok (.aload_n 0, 1) := by decide +kernel
theorem dX12_turn_61 : decode cX12_turn 61 = .ok (.getfield 362, 3) := by decide +kernel
theorem dX12_turn_64 : decode cX12_turn 64 = .ok (.invokestatic 371, 3) := by decide +kernel
theorem dX12_turn_67 : decode cX12_turn 67 = .ok (.istore_n 2, 1) := by decide +kernel
theorem dX12_turn_68 : decode cX12_turn 68 = .ok (.aload_n 0, 1) := by decide +kernel
theorem dX12_turn_69 : decode cX12_turn 69 = .ok (.dup, 1) := by decide +kernel
theorem dX12_turn_70 : decode cX12_turn 70 = .ok (.getfield 362, 3) := by decide +kernel
theorem dX12_turn_73 : decode cX12_turn 73 = .ok (.iload_n 2, 1) := by decide +kernel
theorem dX12_turn_74 : decode cX12_turn 74 = .ok (.isub, 1) := by decide +kernel
theorem dX12_turn_75 : decode cX12_turn 75 = .ok (.putfield 362, 3) := by decide +kernel
theorem dX12_turn_78 : decode cX12_turn 78 = .ok (.aload_n 0, 1) := by decide +kernel
theorem dX12_turn_79 : decode cX12_turn 79 = .ok (.dup, 1) := by decide +kernel
theorem dX12_turn_80 : decode cX12_turn 80 = .ok (.getfield 359, 3) := by decide +kernel
theorem dX12_turn_83 : decode cX12_turn 83 = .ok (.iload_n 2, 1) := by decide +kernel
theorem dX12_turn_84 : decode cX12_turn 84 = .ok (.iadd, 1) := by decide +kernel
theorem dX12_turn_85 : decode cX12_turn 85 = .ok (.putfield 359, 3) := by decide +kernel
theorem dX12_turn_88 : decode cX12_turn 88 = .ok (.aload_n 0, 1) := by decide +kernel
theorem dX12_turn_89 : decode cX12_turn 89 = .ok (.getfield 87, 3) := by decide +kernel
theorem dX12_turn_92 : decode cX12_turn 92 = .ok (.iconst 0, 1) := by decide +kernel
theorem dX12_turn_93 : decode cX12_turn 93 = .ok (.dup2, 1) := by decide +kernel
theorem dX12_turn_94 : decode cX12_turn 94 = .ok (.iaload, 1) := by decide +kernel
theorem dX12_turn_95 : decode cX12_turn 95 = .ok (.iconst 2, 1) := by decide +kernel
theorem dX12_turn_96 : decode cX12_turn 96 = .ok (.iload_n 2, 1) := by decide +kernel
theorem dX12_turn_97 : decode cX12_turn 97 = .ok (.imul, 1) := by decide +kernel
theorem dX12_turn_98 : decode cX12_turn 98 = .ok (.isub, 1) := by decide +kernel
theorem dX12_turn_99 : decode cX12_turn 99 = .ok (.iastore, 1) := by decide +kernel
theorem dX12_turn_100 : decode cX12_turn 100 = .ok (.aload_n 0, 1) := by decide +kernel
theorem dX12_turn_101 : decode cX12_turn 101 = .ok (.getfield 87, 3) := by decide +kernel
theorem dX12_turn_104 : decode cX12_turn 104 = .ok (.iconst 0, 1) := by decide +kernel
theorem dX12_turn_105 : decode cX12_turn 105 = .ok (.iaload, 1) := by decide +kernel
theorem dX12_turn_106 : decode cX12_turn 106 = .ok (.iload_n 1, 1) := by decide +kernel
theorem dX12_turn_107 : decode cX12_turn 107 = .ok (.isub, 1) := by decide +kernel
theorem dX12_turn_108 : decode cX12_turn 108 = .ok (.iconst 2, 1) := by decide +kernel
theorem dX12_turn_109 : decode cX12_turn 109 = .ok (.idiv, 1) := by decide +kernel
theorem dX12_turn_110 : decode cX12_turn 110 = .ok (.aload_n 0, 1) := by decide +kernel
theorem dX12_turn_111 : decode cX12_turn 111 = .ok (.getfield 365, 3) := by decide +kernel
theorem dX12_turn_114 : decode cX12_turn 114 = .ok (.invokestatic 371, 3) := by decide +kernel
theorem dX12_turn_117 : decode cX12_turn 117 = .ok (.istore_n 2, 1) := by decide +kernel
theorem dX12_turn_118 : decode cX12_turn 118 = .ok (.aload_n 0, 1) := by decide +kernel
theorem dX12_turn_119 : decode cX12_turn 119 = .ok (.dup, 1) := by decide +kernel
theorem dX12_turn_120 : decode cX12_turn 120 = .ok (.getfield 365, 3) := by decide +kernel
theorem dX12_turn_123 : decode cX12_turn 123 = .ok (.iload_n 2, 1) := by decide +kernel
theorem dX12_turn_124 : decode cX12_turn 124 = .ok (.isub, 1) := by decide +kernel
theorem dX12_turn_125 : decode cX12_turn 125 = .ok (.putfield 365, 3) := by decide +kernel
theorem dX12_turn_128 : decode cX12_turn 128 = .ok (.aload_n 0, 1) := by decide +kernel
theorem dX12_turn_129 : decode cX12_turn 129 = .ok (.dup, 1) := by decide +kernel
theorem dX12_turn_130 : decode cX12_turn 130 = .ok (.getfield 359, 3) := by decide +kernel
theorem dX12_turn_133 : decode cX12_turn 133 = .ok (.iload_n 2, 1) := by decide +kernel
theorem dX12_turn_134 : decode cX12_turn 134 = .ok (.iadd, 1) := by decide +kernel
theorem dX12_turn_135 : decode cX12_turn 135 = .ok (.putfield 359, 3) := by decide +kernel
theorem dX12_turn_138 : decode cX12_turn 138 = .ok (.aload_n 0, 1) := by decide +kernel
theorem dX12_turn_139 : decode cX12_turn 139 = .ok (.getfield 87, 3) := by decide +kernel
theorem dX12_turn_142 : decode cX12_turn 142 = .ok (.iconst 0, 1) := by decide +kernel
theorem dX12_turn_143 : decode cX12_turn 143 = .ok (.dup2, 1) := by decide +kernel
theorem dX12_turn_144 : decode cX12_turn 144 = .ok (.iaload, 1) := by decide +kernel
theorem dX12_turn_145 : decode cX12_turn 145 = .ok (.iconst 2, 1) := by decide +kernel
theorem dX12_turn_146 : decode cX12_turn 146 = .ok (.iload_n 2, 1) := by decide +kernel
theorem dX12_turn_147 : decode cX12_turn 147 = .ok (.imul, 1) := by decide +kernel
theorem dX12_turn_148 : decode cX12_turn 148 = .ok (.isub, 1) := by decide +kernel
theorem dX12_turn_149 : decode cX12_turn 149 = .ok (.iastore, 1) := by decide +kernel
theorem dX12_turn_150 : decode cX12_turn 150 = .ok (.goto 63, 3) := by decide +kernel
theorem dX12_turn_153 : decode cX12_turn 153 = .ok (.aload_n 0, 1) := by decide +kernel
theorem dX12_turn_154 : decode cX12_turn 154 = .ok (.getfield 87, 3) := by decide +kernel
theorem dX12_turn_157 : decode cX12_turn 157 = .ok (.iconst 0, 1) := by decide +kernel
theorem dX12_turn_158 : decode cX12_turn 158 = .ok (.iaload, 1) := by decide +kernel
theorem dX12_turn_159 : decode cX12_turn 159 = .ok (.iload_n 1, 1) := by decide +kernel
theorem dX12_turn_160 : decode cX12_turn 160 = .ok (.if_icmp .ge 53, 3) := by decide +kernel
theorem dX12_turn_163 : decode cX12_turn 163 = .ok (.iload_n 1, 1) := by decide +kernel
theorem dX12_turn_164 : decode cX12_turn 164 = .ok (.aload_n 0, 1) := by decide +kernel
theorem dX12_turn_165 : decode cX12_turn 165 = .ok (.getfield 87, 3) := by decide +kernel
theorem dX12_turn_168 : decode cX12_turn 168 = .ok (.iconst 0, 1) := by decide +kernel
theorem dX12_turn_169 : decode cX12_turn 169 = .ok (.iaload, 1) := by decide +kernel
theorem dX12_turn_170 : decode cX12_turn 170 = .ok (.isub, 1) := by decide +kernel
theorem dX12_turn_171 : decode cX12_turn 171 = .ok (.iconst 2, 1) := by decide +kernel
theorem dX12_turn_172 : decode cX12_turn 172 = .ok (.idiv, 1) := by decide +kernel
theorem dX12_turn_173 : decode cX12_turn 173 = .ok (.aload_n 0, 1) := by decide +kernel
theorem dX12_turn_174 : decode cX12_turn 174 = .ok (.getfield 359, 3) := by decide +kernel
theorem dX12_turn_177 : decode cX12_turn 177 = .ok (.invokestatic 371, 3) := by decide +kernel
theorem dX12_turn_180 : decode cX12_turn 180 = .ok (.istore_n 2, 1) := by decide +kernel
theorem dX12_turn_181 : decode cX12_turn 181 = .ok (.aload_n 0, 1) := by decide +kernel
theorem dX12_turn_182 : decode cX12_turn 182 = .ok (.dup, 1) := by decide +kernel
theorem dX12_turn_183 : decode cX12_turn 183 = .ok (.getfield 359, 3) := by decide +kernel
theorem dX12_turn_186 : decode cX12_turn 186 = .ok (.iload_n 2, 1) := by decide +kernel
theorem dX12_turn_187 : decode cX12_turn 187 = .ok (.isub, 1) := by decide +kernel
theorem dX12_turn_188 : decode cX12_turn 188 = .ok (.putfield 359, 3) := by decide +kernel
theorem dX12_turn_191 : decode cX12_turn 191 = .ok (.aload_n 0, 1) := by decide +kernel
theorem dX12_turn_192 : decode cX12_turn 192 = .ok (.dup, 1) := by decide +kernel
theorem dX12_turn_193 : decode cX12_turn 193 = .ok (.getfield 365, 3) := by decide +kernel
theorem dX12_turn_196 : decode cX12_turn 196 = .ok (.iload_n 2, 1) := by decide +kernel
theorem dX12_turn_197 : decode cX12_turn 197 = .ok (.iadd, 1) := by decide +kernel
theorem dX12_turn_198 : decode cX12_turn 198 = .ok (.putfield 365, 3) := by decide +kernel
theorem dX12_turn_201 : decode cX12_turn 201 = .ok (.aload_n 0, 1) := by decide +kernel
theorem dX12_turn_202 : decode cX12_turn 202 = .ok (.getfield 87, 3) := by decide +kernel
theorem dX12_turn_205 : decode cX12_turn 205 = .ok (.iconst 0, 1) := by decide +kernel
theorem dX12_turn_206 : decode cX12_turn 206 = .ok (.dup2, 1) := by decide +kernel
theorem dX12_turn_207 : decode cX12_turn 207 = .ok (.iaload, 1) := by decide +kernel
theorem dX12_turn_208 : decode cX12_turn 208 = .ok (.iconst 2, 1) := by decide +kernel
theorem dX12_turn_209 : decode cX12_turn 209 = .ok (.iload_n 2, 1) := by decide +kernel
theorem dX12_turn_210 : decode cX12_turn 210 = .ok (.imul, 1) := by decide +kernel
theorem dX12_turn_211 : decode cX12_turn 211 = .ok (.iadd, 1) := by decide +kernel
theorem dX12_turn_212 : decode cX12_turn 212 = .ok (.iastore, 1) := by decide +kernel
theorem dX12_turn_213 : decode cX12_turn 213 = .ok (.return_, 1) := by decide +kernel
theorem dX12_runOff_0 : decode cX12_runOff 0 = .ok (.aload_n 0, 1) := by decide +kernel
theorem dX12_runOff_1 : decode cX12_runOff 1 = .ok (.getfield 359, 3) := by decide +kernel
theorem dX12_runOff_4 : decode cX12_runOff 4 = .ok (.iload_n 1, 1) := by decide +kernel
theorem dX12_runOff_5 : decode cX12_runOff 5 = .ok (.if_icmp .gt 4, 3) := by decide +kernel
theorem dX12_runOff_8 : decode cX12_runOff 8 = .ok (.return_, 1) := by decide +kernel
theorem dX12_runOff_9 : decode cX12_runOff 9 = .ok (.aload_n 0, 1) := by decide +kernel
theorem dX12_runOff_10 : decode cX12_runOff 10 = .ok (.dup, 1) := by decide +kernel
theorem dX12_runOff_11 : decode cX12_runOff 11 = .ok (.getfield 368, 3) := by decide +kernel
theorem dX12_runOff_14 : decode cX12_runOff 14 = .ok (.aload_n 0, 1) := by decide +kernel
theorem dX12_runOff_15 : decode cX12_runOff 15 = .ok (.getfield 368, 3) := by decide +kernel
theorem dX12_runOff_18 : decode cX12_runOff 18 = .ok (.aload_n 0, 1) := by decide +kernel
theorem dX12_runOff_19 : decode cX12_runOff 19 = .ok (.getfield 359, 3) := by decide +kernel
theorem dX12_runOff_22 : decode cX12_runOff 22 = .ok (.iload_n 1, 1) := by decide +kernel
theorem dX12_runOff_23 : decode cX12_runOff 23 = .ok (.isub, 1) := by decide +kernel
theorem dX12_runOff_24 : decode cX12_runOff 24 = .ok (.imul, 1) := by decide +kernel
theorem dX12_runOff_25 : decode cX12_runOff 25 = .ok (.aload_n 0, 1) := by decide +kernel
theorem dX12_runOff_26 : decode cX12_runOff 26 = .ok (.getfield 359, 3) := by decide +kernel
theorem dX12_runOff_29 : decode cX12_runOff 29 = .ok (.idiv, 1) := by decide +kernel
theorem dX12_runOff_30 : decode cX12_runOff 30 = .ok (.isub, 1) := by decide +kernel
theorem dX12_runOff_31 : decode cX12_runOff 31 = .ok (.putfield 368, 3) := by decide +kernel
theorem dX12_runOff_34 : decode cX12_runOff 34 = .ok (.aload_n 0, 1) := by decide +kernel
theorem dX12_runOff_35 : decode cX12_runOff 35 = .ok (.iload_n 1, 1) := by decide +kernel
theorem dX12_runOff_36 : decode cX12_runOff 36 = .ok (.putfield 359, 3) := by decide +kernel
theorem dX12_runOff_39 : decode cX12_runOff 39 = .ok (.return_, 1) := by decide +kernel
theorem dX12_isWhite_0 : decode cX12_isWhite 0 = .ok (.aload_n 0, 1) := by decide +kernel
theorem dX12_isWhite_1 : decode cX12_isWhite 1 = .ok (.getfield 362, 3) := by decide +kernel
theorem dX12_isWhite_4 : decode cX12_isWhite 4 = .ok (.bipush 10, 2) := by decide +kernel
theorem dX12_isWhite_6 : decode cX12_isWhite 6 = .ok (.if_icmp .lt 7, 3) := by decide +kernel
theorem dX12_isWhite_9 : decode cX12_isWhite 9 = .ok (.iconst 1, 1) := by decide +kernel
theorem dX12_isWhite_10 : decode cX12_isWhite 10 = .ok (.goto 4, 3) := by decide +kernel
theorem dX12_isWhite_13 : decode cX12_isWhite 13 = .ok (.iconst 0, 1) := by decide +kernel
theorem dX12_isWhite_14 : decode cX12_isWhite 14 = .ok (.ireturn, 1) := by decide +kernel
theorem dX12_isBlocked_0 : decode cX12_isBlocked 0 = .ok (.aload_n 0, 1) := by decide +kernel
theorem dX12_isBlocked_1 : decode cX12_isBlocked 1 = .ok (.getfield 57, 3) := by decide +kernel
theorem dX12_isBlocked_4 : decode cX12_isBlocked 4 = .ok (.iload_n 1, 1) := by decide +kernel
theorem dX12_isBlocked_5 : decode cX12_isBlocked 5 = .ok (.iaload, 1) := by decide +kernel
theorem dX12_isBlocked_6 : decode cX12_isBlocked 6 = .ok (.aload_n 0, 1) := by decide +kernel
theorem dX12_isBlocked_7 : decode cX12_isBlocked 7 = .ok (.getfield 362, 3) := by decide +kernel
theorem dX12_isBlocked_10 : decode cX12_isBlocked 10 = .ok (.iconst 2, 1) := by decide +kernel
theorem dX12_isBlocked_11 : decode cX12_isBlocked 11 = .ok (.aload_n 0, 1) := by decide +kernel
theorem dX12_isBlocked_12 : decode cX12_isBlocked 12 = .ok (.getfield 365, 3) := by decide +kernel
theorem dX12_isBlocked_15 : decode cX12_isBlocked 15 = .ok (.imul, 1) := by decide +kernel
theorem dX12_isBlocked_16 : decode cX12_isBlocked 16 = .ok (.iadd, 1) := by decide +kernel
theorem dX12_isBlocked_17 : decode cX12_isBlocked 17 = .ok (.imul, 1) := by decide +kernel
theorem dX12_isBlocked_18 : decode cX12_isBlocked 18 = .ok (.sipush 1000, 3) := by decide +kernel
theorem dX12_isBlocked_21 : decode cX12_isBlocked 21 = .ok (.if_icmp .lt 7, 3) := by decide +kernel
theorem dX12_isBlocked_24 : decode cX12_isBlocked 24 = .ok (.iconst 1, 1) := by decide +kernel
theorem dX12_isBlocked_25 : decode cX12_isBlocked 25 = .ok (.goto 4, 3) := by decide +kernel
theorem dX12_isBlocked_28 : decode cX12_isBlocked 28 = .ok (.iconst 0, 1) := by decide +kernel
theorem dX12_isBlocked_29 : decode cX12_isBlocked 29 = .ok (.ireturn, 1) := by decide +kernel
theorem dX12_run_0 : decode cX12_run 0 = .ok (.iload_n 1, 1) := by decide +kernel
theorem dX12_run_1 : decode cX12_run 1 = .ok (.iconst 0, 1) := by decide +kernel
theorem dX12_run_2 : decode cX12_run 2 = .ok (.sipush 144, 3) := by decide +kernel
theorem dX12_run_5 : decode cX12_run 5 = .ok (.invokestatic 355, 3) := by decide +kernel
theorem dX12_run_8 : decode cX12_run 8 = .ok (.ifCond .eq 15, 3) := by decide +kernel
theorem dX12_run_11 : decode cX12_run 11 = .ok (.aload_n 0, 1) := by decide +kernel
theorem dX12_run_12 : decode cX12_run 12 = .ok (.getfield 343, 3) := by decide +kernel
theorem dX12_run_15 : decode cX12_run 15 = .ok (.iload_n 1, 1) := by decide +kernel
theorem dX12_run_16 : decode cX12_run 16 = .ok (.iadd, 1) := by decide +kernel
theorem dX12_run_17 : decode cX12_run 17 = .ok (.sipush 720, 3) := by decide +kernel
theorem dX12_run_20 : decode cX12_run 20 = .ok (.if_icmp .le 5, 3) := by decide +kernel
theorem dX12_run_23 : decode cX12_run 23 = .ok (.iconst (-1), 1) := by decide +kernel
theorem dX12_run_24 : decode cX12_run 24 = .ok (.ireturn, 1) := by decide +kernel
theorem dX12_run_25 : decode cX12_run 25 = .ok (.iconst 0, 1) := by decide +kernel
theorem dX12_run_26 : decode cX12_run 26 = .ok (.istore_n 2, 1) := by decide +kernel
theorem dX12_run_27 : decode cX12_run 27 = .ok (.iload_n 2, 1) := by decide +kernel
theorem dX12_run_28 : decode cX12_run 28 = .ok (.aload_n 0, 1) := by decide +kernel
theorem dX12_run_29 : decode cX12_run 29 = .ok (.getfield 325, 3) := by decide +kernel
theorem dX12_run_32 : decode cX12_run 32 = .ok (.if_icmp .ge 47, 3) := by decide +kernel
theorem dX12_run_35 : decode cX12_run 35 = .ok (.aload_n 0, 1) := by decide +kernel
theorem dX12_run_36 : decode cX12_run 36 = .ok (.iload_n 2, 1) := by decide +kernel
theorem dX12_run_37 : decode cX12_run 37 = .ok (.invokevirtual 380, 3) := by decide +kernel
theorem dX12_run_40 : decode cX12_run 40 = .ok (.iconst 0, 1) := by decide +kernel
theorem dX12_run_41 : decode cX12_run 41 = .ok (.istore_n 3, 1) := by decide +kernel
theorem dX12_run_42 : decode cX12_run 42 = .ok (.iload_n 3, 1) := by decide +kernel
theorem dX12_run_43 : decode cX12_run 43 = .ok (.iload_n 1, 1) := by decide +kernel
theorem dX12_run_44 : decode cX12_run 44 = .ok (.if_icmp .ge 24, 3) := by decide +kernel
theorem dX12_run_47 : decode cX12_run 47 = .ok (.aload_n 0, 1) := by decide +kernel
theorem dX12_run_48 : decode cX12_run 48 = .ok (.iload_n 2, 1) := by decide +kernel
theorem dX12_run_49 : decode cX12_run 49 = .ok (.aload_n 0, 1) := by decide +kernel
theorem dX12_run_50 : decode cX12_run 50 = .ok (.getfield 343, 3) := by decide +kernel
theorem dX12_run_53 : decode cX12_run 53 = .ok (.iload_n 3, 1) := by decide +kernel
theorem dX12_run_54 : decode cX12_run 54 = .ok (.iadd, 1) := by decide +kernel
theorem dX12_run_55 : decode cX12_run 55 = .ok (.aload_n 0, 1) := by decide +kernel
theorem dX12_run_56 : decode cX12_run 56 = .ok (.getfield 346, 3) := by decide +kernel
theorem dX12_run_59 : decode cX12_run 59 = .ok (.invokevirtual 383, 3) := by decide +kernel
theorem dX12_run_62 : decode cX12_run 62 = .ok (.iinc 3 1, 3) := by decide +kernel
theorem dX12_run_65 : decode cX12_run 65 = .ok (.goto (-23), 3) := by decide +kernel
theorem dX12_run_68 : decode cX12_run 68 = .ok (.aload_n 0, 1) := by decide +kernel
theorem dX12_run_69 : decode cX12_run 69 = .ok (.iload_n 2, 1) := by decide +kernel
theorem dX12_run_70 : decode cX12_run 70 = .ok (.invokevirtual 387, 3) := by decide +kernel
theorem dX12_run_73 : decode cX12_run 73 = .ok (.iinc 2 1, 3) := by decide +kernel
theorem dX12_run_76 : decode cX12_run 76 = .ok (.goto (-49), 3) := by decide +kernel
theorem dX12_run_79 : decode cX12_run 79 = .ok (.aload_n 0, 1) := by decide +kernel
theorem dX12_run_80 : decode cX12_run 80 = .ok (.dup, 1) := by decide +kernel
theorem dX12_run_81 : decode cX12_run 81 = .ok (.getfield 343, 3) := by decide +kernel
theorem dX12_run_84 : decode cX12_run 84 = .ok (.iload_n 1, 1) := by decide +kernel
theorem dX12_run_85 : decode cX12_run 85 = .ok (.iadd, 1) := by decide +kernel
theorem dX12_run_86 : decode cX12_run 86 = .ok (.putfield 343, 3) := by decide +kernel
theorem dX12_run_89 : decode cX12_run 89 = .ok (.aload_n 0, 1) := by decide +kernel
theorem dX12_run_90 : decode cX12_run 90 = .ok (.getfield 343, 3) := by decide +kernel
theorem dX12_run_93 : decode cX12_run 93 = .ok (.ireturn, 1) := by decide +kernel
theorem dX12_shift_0 : decode cX12_shift 0 = .ok (.iload_n 1, 1) := by decide +kernel
theorem dX12_shift_1 : decode cX12_shift 1 = .ok (.bipush (-50), 2) := by decide +kernel
theorem dX12_shift_3 : decode cX12_shift 3 = .ok (.bipush 50, 2) := by decide +kernel
theorem dX12_shift_5 : decode cX12_shift 5 = .ok (.invokestatic 355, 3) := by decide +kernel
theorem dX12_shift_8 : decode cX12_shift 8 = .ok (.ifCond .ne 7, 3) := by decide +kernel
theorem dX12_shift_11 : decode cX12_shift 11 = .ok (.ldc_w 390, 3) := by decide +kernel
theorem dX12_shift_14 : decode cX12_shift 14 = .ok (.ireturn, 1) := by decide +kernel
theorem dX12_shift_15 : decode cX12_shift 15 = .ok (.aload_n 0, 1) := by decide +kernel
theorem dX12_shift_16 : decode cX12_shift 16 = .ok (.getfield 346, 3) := by decide +kernel
theorem dX12_shift_19 : decode cX12_shift 19 = .ok (.istore_n 2, 1) := by decide +kernel
theorem dX12_shift_20 : decode cX12_shift 20 = .ok (.aload_n 0, 1) := by decide +kernel
theorem dX12_shift_21 : decode cX12_shift 21 = .ok (.iload_n 1, 1) := by decide +kernel
theorem dX12_shift_22 : decode cX12_shift 22 = .ok (.putfield 346, 3) := by decide +kernel
theorem dX12_shift_25 : decode cX12_shift 25 = .ok (.iload_n 2, 1) := by decide +kernel
theorem dX12_shift_26 : decode cX12_shift 26 = .ok (.ireturn, 1) := by decide +kernel
theorem dX12_spread_0 : decode cX12_spread 0 = .ok (.aload_n 0, 1) := by decide +kernel
theorem dX12_spread_1 : decode cX12_spread 1 = .ok (.iload_n 1, 1) := by decide +kernel
theorem dX12_spread_2 : decode cX12_spread 2 = .ok (.invokevirtual 391, 3) := by decide +kernel
theorem dX12_spread_5 : decode cX12_spread 5 = .ok (.ifCond .eq 21, 3) := by decide +kernel
theorem dX12_spread_8 : decode cX12_spread 8 = .ok (.iload_n 2, 1) := by decide +kernel
theorem dX12_spread_9 : decode cX12_spread 9 = .ok (.iconst 1, 1) := by decide +kernel
theorem dX12_spread_10 : decode cX12_spread 10 = .ok (.bipush 99, 2) := by decide +kernel
theorem dX12_spread_12 : decode cX12_spread 12 = .ok (.invokestatic 355, 3) := by decide +kernel
theorem dX12_spread_15 : decode cX12_spread 15 = .ok (.ifCond .eq 11, 3) := by decide +kernel
theorem dX12_spread_18 : decode cX12_spread 18 = .ok (.iload_n 2, 1) := by decide +kernel
theorem dX12_spread_19 : decode cX12_spread 19 = .ok (.aload_n 0, 1) := by decide +kernel
theorem dX12_spread_20 : decode cX12_spread 20 = .ok (.getfield 151, 3) := by decide +kernel
theorem dX12_spread_23 : decode cX12_spread 23 = .ok (.if_icmp .le 5, 3) := by decide +kernel
theorem dX12_spread_26 : decode cX12_spread 26 = .ok (.iconst (-1), 1) := by decide +kernel
theorem dX12_spread_27 : decode cX12_spread 27 = .ok (.ireturn, 1) := by decide +kernel
theorem dX12_spread_28 : decode cX12_spread 28 = .ok (.aload_n 0, 1) := by decide +kernel
theorem dX12_spread_29 : decode cX12_spread 29 = .ok (.getfield 93, 3) := by decide +kernel
theorem dX12_spread_32 : decode cX12_spread 32 = .ok (.iconst 4, 1) := by decide +kernel
theorem dX12_spread_33 : decode cX12_spread 33 = .ok (.iload_n 1, 1) := by decide +kernel
theorem dX12_spread_34 : decode cX12_spread 34 = .ok (.imul, 1) := by decide +kernel
theorem dX12_spread_35 : decode cX12_spread 35 = .ok (.iconst 3, 1) := by decide +kernel
theorem dX12_spread_36 : decode cX12_spread 36 = .ok (.iadd, 1) := by decide +kernel
theorem dX12_spread_37 : decode cX12_spread 37 = .ok (.dup2, 1) := by decide +kernel
theorem dX12_spread_38 : decode cX12_spread 38 = .ok (.iaload, 1) := by decide +kernel
theorem dX12_spread_39 : decode cX12_spread 39 = .ok (.iload_n 2, 1) := by decide +kernel
theorem dX12_spread_40 : decode cX12_spread 40 = .ok (.iadd, 1) := by decide +kernel
theorem dX12_spread_41 : decode cX12_spread 41 = .ok (.iastore, 1) := by decide +kernel
theorem dX12_spread_42 : decode cX12_spread 42 = .ok (.aload_n 0, 1) := by decide +kernel
theorem dX12_spread_43 : decode cX12_spread 43 = .ok (.dup, 1) := by decide +kernel
theorem dX12_spread_44 : decode cX12_spread 44 = .ok (.getfield 151, 3) := by decide +kernel
theorem dX12_spread_47 : decode cX12_spread 47 = .ok (.iload_n 2, 1) := by decide +kernel
theorem dX12_spread_48 : decode cX12_spread 48 = .ok (.isub, 1) := by decide +kernel
theorem dX12_spread_49 : decode cX12_spread 49 = .ok (.putfield 151, 3) := by decide +kernel
theorem dX12_spread_52 : decode cX12_spread 52 = .ok (.aload_n 0, 1) := by decide +kernel
theorem dX12_spread_53 : decode cX12_spread 53 = .ok (.getfield 151, 3) := by decide +kernel
theorem dX12_spread_56 : decode cX12_spread 56 = .ok (.ireturn, 1) := by decide +kernel
theorem dX12_yard_0 : decode cX12_yard 0 = .ok (.aload_n 0, 1) := by decide +kernel
theorem dX12_yard_1 : decode cX12_yard 1 = .ok (.iload_n 1, 1) := by decide +kernel
theorem dX12_yard_2 : decode cX12_yard 2 = .ok (.invokevirtual 391, 3) := by decide +kernel
theorem dX12_yard_5 : decode cX12_yard 5 = .ok (.ifCond .eq 13, 3) := by decide +kernel
theorem dX12_yard_8 : decode cX12_yard 8 = .ok (.iload_n 2, 1) := by decide +kernel
theorem dX12_yard_9 : decode cX12_yard 9 = .ok (.iconst 0, 1) := by decide +kernel
theorem dX12_yard_10 : decode cX12_yard 10 = .ok (.bipush 6, 2) := by decide +kernel
theorem dX12_yard_12 : decode cX12_yard 12 = .ok (.invokestatic 355, 3) := by decide +kernel
theorem dX12_yard_15 : decode cX12_yard 15 = .ok (.ifCond .ne 5, 3) := by decide +kernel
theorem dX12_yard_18 : decode cX12_yard 18 = .ok (.iconst (-1), 1) := by decide +kernel
theorem dX12_yard_19 : decode cX12_yard 19 = .ok (.ireturn, 1) := by decide +kernel
theorem dX12_yard_20 : decode cX12_yard 20 = .ok (.aload_n 0, 1) := by decide +kernel
theorem dX12_yard_21 : decode cX12_yard 21 = .ok (.iload_n 1, 1) := by decide +kernel
theorem dX12_yard_22 : decode cX12_yard 22 = .ok (.invokevirtual 380, 3) := by decide +kernel
theorem dX12_yard_25 : decode cX12_yard 25 = .ok (.iload_n 2, 1) := by decide +kernel
theorem dX12_yard_26 : decode cX12_yard 26 = .ok (.iconst 4, 1) := by decide +kernel
theorem dX12_yard_27 : decode cX12_yard 27 = .ok (.if_icmp .ge 16, 3) := by decide +kernel
theorem dX12_yard_30 : decode cX12_yard 30 = .ok (.aload_n 0, 1) := by decide +kernel
theorem dX12_yard_31 : decode cX12_yard 31 = .ok (.getfield 93, 3) := by decide +kernel
theorem dX12_yard_34 : decode cX12_yard 34 = .ok (.iconst 4, 1) := by decide +kernel
theorem dX12_yard_35 : decode cX12_yard 35 = .ok (.iload_n 1, 1) := by decide +kernel
theorem dX12_yard_36 : decode cX12_yard 36 = .ok (.imul, 1) := by decide +kernel
theorem dX12_yard_37 : decode cX12_yard 37 = .ok (.iload_n 2, 1) := by decide +kernel
theorem dX12_yard_38 : decode cX12_yard 38 = .ok (.iadd, 1) := by decide +kernel
theorem dX12_yard_39 : decode cX12_yard 39 = .ok (.iaload, 1) := by decide +kernel
theorem dX12_yard_40 : decode cX12_yard 40 = .ok (.goto 50, 3) := by decide +kernel
theorem dX12_yard_43 : decode cX12_yard 43 = .ok (.iload_n 2, 1) := by decide +kernel
theorem dX12_yard_44 : decode cX12_yard 44 = .ok (.iconst 4, 1) := by decide +kernel
theorem dX12_yard_45 : decode cX12_yard 45 = .ok (.if_icmp .ne 18, 3) := by decide +kernel
theorem dX12_yard_48 : decode cX12_yard 48 = .ok (.aload_n 0, 1) := by decide +kernel
theorem dX12_yard_49 : decode cX12_yard 49 = .ok (.invokevirtual 394, 3) := by decide +kernel
theorem dX12_yard_52 : decode cX12_yard 52 = .ok (.ifCond .eq 7, 3) := by decide +kernel
theorem dX12_yard_55 : decode cX12_yard 55 = .ok (.iconst 1, 1) := by decide +kernel
theorem dX12_yard_56 : decode cX12_yard 56 = .ok (.goto 34, 3) := by decide +kernel
theorem dX12_yard_59 : decode cX12_yard 59 = .ok (.iconst 0, 1) := by decide +kernel
theorem dX12_yard_60 : decode cX12_yard 60 = .ok (.goto 30, 3) := by decide +kernel
theorem dX12_yard_63 : decode cX12_yard 63 = .ok (.iload_n 2, 1) := by decide +kernel
theorem dX12_yard_64 : decode cX12_yard 64 = .ok (.iconst 5, 1) := by decide +kernel
theorem dX12_yard_65 : decode cX12_yard 65 = .ok (.if_icmp .ne 19, 3) := by decide +kernel
theorem dX12_yard_68 : decode cX12_yard 68 = .ok (.aload_n 0, 1) := by decide +kernel
theorem dX12_yard_69 : decode cX12_yard 69 = .ok (.iload_n 1, 1) := by decide +kernel
theorem dX12_yard_70 : decode cX12_yard 70 = .ok (.invokevirtual 397, 3) := by decide +kernel
theorem dX12_yard_73 : decode cX12_yard 73 = .ok (.ifCond .eq 7, 3) := by decide +kernel
theorem dX12_yard_76 : decode cX12_yard 76 = .ok (.iconst 1, 1) := by decide +kernel
theorem dX12_yard_77 : decode cX12_yard 77 = .ok (.goto 13, 3) := by decide +kernel
theorem dX12_yard_80 : decode cX12_yard 80 = .ok (.iconst 0, 1) := by decide +kernel
theorem dX12_yard_81 : decode cX12_yard 81 = .ok (.goto 9, 3) := by decide +kernel
theorem dX12_yard_84 : decode cX12_yard 84 = .ok (.aload_n 0, 1) := by decide +kernel
theorem dX12_yard_85 : decode cX12_yard 85 = .ok (.getfield 63, 3) := by decide +kernel
theorem dX12_yard_88 : decode cX12_yard 88 = .ok (.iload_n 1, 1) := by decide +kernel
theorem dX12_yard_89 : decode cX12_yard 89 = .ok (.iaload, 1) := by decide +kernel
theorem dX12_yard_90 : decode cX12_yard 90 = .ok (.ireturn, 1) := by decide +kernel
theorem dX12_warm_0 : decode cX12_warm 0 = .ok (.aload_n 0, 1) := by decide +kernel
theorem dX12_warm_1 : decode cX12_warm 1 = .ok (.iload_n 1, 1) := by decide +kernel
theorem dX12_warm_2 : decode cX12_warm 2 = .ok (.invokevirtual 391, 3) := by decide +kernel
theorem dX12_warm_5 : decode cX12_warm 5 = .ok (.ifCond .eq 32, 3) := by decide +kernel
theorem dX12_warm_8 : decode cX12_warm 8 = .ok (.iload_n 2, 1) := by decide +kernel
theorem dX12_warm_9 : decode cX12_warm 9 = .ok (.iconst 0, 1) := by decide +kernel
theorem dX12_warm_10 : decode cX12_warm 10 = .ok (.aload_n 0, 1) := by decide +kernel
theorem dX12_warm_11 : decode cX12_warm 11 = .ok (.getfield 63, 3) := by decide +kernel
theorem dX12_warm_14 : decode cX12_warm 14 = .ok (.iload_n 1, 1) := by decide +kernel
theorem dX12_warm_15 : decode cX12_warm 15 = .ok (.iaload, 1) := by decide +kernel
theorem dX12_warm_16 : decode cX12_warm 16 = .ok (.iconst 1, 1) := by decide +kernel
theorem dX12_warm_17 : decode cX12_warm 17 = .ok (.isub, 1) := by decide +kernel
theorem dX12_warm_18 : decode cX12_warm 18 = .ok (.invokestatic 355, 3) := by decide +kernel
theorem dX12_warm_21 : decode cX12_warm 21 = .ok (.ifCond .eq 16, 3) := by decide +kernel
theorem dX12_warm_24 : decode cX12_warm 24 = .ok (.aload_n 0, 1) := by decide +kernel
theorem dX12_warm_25 : decode cX12_warm 25 = .ok (.getfield 90, 3) := by decide +kernel
theorem dX12_warm_28 : decode cX12_warm 28 = .ok (.iconst 5, 1) := by decide +kernel
theorem dX12_warm_29 : decode cX12_warm 29 = .ok (.iload_n 1, 1) := by decide +kernel
theorem dX12_warm_30 : decode cX12_warm 30 = .ok (.imul, 1) := by decide +kernel
theorem dX12_warm_31 : decode cX12_warm 31 = .ok (.iload_n 2, 1) := by decide +kernel
theorem dX12_warm_32 : decode cX12_warm 32 = .ok (.iadd, 1) := by decide +kernel
theorem dX12_warm_33 : decode cX12_warm 33 = .ok (.iaload, 1) := by decide +kernel
theorem dX12_warm_34 : decode cX12_warm 34 = .ok (.goto 6, 3) := by decide +kernel
theorem dX12_warm_37 : decode cX12_warm 37 = .ok (.ldc_w 390, 3) := by decide +kernel
theorem dX12_warm_40 : decode cX12_warm 40 = .ok (.ireturn, 1) := by decide +kernel
theorem dX12_isShift_0 : decode cX12_isShift 0 = .ok (.iload_n 0, 1) := by decide +kernel
theorem dX12_isShift_1 : decode cX12_isShift 1 = .ok (.bipush (-50), 2) := by decide +kernel
theorem dX12_isShift_3 : decode cX12_isShift 3 = .ok (.bipush 50, 2) := by decide +kernel
theorem dX12_isShift_5 : decode cX12_isShift 5 = .ok (.invokestatic 355, 3) := by decide +kernel
theorem dX12_isShift_8 : decode cX12_isShift 8 = .ok (.ireturn, 1) := by decide +kernel
theorem dX12_firstWhite_0 : decode cX12_firstWhite 0 = .ok (.aload_n 0, 1) := by decide +kernel
theorem dX12_firstWhite_1 : decode cX12_firstWhite 1 = .ok (.iload_n 1, 1) := by decide +kernel
theorem dX12_firstWhite_2 : decode cX12_firstWhite 2 = .ok (.invokevirtual 380, 3) := by decide +kernel
theorem dX12_firstWhite_5 : decode cX12_firstWhite 5 = .ok (.iload_n 3, 1) := by decide +kernel
theorem dX12_firstWhite_6 : decode cX12_firstWhite 6 = .ok (.ifCond .ne 14, 3) := by decide +kernel
theorem dX12_firstWhite_9 : decode cX12_firstWhite 9 = .ok (.aload_n 0, 1) := by decide +kernel
theorem dX12_firstWhite_10 : decode cX12_firstWhite 10 = .ok (.dup, 1) := by decide +kernel
theorem dX12_firstWhite_11 : decode cX12_firstWhite 11 = .ok (.getfield 368, 3) := by decide +kernel
theorem dX12_firstWhite_14 : decode cX12_firstWhite 14 = .ok (.iload 4, 2) := by decide +kernel
theorem dX12_firstWhite_16 : decode cX12_firstWhite 16 = .ok (.iadd, 1) := by decide +kernel
theorem dX12_firstWhite_17 : decode cX12_firstWhite 17 = .ok (.putfield 368, 3) := by decide +kernel
theorem dX12_firstWhite_20 : decode cX12_firstWhite 20 = .ok (.iconst 1, 1) := by decide +kernel
theorem dX12_firstWhite_21 : decode cX12_firstWhite 21 = .ok (.istore 5, 2) := by decide +kernel
theorem dX12_firstWhite_23 : decode cX12_firstWhite 23 = .ok (.iload 5, 2) := by decide +kernel
theorem dX12_firstWhite_25 : decode cX12_firstWhite 25 = .ok (.bipush 72, 2) := by decide +kernel
theorem dX12_firstWhite_27 : decode cX12_firstWhite 27 = .ok (.if_icmp .gt 51, 3) := by decide +kernel
theorem dX12_firstWhite_30 : decode cX12_firstWhite 30 = .ok (.aload_n 0, 1) := by decide +kernel
theorem dX12_firstWhite_31 : decode cX12_firstWhite 31 = .ok (.iload_n 1, 1) := by decide +kernel
theorem dX12_firstWhite_32 : decode cX12_firstWhite 32 = .ok (.aload_n 0, 1) := by decide +kernel
theorem dX12_firstWhite_33 : decode cX12_firstWhite 33 = .ok (.getfield 343, 3) := by decide +kernel
theorem dX12_firstWhite_36 : decode cX12_firstWhite 36 = .ok (.iload 5, 2) := by decide +kernel
theorem dX12_firstWhite_38 : decode cX12_firstWhite 38 = .ok (.iadd, 1) := by decide +kernel
theorem dX12_firstWhite_39 : decode cX12_firstWhite 39 = .ok (.iconst 1, 1) := by decide +kernel
theorem dX12_firstWhite_40 : decode cX12_firstWhite 40 = .ok (.isub, 1) := by decide +kernel
theorem dX12_firstWhite_41 : decode cX12_firstWhite 41 = .ok (.iload_n 2, 1) := by decide +kernel
theorem dX12_firstWhite_42 : decode cX12_firstWhite 42 = .ok (.invokevirtual 383, 3) := by decide +kernel
theorem dX12_firstWhite_45 : decode cX12_firstWhite 45 = .ok (.aload_n 0, 1) := by decide +kernel
theorem dX12_firstWhite_46 : decode cX12_firstWhite 46 = .ok (.invokevirtual 394, 3) := by decide +kernel
theorem dX12_firstWhite_49 : decode cX12_firstWhite 49 = .ok (.ifCond .eq 6, 3) := by decide +kernel
theorem dX12_firstWhite_52 : decode cX12_firstWhite 52 = .ok (.iload 5, 2) := by decide +kernel
theorem dX12_firstWhite_54 : decode cX12_firstWhite 54 = .ok (.ireturn, 1) := by decide +kernel
theorem dX12_firstWhite_55 : decode cX12_firstWhite 55 = .ok (.iload_n 3, 1) := by decide +kernel
theorem dX12_firstWhite_56 : decode cX12_firstWhite 56 = .ok (.iload 5, 2) := by decide +kernel
theorem dX12_firstWhite_58 : decode cX12_firstWhite 58 = .ok (.if_icmp .ne 14, 3) := by decide +kernel
theorem dX12_firstWhite_61 : decode cX12_firstWhite 61 = .ok (.aload_n 0, 1) := by decide +kernel
theorem dX12_firstWhite_62 : decode cX12_firstWhite 62 = .ok (.dup, 1) := by decide +kernel
theorem dX12_firstWhite_63 : decode cX12_firstWhite 63 = .ok (.getfield 368, 3) := by decide +kernel
theorem dX12_firstWhite_66 : decode cX12_firstWhite 66 = .ok (.iload 4, 2) := by decide +kernel
theorem dX12_firstWhite_68 : decode cX12_firstWhite 68 = .ok (.iadd, 1) := by decide +kernel
theorem dX12_firstWhite_69 : decode cX12_firstWhite 69 = .ok (.putfield 368, 3) := by decide +kernel
theorem dX12_firstWhite_72 : decode cX12_firstWhite 72 = .ok (.iinc 5 1, 3) := by decide +kernel
theorem dX12_firstWhite_75 : decode cX12_firstWhite 75 = .ok (.goto (-52), 3) := by decide +kernel
theorem dX12_firstWhite_78 : decode cX12_firstWhite 78 = .ok (.iconst (-1), 1) := by decide +kernel
theorem dX12_firstWhite_79 : decode cX12_firstWhite 79 = .ok (.ireturn, 1) := by decide +kernel
