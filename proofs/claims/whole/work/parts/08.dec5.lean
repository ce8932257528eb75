theorem dX7_feed_0 : decode cX7_feed 0 = .ok (.aload_n 0, 1) := by decide +kernel
theorem dX7_feed_1 : decode cX7_feed 1 = .ok (.iconst 0, 1) := by decide +kernel
theorem dX7_feed_2 : decode cX7_feed 2 = .ok (.putfield 1, 3) := by decide +kernel
theorem dX7_feed_5 : decode cX7_feed 5 = .ok (.aload_n 0, 1) := by decide +kernel
theorem dX7_feed_6 : decode cX7_feed 6 = .ok (.lload_n 1, 1) := by decide +kernel
theorem dX7_feed_7 : decode cX7_feed 7 = .ok (.invokevirtual 7, 3) := by decide +kernel
theorem dX7_feed_10 : decode cX7_feed 10 = .ok (.aload_n 0, 1) := by decide +kernel
theorem dX7_feed_11 : decode cX7_feed 11 = .ok (.lload_n 3, 1) := by decide +kernel
theorem dX7_feed_12 : decode cX7_feed 12 = .ok (.invokevirtual 7, 3) := by decide +kernel
theorem dX7_feed_15 : decode cX7_feed 15 = .ok (.aload_n 0, 1) := by decide +kernel
theorem dX7_feed_16 : decode cX7_feed 16 = .ok (.lload 5, 2) := by decide +kernel
theorem dX7_feed_18 : decode cX7_feed 18 = .ok (.invokevirtual 7, 3) := by decide +kernel
theorem dX7_feed_21 : decode cX7_feed 21 = .ok (.aload_n 0, 1) := by decide +kernel
theorem dX7_feed_22 : decode cX7_feed 22 = .ok (.getfield 11, 3) := by decide +kernel
theorem dX7_feed_25 : decode cX7_feed 25 = .ok (.ireturn, 1) := by decide +kernel
theorem dX7_lay_0 : decode cX7_lay 0 = .ok (.bipush 56, 2) := by decide +kernel
theorem dX7_lay_2 : decode cX7_lay 2 = .ok (.istore_n 3, 1) := by decide +kernel
theorem dX7_lay_3 : decode cX7_lay 3 = .ok (.iload_n 3, 1) := by decide +kernel
theorem dX7_lay_4 : decode cX7_lay 4 = .ok (.ifCond .lt 71, 3) := by decide +kernel
theorem dX7_lay_7 : decode cX7_lay 7 = .ok (.lload_n 1, 1) := by decide +kernel
theorem dX7_lay_8 : decode cX7_lay 8 = .ok (.iload_n 3, 1) := by decide +kernel
theorem dX7_lay_9 : decode cX7_lay 9 = .ok (.lshr, 1) := by decide +kernel
theorem dX7_lay_10 : decode cX7_lay 10 = .ok (.l2i, 1) := by decide +kernel
theorem dX7_lay_11 : decode cX7_lay 11 = .ok (.sipush 255, 3) := by decide +kernel
theorem dX7_lay_14 : decode cX7_lay 14 = .ok (.iand, 1) := by decide +kernel
theorem dX7_lay_15 : decode cX7_lay 15 = .ok (.istore 4, 2) := by decide +kernel
theorem dX7_lay_17 : decode cX7_lay 17 = .ok (.iload 4, 2) := by decide +kernel
theorem dX7_lay_19 : decode cX7_lay 19 = .ok (.bipush 10, 2) := by decide +kernel
theorem dX7_lay_21 : decode cX7_lay 21 = .ok (.if_icmp .eq 17, 3) := by decide +kernel
theorem dX7_lay_24 : decode cX7_lay 24 = .ok (.iload 4, 2) := by decide +kernel
theorem dX7_lay_26 : decode cX7_lay 26 = .ok (.bipush 32, 2) := by decide +kernel
theorem dX7_lay_28 : decode cX7_lay 28 = .ok (.if_icmp .lt 41, 3) := by decide +kernel
theorem dX7_lay_31 : decode cX7_lay 31 = .ok (.iload 4, 2) := by decide +kernel
theorem dX7_lay_33 : decode cX7_lay 33 = .ok (.bipush 126, 2) := by decide +kernel
theorem dX7_lay_35 : decode cX7_lay 35 = .ok (.if_icmp .gt 34, 3) := by decide +kernel
theorem dX7_lay_38 : decode cX7_lay 38 = .ok (.aload_n 0, 1) := by decide +kernel
theorem dX7_lay_39 : decode cX7_lay 39 = .ok (.getfield 11, 3) := by decide +kernel
theorem dX7_lay_42 : decode cX7_lay 42 = .ok (.sipush 1000, 3) := by decide +kernel
theorem dX7_lay_45 : decode cX7_lay 45 = .ok (.if_icmp .ge 24, 3) := by decide +kernel
theorem dX7_lay_48 : decode cX7_lay 48 = .ok (.aload_n 0, 1) := by decide +kernel
theorem dX7_lay_49 : decode cX7_lay 49 = .ok (.getfield 14, 3) := by decide +kernel
theorem dX7_lay_52 : decode cX7_lay 52 = .ok (.aload_n 0, 1) := by decide +kernel
theorem dX7_lay_53 : decode cX7_lay 53 = .ok (.getfield 11, 3) := by decide +kernel
theorem dX7_lay_56 : decode cX7_lay 56 = .ok (.iload 4, 2) := by decide +kernel
theorem dX7_lay_58 : decode cX7_lay 58 = .ok (.iastore, 1) := by decide +kernel
theorem dX7_lay_59 : decode cX7_lay 59 = .ok (.aload_n 0, 1) := by decide +kernel
theorem dX7_lay_60 : decode cX7_lay 60 = .ok (.dup, 1) := by decide +kernel
theorem dX7_lay_61 : decode cX7_lay 61 = .ok (.getfield 11, 3) := by decide +kernel
theorem dX7_lay_64 : decode cX7_lay 64 = .ok (.iconst 1, 1) := by decide +kernel
theorem dX7_lay_65 : decode cX7_lay 65 = .ok (.iadd, 1) := by decide +kernel
theorem dX7_lay_66 : decode cX7_lay 66 = .ok (.putfield 11, 3) := by decide +kernel
theorem dX7_lay_69 : decode cX7_lay 69 = .ok (.iinc 3 (-8), 3) := by decide +kernel
theorem dX7_lay_72 : decode cX7_lay 72 = .ok (.goto (-69), 3) := by decide +kernel
theorem dX7_lay_75 : decode cX7_lay 75 = .ok (.return_, 1) := by decide +kernel
theorem dX7_init_0 : decode cX7_init 0 = .ok (.aload_n 0, 1) := by decide +kernel
theorem dX7_init_1 : decode cX7_init 1 = .ok (.invokespecial 18, 3) := by decide +kernel
theorem dX7_init_4 : decode cX7_init 4 = .ok (.aload_n 0, 1) := by decide +kernel
theorem dX7_init_5 : decode cX7_init 5 = .ok (.sipush 1000, 3) := by decide +kernel
theorem dX7_init_8 : decode cX7_init 8 = .ok (.newarray .int, 2) := by decide +kernel
theorem dX7_init_10 : decode cX7_init 10 = .ok (.putfield 14, 3) := by decide +kernel
theorem dX7_init_13 : decode cX7_init 13 = .ok (.aload_n 0, 1) := by decide +kernel
theorem dX7_init_14 : decode cX7_init 14 = .ok (.sipush 1002, 3) := by decide +kernel
theorem dX7_init_17 : decode cX7_init 17 = .ok (.newarray .int, 2) := by decide +kernel
theorem dX7_init_19 : decode cX7_init 19 = .ok (.putfield 24, 3) := by decide +kernel
theorem dX7_init_22 : decode cX7_init 22 = .ok (.aload_n 0, 1) := by decide +kernel
theorem dX7_init_23 : decode cX7_init 23 = .ok (.sipush 1002, 3) := by decide +kernel
theorem dX7_init_26 : decode cX7_init 26 = .ok (.newarray .int, 2) := by decide +kernel
theorem dX7_init_28 : decode cX7_init 28 = .ok (.putfield 27, 3) := by decide +kernel
theorem dX7_init_31 : decode cX7_init 31 = .ok (.aload_n 0, 1) := by decide +kernel
theorem dX7_init_32 : decode cX7_init 32 = .ok (.sipush 1002, 3) := by decide +kernel
theorem dX7_init_35 : decode cX7_init 35 = .ok (.newarray .long, 2) := by decide +kernel
theorem dX7_init_37 : decode cX7_init 37 = .ok (.putfield 30, 3) := by decide +kernel
theorem dX7_init_40 : decode cX7_init 40 = .ok (.aload_n 0, 1) := by decide +kernel
theorem dX7_init_41 : decode cX7_init 41 = .ok (.bipush 23, 2) := by decide +kernel
theorem dX7_init_43 : decode cX7_init 43 = .ok (.newarray .long, 2) := by decide +kernel
theorem dX7_init_45 : decode cX7_init 45 = .ok (.dup, 1) := by decide +kernel
theorem dX7_init_46 : decode cX7_init 46 = .ok (.iconst 0, 1) := by decide +kernel
theorem dX7_init_47 : decode cX7_init 47 = .ok (.ldc2_w 34, 3) := by decide +kernel
theorem dX7_init_50 : decode cX7_init 50 = .ok (.lastore, 1) := by decide +kernel
theorem dX7_init_51 : decode cX7_init 51 = .ok (.dup, 1) := by decide +kernel
theorem dX7_init_52 : decode cX7_init 52 = .ok (.iconst 1, 1) := by decide +kernel
theorem dX7_init_53 : decode cX7_init 53 = .ok (.ldc2_w 36, 3) := by decide +kernel
theorem dX7_init_56 : decode cX7_init 56 = .ok (.lastore, 1) := by decide +kernel
theorem dX7_init_57 : decode cX7_init 57 = .ok (.dup, 1) := by decide +kernel
theorem dX7_init_58 : decode cX7_init 58 = .ok (.iconst 2, 1) := by decide +kernel
theorem dX7_init_59 : decode cX7_init 59 = .ok (.ldc2_w 38, 3) := by decide +kernel
theorem dX7_init_62 : decode cX7_init 62 = .ok (.lastore, 1) := by decide +kernel
theorem dX7_init_63 : decode cX7_init 63 = .ok (.dup, 1) := by decide +kernel
theorem dX7_init_64 : decode cX7_init 64 = .ok (.iconst 3, 1) := by decide +kernel
theorem dX7_init_65 : decode cX7_init 65 = .ok (.ldc2_w 40, 3) := by decide +kernel
theorem dX7_init_68 : decode cX7_init 68 = .ok (.lastore, 1) := by decide +kernel
theorem dX7_init_69 : decode cX7_init 69 = .ok (.dup, 1) := by decide +kernel
theorem dX7_init_70 : decode cX7_init 70 = .ok (.iconst 4, 1) := by decide +kernel
theorem dX7_init_71 : decode cX7_init 71 = .ok (.ldc2_w 42, 3) := by decide +kernel
theorem dX7_init_74 : decode cX7_init 74 = .ok (.lastore, 1) := by decide +kernel
theorem dX7_init_75 : decode cX7_init 75 = .ok (.dup, 1) := by decide +kernel
theorem dX7_init_76 : decode cX7_init 76 = .ok (.iconst 5, 1) := by decide +kernel
theorem dX7_init_77 : decode cX7_init 77 = .ok (.ldc2_w 44, 3) := by decide +kernel
theorem dX7_init_80 : decode cX7_init 80 = .ok (.lastore, 1) := by decide +kernel
theorem dX7_init_81 : decode cX7_init 81 = .ok (.dup, 1) := by decide +kernel
theorem dX7_init_82 : decode cX7_init 82 = .ok (.bipush 6, 2) := by decide +kernel
theorem dX7_init_84 : decode cX7_init 84 = .ok (.ldc2_w 46, 3) := by decide +kernel
theorem dX7_init_87 : decode cX7_init 87 = .ok (.lastore, 1) := by decide +kernel
theorem dX7_init_88 : decode cX7_init 88 = .ok (.dup, 1) := by decide +kernel
theorem dX7_init_89 : decode cX7_init 89 = .ok (.bipush 7, 2) := by decide +kernel
theorem dX7_init_91 : decode cX7_init 91 = .ok (.ldc2_w 48, 3) := by decide +kernel
theorem dX7_init_94 : decode cX7_init 94 = .ok (.lastore, 1) := by decide +kernel
theorem dX7_init_95 : decode cX7_init 95 = .ok (.dup, 1) := by decide +kernel
theorem dX7_init_96 : decode cX7_init 96 = .ok (.bipush 8, 2) := by decide +kernel
theorem dX7_init_98 : decode cX7_init 98 = .ok (.ldc2_w 50, 3) := by decide +kernel
theorem dX7_init_101 : decode cX7_init 101 = .ok (.lastore, 1) := by decide +kernel
theorem dX7_init_102 : decode cX7_init 102 = .ok (.dup, 1) := by decide +kernel
theorem dX7_init_103 : decode cX7_init 103 = .ok (.bipush 9, 2) := by decide +kernel
theorem dX7_init_105 : decode cX7_init 105 = .ok (.ldc2_w 52, 3) := by decide +kernel
theorem dX7_init_108 : decode cX7_init 108 = .ok (.lastore, 1) := by decide +kernel
theorem dX7_init_109 : decode cX7_init 109 = .ok (.dup, 1) := by decide +kernel
theorem dX7_init_110 : decode cX7_init 110 = .ok (.bipush 10, 2) := by decide +kernel
theorem dX7_init_112 : decode cX7_init 112 = .ok (.ldc2_w 54, 3) := by decide +kernel
theorem dX7_init_115 : decode cX7_init 115 = .ok (.lastore, 1) := by decide +kernel
theorem dX7_init_116 : decode cX7_init 116 = .ok (.dup, 1) := by decide +kernel
theorem dX7_init_117 : decode cX7_init 117 = .ok (.bipush 11, 2) := by decide +kernel
theorem dX7_init_119 : decode cX7_init 119 = .ok (.ldc2_w 56, 3) := by decide +kernel
theorem dX7_init_122 : decode cX7_init 122 = .ok (.lastore, 1) := by decide +kernel
theorem dX7_init_123 : decode cX7_init 123 = .ok (.dup, 1) := by decide +kernel
theorem dX7_init_124 : decode cX7_init 124 = .ok (.bipush 12, 2) := by decide +kernel
theorem dX7_init_126 : decode cX7_init 126 = .ok (.ldc2_w 58, 3) := by decide +kernel
theorem dX7_init_129 : decode cX7_init 129 = .ok (.lastore, 1) := by decide +kernel
theorem dX7_init_130 : decode cX7_init 130 = .ok (.dup, 1) := by decide +kernel
theorem dX7_init_131 : decode cX7_init 131 = .ok (.bipush 13, 2) := by decide +kernel
theorem dX7_init_133 : decode cX7_init 133 = .ok (.ldc2_w 60, 3) := by decide +kernel
theorem dX7_init_136 : decode cX7_init 136 = .ok (.lastore, 1) := by decide +kernel
theorem dX7_init_137 : decode cX7_init 137 = .ok (.dup, 1) := by decide +kernel
theorem dX7_init_138 : decode cX7_init 138 = .ok (.bipush 14, 2) := by decide +kernel
theorem dX7_init_140 : decode cX7_init 140 = .ok (.ldc2_w 62, 3) := by decide +kernel
theorem dX7_init_143 : decode cX7_init 143 = .ok (.lastore, 1) := by decide +kernel
theorem dX7_init_144 : decode cX7_init 144 = .ok (.dup, 1) := by decide +kernel
theorem dX7_init_145 : decode cX7_init 145 = .ok (.bipush 15, 2) := by decide +kernel
theorem dX7_init_147 : decode cX7_init 147 = .ok (.ldc2_w 64, 3) := by decide +kernel
theorem dX7_init_150 : decode cX7_init 150 = .ok (.lastore, 1) := by decide +kernel
theorem dX7_init_151 : decode cX7_init 151 = .ok (.dup, 1) := by decide +kernel
theorem dX7_init_152 : decode cX7_init 152 = .ok (.bipush 16, 2) := by decide +kernel
theorem dX7_init_154 : decode cX7_init 154 = .ok (.ldc2_w 66, 3) := by decide +kernel
theorem dX7_init_157 : decode cX7_init 157 = .ok (.lastore, 1) := by decide +kernel
theorem dX7_init_158 : decode cX7_init 158 = .ok (.dup, 1) := by decide +kernel
theorem dX7_init_159 : decode cX7_init 159 = .ok (.bipush 17, 2) := by decide +kernel
theorem dX7_init_161 : decode cX7_init 161 = .ok (.ldc2_w 68, 3) := by decide +kernel
theorem dX7_init_164 : decode cX7_init 164 = .ok (.lastore, 1) := by decide +kernel
theorem dX7_init_165 : decode cX7_init 165 = .ok (.dup, 1) := by decide +kernel
theorem dX7_init_166 : decode cX7_init 166 = .ok (.bipush 18, 2) := by decide +kernel
theorem dX7_init_168 : decode cX7_init 168 = .ok (.ldc2_w 70, 3) := by decide +kernel
theorem dX7_init_171 : decode cX7_init 171 = .ok (.lastore, 1) := by decide +kernel
theorem dX7_init_172 : decode cX7_init 172 = .ok (.dup, 1) := by decide +kernel
theorem dX7_init_173 : decode cX7_init 173 = .ok (.bipush 19, 2) := by decide +kernel
theorem dX7_init_175 : decode cX7_init 175 = .ok (.ldc2_w 72, 3) := by decide +kernel
theorem dX7_init_178 : decode cX7_init 178 = .ok (.lastore, 1) := by decide +kernel
theorem dX7_init_179 : decode cX7_init 179 = .ok (.dup, 1) := by decide +kernel
theorem dX7_init_180 : decode cX7_init 180 = .ok (.bipush 20, 2) := by decide +kernel
theorem dX7_init_182 : decode cX7_init 182 = .ok (.ldc2_w 74, 3) := by decide +kernel
theorem dX7_init_185 : decode cX7_init 185 = .ok (.lastore, 1) := by decide +kernel
theorem dX7_init_186 : decode cX7_init 186 = .ok (.dup, 1) := by decide +kernel
theorem dX7_init_187 : decode cX7_init 187 = .ok (.bipush 21, 2) := by decide +kernel
theorem dX7_init_189 : decode cX7_init 189 = .ok (.ldc2_w 76, 3) := by decide +kernel
theorem dX7_init_192 : decode cX7_init 192 = .ok (.lastore, 1) := by decide +kernel
theorem dX7_init_193 : decode cX7_init 193 = .ok (.dup, 1) := by decide +kernel
theorem dX7_init_194 : decode cX7_init 194 = .ok (.bipush 22, 2) := by decide +kernel
theorem dX7_init_196 : decode cX7_init 196 = .ok (.ldc2_w 78, 3) := by decide +kernel
theorem dX7_init_199 : decode cX7_init 199 = .ok (.lastore, 1) := by decide +kernel
theorem dX7_init_200 : decode cX7_init 200 = .ok (.putfield 80, 3) := by decide +kernel
theorem dX7_init_203 : decode cX7_init 203 = .ok (.aload_n 0, 1) := by decide +kernel
theorem dX7_init_204 : decode cX7_init 204 = .ok (.iconst 2, 1) := by decide +kernel
theorem dX7_init_205 : decode cX7_init 205 = .ok (.newarray .int, 2) := by decide +kernel
theorem dX7_init_207 : decode cX7_init 207 = .ok (.putfield 83, 3) := by decide +kernel
theorem dX7_init_210 : decode cX7_init 210 = .ok (.aload_n 0, 1) := by decide +kernel
theorem dX7_init_211 : decode cX7_init 211 = .ok (.bipush 48, 2) := by decide +kernel
theorem dX7_init_213 : decode cX7_init 213 = .ok (.newarray .int, 2) := by decide +kernel
theorem dX7_init_215 : decode cX7_init 215 = .ok (.putfield 86, 3) := by decide +kernel
theorem dX7_init_218 : decode cX7_init 218 = .ok (.aload_n 0, 1) := by decide +kernel
theorem dX7_init_219 : decode cX7_init 219 = .ok (.bipush 48, 2) := by decide +kernel
theorem dX7_init_221 : decode cX7_init 221 = .ok (.newarray .int, 2) := by decide +kernel
theorem dX7_init_223 : decode cX7_init 223 = .ok (.putfield 89, 3) := by decide +kernel
theorem dX7_init_226 : decode cX7_init 226 = .ok (.aload_n 0, 1) := by decide +kernel
theorem dX7_init_227 : decode cX7_init 227 = .ok (.bipush 48, 2) := by decide +kernel
theorem dX7_init_229 : decode cX7_init 229 = .ok (.newarray .int, 2) := by decide +kernel
theorem dX7_init_231 : decode cX7_init 231 = .ok (.putfield 92, 3) := by decide +kernel
theorem dX7_init_234 : decode cX7_init 234 = .ok (.aload_n 0, 1) := by decide +kernel
theorem dX7_init_235 : decode cX7_init 235 = .ok (.bipush 48, 2) := by decide +kernel
theorem dX7_init_237 : decode cX7_init 237 = .ok (.newarray .int, 2) := by decide +kernel
theorem dX7_init_239 : decode cX7_init 239 = .ok (.putfield 95, 3) := by decide +kernel
theorem dX7_init_242 : decode cX7_init 242 = .ok (.aload_n 0, 1) := by decide +kernel
theorem dX7_init_243 : decode cX7_init 243 = .ok (.bipush 48, 2) := by decide +kernel
theorem dX7_init_245 : decode cX7_init 245 = .ok (.newarray .int, 2) := by decide +kernel
theorem dX7_init_247 : decode cX7_init 247 = .ok (.putfield 98, 3) := by decide +kernel
theorem dX7_init_250 : decode cX7_init 250 = .ok (.aload_n 0, 1) := by decide +kernel
theorem dX7_init_251 : decode cX7_init 251 = .ok (.iconst 2, 1) := by decide +kernel
theorem dX7_init_252 : decode cX7_init 252 = .ok (.newarray .int, 2) := by decide +kernel
theorem dX7_init_254 : decode cX7_init 254 = .ok (.putfield 101, 3) := by decide +kernel
theorem dX7_init_257 : decode cX7_init 257 = .ok (.aload_n 0, 1) := by decide +kernel
theorem dX7_init_258 : decode cX7_init 258 = .ok (.sipush 2200, 3) := by decide +kernel
theorem dX7_init_261 : decode cX7_init 261 = .ok (.newarray .int, 2) := by decide +kernel
theorem dX7_init_263 : decode cX7_init 263 = .ok (.putfield 104, 3) := by decide +kernel
theorem dX7_init_266 : decode cX7_init 266 = .ok (.aload_n 0, 1) := by decide +kernel
theorem dX7_init_267 : decode cX7_init 267 = .ok (.sipush 2200, 3) := by decide +kernel
theorem dX7_init_270 : decode cX7_init 270 = .ok (.newarray .int, 2) := by decide +kernel
theorem dX7_init_272 : decode cX7_init 272 = .ok (.putfield 107, 3) := by decide +kernel
theorem dX7_init_275 : decode cX7_init 275 = .ok (.aload_n 0, 1) := by decide +kernel
theorem dX7_init_276 : decode cX7_init 276 = .ok (.bipush 9, 2) := by decide +kernel
theorem dX7_init_278 : decode cX7_init 278 = .ok (.newarray .int, 2) := by decide +kernel
theorem dX7_init_280 : decode cX7_init 280 = .ok (.putfield 110, 3) := by decide +kernel
theorem dX7_init_283 : decode cX7_init 283 = .ok (.aload_n 0, 1) := by decide +kernel
theorem dX7_init_284 : decode cX7_init 284 = .ok (.sipush 1100, 3) := by decide +kernel
theorem dX7_init_287 : decode cX7_init 287 = .ok (.newarray .int, 2) := by decide +kernel
theorem dX7_init_289 : decode cX7_init 289 = .ok (.putfield 113, 3) := by decide +kernel
theorem dX7_init_292 : decode cX7_init 292 = .ok (.aload_n 0, 1) := by decide +kernel
theorem dX7_init_293 : decode cX7_init 293 = .ok (.bipush 8, 2) := by decide +kernel
theorem dX7_init_295 : decode cX7_init 295 = .ok (.newarray .int, 2) := by decide +kernel
theorem dX7_init_297 : decode cX7_init 297 = .ok (.putfield 116, 3) := by decide +kernel
theorem dX7_init_300 : decode cX7_init 300 = .ok (.aload_n 0, 1) := by decide +kernel
theorem dX7_init_301 : decode cX7_init 301 = .ok (.bipush 96, 2) := by decide +kernel
theorem dX7_init_303 : decode cX7_init 303 = .ok (.newarray .int, 2) := by decide +kernel
theorem dX7_init_305 : decode cX7_init 305 = .ok (.putfield 119, 3) := by decide +kernel
theorem dX7_init_308 : decode cX7_init 308 = .ok (.aload_n 0, 1) := by decide +kernel
theorem dX7_init_309 : decode cX7_init 309 = .ok (.bipush 96, 2) := by decide +kernel
theorem dX7_init_311 : decode cX7_init 311 = .ok (.newarray .int, 2) := by decide +kernel
theorem dX7_init_313 : decode cX7_init 313 = .ok (.putfield 122, 3) := by decide +kernel
theorem dX7_init_316 : decode cX7_init 316 = .ok (.aload_n 0, 1) := by decide +kernel
theorem dX7_init_317 : decode cX7_init 317 = .ok (.bipush 96, 2) := by decide +kernel
theorem dX7_init_319 : decode cX7_init 319 = .ok (.newarray .int, 2) := by decide +kernel
theorem dX7_init_321 : decode cX7_init 321 = .ok (.putfield 125, 3) := by decide +kernel
theorem dX7_init_324 : decode cX7_init 324 = .ok (.aload_n 0, 1) := by decide +kernel
theorem dX7_init_325 : decode cX7_init 325 = .ok (.sipush 480, 3) := by decide +kernel
theorem dX7_init_328 : decode cX7_init 328 = .ok (.newarray .int, 2) := by decide +kernel
theorem dX7_init_330 : decode cX7_init 330 = .ok (.putfield 128, 3) := by decide +kernel
theorem dX7_init_333 : decode cX7_init 333 = .ok (.aload_n 0, 1) := by decide +kernel
theorem dX7_init_334 : decode cX7_init 334 = .ok (.bipush 8, 2) := by decide +kernel
theorem dX7_init_336 : decode cX7_init 336 = .ok (.newarray .int, 2) := by decide +kernel
theorem dX7_init_338 : decode cX7_init 338 = .ok (.putfield 131, 3) := by decide +kernel
theorem dX7_init_341 : decode cX7_init 341 = .ok (.aload_n 0, 1) := by decide +kernel
theorem dX7_init_342 : decode cX7_init 342 = .ok (.bipush 8, 2) := by decide +kernel
theorem dX7_init_344 : decode cX7_init 344 = .ok (.newarray .int, 2) := by decide +kernel
theorem dX7_init_346 : decode cX7_init 346 = .ok (.putfield 134, 3) := by decide +kernel
theorem dX7_init_349 : decode cX7_init 349 = .ok (.aload_n 0, 1) := by decide +kernel
theorem dX7_init_350 : decode cX7_init 350 = .ok (.bipush 8, 2) := by decide +kernel
theorem dX7_init_352 : decode cX7_init 352 = .ok (.newarray .int, 2) := by decide +kernel
theorem dX7_init_354 : decode cX7_init 354 = .ok (.putfield 137, 3) := by decide +kernel
theorem dX7_init_357 : decode cX7_init 357 = .ok (.aload_n 0, 1) := by decide +kernel
theorem dX7_init_358 : decode cX7_init 358 = .ok (.bipush 8, 2) := by decide +kernel
theorem dX7_init_360 : decode cX7_init 360 = .ok (.newarray .long, 2) := by decide +kernel
theorem dX7_init_362 : decode cX7_init 362 = .ok (.putfield 140, 3) := by decide +kernel
theorem dX7_init_365 : decode cX7_init 365 = .ok (.aload_n 0, 1) := by decide +kernel
theorem dX7_init_366 : decode cX7_init 366 = .ok (.bipush 8, 2) := by decide +kernel
theorem dX7_init_368 : decode cX7_init 368 = .ok (.newarray .long, 2) := by decide +kernel
theorem dX7_init_370 : decode cX7_init 370 = .ok (.putfield 143, 3) := by decide +kernel
theorem dX7_init_373 : decode cX7_init 373 = .ok (.aload_n 0, 1) := by decide +kernel
theorem dX7_init_374 : decode cX7_init 374 = .ok (.bipush 8, 2) := by decide +kernel
theorem dX7_init_376 : decode cX7_init 376 = .ok (.newarray .int, 2) := by decide +kernel
theorem dX7_init_378 : decode cX7_init 378 = .ok (.putfield 146, 3) := by decide +kernel
theorem dX7_init_381 : decode cX7_init 381 = .ok (.aload_n 0, 1) := by decide +kernel
theorem dX7_init_382 : decode cX7_init 382 = .ok (.sipush 240, 3) := by decide +kernel
theorem dX7_init_385 : decode cX7_init 385 = .ok (.newarray .int, 2) := by decide +kernel
theorem dX7_init_387 : decode cX7_init 387 = .ok (.putfield 149, 3) := by decide +kernel
theorem dX7_init_390 : decode cX7_init 390 = .ok (.aload_n 0, 1) := by decide +kernel
theorem dX7_init_391 : decode cX7_init 391 = .ok (.sipush 240, 3) := by decide +kernel
theorem dX7_init_394 : decode cX7_init 394 = .ok (.newarray .int, 2) := by decide +kernel
theorem dX7_init_396 : decode cX7_init 396 = .ok (.putfield 152, 3) := by decide +kernel
theorem dX7_init_399 : decode cX7_init 399 = .ok (.aload_n 0, 1) := by decide +kernel
theorem dX7_init_400 : decode cX7_init 400 = .ok (.sipush 240, 3) := by decide +kernel
theorem dX7_init_403 : decode cX7_init 403 = .ok (.newarray .int, 2) := by decide +kernel
theorem dX7_init_405 : decode cX7_init 405 = .ok (.putfield 155, 3) := by decide +kernel
theorem dX7_init_408 : decode cX7_init 408 = .ok (.aload_n 0, 1) := by decide +kernel
theorem dX7_init_409 : decode cX7_init 409 = .ok (.sipush 240, 3) := by decide +kernel
theorem dX7_init_412 : decode cX7_init 412 = .ok (.newarray .int, 2) := by decide +kernel
theorem dX7_init_414 : decode cX7_init 414 = .ok (.putfield 158, 3) := by decide +kernel
theorem dX7_init_417 : decode cX7_init 417 = .ok (.aload_n 0, 1) := by decide +kernel
theorem dX7_init_418 : decode cX7_init 418 = .ok (.sipush 240, 3) := by decide +kernel
theorem dX7_init_421 : decode cX7_init 421 = .ok (.newarray .int, 2) := by decide +kernel
theorem dX7_init_423 : decode cX7_init 423 = .ok (.putfield 161, 3) := by decide +kernel
theorem dX7_init_426 : decode cX7_init 426 = .ok (.aload_n 0, 1) := by decide +kernel
theorem dX7_init_427 : decode cX7_init 427 = .ok (.sipush 240, 3) := by decide +kernel
theorem dX7_init_430 : decode cX7_init 430 = .ok (.newarray .int, 2) := by decide +kernel
theorem dX7_init_432 : decode cX7_init 432 = .ok (.putfield 164, 3) := by decide +kernel
theorem dX7_init_435 : decode cX7_init 435 = .ok (.aload_n 0, 1) := by decide +kernel
theorem dX7_init_436 : decode cX7_init 436 = .ok (.sipush 2880, 3) := by decide +kernel
theorem dX7_init_439 : decode cX7_init 439 = .ok (.newarray .int, 2) := by decide +kernel
theorem dX7_init_441 : decode cX7_init 441 = .ok (.putfield 167, 3) := by decide +kernel
theorem dX7_init_444 : decode cX7_init 444 = .ok (.aload_n 0, 1) := by decide +kernel
theorem dX7_init_445 : decode cX7_init 445 = .ok (.bipush 60, 2) := by decide +kernel
theorem dX7_init_447 : decode cX7_init 447 = .ok (.newarray .int, 2) := by decide +kernel
theorem dX7_init_449 : decode cX7_init 449 = .ok (.putfield 170, 3) := by decide +kernel
theorem dX7_init_452 : decode cX7_init 452 = .ok (.aload_n 0, 1) := by decide +kernel
theorem dX7_init_453 : decode cX7_init 453 = .ok (.bipush 12, 2) := by decide +kernel
theorem dX7_init_455 : decode cX7_init 455 = .ok (.newarray .int, 2) := by decide +kernel
theorem dX7_init_457 : decode cX7_init 457 = .ok (.putfield 173, 3) := by decide +kernel
theorem dX7_init_460 : decode cX7_init 460 = .ok (.aload_n 0, 1) := by decide +kernel
theorem dX7_init_461 : decode cX7_init 461 = .ok (.bipush 10, 2) := by decide +kernel
theorem dX7_init_463 : decode cX7_init 463 = .ok (.newarray .int, 2) := by decide +kernel
theorem dX7_init_465 : decode cX7_init 465 = .ok (.putfield 176, 3) := by decide +kernel
theorem dX7_init_468 : decode cX7_init 468 = .ok (.aload_n 0, 1) := by decide +kernel
theorem dX7_init_469 : decode cX7_init 469 = .ok (.bipush 10, 2) := by decide +kernel
theorem dX7_init_471 : decode cX7_init 471 = .ok (.newarray .int, 2) := by decide +kernel
theorem dX7_init_473 : decode cX7_init 473 = .ok (.putfield 179, 3) := by decide +kernel
theorem dX7_init_476 : decode cX7_init 476 = .ok (.aload_n 0, 1) := by decide +kernel
theorem dX7_init_477 : decode cX7_init 477 = .ok (.bipush 6, 2) := by decide +kernel
theorem dX7_init_479 : decode cX7_init 479 = .ok (.newarray .boolean, 2) := by decide +kernel
theorem dX7_init_481 : decode cX7_init 481 = .ok (.putfield 182, 3) := by decide +kernel
theorem dX7_init_484 : decode cX7_init 484 = .ok (.aload_n 0, 1) := by decide +kernel
theorem dX7_init_485 : decode cX7_init 485 = .ok (.bipush 12, 2) := by decide +kernel
theorem dX7_init_487 : decode cX7_init 487 = .ok (.invokevirtual 186, 3) := by decide +kernel
theorem dX7_init_490 : decode cX7_init 490 = .ok (.aload_n 0, 1) := by decide +kernel
theorem dX7_init_491 : decode cX7_init 491 = .ok (.bipush 101, 2) := by decide +kernel
theorem dX7_init_493 : decode cX7_init 493 = .ok (.putfield 190, 3) := by decide +kernel
theorem dX7_init_496 : decode cX7_init 496 = .ok (.return_, 1) := by decide +kernel
theorem dX7_isLetter_0 : decode cX7_isLetter 0 = .ok (.iload_n 0, 1) := by decide +kernel
theorem dX7_isLetter_1 : decode cX7_isLetter 1 = .ok (.bipush 97, 2) := by decide +kernel
theorem dX7_isLetter_3 : decode cX7_isLetter 3 = .ok (.if_icmp .lt 13, 3) := by decide +kernel
theorem dX7_isLetter_6 : decode cX7_isLetter 6 = .ok (.iload_n 0, 1) := by decide +kernel
theorem dX7_isLetter_7 : decode cX7_isLetter 7 = .ok (.bipush 122, 2) := by decide +kernel
theorem dX7_isLetter_9 : decode cX7_isLetter 9 = .ok (.if_icmp .gt 7, 3) := by decide +kernel
theorem dX7_isLetter_12 : decode cX7_isLetter 12 = .ok (.iconst 1, 1) := by decide +kernel
theorem dX7_isLetter_13 : decode cX7_isLetter 13 = .ok (.goto 4, 3) := by decide +kernel
theorem dX7_isLetter_16 : decode cX7_isLetter 16 = .ok (.iconst 0, 1) := by decide +kernel
theorem dX7_isLetter_17 : decode cX7_isLetter 17 = .ok (.ireturn, 1) := by decide +kernel
theorem dX7_isDigit_0 : decode cX7_isDigit 0 = .ok (.iload_n 0, 1) := by decide +kernel
theorem dX7_isDigit_1 : decode cX7_isDigit 1 = .ok (.bipush 48, 2) := by decide +kernel
theorem dX7_isDigit_3 : decode cX7_isDigit 3 = .ok (.if_icmp .lt 13, 3) := by decide +kernel
theorem dX7_isDigit_6 : decode cX7_isDigit 6 = .ok (.iload_n 0, 1) := by decide +kernel
theorem dX7_isDigit_7 : decode cX7_isDigit 7 = .ok (.bipush 57, 2) := by decide +kernel
theorem dX7_isDigit_9 : decode cX7_isDigit 9 = .ok (.if_icmp .gt 7, 3) := by decide +kernel
theorem dX7_isDigit_12 : decode cX7_isDigit 12 = .ok (.iconst 1, 1) := by decide +kernel
theorem dX7_isDigit_13 : decode cX7_isDigit 13 = .ok (.goto 4, 3) := by decide +kernel
theorem dX7_isDigit_16 : decode cX7_isDigit 16 = .ok (.iconst 0, 1) := by decide +kernel
theorem dX7_isDigit_17 : decode cX7_isDigit 17 = .ok (.ireturn, 1) := by decide +kernel
theorem dX7_rank_0 : decode cX7_rank 0 = .ok (.iload_n 0, 1) := by decide +kernel
theorem dX7_rank_1 : decode cX7_rank 1 = .ok (.invokestatic 193, 3) := by decide +kernel
theorem dX7_rank_4 : decode cX7_rank 4 = .ok (.ifCond .eq 10, 3) := by decide +kernel
theorem dX7_rank_7 : decode cX7_rank 7 = .ok (.iload_n 0, 1) := by decide +kernel
theorem dX7_rank_8 : decode cX7_rank 8 = .ok (.bipush 96, 2) := by decide +kernel
theorem dX7_rank_10 : decode cX7_rank 10 = .ok (.isub, 1) := by decide +kernel
theorem dX7_rank_11 : decode cX7_rank 11 = .ok (.goto 7, 3) := by decide +kernel
theorem dX7_rank_14 : decode cX7_rank 14 = .ok (.iload_n 0, 1) := by decide +kernel
theorem dX7_rank_15 : decode cX7_rank 15 = .ok (.bipush 21, 2) := by decide +kernel
theorem dX7_rank_17 : decode cX7_rank 17 = .ok (.isub, 1) := by decide +kernel
theorem dX7_rank_18 : decode cX7_rank 18 = .ok (.ireturn, 1) := by decide +kernel
theorem dX7_isSignOf_0 : decode cX7_isSignOf 0 = .ok (.iload_n 0, 1) := by decide +kernel
theorem dX7_isSignOf_1 : decode cX7_isSignOf 1 = .ok (.bipush 40, 2) := by decide +kernel
theorem dX7_isSignOf_3 : decode cX7_isSignOf 3 = .ok (.if_icmp .eq 51, 3) := by decide +kernel
theorem dX7_isSignOf_6 : decode cX7_isSignOf 6 = .ok (.iload_n 0, 1) := by decide +kernel
theorem dX7_isSignOf_7 : decode cX7_isSignOf 7 = .ok (.bipush 41, 2) := by decide +kernel
theorem dX7_isSignOf_9 : decode cX7_isSignOf 9 = .ok (.if_icmp .eq 45, 3) := by decide +kernel
theorem dX7_isSignOf_12 : decode cX7_isSignOf 12 = .ok (.iload_n 0, 1) := by decide +kernel
theorem dX7_isSignOf_13 : decode cX7_isSignOf 13 = .ok (.bipush 59, 2) := by decide +kernel
theorem dX7_isSignOf_15 : decode cX7_isSignOf 15 = .ok (.if_icmp .eq 39, 3) := by decide +kernel
theorem dX7_isSignOf_18 : decode cX7_isSignOf 18 = .ok (.iload_n 0, 1) := by decide +kernel
theorem dX7_isSignOf_19 : decode cX7_isSignOf 19 = .ok (.bipush 61, 2) := by decide +kernel
theorem dX7_isSignOf_21 : decode cX7_isSignOf 21 = .ok (.if_icmp .eq 33, 3) := by decide +kernel
theorem dX7_isSignOf_24 : decode cX7_isSignOf 24 = .ok (.iload_n 0, 1) := by decide +kernel
theorem dX7_isSignOf_25 : decode cX7_isSignOf 25 = .ok (.bipush 60, 2) := by decide +kernel
theorem dX7_isSignOf_27 : decode cX7_isSignOf 27 = .ok (.if_icmp .eq 27, 3) := by decide +kernel
theorem dX7_isSignOf_30 : decode cX7_isSignOf 30 = .ok (.iload_n 0, 1) := by decide +kernel
theorem dX7_isSignOf_31 : decode cX7_isSignOf 31 = .ok (.bipush 43, 2) := by decide +kernel
theorem dX7_isSignOf_33 : decode cX7_isSignOf 33 = .ok (.if_icmp .eq 21, 3) := by decide +kernel
theorem dX7_isSignOf_36 : decode cX7_isSignOf 36 = .ok (.iload_n 0, 1) := by decide +kernel
theorem dX7_isSignOf_37 : decode cX7_isSignOf 37 = .ok (.bipush 45, 2) := by decide +kernel
theorem dX7_isSignOf_39 : decode cX7_isSignOf 39 = .ok (.if_icmp .eq 15, 3) := by decide +kernel
theorem dX7_isSignOf_42 : decode cX7_isSignOf 42 = .ok (.iload_n 0, 1) := by decide +kernel
theorem dX7_isSignOf_43 : decode cX7_isSignOf 43 = .ok (.bipush 42, 2) := by decide +kernel
theorem dX7_isSignOf_45 : decode cX7_isSignOf 45 = .ok (.if_icmp .eq 9, 3) := by decide +kernel
theorem dX7_isSignOf_48 : decode cX7_isSignOf 48 = .ok (.iload_n 0, 1) := by decide +kernel
theorem dX7_isSignOf_49 : decode cX7_isSignOf 49 = .ok (.bipush 47, 2) := by decide +kernel
theorem dX7_isSignOf_51 : decode cX7_isSignOf 51 = .ok (.if_icmp .ne 7, 3) := by decide +kernel
theorem dX7_isSignOf_54 : decode cX7_isSignOf 54 = .ok (.iconst 1, 1) := by decide +kernel
theorem dX7_isSignOf_55 : decode cX7_isSignOf 55 = .ok (.goto 4, 3) := by decide +kernel
theorem dX7_isSignOf_58 : decode cX7_isSignOf 58 = .ok (.iconst 0, 1) := by decide +kernel
theorem dX7_isSignOf_59 : decode cX7_isSignOf 59 = .ok (.ireturn, 1) := by decide +kernel
theorem dX7_cutAll_0 : decode cX7_cutAll 0 = .ok (.aload_n 0, 1) := by decide +kernel
theorem dX7_cutAll_1 : decode cX7_cutAll 1 = .ok (.aload_n 0, 1) := by decide +kernel
theorem dX7_cutAll_2 : decode cX7_cutAll 2 = .ok (.getfield 11, 3) := by decide +kernel
theorem dX7_cutAll_5 : decode cX7_cutAll 5 = .ok (.putfield 197, 3) := by decide +kernel
theorem dX7_cutAll_8 : decode cX7_cutAll 8 = .ok (.aload_n 0, 1) := by decide +kernel
theorem dX7_cutAll_9 : decode cX7_cutAll 9 = .ok (.iconst 0, 1) := by decide +kernel
theorem dX7_cutAll_10 : decode cX7_cutAll 10 = .ok (.putfield 11, 3) := by decide +kernel
theorem dX7_cutAll_13 : decode cX7_cutAll 13 = .ok (.iconst 0, 1) := by decide +kernel
theorem dX7_cutAll_14 : decode cX7_cutAll 14 = .ok (.istore_n 1, 1) := by decide +kernel
theorem dX7_cutAll_15 : decode cX7_cutAll 15 = .ok (.iconst 0, 1) := by decide +kernel
theorem dX7_cutAll_16 : decode cX7_cutAll 16 = .ok (.istore_n 2, 1) := by decide +kernel
theorem dX7_cutAll_17 : decode cX7_cutAll 17 = .ok (.iload_n 2, 1) := by decide +kernel
theorem dX7_cutAll_18 : decode cX7_cutAll 18 = .ok (.aload_n 0, 1) := by decide +kernel
theorem dX7_cutAll_19 : decode cX7_cutAll 19 = .ok (.getfield 197, 3) := by decide +kernel
theorem dX7_cutAll_22 : decode cX7_cutAll 22 = .ok (.if_icmp .ge 257, 3) := by decide +kernel
theorem dX7_cutAll_25 : decode cX7_cutAll 25 = .ok (.aload_n 0, 1) := by decide +kernel
theorem dX7_cutAll_26 : decode cX7_cutAll 26 = .ok (.getfield 14, 3) := by decide +kernel
theorem dX7_cutAll_29 : decode cX7_cutAll 29 = .ok (.iload_n 2, 1) := by decide +kernel
theorem dX7_cutAll_30 : decode cX7_cutAll 30 = .ok (.iaload, 1) := by decide +kernel
theorem dX7_cutAll_31 : decode cX7_cutAll 31 = .ok (.istore_n 3, 1) := by decide +kernel
theorem dX7_cutAll_32 : decode cX7_cutAll 32 = .ok (.iload_n 3, 1) := by decide +kernel
theorem dX7_cutAll_33 : decode cX7_cutAll 33 = .ok (.bipush 10, 2) := by decide +kernel
theorem dX7_cutAll_35 : decode cX7_cutAll 35 = .ok (.if_icmp .eq 9, 3) := by decide +kernel
theorem dX7_cutAll_38 : decode cX7_cutAll 38 = .ok (.iload_n 3, 1) := by decide +kernel
theorem dX7_cutAll_39 : decode cX7_cutAll 39 = .ok (.bipush 32, 2) := by decide +kernel
theorem dX7_cutAll_41 : decode cX7_cutAll 41 = .ok (.if_icmp .ne 9, 3) := by decide +kernel
theorem dX7_cutAll_44 : decode cX7_cutAll 44 = .ok (.iinc 2 1, 3) := by decide +kernel
theorem dX7_cutAll_47 : decode cX7_cutAll 47 = .ok (.goto (-30), 3) := by decide +kernel
theorem dX7_cutAll_50 : decode cX7_cutAll 50 = .ok (.iload_n 2, 1) := by decide +kernel
theorem dX7_cutAll_51 : decode cX7_cutAll 51 = .ok (.istore 4, 2) := by decide +kernel
theorem dX7_cutAll_53 : decode cX7_cutAll 53 = .ok (.lconst 0, 1) := by decide +kernel
theorem dX7_cutAll_54 : decode cX7_cutAll 54 = .ok (.lstore 5, 2) := by decide +kernel
theorem dX7_cutAll_56 : decode cX7_cutAll 56 = .ok (.aload_n 0, 1) := by decide +kernel
theorem dX7_cutAll_57 : decode cX7_cutAll 57 = .ok (.getfield 27, 3) := by decide +kernel
theorem dX7_cutAll_60 : decode cX7_cutAll 60 = .ok (.iload_n 1, 1) := by decide +kernel
theorem dX7_cutAll_61 : decode cX7_cutAll 61 = .ok (.iload_n 2, 1) := by decide +kernel
theorem dX7_cutAll_62 : decode cX7_cutAll 62 = .ok (.iastore, 1) := by decide +kernel
theorem dX7_cutAll_63 : decode cX7_cutAll 63 = .ok (.iload_n 3, 1) := by decide +kernel
theorem dX7_cutAll_64 : decode cX7_cutAll 64 = .ok (.invokestatic 193, 3) := by decide +kernel
theorem dX7_cutAll_67 : decode cX7_cutAll 67 = .ok (.ifCond .eq 85, 3) := by decide +kernel
theorem dX7_cutAll_70 : decode cX7_cutAll 70 = .ok (.iload_n 2, 1) := by decide +kernel
theorem dX7_cutAll_71 : decode cX7_cutAll 71 = .ok (.aload_n 0, 1) := by decide +kernel
theorem dX7_cutAll_72 : decode cX7_cutAll 72 = .ok (.getfield 197, 3) := by decide +kernel
theorem dX7_cutAll_75 : decode cX7_cutAll 75 = .ok (.if_icmp .ge 54, 3) := by decide +kernel
theorem dX7_cutAll_78 : decode cX7_cutAll 78 = .ok (.aload_n 0, 1) := by decide +kernel
theorem dX7_cutAll_79 : decode cX7_cutAll 79 = .ok (.getfield 14, 3) := by decide +kernel
theorem dX7_cutAll_82 : decode cX7_cutAll 82 = .ok (.iload_n 2, 1) := by decide +kernel
theorem dX7_cutAll_83 : decode cX7_cutAll 83 = .ok (.iaload, 1) := by decide +kernel
theorem dX7_cutAll_84 : decode cX7_cutAll 84 = .ok (.invokestatic 193, 3) := by decide +kernel
theorem dX7_cutAll_87 : decode cX7_cutAll 87 = .ok (.ifCond .eq 42, 3) := by decide +kernel
theorem dX7_cutAll_90 : decode cX7_cutAll 90 = .ok (.iload_n 2, 1) := by decide +kernel
theorem dX7_cutAll_91 : decode cX7_cutAll 91 = .ok (.iload 4, 2) := by decide +kernel
theorem dX7_cutAll_93 : decode cX7_cutAll 93 = .ok (.isub, 1) := by decide +kernel
theorem dX7_cutAll_94 : decode cX7_cutAll 94 = .ok (.bipush 8, 2) := by decide +kernel
theorem dX7_cutAll_96 : decode cX7_cutAll 96 = .ok (.if_icmp .ge 23, 3) := by decide +kernel
theorem dX7_cutAll_99 : decode cX7_cutAll 99 = .ok (.ldc2_w 200, 3) := by decide +kernel
theorem dX7_cutAll_102 : decode cX7_cutAll 102 = .ok (.lload 5, 2) := by decide +kernel
theorem dX7_cutAll_104 : decode cX7_cutAll 104 = .ok (.lmul, 1) := by decide +kernel
theorem dX7_cutAll_105 : decode cX7_cutAll 105 = .ok (.aload_n 0, 1) := by decide +kernel
theorem dX7_cutAll_106 : decode cX7_cutAll 106 = .ok (.getfield 14, 3) := by decide +kernel
theorem dX7_cutAll_109 : decode cX7_cutAll 109 = .ok (.iload_n 2, 1) := by decide +kernel
theorem dX7_cutAll_110 : decode cX7_cutAll 110 = .ok (.iaload, 1) := by decide +kernel
theorem dX7_cutAll_111 : decode cX7_cutAll 111 = .ok (.invokestatic 202, 3) := by decide +kernel
theorem dX7_cutAll_114 : decode cX7_cutAll 114 = .ok (.i2l, 1) := by decide +kernel
theorem dX7_cutAll_115 : decode cX7_cutAll 115 = .ok (.ladd, 1) := by decide +kernel
theorem dX7_cutAll_116 : decode cX7_cutAll 116 = .ok (.goto 5, 3) := by decide +kernel
theorem dX7_cutAll_119 : decode cX7_cutAll 119 = .ok (.lload 5, 2) := by decide +kernel
theorem dX7_cutAll_121 : decode cX7_cutAll 121 = .ok (.lstore 5, 2) := by decide +kernel
theorem dX7_cutAll_123 : decode cX7_cutAll 123 = .ok (.iinc 2 1, 3) := by decide +kernel
theorem dX7_cutAll_126 : decode cX7_cutAll 126 = .ok (.goto (-56), 3) := by decide +kernel
theorem dX7_cutAll_129 : decode cX7_cutAll 129 = .ok (.aload_n 0, 1) := by decide +kernel
theorem dX7_cutAll_130 : decode cX7_cutAll 130 = .ok (.getfield 24, 3) := by decide +kernel
theorem dX7_cutAll_133 : decode cX7_cutAll 133 = .ok (.iload_n 1, 1) := by decide +kernel
theorem dX7_cutAll_134 : decode cX7_cutAll 134 = .ok (.iload_n 2, 1) := by decide +kernel
theorem dX7_cutAll_135 : decode cX7_cutAll 135 = .ok (.iload 4, 2) := by decide +kernel
theorem dX7_cutAll_137 : decode cX7_cutAll 137 = .ok (.isub, 1) := by decide +kernel
theorem dX7_cutAll_138 : decode cX7_cutAll 138 = .ok (.bipush 8, 2) := by decide +kernel
theorem dX7_cutAll_140 : decode cX7_cutAll 140 = .ok (.if_icmp .le 7, 3) := by decide +kernel
theorem dX7_cutAll_143 : decode cX7_cutAll 143 = .ok (.iconst 4, 1) := by decide +kernel
theorem dX7_cutAll_144 : decode cX7_cutAll 144 = .ok (.goto 4, 3) := by decide +kernel
theorem dX7_cutAll_147 : decode cX7_cutAll 147 = .ok (.iconst 1, 1) := by decide +kernel
theorem dX7_cutAll_148 : decode cX7_cutAll 148 = .ok (.iastore, 1) := by decide +kernel
theorem dX7_cutAll_149 : decode cX7_cutAll 149 = .ok (.goto 116, 3) := by decide +kernel
theorem dX7_cutAll_152 : decode cX7_cutAll 152 = .ok (.iload_n 3, 1) := by decide +kernel
theorem dX7_cutAll_153 : decode cX7_cutAll 153 = .ok (.invokestatic 206, 3) := by decide +kernel
theorem dX7_cutAll_156 : decode cX7_cutAll 156 = .ok (.ifCond .eq 84, 3) := by decide +kernel
theorem dX7_cutAll_159 : decode cX7_cutAll 159 = .ok (.iload_n 2, 1) := by decide +kernel
theorem dX7_cutAll_160 : decode cX7_cutAll 160 = .ok (.aload_n 0, 1) := by decide +kernel
theorem dX7_cutAll_161 : decode cX7_cutAll 161 = .ok (.getfield 197, 3) := by decide +kernel
theorem dX7_cutAll_164 : decode cX7_cutAll 164 = .ok (.if_icmp .ge 54, 3) := by decide +kernel
theorem dX7_cutAll_167 : decode cX7_cutAll 167 = .ok (.aload_n 0, 1) := by decide +kernel
theorem dX7_cutAll_168 : decode cX7_cutAll 168 = .ok (.getfield 14, 3) := by decide +kernel
theorem dX7_cutAll_171 : decode cX7_cutAll 171 = .ok (.iload_n 2, 1) := by decide +kernel
theorem dX7_cutAll_172 : decode cX7_cutAll 172 = .ok (.iaload, 1) := by decide +kernel
theorem dX7_cutAll_173 : decode cX7_cutAll 173 = .ok (.invokestatic 206, 3) := by decide +kernel
theorem dX7_cutAll_176 : decode cX7_cutAll 176 = .ok (.ifCond .eq 42, 3) := by decide +kernel
theorem dX7_cutAll_179 : decode cX7_cutAll 179 = .ok (.iload_n 2, 1) := by decide +kernel
theorem dX7_cutAll_180 : decode cX7_cutAll 180 = .ok (.iload 4, 2) := by decide +kernel
theorem dX7_cutAll_182 : decode cX7_cutAll 182 = .ok (.isub, 1) := by decide +kernel
theorem dX7_cutAll_183 : decode cX7_cutAll 183 = .ok (.iconst 5, 1) := by decide +kernel
theorem dX7_cutAll_184 : decode cX7_cutAll 184 = .ok (.if_icmp .ge 24, 3) := by decide +kernel
theorem dX7_cutAll_187 : decode cX7_cutAll 187 = .ok (.ldc2_w 209, 3) := by decide +kernel
theorem dX7_cutAll_190 : decode cX7_cutAll 190 = .ok (.lload 5, 2) := by decide +kernel
theorem dX7_cutAll_192 : decode cX7_cutAll 192 = .ok (.lmul, 1) := by decide +kernel
theorem dX7_cutAll_193 : decode cX7_cutAll 193 = .ok (.aload_n 0, 1) := by decide +kernel
theorem dX7_cutAll_194 : decode cX7_cutAll 194 = .ok (.getfield 14, 3) := by decide +kernel
theorem dX7_cutAll_197 : decode cX7_cutAll 197 = .ok (.iload_n 2, 1) := by decide +kernel
theorem dX7_cutAll_198 : decode cX7_cutAll 198 = .ok (.iaload, 1) := by decide +kernel
theorem dX7_cutAll_199 : decode cX7_cutAll 199 = .ok (.i2l, 1) := by decide +kernel
theorem dX7_cutAll_200 : decode cX7_cutAll 200 = .ok (.ladd, 1) := by decide +kernel
theorem dX7_cutAll_201 : decode cX7_cutAll 201 = .ok (.ldc2_w 211, 3) := by decide +kernel
theorem dX7_cutAll_204 : decode cX7_cutAll 204 = .ok (.lsub, 1) := by decide +kernel
theorem dX7_cutAll_205 : decode cX7_cutAll 205 = .ok (.goto 5, 3) := by decide +kernel
theorem dX7_cutAll_208 : decode cX7_cutAll 208 = .ok (.lload 5, 2) := by decide +kernel
theorem dX7_cutAll_210 : decode cX7_cutAll 210 = .ok (.lstore 5, 2) := by decide +kernel
theorem dX7_cutAll_212 : decode cX7_cutAll 212 = .ok (.iinc 2 1, 3) := by decide +kernel
theorem dX7_cutAll_215 : decode cX7_cutAll 215 = .ok (.goto (-56), 3) := by decide +kernel
theorem dX7_cutAll_218 : decode cX7_cutAll 218 = .ok (.aload_n 0, 1) := by decide +kernel
theorem dX7_cutAll_219 : decode cX7_cutAll 219 = .ok (.getfield 24, 3) := by decide +kernel
theorem dX7_cutAll_222 : decode cX7_cutAll 222 = .ok (.iload_n 1, 1) := by decide +kernel
theorem dX7_cutAll_223 : decode cX7_cutAll 223 = .ok (.iload_n 2, 1) := by decide +kernel
theorem dX7_cutAll_224 : decode cX7_cutAll 224 = .ok (.iload 4, 2) := by decide +kernel
theorem dX7_cutAll_226 : decode cX7_cutAll 226 = .ok (.isub, 1) := by decide +kernel
theorem dX7_cutAll_227 : decode cX7_cutAll 227 = .ok (.iconst 5, 1) := by decide +kernel
theorem dX7_cutAll_228 : decode cX7_cutAll 228 = .ok (.if_icmp .le 7, 3) := by decide +kernel
theorem dX7_cutAll_231 : decode cX7_cutAll 231 = .ok (.iconst 4, 1) := by decide +kernel
theorem dX7_cutAll_232 : decode cX7_cutAll 232 = .ok (.goto 4, 3) := by decide +kernel
theorem dX7_cutAll_235 : decode cX7_cutAll 235 = .ok (.iconst 2, 1) := by decide +kernel
theorem dX7_cutAll_236 : decode cX7_cutAll 236 = .ok (.iastore, 1) := by decide +kernel
theorem dX7_cutAll_237 : decode cX7_cutAll 237 = .ok (.goto 28, 3) := by decide +kernel
theorem dX7_cutAll_240 : decode cX7_cutAll 240 = .ok (.iload_n 3, 1) := by decide +kernel
theorem dX7_cutAll_241 : decode cX7_cutAll 241 = .ok (.i2l, 1) := by decide +kernel
theorem dX7_cutAll_242 : decode cX7_cutAll 242 = .ok (.lstore 5, 2) := by decide +kernel
theorem dX7_cutAll_244 : decode cX7_cutAll 244 = .ok (.aload_n 0, 1) := by decide +kernel
theorem dX7_cutAll_245 : decode cX7_cutAll 245 = .ok (.getfield 24, 3) := by decide +kernel
theorem dX7_cutAll_248 : decode cX7_cutAll 248 = .ok (.iload_n 1, 1) := by decide +kernel
theorem dX7_cutAll_249 : decode cX7_cutAll 249 = .ok (.iload_n 3, 1) := by decide +kernel
theorem dX7_cutAll_250 : decode cX7_cutAll 250 = .ok (.invokestatic 213, 3) := by decide +kernel
theorem dX7_cutAll_253 : decode cX7_cutAll 253 = .ok (.ifCond .eq 7, 3) := by decide +kernel
theorem dX7_cutAll_256 : decode cX7_cutAll 256 = .ok (.iconst 3, 1) := by decide +kernel
theorem dX7_cutAll_257 : decode cX7_cutAll 257 = .ok (.goto 4, 3) := by decide +kernel
theorem dX7_cutAll_260 : decode cX7_cutAll 260 = .ok (.iconst 4, 1) := by decide +kernel
theorem dX7_cutAll_261 : decode cX7_cutAll 261 = .ok (.iastore, 1) := by decide +kernel
theorem dX7_cutAll_262 : decode cX7_cutAll 262 = .ok (.iinc 2 1, 3) := by decide +kernel
theorem dX7_cutAll_265 : decode cX7_cutAll 265 = .ok (.aload_n 0, 1) := by decide +kernel
theorem dX7_cutAll_266 : decode cX7_cutAll 266 = .ok (.getfield 30, 3) := by decide +kernel
theorem dX7_cutAll_269 : decode cX7_cutAll 269 = .ok (.iload_n 1, 1) := by decide +kernel
theorem dX7_cutAll_270 : decode cX7_cutAll 270 = .ok (.lload 5, 2) := by decide +kernel
theorem dX7_cutAll_272 : decode cX7_cutAll 272 = .ok (.lastore, 1) := by decide +kernel
theorem dX7_cutAll_273 : decode cX7_cutAll 273 = .ok (.iinc 1 1, 3) := by decide +kernel
theorem dX7_cutAll_276 : decode cX7_cutAll 276 = .ok (.goto (-259), 3) := by decide +kernel
theorem dX7_cutAll_279 : decode cX7_cutAll 279 = .ok (.aload_n 0, 1) := by decide +kernel
theorem dX7_cutAll_280 : decode cX7_cutAll 280 = .ok (.getfield 24, 3) := by decide +kernel
theorem dX7_cutAll_283 : decode cX7_cutAll 283 = .ok (.iload_n 1, 1) := by decide +kernel
theorem dX7_cutAll_284 : decode cX7_cutAll 284 = .ok (.iconst 0, 1) := by decide +kernel
theorem dX7_cutAll_285 : decode cX7_cutAll 285 = .ok (.iastore, 1) := by decide +kernel
theorem dX7_cutAll_286 : decode cX7_cutAll 286 = .ok (.aload_n 0, 1) := by decide +kernel
theorem dX7_cutAll_287 : decode cX7_cutAll 287 = .ok (.getfield 27, 3) := by decide +kernel
theorem dX7_cutAll_290 : decode cX7_cutAll 290 = .ok (.iload_n 1, 1) := by decide +kernel
theorem dX7_cutAll_291 : decode cX7_cutAll 291 = .ok (.aload_n 0, 1) := by decide +kernel
theorem dX7_cutAll_292 : decode cX7_cutAll 292 = .ok (.getfield 197, 3) := by decide +kernel
theorem dX7_cutAll_295 : decode cX7_cutAll 295 = .ok (.iastore, 1) := by decide +kernel
theorem dX7_cutAll_296 : decode cX7_cutAll 296 = .ok (.aload_n 0, 1) := by decide +kernel
theorem dX7_cutAll_297 : decode cX7_cutAll 297 = .ok (.iconst 0, 1) := by decide +kernel
theorem dX7_cutAll_298 : decode cX7_cutAll 298 = .ok (.putfield 216, 3) := by decide +kernel
theorem dX7_cutAll_301 : decode cX7_cutAll 301 = .ok (.aload_n 0, 1) := by decide +kernel
theorem dX7_cutAll_302 : decode cX7_cutAll 302 = .ok (.iconst 0, 1) := by decide +kernel
theorem dX7_cutAll_303 : decode cX7_cutAll 303 = .ok (.putfield 219, 3) := by decide +kernel
theorem dX7_cutAll_306 : decode cX7_cutAll 306 = .ok (.return_, 1) := by decide +kernel
theorem dX7_wrong_0 : decode cX7_wrong 0 = .ok (.aload_n 0, 1) := by decide +kernel
theorem dX7_wrong_1 : decode cX7_wrong 1 = .ok (.getfield 219, 3) := by decide +kernel
theorem dX7_wrong_4 : decode cX7_wrong 4 = .ok (.ifCond .ne 21, 3) := by decide +kernel
theorem dX7_wrong_7 : decode cX7_wrong 7 = .ok (.aload_n 0, 1) := by decide +kernel
theorem dX7_wrong_8 : decode cX7_wrong 8 = .ok (.iload_n 1, 1) := by decide +kernel
theorem dX7_wrong_9 : decode cX7_wrong 9 = .ok (.bipush 16, 2) := by decide +kernel
theorem dX7_wrong_11 : decode cX7_wrong 11 = .ok (.aload_n 0, 1) := by decide +kernel
theorem dX7_wrong_12 : decode cX7_wrong 12 = .ok (.getfield 27, 3) := by decide +kernel
theorem dX7_wrong_15 : decode cX7_wrong 15 = .ok (.aload_n 0, 1) := by decide +kernel
theorem dX7_wrong_16 : decode cX7_wrong 16 = .ok (.getfield 216, 3) := by decide +kernel
theorem dX7_wrong_19 : decode cX7_wrong 19 = .ok (.iaload, 1) := by decide +kernel
theorem dX7_wrong_20 : decode cX7_wrong 20 = .ok (.imul, 1) := by decide +kernel
theorem dX7_wrong_21 : decode cX7_wrong 21 = .ok (.iadd, 1) := by decide +kernel
theorem dX7_wrong_22 : decode cX7_wrong 22 = .ok (.putfield 219, 3) := by decide +kernel
theorem dX7_wrong_25 : decode cX7_wrong 25 = .ok (.return_, 1) := by decide +kernel
theorem dX7_isSign_0 : decode cX7_isSign 0 = .ok (.aload_n 0, 1) := by decide +kernel
theorem dX7_isSign_1 : decode cX7_isSign 1 = .ok (.getfield 219, 3) := by decide +kernel
theorem dX7_isSign_4 : decode cX7_isSign 4 = .ok (.ifCond .ne 35, 3) := by decide +kernel
theorem dX7_isSign_7 : decode cX7_isSign 7 = .ok (.aload_n 0, 1) := by decide +kernel
theorem dX7_isSign_8 : decode cX7_isSign 8 = .ok (.getfield 24, 3) := by decide +kernel
theorem dX7_isSign_11 : decode cX7_isSign 11 = .ok (.aload_n 0, 1) := by decide +kernel
theorem dX7_isSign_12 : decode cX7_isSign 12 = .ok (.getfield 216, 3) := by decide +kernel
theorem dX7_isSign_15 : decode cX7_isSign 15 = .ok (.iaload, 1) := by decide +kernel
theorem dX7_isSign_16 : decode cX7_isSign 16 = .ok (.iconst 3, 1) := by decide +kernel
theorem dX7_isSign_17 : decode cX7_isSign 17 = .ok (.if_icmp .ne 22, 3) := by decide +kernel
theorem dX7_isSign_20 : decode cX7_isSign 20 = .ok (.aload_n 0, 1) := by decide +kernel
theorem dX7_isSign_21 : decode cX7_isSign 21 = .ok (.getfield 30, 3) := by decide +kernel
theorem dX7_isSign_24 : decode cX7_isSign 24 = .ok (.aload_n 0, 1) := by decide +kernel
theorem dX7_isSign_25 : decode cX7_isSign 25 = .ok (.getfield 216, 3) := by decide +kernel
theorem dX7_isSign_28 : decode cX7_isSign 28 = .ok (.laload, 1) := by decide +kernel
theorem dX7_isSign_29 : decode cX7_isSign 29 = .ok (.iload_n 1, 1) := by decide +kernel
theorem dX7_isSign_30 : decode cX7_isSign 30 = .ok (.i2l, 1) := by decide +kernel
theorem dX7_isSign_31 : decode cX7_isSign 31 = .ok (.lcmp, 1) := by decide +kernel
theorem dX7_isSign_32 : decode cX7_isSign 32 = .ok (.ifCond .ne 7, 3) := by decide +kernel
theorem dX7_isSign_35 : decode cX7_isSign 35 = .ok (.iconst 1, 1) := by decide +kernel
theorem dX7_isSign_36 : decode cX7_isSign 36 = .ok (.goto 4, 3) := by decide +kernel
theorem dX7_isSign_39 : decode cX7_isSign 39 = .ok (.iconst 0, 1) := by decide +kernel
theorem dX7_isSign_40 : decode cX7_isSign 40 = .ok (.ireturn, 1) := by decide +kernel
theorem dX7_isWord_0 : decode cX7_isWord 0 = .ok (.aload_n 0, 1) := by decide +kernel
theorem dX7_isWord_1 : decode cX7_isWord 1 = .ok (.getfield 219, 3) := by decide +kernel
theorem dX7_isWord_4 : decode cX7_isWord 4 = .ok (.ifCond .ne 39, 3) := by decide +kernel
theorem dX7_isWord_7 : decode cX7_isWord 7 = .ok (.aload_n 0, 1) := by decide +kernel
theorem dX7_isWord_8 : decode cX7_isWord 8 = .ok (.getfield 24, 3) := by decide +kernel
theorem dX7_isWord_11 : decode cX7_isWord 11 = .ok (.aload_n 0, 1) := by decide +kernel
theorem dX7_isWord_12 : decode cX7_isWord 12 = .ok (.getfield 216, 3) := by decide +kernel
theorem dX7_isWord_15 : decode cX7_isWord 15 = .ok (.iaload, 1) := by decide +kernel
theorem dX7_isWord_16 : decode cX7_isWord 16 = .ok (.iconst 1, 1) := by decide +kernel
theorem dX7_isWord_17 : decode cX7_isWord 17 = .ok (.if_icmp .ne 26, 3) := by decide +kernel
theorem dX7_isWord_20 : decode cX7_isWord 20 = .ok (.aload_n 0, 1) := by decide +kernel
theorem dX7_isWord_21 : decode cX7_isWord 21 = .ok (.getfield 30, 3) := by decide +kernel
theorem dX7_isWord_24 : decode cX7_isWord 24 = .ok (.aload_n 0, 1) := by decide +kernel
theorem dX7_isWord_25 : decode cX7_isWord 25 = .ok (.getfield 216, 3) := by decide +kernel
theorem dX7_isWord_28 : decode cX7_isWord 28 = .ok (.laload, 1) := by decide +kernel
theorem dX7_isWord_29 : decode cX7_isWord 29 = .ok (.aload_n 0, 1) := by decide +kernel
theorem dX7_isWord_30 : decode cX7_isWord 30 = .ok (.getfield 80, 3) := by decide +kernel
theorem dX7_isWord_33 : decode cX7_isWord 33 = .ok (.iload_n 1, 1) := by decide +kernel
theorem dX7_isWord_34 : decode cX7_isWord 34 = .ok (.laload, 1) := by decide +kernel
theorem dX7_isWord_35 : decode cX7_isWord 35 = .ok (.lcmp, 1) := by decide +kernel
theorem dX7_isWord_36 : decode cX7_isWord 36 = .ok (.ifCond .ne 7, 3) := by decide +kernel
theorem dX7_isWord_39 : decode cX7_isWord 39 = .ok (.iconst 1, 1) := by decide +kernel
theorem dX7_isWord_40 : decode cX7_isWord 40 = .ok (.goto 4, 3) := by decide +kernel
theorem dX7_isWord_43 : decode cX7_isWord 43 = .ok (.iconst 0, 1) := by decide +kernel
theorem dX7_isWord_44 : decode cX7_isWord 44 = .ok (.ireturn, 1) := by decide +kernel
theorem dX7_takeSign_0 : decode cX7_takeSign 0 = .ok (.aload_n 0, 1) := by decide +kernel
theorem dX7_takeSign_1 : decode cX7_takeSign 1 = .ok (.iload_n 1, 1) := by decide +kernel
theorem dX7_takeSign_2 : decode cX7_takeSign 2 = .ok (.invokevirtual 222, 3) := by decide +kernel
theorem dX7_takeSign_5 : decode cX7_takeSign 5 = .ok (.ifCond .eq 16, 3) := by decide +kernel
theorem dX7_takeSign_8 : decode cX7_takeSign 8 = .ok (.aload_n 0, 1) := by decide +kernel
theorem dX7_takeSign_9 : decode cX7_takeSign 9 = .ok (.dup, 1) := by decide +kernel
theorem dX7_takeSign_10 : decode cX7_takeSign 10 = .ok (.getfield 216, 3) := by decide +kernel
theorem dX7_takeSign_13 : decode cX7_takeSign 13 = .ok (.iconst 1, 1) := by decide +kernel
theorem dX7_takeSign_14 : decode cX7_takeSign 14 = .ok (.iadd, 1) := by decide +kernel
theorem dX7_takeSign_15 : decode cX7_takeSign 15 = .ok (.putfield 216, 3) := by decide +kernel
theorem dX7_takeSign_18 : decode cX7_takeSign 18 = .ok (.goto 8, 3) := by decide +kernel
theorem dX7_takeSign_21 : decode cX7_takeSign 21 = .ok (.aload_n 0, 1) := by decide +kernel
theorem dX7_takeSign_22 : decode cX7_takeSign 22 = .ok (.iconst 1, 1) := by decide +kernel
theorem dX7_takeSign_23 : decode cX7_takeSign 23 = .ok (.invokevirtual 225, 3) := by decide +kernel
theorem dX7_takeSign_26 : decode cX7_takeSign 26 = .ok (.return_, 1) := by decide +kernel
theorem dX7_hasSign_0 : decode cX7_hasSign 0 = .ok (.aload_n 0, 1) := by decide +kernel
theorem dX7_hasSign_1 : decode cX7_hasSign 1 = .ok (.iload_n 1, 1) := by decide +kernel
theorem dX7_hasSign_2 : decode cX7_hasSign 2 = .ok (.invokevirtual 222, 3) := by decide +kernel
theorem dX7_hasSign_5 : decode cX7_hasSign 5 = .ok (.istore_n 2, 1) := by decide +kernel
theorem dX7_hasSign_6 : decode cX7_hasSign 6 = .ok (.aload_n 0, 1) := by decide +kernel
theorem dX7_hasSign_7 : decode cX7_hasSign 7 = .ok (.dup, 1) := by decide +kernel
theorem dX7_hasSign_8 : decode cX7_hasSign 8 = .ok (.getfield 216, 3) := by decide +kernel
theorem dX7_hasSign_11 : decode cX7_hasSign 11 = .ok (.iload_n 2, 1) := by decide +kernel
theorem dX7_hasSign_12 : decode cX7_hasSign 12 = .ok (.ifCond .eq 7, 3) := by decide +kernel
theorem dX7_hasSign_15 : decode cX7_hasSign 15 = .ok (.iconst 1, 1) := by decide +kernel
theorem dX7_hasSign_16 : decode cX7_hasSign 16 = .ok (.goto 4, 3) := by decide +kernel
theorem dX7_hasSign_19 : decode cX7_hasSign 19 = .ok (.iconst 0, 1) := by decide +kernel
theorem dX7_hasSign_20 : decode cX7_hasSign 20 = .ok (.iadd, 1) := by decide +kernel
theorem dX7_hasSign_21 : decode cX7_hasSign 21 = .ok (.putfield 216, 3) := by decide +kernel
theorem dX7_hasSign_24 : decode cX7_hasSign 24 = .ok (.iload_n 2, 1) := by decide +kernel
theorem dX7_hasSign_25 : decode cX7_hasSign 25 = .ok (.ireturn, 1) := by decide +kernel
theorem dX7_hasWord_0 : decode cX7_hasWord 0 = .ok (.aload_n 0, 1) := by decide +kernel
theorem dX7_hasWord_1 : decode cX7_hasWord 1 = .ok (.iload_n 1, 1) := by decide +kernel
theorem dX7_hasWord_2 : decode cX7_hasWord 2 = .ok (.invokevirtual 228, 3) := by decide +kernel
theorem dX7_hasWord_5 : decode cX7_hasWord 5 = .ok (.istore_n 2, 1) := by decide +kernel
theorem dX7_hasWord_6 : decode cX7_hasWord 6 = .ok (.aload_n 0, 1) := by decide +kernel
theorem dX7_hasWord_7 : decode cX7_hasWord 7 = .ok (.dup, 1) := by decide +kernel
theorem dX7_hasWord_8 : decode cX7_hasWord 8 = .ok (.getfield 216, 3) := by decide +kernel
theorem dX7_hasWord_11 : decode cX7_hasWord 11 = .ok (.iload_n 2, 1) := by decide +kernel
theorem dX7_hasWord_12 : decode cX7_hasWord 12 = .ok (.ifCond .eq 7, 3) := by decide +kernel
theorem dX7_hasWord_15 : decode cX7_hasWord 15 = .ok (.iconst 1, 1) := by decide +kernel
theorem dX7_hasWord_16 : decode cX7_hasWord 16 = .ok (.goto 4, 3) := by decide +kernel
theorem dX7_hasWord_19 : decode cX7_hasWord 19 = .ok (.iconst 0, 1) := by decide +kernel
theorem dX7_hasWord_20 : decode cX7_hasWord 20 = .ok (.iadd, 1) := by decide +kernel
theorem dX7_hasWord_21 : decode cX7_hasWord 21 = .ok (.putfield 216, 3) := by decide +kernel
theorem dX7_hasWord_24 : decode cX7_hasWord 24 = .ok (.iload_n 2, 1) := by decide +kernel
theorem dX7_hasWord_25 : decode cX7_hasWord 25 = .ok (.ireturn, 1) := by decide +kernel
theorem dX7_takeWord_0 : decode cX7_takeWord 0 = .ok (.aload_n 0, 1) := by decide +kernel
theorem dX7_takeWord_1 : decode cX7_takeWord 1 = .ok (.iload_n 1, 1) := by decide +kernel
theorem dX7_takeWord_2 : decode cX7_takeWord 2 = .ok (.invokevirtual 231, 3) := by decide +kernel
theorem dX7_takeWord_5 : decode cX7_takeWord 5 = .ok (.ifCond .ne 8, 3) := by decide +kernel
theorem dX7_takeWord_8 : decode cX7_takeWord 8 = .ok (.aload_n 0, 1) := by decide +kernel
theorem dX7_takeWord_9 : decode cX7_takeWord 9 = .ok (.iconst 1, 1) := by decide +kernel
theorem dX7_takeWord_10 : decode cX7_takeWord 10 = .ok (.invokevirtual 225, 3) := by decide +kernel
theorem dX7_takeWord_13 : decode cX7_takeWord 13 = .ok (.return_, 1) := by decide +kernel
theorem dX7_emit_0 : decode cX7_emit 0 = .ok (.aload_n 0, 1) := by decide +kernel
theorem dX7_emit_1 : decode cX7_emit 1 = .ok (.getfield 104, 3) := by decide +kernel
theorem dX7_emit_4 : decode cX7_emit 4 = .ok (.sipush 1100, 3) := by decide +kernel
theorem dX7_emit_7 : decode cX7_emit 7 = .ok (.aload_n 0, 1) := by decide +kernel
theorem dX7_emit_8 : decode cX7_emit 8 = .ok (.getfield 234, 3) := by decide +kernel
theorem dX7_emit_11 : decode cX7_emit 11 = .ok (.imul, 1) := by decide +kernel
theorem dX7_emit_12 : decode cX7_emit 12 = .ok (.aload_n 0, 1) := by decide +kernel
theorem dX7_emit_13 : decode cX7_emit 13 = .ok (.getfield 237, 3) := by decide +kernel
theorem dX7_emit_16 : decode cX7_emit 16 = .ok (.iadd, 1) := by decide +kernel
theorem dX7_emit_17 : decode cX7_emit 17 = .ok (.iload_n 1, 1) := by decide +kernel
theorem dX7_emit_18 : decode cX7_emit 18 = .ok (.iastore, 1) := by decide +kernel
theorem dX7_emit_19 : decode cX7_emit 19 = .ok (.aload_n 0, 1) := by decide +kernel
theorem dX7_emit_20 : decode cX7_emit 20 = .ok (.getfield 107, 3) := by decide +kernel
theorem dX7_emit_23 : decode cX7_emit 23 = .ok (.sipush 1100, 3) := by decide +kernel
theorem dX7_emit_26 : decode cX7_emit 26 = .ok (.aload_n 0, 1) := by decide +kernel
theorem dX7_emit_27 : decode cX7_emit 27 = .ok (.getfield 234, 3) := by decide +kernel
theorem dX7_emit_30 : decode cX7_emit 30 = .ok (.imul, 1) := by decide +kernel
theorem dX7_emit_31 : decode cX7_emit 31 = .ok (.aload_n 0, 1) := by decide +kernel
theorem dX7_emit_32 : decode cX7_emit 32 = .ok (.getfield 237, 3) := by decide +kernel
theorem dX7_emit_35 : decode cX7_emit 35 = .ok (.iadd, 1) := by decide +kernel
theorem dX7_emit_36 : decode cX7_emit 36 = .ok (.iload_n 2, 1) := by decide +kernel
theorem dX7_emit_37 : decode cX7_emit 37 = .ok (.iastore, 1) := by decide +kernel
theorem dX7_emit_38 : decode cX7_emit 38 = .ok (.aload_n 0, 1) := by decide +kernel
theorem dX7_emit_39 : decode cX7_emit 39 = .ok (.dup, 1) := by decide +kernel
theorem dX7_emit_40 : decode cX7_emit 40 = .ok (.getfield 237, 3) := by decide +kernel
theorem dX7_emit_43 : decode cX7_emit 43 = .ok (.iconst 1, 1) := by decide +kernel
theorem dX7_emit_44 : decode cX7_emit 44 = .ok (.iadd, 1) := by decide +kernel
theorem dX7_emit_45 : decode cX7_emit 45 = .ok (.putfield 237, 3) := by decide +kernel
theorem dX7_emit_48 : decode cX7_emit 48 = .ok (.return_, 1) := by decide +kernel
theorem dX7_laws_0 : decode cX7_laws 0 = .ok (.aload_n 0, 1) := by decide +kernel
theorem dX7_laws_1 : decode cX7_laws 1 = .ok (.iconst 0, 1) := by decide +kernel
theorem dX7_laws_2 : decode cX7_laws 2 = .ok (.putfield 1, 3) := by decide +kernel
theorem dX7_laws_5 : decode cX7_laws 5 = .ok (.aload_n 0, 1) := by decide +kernel
theorem dX7_laws_6 : decode cX7_laws 6 = .ok (.invokevirtual 240, 3) := by decide +kernel
theorem dX7_laws_9 : decode cX7_laws 9 = .ok (.aload_n 0, 1) := by decide +kernel
theorem dX7_laws_10 : decode cX7_laws 10 = .ok (.iconst 1, 1) := by decide +kernel
theorem dX7_laws_11 : decode cX7_laws 11 = .ok (.aload_n 0, 1) := by decide +kernel
theorem dX7_laws_12 : decode cX7_laws 12 = .ok (.getfield 243, 3) := by decide +kernel
theorem dX7_laws_15 : decode cX7_laws 15 = .ok (.isub, 1) := by decide +kernel
theorem dX7_laws_16 : decode cX7_laws 16 = .ok (.putfield 234, 3) := by decide +kernel
theorem dX7_laws_19 : decode cX7_laws 19 = .ok (.aload_n 0, 1) := by decide +kernel
theorem dX7_laws_20 : decode cX7_laws 20 = .ok (.getfield 83, 3) := by decide +kernel
theorem dX7_laws_23 : decode cX7_laws 23 = .ok (.aload_n 0, 1) := by decide +kernel
theorem dX7_laws_24 : decode cX7_laws 24 = .ok (.getfield 234, 3) := by decide +kernel
theorem dX7_laws_27 : decode cX7_laws 27 = .ok (.iconst 0, 1) := by decide +kernel
theorem dX7_laws_28 : decode cX7_laws 28 = .ok (.iastore, 1) := by decide +kernel
theorem dX7_laws_29 : decode cX7_laws 29 = .ok (.aload_n 0, 1) := by decide +kernel
theorem dX7_laws_30 : decode cX7_laws 30 = .ok (.getfield 101, 3) := by decide +kernel
theorem dX7_laws_33 : decode cX7_laws 33 = .ok (.aload_n 0, 1) := by decide +kernel
theorem dX7_laws_34 : decode cX7_laws 34 = .ok (.getfield 234, 3) := by decide +kernel
theorem dX7_laws_37 : decode cX7_laws 37 = .ok (.iconst 0, 1) := by decide +kernel
theorem dX7_laws_38 : decode cX7_laws 38 = .ok (.iastore, 1) := by decide +kernel
theorem dX7_laws_39 : decode cX7_laws 39 = .ok (.aload_n 0, 1) := by decide +kernel
theorem dX7_laws_40 : decode cX7_laws 40 = .ok (.iconst 0, 1) := by decide +kernel
theorem dX7_laws_41 : decode cX7_laws 41 = .ok (.putfield 237, 3) := by decide +kernel
theorem dX7_laws_44 : decode cX7_laws 44 = .ok (.aload_n 0, 1) := by decide +kernel
theorem dX7_laws_45 : decode cX7_laws 45 = .ok (.getfield 219, 3) := by decide +kernel
theorem dX7_laws_48 : decode cX7_laws 48 = .ok (.ifCond .ne 22, 3) := by decide +kernel
theorem dX7_laws_51 : decode cX7_laws 51 = .ok (.aload_n 0, 1) := by decide +kernel
theorem dX7_laws_52 : decode cX7_laws 52 = .ok (.getfield 24, 3) := by decide +kernel
theorem dX7_laws_55 : decode cX7_laws 55 = .ok (.aload_n 0, 1) := by decide +kernel
theorem dX7_laws_56 : decode cX7_laws 56 = .ok (.getfield 216, 3) := by decide +kernel
theorem dX7_laws_59 : decode cX7_laws 59 = .ok (.iaload, 1) := by decide +kernel
theorem dX7_laws_60 : decode cX7_laws 60 = .ok (.ifCond .eq 10, 3) := by decide +kernel
theorem dX7_laws_63 : decode cX7_laws 63 = .ok (.aload_n 0, 1) := by decide +kernel
theorem dX7_laws_64 : decode cX7_laws 64 = .ok (.invokevirtual 246, 3) := by decide +kernel
theorem dX7_laws_67 : decode cX7_laws 67 = .ok (.goto (-23), 3) := by decide +kernel
theorem dX7_laws_70 : decode cX7_laws 70 = .ok (.aload_n 0, 1) := by decide +kernel
theorem dX7_laws_71 : decode cX7_laws 71 = .ok (.getfield 219, 3) := by decide +kernel
theorem dX7_laws_74 : decode cX7_laws 74 = .ok (.ifCond .ne 16, 3) := by decide +kernel
theorem dX7_laws_77 : decode cX7_laws 77 = .ok (.aload_n 0, 1) := by decide +kernel
theorem dX7_laws_78 : decode cX7_laws 78 = .ok (.aload_n 0, 1) := by decide +kernel
theorem dX7_laws_79 : decode cX7_laws 79 = .ok (.getfield 234, 3) := by decide +kernel
theorem dX7_laws_82 : decode cX7_laws 82 = .ok (.putfield 243, 3) := by decide +kernel
theorem dX7_laws_85 : decode cX7_laws 85 = .ok (.aload_n 0, 1) := by decide +kernel
theorem dX7_laws_86 : decode cX7_laws 86 = .ok (.iconst 0, 1) := by decide +kernel
theorem dX7_laws_87 : decode cX7_laws 87 = .ok (.putfield 249, 3) := by decide +kernel
theorem dX7_laws_90 : decode cX7_laws 90 = .ok (.aload_n 0, 1) := by decide +kernel
theorem dX7_laws_91 : decode cX7_laws 91 = .ok (.getfield 219, 3) := by decide +kernel
theorem dX7_laws_94 : decode cX7_laws 94 = .ok (.ireturn, 1) := by decide +kernel
theorem dX7_takeNumber_0 : decode cX7_takeNumber 0 = .ok (.aload_n 0, 1) := by decide +kernel
theorem dX7_takeNumber_1 : decode cX7_takeNumber 1 = .ok (.getfield 219, 3) := by decide +kernel
theorem dX7_takeNumber_4 : decode cX7_takeNumber 4 = .ok (.ifCond .ne 24, 3) := by decide +kernel
theorem dX7_takeNumber_7 : decode cX7_takeNumber 7 = .ok (.aload_n 0, 1) := by decide +kernel
theorem dX7_takeNumber_8 : decode cX7_takeNumber 8 = .ok (.getfield 24, 3) := by decide +kernel
theorem dX7_takeNumber_11 : decode cX7_takeNumber 11 = .ok (.aload_n 0, 1) := by decide +kernel
theorem dX7_takeNumber_12 : decode cX7_takeNumber 12 = .ok (.getfield 216, 3) := by decide +kernel
theorem dX7_takeNumber_15 : decode cX7_takeNumber 15 = .ok (.iaload, 1) := by decide +kernel
theorem dX7_takeNumber_16 : decode cX7_takeNumber 16 = .ok (.iconst 2, 1) := by decide +kernel
theorem dX7_takeNumber_17 : decode cX7_takeNumber 17 = .ok (.if_icmp .eq 11, 3) := by decide +kernel
theorem dX7_takeNumber_20 : decode cX7_takeNumber 20 = .ok (.aload_n 0, 1) := by decide +kernel
theorem dX7_takeNumber_21 : decode cX7_takeNumber 21 = .ok (.iconst 1, 1) := by decide +kernel
theorem dX7_takeNumber_22 : decode cX7_takeNumber 22 = .ok (.invokevirtual 225, 3) := by decide +kernel
theorem dX7_takeNumber_25 : decode cX7_takeNumber 25 = .ok (.goto 45, 3) := by decide +kernel
theorem dX7_takeNumber_28 : decode cX7_takeNumber 28 = .ok (.aload_n 0, 1) := by decide +kernel
theorem dX7_takeNumber_29 : decode cX7_takeNumber 29 = .ok (.getfield 219, 3) := by decide +kernel
theorem dX7_takeNumber_32 : decode cX7_takeNumber 32 = .ok (.ifCond .ne 38, 3) := by decide +kernel
theorem dX7_takeNumber_35 : decode cX7_takeNumber 35 = .ok (.aload_n 0, 1) := by decide +kernel
theorem dX7_takeNumber_36 : decode cX7_takeNumber 36 = .ok (.getfield 30, 3) := by decide +kernel
theorem dX7_takeNumber_39 : decode cX7_takeNumber 39 = .ok (.aload_n 0, 1) := by decide +kernel
theorem dX7_takeNumber_40 : decode cX7_takeNumber 40 = .ok (.getfield 216, 3) := by decide +kernel
theorem dX7_takeNumber_43 : decode cX7_takeNumber 43 = .ok (.laload, 1) := by decide +kernel
theorem dX7_takeNumber_44 : decode cX7_takeNumber 44 = .ok (.iload_n 1, 1) := by decide +kernel
theorem dX7_takeNumber_45 : decode cX7_takeNumber 45 = .ok (.i2l, 1) := by decide +kernel
theorem dX7_takeNumber_46 : decode cX7_takeNumber 46 = .ok (.lcmp, 1) := by decide +kernel
theorem dX7_takeNumber_47 : decode cX7_takeNumber 47 = .ok (.ifCond .lt 18, 3) := by decide +kernel
theorem dX7_takeNumber_50 : decode cX7_takeNumber 50 = .ok (.aload_n 0, 1) := by decide +kernel
theorem dX7_takeNumber_51 : decode cX7_takeNumber 51 = .ok (.getfield 30, 3) := by decide +kernel
theorem dX7_takeNumber_54 : decode cX7_takeNumber 54 = .ok (.aload_n 0, 1) := by decide +kernel
theorem dX7_takeNumber_55 : decode cX7_takeNumber 55 = .ok (.getfield 216, 3) := by decide +kernel
theorem dX7_takeNumber_58 : decode cX7_takeNumber 58 = .ok (.laload, 1) := by decide +kernel
theorem dX7_takeNumber_59 : decode cX7_takeNumber 59 = .ok (.iload_n 2, 1) := by decide +kernel
theorem dX7_takeNumber_60 : decode cX7_takeNumber 60 = .ok (.i2l, 1) := by decide +kernel
theorem dX7_takeNumber_61 : decode cX7_takeNumber 61 = .ok (.lcmp, 1) := by decide +kernel
theorem dX7_takeNumber_62 : decode cX7_takeNumber 62 = .ok (.ifCond .le 8, 3) := by decide +kernel
theorem dX7_takeNumber_65 : decode cX7_takeNumber 65 = .ok (.aload_n 0, 1) := by decide +kernel
theorem dX7_takeNumber_66 : decode cX7_takeNumber 66 = .ok (.iconst 4, 1) := by decide +kernel
theorem dX7_takeNumber_67 : decode cX7_takeNumber 67 = .ok (.invokevirtual 225, 3) := by decide +kernel
theorem dX7_takeNumber_70 : decode cX7_takeNumber 70 = .ok (.aload_n 0, 1) := by decide +kernel
theorem dX7_takeNumber_71 : decode cX7_takeNumber 71 = .ok (.getfield 219, 3) := by decide +kernel
theorem dX7_takeNumber_74 : decode cX7_takeNumber 74 = .ok (.ifCond .le 5, 3) := by decide +kernel
theorem dX7_takeNumber_77 : decode cX7_takeNumber 77 = .ok (.iconst 0, 1) := by decide +kernel
theorem dX7_takeNumber_78 : decode cX7_takeNumber 78 = .ok (.ireturn, 1) := by decide +kernel
theorem dX7_takeNumber_79 : decode cX7_takeNumber 79 = .ok (.aload_n 0, 1) := by decide +kernel
theorem dX7_takeNumber_80 : decode cX7_takeNumber 80 = .ok (.dup, 1) := by decide +kernel
theorem dX7_takeNumber_81 : decode cX7_takeNumber 81 = .ok (.getfield 216, 3) := by decide +kernel
theorem dX7_takeNumber_84 : decode cX7_takeNumber 84 = .ok (.iconst 1, 1) := by decide +kernel
theorem dX7_takeNumber_85 : decode cX7_takeNumber 85 = .ok (.iadd, 1) := by decide +kernel
theorem dX7_takeNumber_86 : decode cX7_takeNumber 86 = .ok (.putfield 216, 3) := by decide +kernel
theorem dX7_takeNumber_89 : decode cX7_takeNumber 89 = .ok (.aload_n 0, 1) := by decide +kernel
theorem dX7_takeNumber_90 : decode cX7_takeNumber 90 = .ok (.getfield 30, 3) := by decide +kernel
theorem dX7_takeNumber_93 : decode cX7_takeNumber 93 = .ok (.aload_n 0, 1) := by decide +kernel
theorem dX7_takeNumber_94 : decode cX7_takeNumber 94 = .ok (.getfield 216, 3) := by decide +kernel
theorem dX7_takeNumber_97 : decode cX7_takeNumber 97 = .ok (.iconst 1, 1) := by decide +kernel
theorem dX7_takeNumber_98 : decode cX7_takeNumber 98 = .ok (.isub, 1) := by decide +kernel
theorem dX7_takeNumber_99 : decode cX7_takeNumber 99 = .ok (.laload, 1) := by decide +kernel
theorem dX7_takeNumber_100 : decode cX7_takeNumber 100 = .ok (.l2i, 1) := by decide +kernel
theorem dX7_takeNumber_101 : decode cX7_takeNumber 101 = .ok (.ireturn, 1) := by decide +kernel
theorem dX7_leastOf_0 : decode cX7_leastOf 0 = .ok (.iload_n 0, 1) := by decide +kernel
theorem dX7_leastOf_1 : decode cX7_leastOf 1 = .ok (.iconst 3, 1) := by decide +kernel
theorem dX7_leastOf_2 : decode cX7_leastOf 2 = .ok (.if_icmp .eq 9, 3) := by decide +kernel
theorem dX7_leastOf_5 : decode cX7_leastOf 5 = .ok (.iload_n 0, 1) := by decide +kernel
theorem dX7_leastOf_6 : decode cX7_leastOf 6 = .ok (.bipush 6, 2) := by decide +kernel
theorem dX7_leastOf_8 : decode cX7_leastOf 8 = .ok (.if_icmp .ne 7, 3) := by decide +kernel
theorem dX7_leastOf_11 : decode cX7_leastOf 11 = .ok (.iconst 1, 1) := by decide +kernel
theorem dX7_leastOf_12 : decode cX7_leastOf 12 = .ok (.goto 4, 3) := by decide +kernel
theorem dX7_leastOf_15 : decode cX7_leastOf 15 = .ok (.iconst 0, 1) := by decide +kernel
theorem dX7_leastOf_16 : decode cX7_leastOf 16 = .ok (.ireturn, 1) := by decide +kernel
theorem dX7_mostOf_0 : decode cX7_mostOf 0 = .ok (.iload_n 0, 1) := by decide +kernel
theorem dX7_mostOf_1 : decode cX7_mostOf 1 = .ok (.iconst 3, 1) := by decide +kernel
theorem dX7_mostOf_2 : decode cX7_mostOf 2 = .ok (.if_icmp .ne 8, 3) := by decide +kernel
theorem dX7_mostOf_5 : decode cX7_mostOf 5 = .ok (.ldc 252, 2) := by decide +kernel
theorem dX7_mostOf_7 : decode cX7_mostOf 7 = .ok (.goto 26, 3) := by decide +kernel
theorem dX7_mostOf_10 : decode cX7_mostOf 10 = .ok (.iload_n 0, 1) := by decide +kernel
theorem dX7_mostOf_11 : decode cX7_mostOf 11 = .ok (.bipush 6, 2) := by decide +kernel
theorem dX7_mostOf_13 : decode cX7_mostOf 13 = .ok (.if_icmp .ne 8, 3) := by decide +kernel
theorem dX7_mostOf_16 : decode cX7_mostOf 16 = .ok (.bipush 99, 2) := by decide +kernel
theorem dX7_mostOf_18 : decode cX7_mostOf 18 = .ok (.goto 15, 3) := by decide +kernel
theorem dX7_mostOf_21 : decode cX7_mostOf 21 = .ok (.iload_n 0, 1) := by decide +kernel
theorem dX7_mostOf_22 : decode cX7_mostOf 22 = .ok (.bipush 7, 2) := by decide +kernel
theorem dX7_mostOf_24 : decode cX7_mostOf 24 = .ok (.if_icmp .ne 7, 3) := by decide +kernel
theorem dX7_mostOf_27 : decode cX7_mostOf 27 = .ok (.iconst 4, 1) := by decide +kernel
theorem dX7_mostOf_28 : decode cX7_mostOf 28 = .ok (.goto 5, 3) := by decide +kernel
theorem dX7_mostOf_31 : decode cX7_mostOf 31 = .ok (.bipush 100, 2) := by decide +kernel
theorem dX7_mostOf_33 : decode cX7_mostOf 33 = .ok (.ireturn, 1) := by decide +kernel
theorem dX7_readLaw_0 : decode cX7_readLaw 0 = .ok (.iconst (-1), 1) := by decide +kernel
theorem dX7_readLaw_1 : decode cX7_readLaw 1 = .ok (.istore_n 1, 1) := by decide +kernel
theorem dX7_readLaw_2 : decode cX7_readLaw 2 = .ok (.iconst 0, 1) := by decide +kernel
theorem dX7_readLaw_3 : decode cX7_readLaw 3 = .ok (.istore_n 2, 1) := by decide +kernel
theorem dX7_readLaw_4 : decode cX7_readLaw 4 = .ok (.iload_n 2, 1) := by decide +kernel
theorem dX7_readLaw_5 : decode cX7_readLaw 5 = .ok (.bipush 9, 2) := by decide +kernel
theorem dX7_readLaw_7 : decode cX7_readLaw 7 = .ok (.if_icmp .ge 23, 3) := by decide +kernel
theorem dX7_readLaw_10 : decode cX7_readLaw 10 = .ok (.aload_n 0, 1) := by decide +kernel
theorem dX7_readLaw_11 : decode cX7_readLaw 11 = .ok (.iload_n 2, 1) := by decide +kernel
theorem dX7_readLaw_12 : decode cX7_readLaw 12 = .ok (.invokevirtual 228, 3) := by decide +kernel
theorem dX7_readLaw_15 : decode cX7_readLaw 15 = .ok (.ifCond .eq 7, 3) := by decide +kernel
theorem dX7_readLaw_18 : decode cX7_readLaw 18 = .ok (.iload_n 2, 1) := by decide +kernel
theorem dX7_readLaw_19 : decode cX7_readLaw 19 = .ok (.goto 4, 3) := by decide +kernel
theorem dX7_readLaw_22 : decode cX7_readLaw 22 = .ok (.iload_n 1, 1) := by decide +kernel
theorem dX7_readLaw_23 : decode cX7_readLaw 23 = .ok (.istore_n 1, 1) := by decide +kernel
theorem dX7_readLaw_24 : decode cX7_readLaw 24 = .ok (.iinc 2 1, 3) := by decide +kernel
theorem dX7_readLaw_27 : decode cX7_readLaw 27 = .ok (.goto (-23), 3) := by decide +kernel
theorem dX7_readLaw_30 : decode cX7_readLaw 30 = .ok (.iload_n 1, 1) := by decide +kernel
theorem dX7_readLaw_31 : decode cX7_readLaw 31 = .ok (.ifCond .ge 11, 3) := by decide +kernel
theorem dX7_readLaw_34 : decode cX7_readLaw 34 = .ok (.aload_n 0, 1) := by decide +kernel
theorem dX7_readLaw_35 : decode cX7_readLaw 35 = .ok (.iconst 1, 1) := by decide +kernel
theorem dX7_readLaw_36 : decode cX7_readLaw 36 = .ok (.invokevirtual 225, 3) := by decide +kernel
theorem dX7_readLaw_39 : decode cX7_readLaw 39 = .ok (.goto 22, 3) := by decide +kernel
theorem dX7_readLaw_42 : decode cX7_readLaw 42 = .ok (.aload_n 0, 1) := by decide +kernel
theorem dX7_readLaw_43 : decode cX7_readLaw 43 = .ok (.getfield 83, 3) := by decide +kernel
theorem dX7_readLaw_46 : decode cX7_readLaw 46 = .ok (.aload_n 0, 1) := by decide +kernel
theorem dX7_readLaw_47 : decode cX7_readLaw 47 = .ok (.getfield 234, 3) := by decide +kernel
theorem dX7_readLaw_50 : decode cX7_readLaw 50 = .ok (.iaload, 1) := by decide +kernel
theorem dX7_readLaw_51 : decode cX7_readLaw 51 = .ok (.bipush 24, 2) := by decide +kernel
theorem dX7_readLaw_53 : decode cX7_readLaw 53 = .ok (.if_icmp .ne 8, 3) := by decide +kernel
theorem dX7_readLaw_56 : decode cX7_readLaw 56 = .ok (.aload_n 0, 1) := by decide +kernel
theorem dX7_readLaw_57 : decode cX7_readLaw 57 = .ok (.iconst 5, 1) := by decide +kernel
theorem dX7_readLaw_58 : decode cX7_readLaw 58 = .ok (.invokevirtual 225, 3) := by decide +kernel
theorem dX7_readLaw_61 : decode cX7_readLaw 61 = .ok (.aload_n 0, 1) := by decide +kernel
theorem dX7_readLaw_62 : decode cX7_readLaw 62 = .ok (.getfield 219, 3) := by decide +kernel
theorem dX7_readLaw_65 : decode cX7_readLaw 65 = .ok (.ifCond .le 4, 3) := by decide +kernel
theorem dX7_readLaw_68 : decode cX7_readLaw 68 = .ok (.return_, 1) := by decide +kernel
theorem dX7_readLaw_69 : decode cX7_readLaw 69 = .ok (.bipush 24, 2) := by decide +kernel
theorem dX7_readLaw_71 : decode cX7_readLaw 71 = .ok (.aload_n 0, 1) := by decide +kernel
theorem dX7_readLaw_72 : decode cX7_readLaw 72 = .ok (.getfield 234, 3) := by decide +kernel
theorem dX7_readLaw_75 : decode cX7_readLaw 75 = .ok (.imul, 1) := by decide +kernel
theorem dX7_readLaw_76 : decode cX7_readLaw 76 = .ok (.aload_n 0, 1) := by decide +kernel
theorem dX7_readLaw_77 : decode cX7_readLaw 77 = .ok (.getfield 83, 3) := by decide +kernel
theorem dX7_readLaw_80 : decode cX7_readLaw 80 = .ok (.aload_n 0, 1) := by decide +kernel
theorem dX7_readLaw_81 : decode cX7_readLaw 81 = .ok (.getfield 234, 3) := by decide +kernel
theorem dX7_readLaw_84 : decode cX7_readLaw 84 = .ok (.iaload, 1) := by decide +kernel
theorem dX7_readLaw_85 : decode cX7_readLaw 85 = .ok (.iadd, 1) := by decide +kernel
theorem dX7_readLaw_86 : decode cX7_readLaw 86 = .ok (.istore_n 2, 1) := by decide +kernel
theorem dX7_readLaw_87 : decode cX7_readLaw 87 = .ok (.aload_n 0, 1) := by decide +kernel
theorem dX7_readLaw_88 : decode cX7_readLaw 88 = .ok (.dup, 1) := by decide +kernel
theorem dX7_readLaw_89 : decode cX7_readLaw 89 = .ok (.getfield 216, 3) := by decide +kernel
theorem dX7_readLaw_92 : decode cX7_readLaw 92 = .ok (.iconst 1, 1) := by decide +kernel
theorem dX7_readLaw_93 : decode cX7_readLaw 93 = .ok (.iadd, 1) := by decide +kernel
theorem dX7_readLaw_94 : decode cX7_readLaw 94 = .ok (.putfield 216, 3) := by decide +kernel
theorem dX7_readLaw_97 : decode cX7_readLaw 97 = .ok (.aload_n 0, 1) := by decide +kernel
theorem dX7_readLaw_98 : decode cX7_readLaw 98 = .ok (.getfield 86, 3) := by decide +kernel
theorem dX7_readLaw_101 : decode cX7_readLaw 101 = .ok (.iload_n 2, 1) := by decide +kernel
theorem dX7_readLaw_102 : decode cX7_readLaw 102 = .ok (.iload_n 1, 1) := by decide +kernel
theorem dX7_readLaw_103 : decode cX7_readLaw 103 = .ok (.iastore, 1) := by decide +kernel
theorem dX7_readLaw_104 : decode cX7_readLaw 104 = .ok (.aload_n 0, 1) := by decide +kernel
theorem dX7_readLaw_105 : decode cX7_readLaw 105 = .ok (.getfield 89, 3) := by decide +kernel
theorem dX7_readLaw_108 : decode cX7_readLaw 108 = .ok (.iload_n 2, 1) := by decide +kernel
theorem dX7_readLaw_109 : decode cX7_readLaw 109 = .ok (.aload_n 0, 1) := by decide +kernel
theorem dX7_readLaw_110 : decode cX7_readLaw 110 = .ok (.iload_n 1, 1) := by decide +kernel
theorem dX7_readLaw_111 : decode cX7_readLaw 111 = .ok (.invokestatic 253, 3) := by decide +kernel
theorem dX7_readLaw_114 : decode cX7_readLaw 114 = .ok (.iload_n 1, 1) := by decide +kernel
theorem dX7_readLaw_115 : decode cX7_readLaw 115 = .ok (.invokestatic 256, 3) := by decide +kernel
theorem dX7_readLaw_118 : decode cX7_readLaw 118 = .ok (.invokevirtual 259, 3) := by decide +kernel
theorem dX7_readLaw_121 : decode cX7_readLaw 121 = .ok (.iastore, 1) := by decide +kernel
theorem dX7_readLaw_122 : decode cX7_readLaw 122 = .ok (.aload_n 0, 1) := by decide +kernel
theorem dX7_readLaw_123 : decode cX7_readLaw 123 = .ok (.getfield 92, 3) := by decide +kernel
theorem dX7_readLaw_126 : decode cX7_readLaw 126 = .ok (.iload_n 2, 1) := by decide +kernel
theorem dX7_readLaw_127 : decode cX7_readLaw 127 = .ok (.aload_n 0, 1) := by decide +kernel
theorem dX7_readLaw_128 : decode cX7_readLaw 128 = .ok (.getfield 89, 3) := by decide +kernel
theorem dX7_readLaw_131 : decode cX7_readLaw 131 = .ok (.iload_n 2, 1) := by decide +kernel
theorem dX7_readLaw_132 : decode cX7_readLaw 132 = .ok (.iaload, 1) := by decide +kernel
theorem dX7_readLaw_133 : decode cX7_readLaw 133 = .ok (.iastore, 1) := by decide +kernel
theorem dX7_readLaw_134 : decode cX7_readLaw 134 = .ok (.aload_n 0, 1) := by decide +kernel
theorem dX7_readLaw_135 : decode cX7_readLaw 135 = .ok (.getfield 95, 3) := by decide +kernel
theorem dX7_readLaw_138 : decode cX7_readLaw 138 = .ok (.iload_n 2, 1) := by decide +kernel
theorem dX7_readLaw_139 : decode cX7_readLaw 139 = .ok (.iconst (-1), 1) := by decide +kernel
theorem dX7_readLaw_140 : decode cX7_readLaw 140 = .ok (.iastore, 1) := by decide +kernel
theorem dX7_readLaw_141 : decode cX7_readLaw 141 = .ok (.aload_n 0, 1) := by decide +kernel
theorem dX7_readLaw_142 : decode cX7_readLaw 142 = .ok (.bipush 9, 2) := by decide +kernel
theorem dX7_readLaw_144 : decode cX7_readLaw 144 = .ok (.invokevirtual 231, 3) := by decide +kernel
theorem dX7_readLaw_147 : decode cX7_readLaw 147 = .ok (.ifCond .eq 110, 3) := by decide +kernel
theorem dX7_readLaw_150 : decode cX7_readLaw 150 = .ok (.aload_n 0, 1) := by decide +kernel
theorem dX7_readLaw_151 : decode cX7_readLaw 151 = .ok (.getfield 216, 3) := by decide +kernel
theorem dX7_readLaw_154 : decode cX7_readLaw 154 = .ok (.istore_n 3, 1) := by decide +kernel
theorem dX7_readLaw_155 : decode cX7_readLaw 155 = .ok (.aload_n 0, 1) := by decide +kernel
theorem dX7_readLaw_156 : decode cX7_readLaw 156 = .ok (.getfield 92, 3) := by decide +kernel
theorem dX7_readLaw_159 : decode cX7_readLaw 159 = .ok (.iload_n 2, 1) := by decide +kernel
theorem dX7_readLaw_160 : decode cX7_readLaw 160 = .ok (.aload_n 0, 1) := by decide +kernel
theorem dX7_readLaw_161 : decode cX7_readLaw 161 = .ok (.aload_n 0, 1) := by decide +kernel
theorem dX7_readLaw_162 : decode cX7_readLaw 162 = .ok (.getfield 89, 3) := by decide +kernel
theorem dX7_readLaw_165 : decode cX7_readLaw 165 = .ok (.iload_n 2, 1) := by decide +kernel
theorem dX7_readLaw_166 : decode cX7_readLaw 166 = .ok (.iaload, 1) := by decide +kernel
theorem dX7_readLaw_167 : decode cX7_readLaw 167 = .ok (.iload_n 1, 1) := by decide +kernel
theorem dX7_readLaw_168 : decode cX7_readLaw 168 = .ok (.invokestatic 256, 3) := by decide +kernel
theorem dX7_readLaw_171 : decode cX7_readLaw 171 = .ok (.invokevirtual 259, 3) := by decide +kernel
theorem dX7_readLaw_174 : decode cX7_readLaw 174 = .ok (.iastore, 1) := by decide +kernel
theorem dX7_readLaw_175 : decode cX7_readLaw 175 = .ok (.aload_n 0, 1) := by decide +kernel
theorem dX7_readLaw_176 : decode cX7_readLaw 176 = .ok (.getfield 219, 3) := by decide +kernel
theorem dX7_readLaw_179 : decode cX7_readLaw 179 = .ok (.ifCond .ne 78, 3) := by decide +kernel
theorem dX7_readLaw_182 : decode cX7_readLaw 182 = .ok (.aload_n 0, 1) := by decide +kernel
theorem dX7_readLaw_183 : decode cX7_readLaw 183 = .ok (.getfield 92, 3) := by decide +kernel
theorem dX7_readLaw_186 : decode cX7_readLaw 186 = .ok (.iload_n 2, 1) := by decide +kernel
theorem dX7_readLaw_187 : decode cX7_readLaw 187 = .ok (.iaload, 1) := by decide +kernel
theorem dX7_readLaw_188 : decode cX7_readLaw 188 = .ok (.aload_n 0, 1) := by decide +kernel
theorem dX7_readLaw_189 : decode cX7_readLaw 189 = .ok (.getfield 89, 3) := by decide +kernel
theorem dX7_readLaw_192 : decode cX7_readLaw 192 = .ok (.iload_n 2, 1) := by decide +kernel
theorem dX7_readLaw_193 : decode cX7_readLaw 193 = .ok (.iaload, 1) := by decide +kernel
theorem dX7_readLaw_194 : decode cX7_readLaw 194 = .ok (.if_icmp .le 63, 3) := by decide +kernel
theorem dX7_readLaw_197 : decode cX7_readLaw 197 = .ok (.aload_n 0, 1) := by decide +kernel
theorem dX7_readLaw_198 : decode cX7_readLaw 198 = .ok (.getfield 95, 3) := by decide +kernel
theorem dX7_readLaw_201 : decode cX7_readLaw 201 = .ok (.iload_n 2, 1) := by decide +kernel
theorem dX7_readLaw_202 : decode cX7_readLaw 202 = .ok (.aload_n 0, 1) := by decide +kernel
theorem dX7_readLaw_203 : decode cX7_readLaw 203 = .ok (.getfield 101, 3) := by decide +kernel
theorem dX7_readLaw_206 : decode cX7_readLaw 206 = .ok (.aload_n 0, 1) := by decide +kernel
theorem dX7_readLaw_207 : decode cX7_readLaw 207 = .ok (.getfield 234, 3) := by decide +kernel
theorem dX7_readLaw_210 : decode cX7_readLaw 210 = .ok (.iaload, 1) := by decide +kernel
theorem dX7_readLaw_211 : decode cX7_readLaw 211 = .ok (.iastore, 1) := by decide +kernel
theorem dX7_readLaw_212 : decode cX7_readLaw 212 = .ok (.aload_n 0, 1) := by decide +kernel
theorem dX7_readLaw_213 : decode cX7_readLaw 213 = .ok (.aload_n 0, 1) := by decide +kernel
theorem dX7_readLaw_214 : decode cX7_readLaw 214 = .ok (.getfield 101, 3) := by decide +kernel
theorem dX7_readLaw_217 : decode cX7_readLaw 217 = .ok (.aload_n 0, 1) := by decide +kernel
theorem dX7_readLaw_218 : decode cX7_readLaw 218 = .ok (.getfield 234, 3) := by decide +kernel
theorem dX7_readLaw_221 : decode cX7_readLaw 221 = .ok (.iaload, 1) := by decide +kernel
theorem dX7_readLaw_222 : decode cX7_readLaw 222 = .ok (.iconst 4, 1) := by decide +kernel
theorem dX7_readLaw_223 : decode cX7_readLaw 223 = .ok (.if_icmp .ne 17, 3) := by decide +kernel
theorem dX7_readLaw_226 : decode cX7_readLaw 226 = .ok (.iconst 5, 1) := by decide +kernel
theorem dX7_readLaw_227 : decode cX7_readLaw 227 = .ok (.bipush 16, 2) := by decide +kernel
theorem dX7_readLaw_229 : decode cX7_readLaw 229 = .ok (.aload_n 0, 1) := by decide +kernel
theorem dX7_readLaw_230 : decode cX7_readLaw 230 = .ok (.getfield 27, 3) := by decide +kernel
theorem dX7_readLaw_233 : decode cX7_readLaw 233 = .ok (.iload_n 3, 1) := by decide +kernel
theorem dX7_readLaw_234 : decode cX7_readLaw 234 = .ok (.iaload, 1) := by decide +kernel
theorem dX7_readLaw_235 : decode cX7_readLaw 235 = .ok (.imul, 1) := by decide +kernel
theorem dX7_readLaw_236 : decode cX7_readLaw 236 = .ok (.iadd, 1) := by decide +kernel
theorem dX7_readLaw_237 : decode cX7_readLaw 237 = .ok (.goto 4, 3) := by decide +kernel
theorem dX7_readLaw_240 : decode cX7_readLaw 240 = .ok (.iconst 0, 1) := by decide +kernel
theorem dX7_readLaw_241 : decode cX7_readLaw 241 = .ok (.putfield 219, 3) := by decide +kernel
theorem dX7_readLaw_244 : decode cX7_readLaw 244 = .ok (.aload_n 0, 1) := by decide +kernel
theorem dX7_readLaw_245 : decode cX7_readLaw 245 = .ok (.getfield 101, 3) := by decide +kernel
theorem dX7_readLaw_248 : decode cX7_readLaw 248 = .ok (.aload_n 0, 1) := by decide +kernel
theorem dX7_readLaw_249 : decode cX7_readLaw 249 = .ok (.getfield 234, 3) := by decide +kernel
theorem dX7_readLaw_252 : decode cX7_readLaw 252 = .ok (.dup2, 1) := by decide +kernel
theorem dX7_readLaw_253 : decode cX7_readLaw 253 = .ok (.iaload, 1) := by decide +kernel
theorem dX7_readLaw_254 : decode cX7_readLaw 254 = .ok (.iconst 1, 1) := by decide +kernel
theorem dX7_readLaw_255 : decode cX7_readLaw 255 = .ok (.iadd, 1) := by decide +kernel
theorem dX7_readLaw_256 : decode cX7_readLaw 256 = .ok (.iastore, 1) := by decide +kernel
theorem dX7_readLaw_257 : decode cX7_readLaw 257 = .ok (.aload_n 0, 1) := by decide +kernel
theorem dX7_readLaw_258 : decode cX7_readLaw 258 = .ok (.bipush 10, 2) := by decide +kernel
theorem dX7_readLaw_260 : decode cX7_readLaw 260 = .ok (.invokevirtual 263, 3) := by decide +kernel
theorem dX7_readLaw_263 : decode cX7_readLaw 263 = .ok (.aload_n 0, 1) := by decide +kernel
theorem dX7_readLaw_264 : decode cX7_readLaw 264 = .ok (.getfield 98, 3) := by decide +kernel
theorem dX7_readLaw_267 : decode cX7_readLaw 267 = .ok (.iload_n 2, 1) := by decide +kernel
theorem dX7_readLaw_268 : decode cX7_readLaw 268 = .ok (.sipush 1100, 3) := by decide +kernel
theorem dX7_readLaw_271 : decode cX7_readLaw 271 = .ok (.aload_n 0, 1) := by decide +kernel
theorem dX7_readLaw_272 : decode cX7_readLaw 272 = .ok (.getfield 234, 3) := by decide +kernel
theorem dX7_readLaw_275 : decode cX7_readLaw 275 = .ok (.imul, 1) := by decide +kernel
theorem dX7_readLaw_276 : decode cX7_readLaw 276 = .ok (.aload_n 0, 1) := by decide +kernel
theorem dX7_readLaw_277 : decode cX7_readLaw 277 = .ok (.getfield 237, 3) := by decide +kernel
theorem dX7_readLaw_280 : decode cX7_readLaw 280 = .ok (.iadd, 1) := by decide +kernel
theorem dX7_readLaw_281 : decode cX7_readLaw 281 = .ok (.iastore, 1) := by decide +kernel
theorem dX7_readLaw_282 : decode cX7_readLaw 282 = .ok (.aload_n 0, 1) := by decide +kernel
theorem dX7_readLaw_283 : decode cX7_readLaw 283 = .ok (.iconst 0, 1) := by decide +kernel
theorem dX7_readLaw_284 : decode cX7_readLaw 284 = .ok (.invokevirtual 266, 3) := by decide +kernel
theorem dX7_readLaw_287 : decode cX7_readLaw 287 = .ok (.aload_n 0, 1) := by decide +kernel
theorem dX7_readLaw_288 : decode cX7_readLaw 288 = .ok (.iconst 0, 1) := by decide +kernel
theorem dX7_readLaw_289 : decode cX7_readLaw 289 = .ok (.iconst 0, 1) := by decide +kernel
theorem dX7_readLaw_290 : decode cX7_readLaw 290 = .ok (.invokevirtual 269, 3) := by decide +kernel
theorem dX7_readLaw_293 : decode cX7_readLaw 293 = .ok (.aload_n 0, 1) := by decide +kernel
theorem dX7_readLaw_294 : decode cX7_readLaw 294 = .ok (.getfield 83, 3) := by decide +kernel
theorem dX7_readLaw_297 : decode cX7_readLaw 297 = .ok (.aload_n 0, 1) := by decide +kernel
theorem dX7_readLaw_298 : decode cX7_readLaw 298 = .ok (.getfield 234, 3) := by decide +kernel
