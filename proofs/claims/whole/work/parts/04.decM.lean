theorem dX9_thrown_0 : decode cX9_thrown 0 = .ok (.aload_n 0, 1) := by decide +kernel
theorem dX9_thrown_1 : decode cX9_thrown 1 = .ok (.getfield 1, 3) := by decide +kernel
theorem dX9_thrown_4 : decode cX9_thrown 4 = .ok (.ireturn, 1) := by decide +kernel
set_option maxRecDepth 20000 in
theorem dX9_feed_0 : decode cX9_feed 0 = .ok (.aload_n 0, 1) := by decide +kernel
theorem dX9_feed_1 : decode cX9_feed 1 = .ok (.iconst 0, 1) := by decide +kernel
theorem dX9_feed_2 : decode cX9_feed 2 = .ok (.putfield 1, 3) := by decide +kernel
theorem dX9_feed_5 : decode cX9_feed 5 = .ok (.aload_n 0, 1) := by decide +kernel
theorem dX9_feed_6 : decode cX9_feed 6 = .ok (.lload_n 1, 1) := by decide +kernel
theorem dX9_feed_7 : decode cX9_feed 7 = .ok (.invokevirtual 7, 3) := by decide +kernel
theorem dX9_feed_10 : decode cX9_feed 10 = .ok (.aload_n 0, 1) := by decide +kernel
theorem dX9_feed_11 : decode cX9_feed 11 = .ok (.lload_n 3, 1) := by decide +kernel
theorem dX9_feed_12 : decode cX9_feed 12 = .ok (.invokevirtual 7, 3) := by decide +kernel
theorem dX9_feed_15 : decode cX9_feed 15 = .ok (.aload_n 0, 1) := by decide +kernel
theorem dX9_feed_16 : decode cX9_feed 16 = .ok (.lload 5, 2) := by decide +kernel
theorem dX9_feed_18 : decode cX9_feed 18 = .ok (.invokevirtual 7, 3) := by decide +kernel
theorem dX9_feed_21 : decode cX9_feed 21 = .ok (.aload_n 0, 1) := by decide +kernel
theorem dX9_feed_22 : decode cX9_feed 22 = .ok (.getfield 11, 3) := by decide +kernel
theorem dX9_feed_25 : decode cX9_feed 25 = .ok (.ireturn, 1) := by decide +kernel
theorem dX9_lay_0 : decode cX9_lay 0 = .ok (.bipush 56, 2) := by decide +kernel
theorem dX9_lay_2 : decode cX9_lay 2 = .ok (.istore_n 3, 1) := by decide +kernel
theorem dX9_lay_3 : decode cX9_lay 3 = .ok (.iload_n 3, 1) := by decide +kernel
theorem dX9_lay_4 : decode cX9_lay 4 = .ok (.ifCond .lt 71, 3) := by decide +kernel
theorem dX9_lay_7 : decode cX9_lay 7 = .ok (.lload_n 1, 1) := by decide +kernel
theorem dX9_lay_8 : decode cX9_lay 8 = .ok (.iload_n 3, 1) := by decide +kernel
theorem dX9_lay_9 : decode cX9_lay 9 = .ok (.lshr, 1) := by decide +kernel
theorem dX9_lay_10 : decode cX9_lay 10 = .ok (.l2i, 1) := by decide +kernel
theorem dX9_lay_11 : decode cX9_lay 11 = .ok (.sipush 255, 3) := by decide +kernel
theorem dX9_lay_14 : decode cX9_lay 14 = .ok (.iand, 1) := by decide +kernel
theorem dX9_lay_15 : decode cX9_lay 15 = .ok (.istore 4, 2) := by decide +kernel
theorem dX9_lay_17 : decode cX9_lay 17 = .ok (.iload 4, 2) := by decide +kernel
theorem dX9_lay_19 : decode cX9_lay 19 = .ok (.bipush 10, 2) := by decide +kernel
theorem dX9_lay_21 : decode cX9_lay 21 = .ok (.if_icmp .eq 17, 3) := by decide +kernel
theorem dX9_lay_24 : decode cX9_lay 24 = .ok (.iload 4, 2) := by decide +kernel
theorem dX9_lay_26 : decode cX9_lay 26 = .ok (.bipush 32, 2) := by decide +kernel
theorem dX9_lay_28 : decode cX9_lay 28 = .ok (.if_icmp .lt 41, 3) := by decide +kernel
theorem dX9_lay_31 : decode cX9_lay 31 = .ok (.iload 4, 2) := by decide +kernel
theorem dX9_lay_33 : decode cX9_lay 33 = .ok (.bipush 126, 2) := by decide +kernel
theorem dX9_lay_35 : decode cX9_lay 35 = .ok (.if_icmp .gt 34, 3) := by decide +kernel
theorem dX9_lay_38 : decode cX9_lay 38 = .ok (.aload_n 0, 1) := by decide +kernel
theorem dX9_lay_39 : decode cX9_lay 39 = .ok (.getfield 11, 3) := by decide +kernel
theorem dX9_lay_42 : decode cX9_lay 42 = .ok (.sipush 600, 3) := by decide +kernel
theorem dX9_lay_45 : decode cX9_lay 45 = .ok (.if_icmp .ge 24, 3) := by decide +kernel
theorem dX9_lay_48 : decode cX9_lay 48 = .ok (.aload_n 0, 1) := by decide +kernel
theorem dX9_lay_49 : decode cX9_lay 49 = .ok (.getfield 14, 3) := by decide +kernel
theorem dX9_lay_52 : decode cX9_lay 52 = .ok (.aload_n 0, 1) := by decide +kernel
theorem dX9_lay_53 : decode cX9_lay 53 = .ok (.getfield 11, 3) := by decide +kernel
theorem dX9_lay_56 : decode cX9_lay 56 = .ok (.iload 4, 2) := by decide +kernel
theorem dX9_lay_58 : decode cX9_lay 58 = .ok (.iastore, 1) := by decide +kernel
theorem dX9_lay_59 : decode cX9_lay 59 = .ok (.aload_n 0, 1) := by decide +kernel
theorem dX9_lay_60 : decode cX9_lay 60 = .ok (.dup, 1) := by decide +kernel
theorem dX9_lay_61 : decode cX9_lay 61 = .ok (.getfield 11, 3) := by decide +kernel
theorem dX9_lay_64 : decode cX9_lay 64 = .ok (.iconst 1, 1) := by decide +kernel
theorem dX9_lay_65 : decode cX9_lay 65 = .ok (.iadd, 1) := by decide +kernel
theorem dX9_lay_66 : decode cX9_lay 66 = .ok (.putfield 11, 3) := by decide +kernel
theorem dX9_lay_69 : decode cX9_lay 69 = .ok (.iinc 3 (-8), 3) := by decide +kernel
theorem dX9_lay_72 : decode cX9_lay 72 = .ok (.goto (-69), 3) := by decide +kernel
theorem dX9_lay_75 : decode cX9_lay 75 = .ok (.return_, 1) := by decide +kernel
theorem dX9_init_0 : decode cX9_init 0 = .ok (.aload_n 0, 1) := by decide +kernel
theorem dX9_init_1 : decode cX9_init 1 = .ok (.invokespecial 18, 3) := by decide +kernel
theorem dX9_init_4 : decode cX9_init 4 = .ok (.aload_n 0, 1) := by decide +kernel
theorem dX9_init_5 : decode cX9_init 5 = .ok (.sipush 600, 3) := by decide +kernel
theorem dX9_init_8 : decode cX9_init 8 = .ok (.newarray .int, 2) := by decide +kernel
theorem dX9_init_10 : decode cX9_init 10 = .ok (.putfield 14, 3) := by decide +kernel
theorem dX9_init_13 : decode cX9_init 13 = .ok (.aload_n 0, 1) := by decide +kernel
theorem dX9_init_14 : decode cX9_init 14 = .ok (.sipush 602, 3) := by decide +kernel
theorem dX9_init_17 : decode cX9_init 17 = .ok (.newarray .int, 2) := by decide +kernel
theorem dX9_init_19 : decode cX9_init 19 = .ok (.putfield 24, 3) := by decide +kernel
theorem dX9_init_22 : decode cX9_init 22 = .ok (.aload_n 0, 1) := by decide +kernel
theorem dX9_init_23 : decode cX9_init 23 = .ok (.sipush 602, 3) := by decide +kernel
theorem dX9_init_26 : decode cX9_init 26 = .ok (.newarray .int, 2) := by decide +kernel
theorem dX9_init_28 : decode cX9_init 28 = .ok (.putfield 27, 3) := by decide +kernel
theorem dX9_init_31 : decode cX9_init 31 = .ok (.aload_n 0, 1) := by decide +kernel
theorem dX9_init_32 : decode cX9_init 32 = .ok (.sipush 602, 3) := by decide +kernel
theorem dX9_init_35 : decode cX9_init 35 = .ok (.newarray .long, 2) := by decide +kernel
theorem dX9_init_37 : decode cX9_init 37 = .ok (.putfield 30, 3) := by decide +kernel
theorem dX9_init_40 : decode cX9_init 40 = .ok (.aload_n 0, 1) := by decide +kernel
theorem dX9_init_41 : decode cX9_init 41 = .ok (.bipush 8, 2) := by decide +kernel
theorem dX9_init_43 : decode cX9_init 43 = .ok (.newarray .long, 2) := by decide +kernel
theorem dX9_init_45 : decode cX9_init 45 = .ok (.dup, 1) := by decide +kernel
theorem dX9_init_46 : decode cX9_init 46 = .ok (.iconst 0, 1) := by decide +kernel
theorem dX9_init_47 : decode cX9_init 47 = .ok (.ldc2_w 34, 3) := by decide +kernel
theorem dX9_init_50 : decode cX9_init 50 = .ok (.lastore, 1) := by decide +kernel
theorem dX9_init_51 : decode cX9_init 51 = .ok (.dup, 1) := by decide +kernel
theorem dX9_init_52 : decode cX9_init 52 = .ok (.iconst 1, 1) := by decide +kernel
theorem dX9_init_53 : decode cX9_init 53 = .ok (.ldc2_w 36, 3) := by decide +kernel
theorem dX9_init_56 : decode cX9_init 56 = .ok (.lastore, 1) := by decide +kernel
theorem dX9_init_57 : decode cX9_init 57 = .ok (.dup, 1) := by decide +kernel
theorem dX9_init_58 : decode cX9_init 58 = .ok (.iconst 2, 1) := by decide +kernel
theorem dX9_init_59 : decode cX9_init 59 = .ok (.ldc2_w 38, 3) := by decide +kernel
theorem dX9_init_62 : decode cX9_init 62 = .ok (.lastore, 1) := by decide +kernel
theorem dX9_init_63 : decode cX9_init 63 = .ok (.dup, 1) := by decide +kernel
theorem dX9_init_64 : decode cX9_init 64 = .ok (.iconst 3, 1) := by decide +kernel
theorem dX9_init_65 : decode cX9_init 65 = .ok (.ldc2_w 40, 3) := by decide +kernel
theorem dX9_init_68 : decode cX9_init 68 = .ok (.lastore, 1) := by decide +kernel
theorem dX9_init_69 : decode cX9_init 69 = .ok (.dup, 1) := by decide +kernel
theorem dX9_init_70 : decode cX9_init 70 = .ok (.iconst 4, 1) := by decide +kernel
theorem dX9_init_71 : decode cX9_init 71 = .ok (.ldc2_w 42, 3) := by decide +kernel
theorem dX9_init_74 : decode cX9_init 74 = .ok (.lastore, 1) := by decide +kernel
theorem dX9_init_75 : decode cX9_init 75 = .ok (.dup, 1) := by decide +kernel
theorem dX9_init_76 : decode cX9_init 76 = .ok (.iconst 5, 1) := by decide +kernel
theorem dX9_init_77 : decode cX9_init 77 = .ok (.ldc2_w 44, 3) := by decide +kernel
theorem dX9_init_80 : decode cX9_init 80 = .ok (.lastore, 1) := by decide +kernel
theorem dX9_init_81 : decode cX9_init 81 = .ok (.dup, 1) := by decide +kernel
theorem dX9_init_82 : decode cX9_init 82 = .ok (.bipush 6, 2) := by decide +kernel
theorem dX9_init_84 : decode cX9_init 84 = .ok (.ldc2_w 46, 3) := by decide +kernel
theorem dX9_init_87 : decode cX9_init 87 = .ok (.lastore, 1) := by decide +kernel
theorem dX9_init_88 : decode cX9_init 88 = .ok (.dup, 1) := by decide +kernel
theorem dX9_init_89 : decode cX9_init 89 = .ok (.bipush 7, 2) := by decide +kernel
theorem dX9_init_91 : decode cX9_init 91 = .ok (.ldc2_w 48, 3) := by decide +kernel
theorem dX9_init_94 : decode cX9_init 94 = .ok (.lastore, 1) := by decide +kernel
theorem dX9_init_95 : decode cX9_init 95 = .ok (.putfield 50, 3) := by decide +kernel
theorem dX9_init_98 : decode cX9_init 98 = .ok (.aload_n 0, 1) := by decide +kernel
theorem dX9_init_99 : decode cX9_init 99 = .ok (.bipush 21, 2) := by decide +kernel
theorem dX9_init_101 : decode cX9_init 101 = .ok (.newarray .int, 2) := by decide +kernel
theorem dX9_init_103 : decode cX9_init 103 = .ok (.putfield 53, 3) := by decide +kernel
theorem dX9_init_106 : decode cX9_init 106 = .ok (.aload_n 0, 1) := by decide +kernel
theorem dX9_init_107 : decode cX9_init 107 = .ok (.sipush 336, 3) := by decide +kernel
theorem dX9_init_110 : decode cX9_init 110 = .ok (.newarray .int, 2) := by decide +kernel
theorem dX9_init_112 : decode cX9_init 112 = .ok (.putfield 56, 3) := by decide +kernel
theorem dX9_init_115 : decode cX9_init 115 = .ok (.aload_n 0, 1) := by decide +kernel
theorem dX9_init_116 : decode cX9_init 116 = .ok (.sipush 336, 3) := by decide +kernel
theorem dX9_init_119 : decode cX9_init 119 = .ok (.newarray .int, 2) := by decide +kernel
theorem dX9_init_121 : decode cX9_init 121 = .ok (.putfield 59, 3) := by decide +kernel
theorem dX9_init_124 : decode cX9_init 124 = .ok (.aload_n 0, 1) := by decide +kernel
theorem dX9_init_125 : decode cX9_init 125 = .ok (.sipush 13860, 3) := by decide +kernel
theorem dX9_init_128 : decode cX9_init 128 = .ok (.newarray .int, 2) := by decide +kernel
theorem dX9_init_130 : decode cX9_init 130 = .ok (.putfield 62, 3) := by decide +kernel
theorem dX9_init_133 : decode cX9_init 133 = .ok (.aload_n 0, 1) := by decide +kernel
theorem dX9_init_134 : decode cX9_init 134 = .ok (.sipush 13860, 3) := by decide +kernel
theorem dX9_init_137 : decode cX9_init 137 = .ok (.newarray .int, 2) := by decide +kernel
theorem dX9_init_139 : decode cX9_init 139 = .ok (.putfield 65, 3) := by decide +kernel
theorem dX9_init_142 : decode cX9_init 142 = .ok (.aload_n 0, 1) := by decide +kernel
theorem dX9_init_143 : decode cX9_init 143 = .ok (.bipush 7, 2) := by decide +kernel
theorem dX9_init_145 : decode cX9_init 145 = .ok (.newarray .int, 2) := by decide +kernel
theorem dX9_init_147 : decode cX9_init 147 = .ok (.putfield 68, 3) := by decide +kernel
theorem dX9_init_150 : decode cX9_init 150 = .ok (.aload_n 0, 1) := by decide +kernel
theorem dX9_init_151 : decode cX9_init 151 = .ok (.bipush 7, 2) := by decide +kernel
theorem dX9_init_153 : decode cX9_init 153 = .ok (.newarray .int, 2) := by decide +kernel
theorem dX9_init_155 : decode cX9_init 155 = .ok (.putfield 71, 3) := by decide +kernel
theorem dX9_init_158 : decode cX9_init 158 = .ok (.aload_n 0, 1) := by decide +kernel
theorem dX9_init_159 : decode cX9_init 159 = .ok (.bipush 7, 2) := by decide +kernel
theorem dX9_init_161 : decode cX9_init 161 = .ok (.newarray .int, 2) := by decide +kernel
theorem dX9_init_163 : decode cX9_init 163 = .ok (.putfield 74, 3) := by decide +kernel
theorem dX9_init_166 : decode cX9_init 166 = .ok (.aload_n 0, 1) := by decide +kernel
theorem dX9_init_167 : decode cX9_init 167 = .ok (.iconst 5, 1) := by decide +kernel
theorem dX9_init_168 : decode cX9_init 168 = .ok (.newarray .int, 2) := by decide +kernel
theorem dX9_init_170 : decode cX9_init 170 = .ok (.putfield 77, 3) := by decide +kernel
theorem dX9_init_173 : decode cX9_init 173 = .ok (.aload_n 0, 1) := by decide +kernel
theorem dX9_init_174 : decode cX9_init 174 = .ok (.sipush 660, 3) := by decide +kernel
theorem dX9_init_177 : decode cX9_init 177 = .ok (.newarray .int, 2) := by decide +kernel
theorem dX9_init_179 : decode cX9_init 179 = .ok (.putfield 80, 3) := by decide +kernel
theorem dX9_init_182 : decode cX9_init 182 = .ok (.aload_n 0, 1) := by decide +kernel
theorem dX9_init_183 : decode cX9_init 183 = .ok (.bipush 10, 2) := by decide +kernel
theorem dX9_init_185 : decode cX9_init 185 = .ok (.newarray .int, 2) := by decide +kernel
theorem dX9_init_187 : decode cX9_init 187 = .ok (.putfield 83, 3) := by decide +kernel
theorem dX9_init_190 : decode cX9_init 190 = .ok (.aload_n 0, 1) := by decide +kernel
theorem dX9_init_191 : decode cX9_init 191 = .ok (.bipush 10, 2) := by decide +kernel
theorem dX9_init_193 : decode cX9_init 193 = .ok (.newarray .int, 2) := by decide +kernel
theorem dX9_init_195 : decode cX9_init 195 = .ok (.putfield 86, 3) := by decide +kernel
theorem dX9_init_198 : decode cX9_init 198 = .ok (.aload_n 0, 1) := by decide +kernel
theorem dX9_init_199 : decode cX9_init 199 = .ok (.bipush 30, 2) := by decide +kernel
theorem dX9_init_201 : decode cX9_init 201 = .ok (.newarray .int, 2) := by decide +kernel
theorem dX9_init_203 : decode cX9_init 203 = .ok (.putfield 89, 3) := by decide +kernel
theorem dX9_init_206 : decode cX9_init 206 = .ok (.aload_n 0, 1) := by decide +kernel
theorem dX9_init_207 : decode cX9_init 207 = .ok (.bipush 10, 2) := by decide +kernel
theorem dX9_init_209 : decode cX9_init 209 = .ok (.newarray .boolean, 2) := by decide +kernel
theorem dX9_init_211 : decode cX9_init 211 = .ok (.putfield 92, 3) := by decide +kernel
theorem dX9_init_214 : decode cX9_init 214 = .ok (.aload_n 0, 1) := by decide +kernel
theorem dX9_init_215 : decode cX9_init 215 = .ok (.bipush 10, 2) := by decide +kernel
theorem dX9_init_217 : decode cX9_init 217 = .ok (.newarray .int, 2) := by decide +kernel
theorem dX9_init_219 : decode cX9_init 219 = .ok (.putfield 96, 3) := by decide +kernel
theorem dX9_init_222 : decode cX9_init 222 = .ok (.aload_n 0, 1) := by decide +kernel
theorem dX9_init_223 : decode cX9_init 223 = .ok (.bipush 10, 2) := by decide +kernel
theorem dX9_init_225 : decode cX9_init 225 = .ok (.newarray .int, 2) := by decide +kernel
theorem dX9_init_227 : decode cX9_init 227 = .ok (.putfield 99, 3) := by decide +kernel
theorem dX9_init_230 : decode cX9_init 230 = .ok (.aload_n 0, 1) := by decide +kernel
theorem dX9_init_231 : decode cX9_init 231 = .ok (.sipush 2020, 3) := by decide +kernel
theorem dX9_init_234 : decode cX9_init 234 = .ok (.newarray .int, 2) := by decide +kernel
theorem dX9_init_236 : decode cX9_init 236 = .ok (.putfield 102, 3) := by decide +kernel
theorem dX9_init_239 : decode cX9_init 239 = .ok (.aload_n 0, 1) := by decide +kernel
theorem dX9_init_240 : decode cX9_init 240 = .ok (.bipush 10, 2) := by decide +kernel
theorem dX9_init_242 : decode cX9_init 242 = .ok (.newarray .int, 2) := by decide +kernel
theorem dX9_init_244 : decode cX9_init 244 = .ok (.putfield 105, 3) := by decide +kernel
theorem dX9_init_247 : decode cX9_init 247 = .ok (.aload_n 0, 1) := by decide +kernel
theorem dX9_init_248 : decode cX9_init 248 = .ok (.bipush 20, 2) := by decide +kernel
theorem dX9_init_250 : decode cX9_init 250 = .ok (.newarray .int, 2) := by decide +kernel
theorem dX9_init_252 : decode cX9_init 252 = .ok (.putfield 108, 3) := by decide +kernel
theorem dX9_init_255 : decode cX9_init 255 = .ok (.aload_n 0, 1) := by decide +kernel
theorem dX9_init_256 : decode cX9_init 256 = .ok (.bipush 20, 2) := by decide +kernel
theorem dX9_init_258 : decode cX9_init 258 = .ok (.newarray .int, 2) := by decide +kernel
theorem dX9_init_260 : decode cX9_init 260 = .ok (.putfield 111, 3) := by decide +kernel
theorem dX9_init_263 : decode cX9_init 263 = .ok (.aload_n 0, 1) := by decide +kernel
theorem dX9_init_264 : decode cX9_init 264 = .ok (.bipush 20, 2) := by decide +kernel
theorem dX9_init_266 : decode cX9_init 266 = .ok (.newarray .int, 2) := by decide +kernel
theorem dX9_init_268 : decode cX9_init 268 = .ok (.putfield 114, 3) := by decide +kernel
theorem dX9_init_271 : decode cX9_init 271 = .ok (.aload_n 0, 1) := by decide +kernel
theorem dX9_init_272 : decode cX9_init 272 = .ok (.sipush 1020, 3) := by decide +kernel
theorem dX9_init_275 : decode cX9_init 275 = .ok (.newarray .int, 2) := by decide +kernel
theorem dX9_init_277 : decode cX9_init 277 = .ok (.putfield 117, 3) := by decide +kernel
theorem dX9_init_280 : decode cX9_init 280 = .ok (.aload_n 0, 1) := by decide +kernel
theorem dX9_init_281 : decode cX9_init 281 = .ok (.bipush 60, 2) := by decide +kernel
theorem dX9_init_283 : decode cX9_init 283 = .ok (.newarray .int, 2) := by decide +kernel
theorem dX9_init_285 : decode cX9_init 285 = .ok (.putfield 120, 3) := by decide +kernel
theorem dX9_init_288 : decode cX9_init 288 = .ok (.aload_n 0, 1) := by decide +kernel
theorem dX9_init_289 : decode cX9_init 289 = .ok (.bipush 60, 2) := by decide +kernel
theorem dX9_init_291 : decode cX9_init 291 = .ok (.newarray .int, 2) := by decide +kernel
theorem dX9_init_293 : decode cX9_init 293 = .ok (.putfield 123, 3) := by decide +kernel
theorem dX9_init_296 : decode cX9_init 296 = .ok (.aload_n 0, 1) := by decide +kernel
theorem dX9_init_297 : decode cX9_init 297 = .ok (.bipush 60, 2) := by decide +kernel
theorem dX9_init_299 : decode cX9_init 299 = .ok (.newarray .int, 2) := by decide +kernel
theorem dX9_init_301 : decode cX9_init 301 = .ok (.putfield 126, 3) := by decide +kernel
theorem dX9_init_304 : decode cX9_init 304 = .ok (.aload_n 0, 1) := by decide +kernel
theorem dX9_init_305 : decode cX9_init 305 = .ok (.bipush 60, 2) := by decide +kernel
theorem dX9_init_307 : decode cX9_init 307 = .ok (.newarray .int, 2) := by decide +kernel
theorem dX9_init_309 : decode cX9_init 309 = .ok (.putfield 129, 3) := by decide +kernel
theorem dX9_init_312 : decode cX9_init 312 = .ok (.aload_n 0, 1) := by decide +kernel
theorem dX9_init_313 : decode cX9_init 313 = .ok (.bipush 60, 2) := by decide +kernel
theorem dX9_init_315 : decode cX9_init 315 = .ok (.newarray .int, 2) := by decide +kernel
theorem dX9_init_317 : decode cX9_init 317 = .ok (.putfield 132, 3) := by decide +kernel
theorem dX9_init_320 : decode cX9_init 320 = .ok (.aload_n 0, 1) := by decide +kernel
theorem dX9_init_321 : decode cX9_init 321 = .ok (.bipush 60, 2) := by decide +kernel
theorem dX9_init_323 : decode cX9_init 323 = .ok (.newarray .int, 2) := by decide +kernel
theorem dX9_init_325 : decode cX9_init 325 = .ok (.putfield 135, 3) := by decide +kernel
theorem dX9_init_328 : decode cX9_init 328 = .ok (.aload_n 0, 1) := by decide +kernel
theorem dX9_init_329 : decode cX9_init 329 = .ok (.bipush 60, 2) := by decide +kernel
theorem dX9_init_331 : decode cX9_init 331 = .ok (.newarray .boolean, 2) := by decide +kernel
theorem dX9_init_333 : decode cX9_init 333 = .ok (.putfield 138, 3) := by decide +kernel
theorem dX9_init_336 : decode cX9_init 336 = .ok (.aload_n 0, 1) := by decide +kernel
theorem dX9_init_337 : decode cX9_init 337 = .ok (.sipush 12120, 3) := by decide +kernel
theorem dX9_init_340 : decode cX9_init 340 = .ok (.newarray .boolean, 2) := by decide +kernel
theorem dX9_init_342 : decode cX9_init 342 = .ok (.putfield 141, 3) := by decide +kernel
theorem dX9_init_345 : decode cX9_init 345 = .ok (.aload_n 0, 1) := by decide +kernel
theorem dX9_init_346 : decode cX9_init 346 = .ok (.sipush 3060, 3) := by decide +kernel
theorem dX9_init_349 : decode cX9_init 349 = .ok (.newarray .int, 2) := by decide +kernel
theorem dX9_init_351 : decode cX9_init 351 = .ok (.putfield 144, 3) := by decide +kernel
theorem dX9_init_354 : decode cX9_init 354 = .ok (.aload_n 0, 1) := by decide +kernel
theorem dX9_init_355 : decode cX9_init 355 = .ok (.sipush 3060, 3) := by decide +kernel
theorem dX9_init_358 : decode cX9_init 358 = .ok (.newarray .int, 2) := by decide +kernel
theorem dX9_init_360 : decode cX9_init 360 = .ok (.putfield 147, 3) := by decide +kernel
theorem dX9_init_363 : decode cX9_init 363 = .ok (.aload_n 0, 1) := by decide +kernel
theorem dX9_init_364 : decode cX9_init 364 = .ok (.bipush 60, 2) := by decide +kernel
theorem dX9_init_366 : decode cX9_init 366 = .ok (.newarray .int, 2) := by decide +kernel
theorem dX9_init_368 : decode cX9_init 368 = .ok (.putfield 150, 3) := by decide +kernel
theorem dX9_init_371 : decode cX9_init 371 = .ok (.aload_n 0, 1) := by decide +kernel
theorem dX9_init_372 : decode cX9_init 372 = .ok (.bipush 51, 2) := by decide +kernel
theorem dX9_init_374 : decode cX9_init 374 = .ok (.newarray .int, 2) := by decide +kernel
theorem dX9_init_376 : decode cX9_init 376 = .ok (.putfield 153, 3) := by decide +kernel
theorem dX9_init_379 : decode cX9_init 379 = .ok (.aload_n 0, 1) := by decide +kernel
theorem dX9_init_380 : decode cX9_init 380 = .ok (.iconst 3, 1) := by decide +kernel
theorem dX9_init_381 : decode cX9_init 381 = .ok (.newarray .int, 2) := by decide +kernel
theorem dX9_init_383 : decode cX9_init 383 = .ok (.putfield 156, 3) := by decide +kernel
theorem dX9_init_386 : decode cX9_init 386 = .ok (.aload_n 0, 1) := by decide +kernel
theorem dX9_init_387 : decode cX9_init 387 = .ok (.iconst 3, 1) := by decide +kernel
theorem dX9_init_388 : decode cX9_init 388 = .ok (.newarray .int, 2) := by decide +kernel
theorem dX9_init_390 : decode cX9_init 390 = .ok (.putfield 159, 3) := by decide +kernel
theorem dX9_init_393 : decode cX9_init 393 = .ok (.aload_n 0, 1) := by decide +kernel
theorem dX9_init_394 : decode cX9_init 394 = .ok (.iconst (-1), 1) := by decide +kernel
theorem dX9_init_395 : decode cX9_init 395 = .ok (.putfield 162, 3) := by decide +kernel
theorem dX9_init_398 : decode cX9_init 398 = .ok (.return_, 1) := by decide +kernel
theorem dX9_isLetter_0 : decode cX9_isLetter 0 = .ok (.iload_n 0, 1) := by decide +kernel
theorem dX9_isLetter_1 : decode cX9_isLetter 1 = .ok (.bipush 97, 2) := by decide +kernel
theorem dX9_isLetter_3 : decode cX9_isLetter 3 = .ok (.if_icmp .lt 13, 3) := by decide +kernel
theorem dX9_isLetter_6 : decode cX9_isLetter 6 = .ok (.iload_n 0, 1) := by decide +kernel
theorem dX9_isLetter_7 : decode cX9_isLetter 7 = .ok (.bipush 122, 2) := by decide +kernel
theorem dX9_isLetter_9 : decode cX9_isLetter 9 = .ok (.if_icmp .gt 7, 3) := by decide +kernel
theorem dX9_isLetter_12 : decode cX9_isLetter 12 = .ok (.iconst 1, 1) := by decide +kernel
theorem dX9_isLetter_13 : decode cX9_isLetter 13 = .ok (.goto 4, 3) := by decide +kernel
theorem dX9_isLetter_16 : decode cX9_isLetter 16 = .ok (.iconst 0, 1) := by decide +kernel
theorem dX9_isLetter_17 : decode cX9_isLetter 17 = .ok (.ireturn, 1) := by decide +kernel
theorem dX9_isDigit_0 : decode cX9_isDigit 0 = .ok (.iload_n 0, 1) := by decide +kernel
theorem dX9_isDigit_1 : decode cX9_isDigit 1 = .ok (.bipush 48, 2) := by decide +kernel
theorem dX9_isDigit_3 : decode cX9_isDigit 3 = .ok (.if_icmp .lt 13, 3) := by decide +kernel
theorem dX9_isDigit_6 : decode cX9_isDigit 6 = .ok (.iload_n 0, 1) := by decide +kernel
theorem dX9_isDigit_7 : decode cX9_isDigit 7 = .ok (.bipush 57, 2) := by decide +kernel
theorem dX9_isDigit_9 : decode cX9_isDigit 9 = .ok (.if_icmp .gt 7, 3) := by decide +kernel
theorem dX9_isDigit_12 : decode cX9_isDigit 12 = .ok (.iconst 1, 1) := by decide +kernel
theorem dX9_isDigit_13 : decode cX9_isDigit 13 = .ok (.goto 4, 3) := by decide +kernel
theorem dX9_isDigit_16 : decode cX9_isDigit 16 = .ok (.iconst 0, 1) := by decide +kernel
theorem dX9_isDigit_17 : decode cX9_isDigit 17 = .ok (.ireturn, 1) := by decide +kernel
set_option maxRecDepth 20000 in
theorem dX9_rank_0 : decode cX9_rank 0 = .ok (.iload_n 0, 1) := by decide +kernel
theorem dX9_rank_1 : decode cX9_rank 1 = .ok (.invokestatic 165, 3) := by decide +kernel
theorem dX9_rank_4 : decode cX9_rank 4 = .ok (.ifCond .eq 10, 3) := by decide +kernel
theorem dX9_rank_7 : decode cX9_rank 7 = .ok (.iload_n 0, 1) := by decide +kernel
theorem dX9_rank_8 : decode cX9_rank 8 = .ok (.bipush 96, 2) := by decide +kernel
theorem dX9_rank_10 : decode cX9_rank 10 = .ok (.isub, 1) := by decide +kernel
theorem dX9_rank_11 : decode cX9_rank 11 = .ok (.goto 7, 3) := by decide +kernel
theorem dX9_rank_14 : decode cX9_rank 14 = .ok (.iload_n 0, 1) := by decide +kernel
theorem dX9_rank_15 : decode cX9_rank 15 = .ok (.bipush 21, 2) := by decide +kernel
theorem dX9_rank_17 : decode cX9_rank 17 = .ok (.isub, 1) := by decide +kernel
theorem dX9_rank_18 : decode cX9_rank 18 = .ok (.ireturn, 1) := by decide +kernel
theorem dX9_isSignOf_0 : decode cX9_isSignOf 0 = .ok (.iload_n 0, 1) := by decide +kernel
theorem dX9_isSignOf_1 : decode cX9_isSignOf 1 = .ok (.bipush 40, 2) := by decide +kernel
theorem dX9_isSignOf_3 : decode cX9_isSignOf 3 = .ok (.if_icmp .eq 39, 3) := by decide +kernel
theorem dX9_isSignOf_6 : decode cX9_isSignOf 6 = .ok (.iload_n 0, 1) := by decide +kernel
theorem dX9_isSignOf_7 : decode cX9_isSignOf 7 = .ok (.bipush 41, 2) := by decide +kernel
theorem dX9_isSignOf_9 : decode cX9_isSignOf 9 = .ok (.if_icmp .eq 33, 3) := by decide +kernel
theorem dX9_isSignOf_12 : decode cX9_isSignOf 12 = .ok (.iload_n 0, 1) := by decide +kernel
theorem dX9_isSignOf_13 : decode cX9_isSignOf 13 = .ok (.bipush 59, 2) := by decide +kernel
theorem dX9_isSignOf_15 : decode cX9_isSignOf 15 = .ok (.if_icmp .eq 27, 3) := by decide +kernel
theorem dX9_isSignOf_18 : decode cX9_isSignOf 18 = .ok (.iload_n 0, 1) := by decide +kernel
theorem dX9_isSignOf_19 : decode cX9_isSignOf 19 = .ok (.bipush 61, 2) := by decide +kernel
theorem dX9_isSignOf_21 : decode cX9_isSignOf 21 = .ok (.if_icmp .eq 21, 3) := by decide +kernel
theorem dX9_isSignOf_24 : decode cX9_isSignOf 24 = .ok (.iload_n 0, 1) := by decide +kernel
theorem dX9_isSignOf_25 : decode cX9_isSignOf 25 = .ok (.bipush 60, 2) := by decide +kernel
theorem dX9_isSignOf_27 : decode cX9_isSignOf 27 = .ok (.if_icmp .eq 15, 3) := by decide +kernel
theorem dX9_isSignOf_30 : decode cX9_isSignOf 30 = .ok (.iload_n 0, 1) := by decide +kernel
theorem dX9_isSignOf_31 : decode cX9_isSignOf 31 = .ok (.bipush 43, 2) := by decide +kernel
theorem dX9_isSignOf_33 : decode cX9_isSignOf 33 = .ok (.if_icmp .eq 9, 3) := by decide +kernel
theorem dX9_isSignOf_36 : decode cX9_isSignOf 36 = .ok (.iload_n 0, 1) := by decide +kernel
theorem dX9_isSignOf_37 : decode cX9_isSignOf 37 = .ok (.bipush 45, 2) := by decide +kernel
theorem dX9_isSignOf_39 : decode cX9_isSignOf 39 = .ok (.if_icmp .ne 7, 3) := by decide +kernel
theorem dX9_isSignOf_42 : decode cX9_isSignOf 42 = .ok (.iconst 1, 1) := by decide +kernel
theorem dX9_isSignOf_43 : decode cX9_isSignOf 43 = .ok (.goto 4, 3) := by decide +kernel
theorem dX9_isSignOf_46 : decode cX9_isSignOf 46 = .ok (.iconst 0, 1) := by decide +kernel
theorem dX9_isSignOf_47 : decode cX9_isSignOf 47 = .ok (.ireturn, 1) := by decide +kernel
set_option maxRecDepth 20000 in
theorem dX9_cutAll_0 : decode cX9_cutAll 0 = .ok (.aload_n 0, 1) := by decide +kernel
theorem dX9_cutAll_1 : decode cX9_cutAll 1 = .ok (.aload_n 0, 1) := by decide +kernel
theorem dX9_cutAll_2 : decode cX9_cutAll 2 = .ok (.getfield 11, 3) := by decide +kernel
theorem dX9_cutAll_5 : decode cX9_cutAll 5 = .ok (.putfield 169, 3) := by decide +kernel
theorem dX9_cutAll_8 : decode cX9_cutAll 8 = .ok (.aload_n 0, 1) := by decide +kernel
theorem dX9_cutAll_9 : decode cX9_cutAll 9 = .ok (.iconst 0, 1) := by decide +kernel
theorem dX9_cutAll_10 : decode cX9_cutAll 10 = .ok (.putfield 11, 3) := by decide +kernel
theorem dX9_cutAll_13 : decode cX9_cutAll 13 = .ok (.iconst 0, 1) := by decide +kernel
theorem dX9_cutAll_14 : decode cX9_cutAll 14 = .ok (.istore_n 1, 1) := by decide +kernel
theorem dX9_cutAll_15 : decode cX9_cutAll 15 = .ok (.iconst 0, 1) := by decide +kernel
theorem dX9_cutAll_16 : decode cX9_cutAll 16 = .ok (.istore_n 2, 1) := by decide +kernel
theorem dX9_cutAll_17 : decode cX9_cutAll 17 = .ok (.iload_n 2, 1) := by decide +kernel
theorem dX9_cutAll_18 : decode cX9_cutAll 18 = .ok (.aload_n 0, 1) := by decide +kernel
theorem dX9_cutAll_19 : decode cX9_cutAll 19 = .ok (.getfield 169, 3) := by decide +kernel
theorem dX9_cutAll_22 : decode cX9_cutAll 22 = .ok (.if_icmp .ge 257, 3) := by decide +kernel
theorem dX9_cutAll_25 : decode cX9_cutAll 25 = .ok (.aload_n 0, 1) := by decide +kernel
theorem dX9_cutAll_26 : decode cX9_cutAll 26 = .ok (.getfield 14, 3) := by decide +kernel
theorem dX9_cutAll_29 : decode cX9_cutAll 29 = .ok (.iload_n 2, 1) := by decide +kernel
theorem dX9_cutAll_30 : decode cX9_cutAll 30 = .ok (.iaload, 1) := by decide +kernel
theorem dX9_cutAll_31 : decode cX9_cutAll 31 = .ok (.istore_n 3, 1) := by decide +kernel
theorem dX9_cutAll_32 : decode cX9_cutAll 32 = .ok (.iload_n 3, 1) := by decide +kernel
theorem dX9_cutAll_33 : decode cX9_cutAll 33 = .ok (.bipush 10, 2) := by decide +kernel
theorem dX9_cutAll_35 : decode cX9_cutAll 35 = .ok (.if_icmp .eq 9, 3) := by decide +kernel
theorem dX9_cutAll_38 : decode cX9_cutAll 38 = .ok (.iload_n 3, 1) := by decide +kernel
theorem dX9_cutAll_39 : decode cX9_cutAll 39 = .ok (.bipush 32, 2) := by decide +kernel
theorem dX9_cutAll_41 : decode cX9_cutAll 41 = .ok (.if_icmp .ne 9, 3) := by decide +kernel
theorem dX9_cutAll_44 : decode cX9_cutAll 44 = .ok (.iinc 2 1, 3) := by decide +kernel
theorem dX9_cutAll_47 : decode cX9_cutAll 47 = .ok (.goto (-30), 3) := by decide +kernel
theorem dX9_cutAll_50 : decode cX9_cutAll 50 = .ok (.iload_n 2, 1) := by decide +kernel
theorem dX9_cutAll_51 : decode cX9_cutAll 51 = .ok (.istore 4, 2) := by decide +kernel
theorem dX9_cutAll_53 : decode cX9_cutAll 53 = .ok (.lconst 0, 1) := by decide +kernel
theorem dX9_cutAll_54 : decode cX9_cutAll 54 = .ok (.lstore 5, 2) := by decide +kernel
theorem dX9_cutAll_56 : decode cX9_cutAll 56 = .ok (.aload_n 0, 1) := by decide +kernel
theorem dX9_cutAll_57 : decode cX9_cutAll 57 = .ok (.getfield 27, 3) := by decide +kernel
theorem dX9_cutAll_60 : decode cX9_cutAll 60 = .ok (.iload_n 1, 1) := by decide +kernel
theorem dX9_cutAll_61 : decode cX9_cutAll 61 = .ok (.iload_n 2, 1) := by decide +kernel
theorem dX9_cutAll_62 : decode cX9_cutAll 62 = .ok (.iastore, 1) := by decide +kernel
theorem dX9_cutAll_63 : decode cX9_cutAll 63 = .ok (.iload_n 3, 1) := by decide +kernel
theorem dX9_cutAll_64 : decode cX9_cutAll 64 = .ok (.invokestatic 165, 3) := by decide +kernel
theorem dX9_cutAll_67 : decode cX9_cutAll 67 = .ok (.ifCond .eq 85, 3) := by decide +kernel
theorem dX9_cutAll_70 : decode cX9_cutAll 70 = .ok (.iload_n 2, 1) := by decide +kernel
theorem dX9_cutAll_71 : decode cX9_cutAll 71 = .ok (.aload_n 0, 1) := by decide +kernel
theorem dX9_cutAll_72 : decode cX9_cutAll 72 = .ok (.getfield 169, 3) := by decide +kernel
theorem dX9_cutAll_75 : decode cX9_cutAll 75 = .ok (.if_icmp .ge 54, 3) := by decide +kernel
theorem dX9_cutAll_78 : decode cX9_cutAll 78 = .ok (.aload_n 0, 1) := by decide +kernel
theorem dX9_cutAll_79 : decode cX9_cutAll 79 = .ok (.getfield 14, 3) := by decide +kernel
theorem dX9_cutAll_82 : decode cX9_cutAll 82 = .ok (.iload_n 2, 1) := by decide +kernel
theorem dX9_cutAll_83 : decode cX9_cutAll 83 = .ok (.iaload, 1) := by decide +kernel
theorem dX9_cutAll_84 : decode cX9_cutAll 84 = .ok (.invokestatic 165, 3) := by decide +kernel
theorem dX9_cutAll_87 : decode cX9_cutAll 87 = .ok (.ifCond .eq 42, 3) := by decide +kernel
theorem dX9_cutAll_90 : decode cX9_cutAll 90 = .ok (.iload_n 2, 1) := by decide +kernel
theorem dX9_cutAll_91 : decode cX9_cutAll 91 = .ok (.iload 4, 2) := by decide +kernel
theorem dX9_cutAll_93 : decode cX9_cutAll 93 = .ok (.isub, 1) := by decide +kernel
theorem dX9_cutAll_94 : decode cX9_cutAll 94 = .ok (.bipush 9, 2) := by decide +kernel
theorem dX9_cutAll_96 : decode cX9_cutAll 96 = .ok (.if_icmp .ge 23, 3) := by decide +kernel
theorem dX9_cutAll_99 : decode cX9_cutAll 99 = .ok (.ldc2_w 172, 3) := by decide +kernel
theorem dX9_cutAll_102 : decode cX9_cutAll 102 = .ok (.lload 5, 2) := by decide +kernel
theorem dX9_cutAll_104 : decode cX9_cutAll 104 = .ok (.lmul, 1) := by decide +kernel
theorem dX9_cutAll_105 : decode cX9_cutAll 105 = .ok (.aload_n 0, 1) := by decide +kernel
theorem dX9_cutAll_106 : decode cX9_cutAll 106 = .ok (.getfield 14, 3) := by decide +kernel
theorem dX9_cutAll_109 : decode cX9_cutAll 109 = .ok (.iload_n 2, 1) := by decide +kernel
theorem dX9_cutAll_110 : decode cX9_cutAll 110 = .ok (.iaload, 1) := by decide +kernel
theorem dX9_cutAll_111 : decode cX9_cutAll 111 = .ok (.invokestatic 174, 3) := by decide +kernel
theorem dX9_cutAll_114 : decode cX9_cutAll 114 = .ok (.i2l, 1) := by decide +kernel
theorem dX9_cutAll_115 : decode cX9_cutAll 115 = .ok (.ladd, 1) := by decide +kernel
theorem dX9_cutAll_116 : decode cX9_cutAll 116 = .ok (.goto 5, 3) := by decide +kernel
theorem dX9_cutAll_119 : decode cX9_cutAll 119 = .ok (.lload 5, 2) := by decide +kernel
theorem dX9_cutAll_121 : decode cX9_cutAll 121 = .ok (.lstore 5, 2) := by decide +kernel
theorem dX9_cutAll_123 : decode cX9_cutAll 123 = .ok (.iinc 2 1, 3) := by decide +kernel
theorem dX9_cutAll_126 : decode cX9_cutAll 126 = .ok (.goto (-56), 3) := by decide +kernel
theorem dX9_cutAll_129 : decode cX9_cutAll 129 = .ok (.aload_n 0, 1) := by decide +kernel
theorem dX9_cutAll_130 : decode cX9_cutAll 130 = .ok (.getfield 24, 3) := by decide +kernel
theorem dX9_cutAll_133 : decode cX9_cutAll 133 = .ok (.iload_n 1, 1) := by decide +kernel
theorem dX9_cutAll_134 : decode cX9_cutAll 134 = .ok (.iload_n 2, 1) := by decide +kernel
theorem dX9_cutAll_135 : decode cX9_cutAll 135 = .ok (.iload 4, 2) := by decide +kernel
theorem dX9_cutAll_137 : decode cX9_cutAll 137 = .ok (.isub, 1) := by decide +kernel
theorem dX9_cutAll_138 : decode cX9_cutAll 138 = .ok (.bipush 9, 2) := by decide +kernel
theorem dX9_cutAll_140 : decode cX9_cutAll 140 = .ok (.if_icmp .le 7, 3) := by decide +kernel
theorem dX9_cutAll_143 : decode cX9_cutAll 143 = .ok (.iconst 4, 1) := by decide +kernel
theorem dX9_cutAll_144 : decode cX9_cutAll 144 = .ok (.goto 4, 3) := by decide +kernel
theorem dX9_cutAll_147 : decode cX9_cutAll 147 = .ok (.iconst 1, 1) := by decide +kernel
theorem dX9_cutAll_148 : decode cX9_cutAll 148 = .ok (.iastore, 1) := by decide +kernel
theorem dX9_cutAll_149 : decode cX9_cutAll 149 = .ok (.goto 116, 3) := by decide +kernel
theorem dX9_cutAll_152 : decode cX9_cutAll 152 = .ok (.iload_n 3, 1) := by decide +kernel
theorem dX9_cutAll_153 : decode cX9_cutAll 153 = .ok (.invokestatic 178, 3) := by decide +kernel
theorem dX9_cutAll_156 : decode cX9_cutAll 156 = .ok (.ifCond .eq 84, 3) := by decide +kernel
theorem dX9_cutAll_159 : decode cX9_cutAll 159 = .ok (.iload_n 2, 1) := by decide +kernel
theorem dX9_cutAll_160 : decode cX9_cutAll 160 = .ok (.aload_n 0, 1) := by decide +kernel
theorem dX9_cutAll_161 : decode cX9_cutAll 161 = .ok (.getfield 169, 3) := by decide +kernel
theorem dX9_cutAll_164 : decode cX9_cutAll 164 = .ok (.if_icmp .ge 54, 3) := by decide +kernel
theorem dX9_cutAll_167 : decode cX9_cutAll 167 = .ok (.aload_n 0, 1) := by decide +kernel
theorem dX9_cutAll_168 : decode cX9_cutAll 168 = .ok (.getfield 14, 3) := by decide +kernel
theorem dX9_cutAll_171 : decode cX9_cutAll 171 = .ok (.iload_n 2, 1) := by decide +kernel
theorem dX9_cutAll_172 : decode cX9_cutAll 172 = .ok (.iaload, 1) := by decide +kernel
theorem dX9_cutAll_173 : decode cX9_cutAll 173 = .ok (.invokestatic 178, 3) := by decide +kernel
theorem dX9_cutAll_176 : decode cX9_cutAll 176 = .ok (.ifCond .eq 42, 3) := by decide +kernel
theorem dX9_cutAll_179 : decode cX9_cutAll 179 = .ok (.iload_n 2, 1) := by decide +kernel
theorem dX9_cutAll_180 : decode cX9_cutAll 180 = .ok (.iload 4, 2) := by decide +kernel
theorem dX9_cutAll_182 : decode cX9_cutAll 182 = .ok (.isub, 1) := by decide +kernel
theorem dX9_cutAll_183 : decode cX9_cutAll 183 = .ok (.iconst 4, 1) := by decide +kernel
theorem dX9_cutAll_184 : decode cX9_cutAll 184 = .ok (.if_icmp .ge 24, 3) := by decide +kernel
theorem dX9_cutAll_187 : decode cX9_cutAll 187 = .ok (.ldc2_w 181, 3) := by decide +kernel
theorem dX9_cutAll_190 : decode cX9_cutAll 190 = .ok (.lload 5, 2) := by decide +kernel
theorem dX9_cutAll_192 : decode cX9_cutAll 192 = .ok (.lmul, 1) := by decide +kernel
theorem dX9_cutAll_193 : decode cX9_cutAll 193 = .ok (.aload_n 0, 1) := by decide +kernel
theorem dX9_cutAll_194 : decode cX9_cutAll 194 = .ok (.getfield 14, 3) := by decide +kernel
theorem dX9_cutAll_197 : decode cX9_cutAll 197 = .ok (.iload_n 2, 1) := by decide +kernel
theorem dX9_cutAll_198 : decode cX9_cutAll 198 = .ok (.iaload, 1) := by decide +kernel
theorem dX9_cutAll_199 : decode cX9_cutAll 199 = .ok (.i2l, 1) := by decide +kernel
theorem dX9_cutAll_200 : decode cX9_cutAll 200 = .ok (.ladd, 1) := by decide +kernel
theorem dX9_cutAll_201 : decode cX9_cutAll 201 = .ok (.ldc2_w 183, 3) := by decide +kernel
theorem dX9_cutAll_204 : decode cX9_cutAll 204 = .ok (.lsub, 1) := by decide +kernel
theorem dX9_cutAll_205 : decode cX9_cutAll 205 = .ok (.goto 5, 3) := by decide +kernel
theorem dX9_cutAll_208 : decode cX9_cutAll 208 = .ok (.lload 5, 2) := by decide +kernel
theorem dX9_cutAll_210 : decode cX9_cutAll 210 = .ok (.lstore 5, 2) := by decide +kernel
theorem dX9_cutAll_212 : decode cX9_cutAll 212 = .ok (.iinc 2 1, 3) := by decide +kernel
theorem dX9_cutAll_215 : decode cX9_cutAll 215 = .ok (.goto (-56), 3) := by decide +kernel
theorem dX9_cutAll_218 : decode cX9_cutAll 218 = .ok (.aload_n 0, 1) := by decide +kernel
theorem dX9_cutAll_219 : decode cX9_cutAll 219 = .ok (.getfield 24, 3) := by decide +kernel
theorem dX9_cutAll_222 : decode cX9_cutAll 222 = .ok (.iload_n 1, 1) := by decide +kernel
theorem dX9_cutAll_223 : decode cX9_cutAll 223 = .ok (.iload_n 2, 1) := by decide +kernel
theorem dX9_cutAll_224 : decode cX9_cutAll 224 = .ok (.iload 4, 2) := by decide +kernel
theorem dX9_cutAll_226 : decode cX9_cutAll 226 = .ok (.isub, 1) := by decide +kernel
theorem dX9_cutAll_227 : decode cX9_cutAll 227 = .ok (.iconst 4, 1) := by decide +kernel
theorem dX9_cutAll_228 : decode cX9_cutAll 228 = .ok (.if_icmp .le 7, 3) := by decide +kernel
theorem dX9_cutAll_231 : decode cX9_cutAll 231 = .ok (.iconst 4, 1) := by decide +kernel
theorem dX9_cutAll_232 : decode cX9_cutAll 232 = .ok (.goto 4, 3) := by decide +kernel
theorem dX9_cutAll_235 : decode cX9_cutAll 235 = .ok (.iconst 2, 1) := by decide +kernel
theorem dX9_cutAll_236 : decode cX9_cutAll 236 = .ok (.iastore, 1) := by decide +kernel
theorem dX9_cutAll_237 : decode cX9_cutAll 237 = .ok (.goto 28, 3) := by decide +kernel
theorem dX9_cutAll_240 : decode cX9_cutAll 240 = .ok (.iload_n 3, 1) := by decide +kernel
theorem dX9_cutAll_241 : decode cX9_cutAll 241 = .ok (.i2l, 1) := by decide +kernel
theorem dX9_cutAll_242 : decode cX9_cutAll 242 = .ok (.lstore 5, 2) := by decide +kernel
theorem dX9_cutAll_244 : decode cX9_cutAll 244 = .ok (.aload_n 0, 1) := by decide +kernel
theorem dX9_cutAll_245 : decode cX9_cutAll 245 = .ok (.getfield 24, 3) := by decide +kernel
theorem dX9_cutAll_248 : decode cX9_cutAll 248 = .ok (.iload_n 1, 1) := by decide +kernel
theorem dX9_cutAll_249 : decode cX9_cutAll 249 = .ok (.iload_n 3, 1) := by decide +kernel
theorem dX9_cutAll_250 : decode cX9_cutAll 250 = .ok (.invokestatic 185, 3) := by decide +kernel
theorem dX9_cutAll_253 : decode cX9_cutAll 253 = .ok (.ifCond .eq 7, 3) := by decide +kernel
theorem dX9_cutAll_256 : decode cX9_cutAll 256 = .ok (.iconst 3, 1) := by decide +kernel
theorem dX9_cutAll_257 : decode cX9_cutAll 257 = .ok (.goto 4, 3) := by decide +kernel
theorem dX9_cutAll_260 : decode cX9_cutAll 260 = .ok (.iconst 4, 1) := by decide +kernel
theorem dX9_cutAll_261 : decode cX9_cutAll 261 = .ok (.iastore, 1) := by decide +kernel
theorem dX9_cutAll_262 : decode cX9_cutAll 262 = .ok (.iinc 2 1, 3) := by decide +kernel
theorem dX9_cutAll_265 : decode cX9_cutAll 265 = .ok (.aload_n 0, 1) := by decide +kernel
theorem dX9_cutAll_266 : decode cX9_cutAll 266 = .ok (.getfield 30, 3) := by decide +kernel
theorem dX9_cutAll_269 : decode cX9_cutAll 269 = .ok (.iload_n 1, 1) := by decide +kernel
theorem dX9_cutAll_270 : decode cX9_cutAll 270 = .ok (.lload 5, 2) := by decide +kernel
theorem dX9_cutAll_272 : decode cX9_cutAll 272 = .ok (.lastore, 1) := by decide +kernel
theorem dX9_cutAll_273 : decode cX9_cutAll 273 = .ok (.iinc 1 1, 3) := by decide +kernel
theorem dX9_cutAll_276 : decode cX9_cutAll 276 = .ok (.goto (-259), 3) := by decide +kernel
theorem dX9_cutAll_279 : decode cX9_cutAll 279 = .ok (.aload_n 0, 1) := by decide +kernel
theorem dX9_cutAll_280 : decode cX9_cutAll 280 = .ok (.getfield 24, 3) := by decide +kernel
theorem dX9_cutAll_283 : decode cX9_cutAll 283 = .ok (.iload_n 1, 1) := by decide +kernel
theorem dX9_cutAll_284 : decode cX9_cutAll 284 = .ok (.iconst 0, 1) := by decide +kernel
theorem dX9_cutAll_285 : decode cX9_cutAll 285 = .ok (.iastore, 1) := by decide +kernel
theorem dX9_cutAll_286 : decode cX9_cutAll 286 = .ok (.aload_n 0, 1) := by decide +kernel
theorem dX9_cutAll_287 : decode cX9_cutAll 287 = .ok (.getfield 27, 3) := by decide +kernel
theorem dX9_cutAll_290 : decode cX9_cutAll 290 = .ok (.iload_n 1, 1) := by decide +kernel
theorem dX9_cutAll_291 : decode cX9_cutAll 291 = .ok (.aload_n 0, 1) := by decide +kernel
theorem dX9_cutAll_292 : decode cX9_cutAll 292 = .ok (.getfield 169, 3) := by decide +kernel
theorem dX9_cutAll_295 : decode cX9_cutAll 295 = .ok (.iastore, 1) := by decide +kernel
theorem dX9_cutAll_296 : decode cX9_cutAll 296 = .ok (.aload_n 0, 1) := by decide +kernel
theorem dX9_cutAll_297 : decode cX9_cutAll 297 = .ok (.iconst 0, 1) := by decide +kernel
theorem dX9_cutAll_298 : decode cX9_cutAll 298 = .ok (.putfield 188, 3) := by decide +kernel
theorem dX9_cutAll_301 : decode cX9_cutAll 301 = .ok (.aload_n 0, 1) := by decide +kernel
theorem dX9_cutAll_302 : decode cX9_cutAll 302 = .ok (.iconst 0, 1) := by decide +kernel
theorem dX9_cutAll_303 : decode cX9_cutAll 303 = .ok (.putfield 191, 3) := by decide +kernel
theorem dX9_cutAll_306 : decode cX9_cutAll 306 = .ok (.return_, 1) := by decide +kernel
theorem dX9_wrong_0 : decode cX9_wrong 0 = .ok (.aload_n 0, 1) := by decide +kernel
theorem dX9_wrong_1 : decode cX9_wrong 1 = .ok (.getfield 191, 3) := by decide +kernel
theorem dX9_wrong_4 : decode cX9_wrong 4 = .ok (.ifCond .ne 21, 3) := by decide +kernel
theorem dX9_wrong_7 : decode cX9_wrong 7 = .ok (.aload_n 0, 1) := by decide +kernel
theorem dX9_wrong_8 : decode cX9_wrong 8 = .ok (.iload_n 1, 1) := by decide +kernel
theorem dX9_wrong_9 : decode cX9_wrong 9 = .ok (.bipush 16, 2) := by decide +kernel
theorem dX9_wrong_11 : decode cX9_wrong 11 = .ok (.aload_n 0, 1) := by decide +kernel
theorem dX9_wrong_12 : decode cX9_wrong 12 = .ok (.getfield 27, 3) := by decide +kernel
theorem dX9_wrong_15 : decode cX9_wrong 15 = .ok (.aload_n 0, 1) := by decide +kernel
theorem dX9_wrong_16 : decode cX9_wrong 16 = .ok (.getfield 188, 3) := by decide +kernel
theorem dX9_wrong_19 : decode cX9_wrong 19 = .ok (.iaload, 1) := by decide +kernel
theorem dX9_wrong_20 : decode cX9_wrong 20 = .ok (.imul, 1) := by decide +kernel
theorem dX9_wrong_21 : decode cX9_wrong 21 = .ok (.iadd, 1) := by decide +kernel
theorem dX9_wrong_22 : decode cX9_wrong 22 = .ok (.putfield 191, 3) := by decide +kernel
theorem dX9_wrong_25 : decode cX9_wrong 25 = .ok (.return_, 1) := by decide +kernel
theorem dX9_isSign_0 : decode cX9_isSign 0 = .ok (.aload_n 0, 1) := by decide +kernel
theorem dX9_isSign_1 : decode cX9_isSign 1 = .ok (.getfield 191, 3) := by decide +kernel
theorem dX9_isSign_4 : decode cX9_isSign 4 = .ok (.ifCond .ne 35, 3) := by decide +kernel
theorem dX9_isSign_7 : decode cX9_isSign 7 = .ok (.aload_n 0, 1) := by decide +kernel
theorem dX9_isSign_8 : decode cX9_isSign 8 = .ok (.getfield 24, 3) := by decide +kernel
theorem dX9_isSign_11 : decode cX9_isSign 11 = .ok (.aload_n 0, 1) := by decide +kernel
theorem dX9_isSign_12 : decode cX9_isSign 12 = .ok (.getfield 188, 3) := by decide +kernel
theorem dX9_isSign_15 : decode cX9_isSign 15 = .ok (.iaload, 1) := by decide +kernel
theorem dX9_isSign_16 : decode cX9_isSign 16 = .ok (.iconst 3, 1) := by decide +kernel
theorem dX9_isSign_17 : decode cX9_isSign 17 = .ok (.if_icmp .ne 22, 3) := by decide +kernel
theorem dX9_isSign_20 : decode cX9_isSign 20 = .ok (.aload_n 0, 1) := by decide +kernel
theorem dX9_isSign_21 : decode cX9_isSign 21 = .ok (.getfield 30, 3) := by decide +kernel
theorem dX9_isSign_24 : decode cX9_isSign 24 = .ok (.aload_n 0, 1) := by decide +kernel
theorem dX9_isSign_25 : decode cX9_isSign 25 = .ok (.getfield 188, 3) := by decide +kernel
theorem dX9_isSign_28 : decode cX9_isSign 28 = .ok (.laload, 1) := by decide +kernel
theorem dX9_isSign_29 : decode cX9_isSign 29 = .ok (.iload_n 1, 1) := by decide +kernel
theorem dX9_isSign_30 : decode cX9_isSign 30 = .ok (.i2l, 1) := by decide +kernel
theorem dX9_isSign_31 : decode cX9_isSign 31 = .ok (.lcmp, 1) := by decide +kernel
theorem dX9_isSign_32 : decode cX9_isSign 32 = .ok (.ifCond .ne 7, 3) := by decide +kernel
theorem dX9_isSign_35 : decode cX9_isSign 35 = .ok (.iconst 1, 1) := by decide +kernel
theorem dX9_isSign_36 : decode cX9_isSign 36 = .ok (.goto 4, 3) := by decide +kernel
theorem dX9_isSign_39 : decode cX9_isSign 39 = .ok (.iconst 0, 1) := by decide +kernel
theorem dX9_isSign_40 : decode cX9_isSign 40 = .ok (.ireturn, 1) := by decide +kernel
theorem dX9_isWord_0 : decode cX9_isWord 0 = .ok (.aload_n 0, 1) := by decide +kernel
theorem dX9_isWord_1 : decode cX9_isWord 1 = .ok (.getfield 191, 3) := by decide +kernel
theorem dX9_isWord_4 : decode cX9_isWord 4 = .ok (.ifCond .ne 39, 3) := by decide +kernel
theorem dX9_isWord_7 : decode cX9_isWord 7 = .ok (.aload_n 0, 1) := by decide +kernel
theorem dX9_isWord_8 : decode cX9_isWord 8 = .ok (.getfield 24, 3) := by decide +kernel
theorem dX9_isWord_11 : decode cX9_isWord 11 = .ok (.aload_n 0, 1) := by decide +kernel
theorem dX9_isWord_12 : decode cX9_isWord 12 = .ok (.getfield 188, 3) := by decide +kernel
theorem dX9_isWord_15 : decode cX9_isWord 15 = .ok (.iaload, 1) := by decide +kernel
theorem dX9_isWord_16 : decode cX9_isWord 16 = .ok (.iconst 1, 1) := by decide +kernel
theorem dX9_isWord_17 : decode cX9_isWord 17 = .ok (.if_icmp .ne 26, 3) := by decide +kernel
theorem dX9_isWord_20 : decode cX9_isWord 20 = .ok (.aload_n 0, 1) := by decide +kernel
theorem dX9_isWord_21 : decode cX9_isWord 21 = .ok (.getfield 30, 3) := by decide +kernel
theorem dX9_isWord_24 : decode cX9_isWord 24 = .ok (.aload_n 0, 1) := by decide +kernel
theorem dX9_isWord_25 : decode cX9_isWord 25 = .ok (.getfield 188, 3) := by decide +kernel
theorem dX9_isWord_28 : decode cX9_isWord 28 = .ok (.laload, 1) := by decide +kernel
theorem dX9_isWord_29 : decode cX9_isWord 29 = .ok (.aload_n 0, 1) := by decide +kernel
theorem dX9_isWord_30 : decode cX9_isWord 30 = .ok (.getfield 50, 3) := by decide +kernel
theorem dX9_isWord_33 : decode cX9_isWord 33 = .ok (.iload_n 1, 1) := by decide +kernel
theorem dX9_isWord_34 : decode cX9_isWord 34 = .ok (.laload, 1) := by decide +kernel
theorem dX9_isWord_35 : decode cX9_isWord 35 = .ok (.lcmp, 1) := by decide +kernel
theorem dX9_isWord_36 : decode cX9_isWord 36 = .ok (.ifCond .ne 7, 3) := by decide +kernel
theorem dX9_isWord_39 : decode cX9_isWord 39 = .ok (.iconst 1, 1) := by decide +kernel
theorem dX9_isWord_40 : decode cX9_isWord 40 = .ok (.goto 4, 3) := by decide +kernel
theorem dX9_isWord_43 : decode cX9_isWord 43 = .ok (.iconst 0, 1) := by decide +kernel
theorem dX9_isWord_44 : decode cX9_isWord 44 = .ok (.ireturn, 1) := by decide +kernel
set_option maxRecDepth 20000 in
theorem dX9_takeSign_0 : decode cX9_takeSign 0 = .ok (.aload_n 0, 1) := by decide +kernel
theorem dX9_takeSign_1 : decode cX9_takeSign 1 = .ok (.iload_n 1, 1) := by decide +kernel
theorem dX9_takeSign_2 : decode cX9_takeSign 2 = .ok (.invokevirtual 194, 3) := by decide +kernel
theorem dX9_takeSign_5 : decode cX9_takeSign 5 = .ok (.ifCond .eq 16, 3) := by decide +kernel
theorem dX9_takeSign_8 : decode cX9_takeSign 8 = .ok (.aload_n 0, 1) := by decide +kernel
theorem dX9_takeSign_9 : decode cX9_takeSign 9 = .ok (.dup, 1) := by decide +kernel
theorem dX9_takeSign_10 : decode cX9_takeSign 10 = .ok (.getfield 188, 3) := by decide +kernel
theorem dX9_takeSign_13 : decode cX9_takeSign 13 = .ok (.iconst 1, 1) := by decide +kernel
theorem dX9_takeSign_14 : decode cX9_takeSign 14 = .ok (.iadd, 1) := by decide +kernel
theorem dX9_takeSign_15 : decode cX9_takeSign 15 = .ok (.putfield 188, 3) := by decide +kernel
theorem dX9_takeSign_18 : decode cX9_takeSign 18 = .ok (.goto 8, 3) := by decide +kernel
theorem dX9_takeSign_21 : decode cX9_takeSign 21 = .ok (.aload_n 0, 1) := by decide +kernel
theorem dX9_takeSign_22 : decode cX9_takeSign 22 = .ok (.iconst 1, 1) := by decide +kernel
theorem dX9_takeSign_23 : decode cX9_takeSign 23 = .ok (.invokevirtual 197, 3) := by decide +kernel
theorem dX9_takeSign_26 : decode cX9_takeSign 26 = .ok (.return_, 1) := by decide +kernel
set_option maxRecDepth 20000 in
theorem dX9_hasSign_0 : decode cX9_hasSign 0 = .ok (.aload_n 0, 1) := by decide +kernel
theorem dX9_hasSign_1 : decode cX9_hasSign 1 = .ok (.iload_n 1, 1) := by decide +kernel
theorem dX9_hasSign_2 : decode cX9_hasSign 2 = .ok (.invokevirtual 194, 3) := by decide +kernel
theorem dX9_hasSign_5 : decode cX9_hasSign 5 = .ok (.istore_n 2, 1) := by decide +kernel
theorem dX9_hasSign_6 : decode cX9_hasSign 6 = .ok (.aload_n 0, 1) := by decide +kernel
theorem dX9_hasSign_7 : decode cX9_hasSign 7 = .ok (.dup, 1) := by decide +kernel
theorem dX9_hasSign_8 : decode cX9_hasSign 8 = .ok (.getfield 188, 3) := by decide +kernel
theorem dX9_hasSign_11 : decode cX9_hasSign 11 = .ok (.iload_n 2, 1) := by decide +kernel
theorem dX9_hasSign_12 : decode cX9_hasSign 12 = .ok (.ifCond .eq 7, 3) := by decide +kernel
theorem dX9_hasSign_15 : decode cX9_hasSign 15 = .ok (.iconst 1, 1) := by decide +kernel
theorem dX9_hasSign_16 : decode cX9_hasSign 16 = .ok (.goto 4, 3) := by decide +kernel
theorem dX9_hasSign_19 : decode cX9_hasSign 19 = .ok (.iconst 0, 1) := by decide +kernel
theorem dX9_hasSign_20 : decode cX9_hasSign 20 = .ok (.iadd, 1) := by decide +kernel
theorem dX9_hasSign_21 : decode cX9_hasSign 21 = .ok (.putfield 188, 3) := by decide +kernel
theorem dX9_hasSign_24 : decode cX9_hasSign 24 = .ok (.iload_n 2, 1) := by decide +kernel
theorem dX9_hasSign_25 : decode cX9_hasSign 25 = .ok (.ireturn, 1) := by decide +kernel
set_option maxRecDepth 20000 in
theorem dX9_hasWord_0 : decode cX9_hasWord 0 = .ok (.aload_n 0, 1) := by decide +kernel
theorem dX9_hasWord_1 : decode cX9_hasWord 1 = .ok (.iload_n 1, 1) := by decide +kernel
theorem dX9_hasWord_2 : decode cX9_hasWord 2 = .ok (.invokevirtual 201, 3) := by decide +kernel
theorem dX9_hasWord_5 : decode cX9_hasWord 5 = .ok (.istore_n 2, 1) := by decide +kernel
theorem dX9_hasWord_6 : decode cX9_hasWord 6 = .ok (.aload_n 0, 1) := by decide +kernel
theorem dX9_hasWord_7 : decode cX9_hasWord 7 = .ok (.dup, 1) := by decide +kernel
theorem dX9_hasWord_8 : decode cX9_hasWord 8 = .ok (.getfield 188, 3) := by decide +kernel
theorem dX9_hasWord_11 : decode cX9_hasWord 11 = .ok (.iload_n 2, 1) := by decide +kernel
theorem dX9_hasWord_12 : decode cX9_hasWord 12 = .ok (.ifCond .eq 7, 3) := by decide +kernel
theorem dX9_hasWord_15 : decode cX9_hasWord 15 = .ok (.iconst 1, 1) := by decide +kernel
theorem dX9_hasWord_16 : decode cX9_hasWord 16 = .ok (.goto 4, 3) := by decide +kernel
theorem dX9_hasWord_19 : decode cX9_hasWord 19 = .ok (.iconst 0, 1) := by decide +kernel
theorem dX9_hasWord_20 : decode cX9_hasWord 20 = .ok (.iadd, 1) := by decide +kernel
theorem dX9_hasWord_21 : decode cX9_hasWord 21 = .ok (.putfield 188, 3) := by decide +kernel
theorem dX9_hasWord_24 : decode cX9_hasWord 24 = .ok (.iload_n 2, 1) := by decide +kernel
theorem dX9_hasWord_25 : decode cX9_hasWord 25 = .ok (.ireturn, 1) := by decide +kernel
set_option maxRecDepth 20000 in
theorem dX9_takeWord_0 : decode cX9_takeWord 0 = .ok (.aload_n 0, 1) := by decide +kernel
theorem dX9_takeWord_1 : decode cX9_takeWord 1 = .ok (.iload_n 1, 1) := by decide +kernel
theorem dX9_takeWord_2 : decode cX9_takeWord 2 = .ok (.invokevirtual 204, 3) := by decide +kernel
theorem dX9_takeWord_5 : decode cX9_takeWord 5 = .ok (.ifCond .ne 8, 3) := by decide +kernel
theorem dX9_takeWord_8 : decode cX9_takeWord 8 = .ok (.aload_n 0, 1) := by decide +kernel
theorem dX9_takeWord_9 : decode cX9_takeWord 9 = .ok (.iconst 1, 1) := by decide +kernel
theorem dX9_takeWord_10 : decode cX9_takeWord 10 = .ok (.invokevirtual 197, 3) := by decide +kernel
theorem dX9_takeWord_13 : decode cX9_takeWord 13 = .ok (.return_, 1) := by decide +kernel
theorem dX9_emit_0 : decode cX9_emit 0 = .ok (.aload_n 0, 1) := by decide +kernel
theorem dX9_emit_1 : decode cX9_emit 1 = .ok (.getfield 62, 3) := by decide +kernel
theorem dX9_emit_4 : decode cX9_emit 4 = .ok (.sipush 13200, 3) := by decide +kernel
theorem dX9_emit_7 : decode cX9_emit 7 = .ok (.aload_n 0, 1) := by decide +kernel
theorem dX9_emit_8 : decode cX9_emit 8 = .ok (.getfield 207, 3) := by decide +kernel
theorem dX9_emit_11 : decode cX9_emit 11 = .ok (.iadd, 1) := by decide +kernel
theorem dX9_emit_12 : decode cX9_emit 12 = .ok (.iload_n 1, 1) := by decide +kernel
theorem dX9_emit_13 : decode cX9_emit 13 = .ok (.iastore, 1) := by decide +kernel
theorem dX9_emit_14 : decode cX9_emit 14 = .ok (.aload_n 0, 1) := by decide +kernel
theorem dX9_emit_15 : decode cX9_emit 15 = .ok (.getfield 65, 3) := by decide +kernel
theorem dX9_emit_18 : decode cX9_emit 18 = .ok (.sipush 13200, 3) := by decide +kernel
theorem dX9_emit_21 : decode cX9_emit 21 = .ok (.aload_n 0, 1) := by decide +kernel
theorem dX9_emit_22 : decode cX9_emit 22 = .ok (.getfield 207, 3) := by decide +kernel
theorem dX9_emit_25 : decode cX9_emit 25 = .ok (.iadd, 1) := by decide +kernel
theorem dX9_emit_26 : decode cX9_emit 26 = .ok (.iload_n 2, 1) := by decide +kernel
theorem dX9_emit_27 : decode cX9_emit 27 = .ok (.iastore, 1) := by decide +kernel
theorem dX9_emit_28 : decode cX9_emit 28 = .ok (.aload_n 0, 1) := by decide +kernel
theorem dX9_emit_29 : decode cX9_emit 29 = .ok (.dup, 1) := by decide +kernel
theorem dX9_emit_30 : decode cX9_emit 30 = .ok (.getfield 207, 3) := by decide +kernel
theorem dX9_emit_33 : decode cX9_emit 33 = .ok (.iconst 1, 1) := by decide +kernel
theorem dX9_emit_34 : decode cX9_emit 34 = .ok (.iadd, 1) := by decide +kernel
theorem dX9_emit_35 : decode cX9_emit 35 = .ok (.putfield 207, 3) := by decide +kernel
theorem dX9_emit_38 : decode cX9_emit 38 = .ok (.return_, 1) := by decide +kernel
set_option maxRecDepth 20000 in
theorem dX9_text_0 : decode cX9_text 0 = .ok (.aload_n 0, 1) := by decide +kernel
theorem dX9_text_1 : decode cX9_text 1 = .ok (.iconst 0, 1) := by decide +kernel
theorem dX9_text_2 : decode cX9_text 2 = .ok (.putfield 1, 3) := by decide +kernel
theorem dX9_text_5 : decode cX9_text 5 = .ok (.aload_n 0, 1) := by decide +kernel
theorem dX9_text_6 : decode cX9_text 6 = .ok (.getfield 210, 3) := by decide +kernel
theorem dX9_text_9 : decode cX9_text 9 = .ok (.bipush 20, 2) := by decide +kernel
theorem dX9_text_11 : decode cX9_text 11 = .ok (.if_icmp .ne 10, 3) := by decide +kernel
theorem dX9_text_14 : decode cX9_text 14 = .ok (.aload_n 0, 1) := by decide +kernel
theorem dX9_text_15 : decode cX9_text 15 = .ok (.iconst 0, 1) := by decide +kernel
theorem dX9_text_16 : decode cX9_text 16 = .ok (.putfield 11, 3) := by decide +kernel
theorem dX9_text_19 : decode cX9_text 19 = .ok (.iconst (-1), 1) := by decide +kernel
theorem dX9_text_20 : decode cX9_text 20 = .ok (.ireturn, 1) := by decide +kernel
theorem dX9_text_21 : decode cX9_text 21 = .ok (.aload_n 0, 1) := by decide +kernel
theorem dX9_text_22 : decode cX9_text 22 = .ok (.invokevirtual 213, 3) := by decide +kernel
theorem dX9_text_25 : decode cX9_text 25 = .ok (.aload_n 0, 1) := by decide +kernel
theorem dX9_text_26 : decode cX9_text 26 = .ok (.getfield 53, 3) := by decide +kernel
theorem dX9_text_29 : decode cX9_text 29 = .ok (.bipush 20, 2) := by decide +kernel
theorem dX9_text_31 : decode cX9_text 31 = .ok (.iconst 0, 1) := by decide +kernel
theorem dX9_text_32 : decode cX9_text 32 = .ok (.iastore, 1) := by decide +kernel
theorem dX9_text_33 : decode cX9_text 33 = .ok (.aload_n 0, 1) := by decide +kernel
theorem dX9_text_34 : decode cX9_text 34 = .ok (.iconst 0, 1) := by decide +kernel
theorem dX9_text_35 : decode cX9_text 35 = .ok (.putfield 207, 3) := by decide +kernel
theorem dX9_text_38 : decode cX9_text 38 = .ok (.aload_n 0, 1) := by decide +kernel
theorem dX9_text_39 : decode cX9_text 39 = .ok (.getfield 191, 3) := by decide +kernel
theorem dX9_text_42 : decode cX9_text 42 = .ok (.ifCond .ne 22, 3) := by decide +kernel
theorem dX9_text_45 : decode cX9_text 45 = .ok (.aload_n 0, 1) := by decide +kernel
theorem dX9_text_46 : decode cX9_text 46 = .ok (.getfield 24, 3) := by decide +kernel
theorem dX9_text_49 : decode cX9_text 49 = .ok (.aload_n 0, 1) := by decide +kernel
theorem dX9_text_50 : decode cX9_text 50 = .ok (.getfield 188, 3) := by decide +kernel
theorem dX9_text_53 : decode cX9_text 53 = .ok (.iaload, 1) := by decide +kernel
theorem dX9_text_54 : decode cX9_text 54 = .ok (.ifCond .eq 10, 3) := by decide +kernel
theorem dX9_text_57 : decode cX9_text 57 = .ok (.aload_n 0, 1) := by decide +kernel
theorem dX9_text_58 : decode cX9_text 58 = .ok (.invokevirtual 216, 3) := by decide +kernel
theorem dX9_text_61 : decode cX9_text 61 = .ok (.goto (-23), 3) := by decide +kernel
theorem dX9_text_64 : decode cX9_text 64 = .ok (.aload_n 0, 1) := by decide +kernel
theorem dX9_text_65 : decode cX9_text 65 = .ok (.getfield 191, 3) := by decide +kernel
theorem dX9_text_68 : decode cX9_text 68 = .ok (.ifCond .ne 7, 3) := by decide +kernel
theorem dX9_text_71 : decode cX9_text 71 = .ok (.aload_n 0, 1) := by decide +kernel
theorem dX9_text_72 : decode cX9_text 72 = .ok (.invokevirtual 219, 3) := by decide +kernel
theorem dX9_text_75 : decode cX9_text 75 = .ok (.aload_n 0, 1) := by decide +kernel
theorem dX9_text_76 : decode cX9_text 76 = .ok (.getfield 191, 3) := by decide +kernel
theorem dX9_text_79 : decode cX9_text 79 = .ok (.ireturn, 1) := by decide +kernel
theorem dX9_keeps_0 : decode cX9_keeps 0 = .ok (.iconst 0, 1) := by decide +kernel
theorem dX9_keeps_1 : decode cX9_keeps 1 = .ok (.istore_n 1, 1) := by decide +kernel
theorem dX9_keeps_2 : decode cX9_keeps 2 = .ok (.iload_n 1, 1) := by decide +kernel
theorem dX9_keeps_3 : decode cX9_keeps 3 = .ok (.bipush 16, 2) := by decide +kernel
theorem dX9_keeps_5 : decode cX9_keeps 5 = .ok (.if_icmp .ge 57, 3) := by decide +kernel
theorem dX9_keeps_8 : decode cX9_keeps 8 = .ok (.aload_n 0, 1) := by decide +kernel
theorem dX9_keeps_9 : decode cX9_keeps 9 = .ok (.getfield 56, 3) := by decide +kernel
theorem dX9_keeps_12 : decode cX9_keeps 12 = .ok (.bipush 16, 2) := by decide +kernel
theorem dX9_keeps_14 : decode cX9_keeps 14 = .ok (.aload_n 0, 1) := by decide +kernel
theorem dX9_keeps_15 : decode cX9_keeps 15 = .ok (.getfield 210, 3) := by decide +kernel
theorem dX9_keeps_18 : decode cX9_keeps 18 = .ok (.imul, 1) := by decide +kernel
theorem dX9_keeps_19 : decode cX9_keeps 19 = .ok (.iload_n 1, 1) := by decide +kernel
theorem dX9_keeps_20 : decode cX9_keeps 20 = .ok (.iadd, 1) := by decide +kernel
theorem dX9_keeps_21 : decode cX9_keeps 21 = .ok (.aload_n 0, 1) := by decide +kernel
theorem dX9_keeps_22 : decode cX9_keeps 22 = .ok (.getfield 56, 3) := by decide +kernel
theorem dX9_keeps_25 : decode cX9_keeps 25 = .ok (.sipush 320, 3) := by decide +kernel
theorem dX9_keeps_28 : decode cX9_keeps 28 = .ok (.iload_n 1, 1) := by decide +kernel
theorem dX9_keeps_29 : decode cX9_keeps 29 = .ok (.iadd, 1) := by decide +kernel
theorem dX9_keeps_30 : decode cX9_keeps 30 = .ok (.iaload, 1) := by decide +kernel
theorem dX9_keeps_31 : decode cX9_keeps 31 = .ok (.iastore, 1) := by decide +kernel
theorem dX9_keeps_32 : decode cX9_keeps 32 = .ok (.aload_n 0, 1) := by decide +kernel
theorem dX9_keeps_33 : decode cX9_keeps 33 = .ok (.getfield 59, 3) := by decide +kernel
theorem dX9_keeps_36 : decode cX9_keeps 36 = .ok (.bipush 16, 2) := by decide +kernel
theorem dX9_keeps_38 : decode cX9_keeps 38 = .ok (.aload_n 0, 1) := by decide +kernel
theorem dX9_keeps_39 : decode cX9_keeps 39 = .ok (.getfield 210, 3) := by decide +kernel
theorem dX9_keeps_42 : decode cX9_keeps 42 = .ok (.imul, 1) := by decide +kernel
theorem dX9_keeps_43 : decode cX9_keeps 43 = .ok (.iload_n 1, 1) := by decide +kernel
theorem dX9_keeps_44 : decode cX9_keeps 44 = .ok (.iadd, 1) := by decide +kernel
theorem dX9_keeps_45 : decode cX9_keeps 45 = .ok (.aload_n 0, 1) := by decide +kernel
theorem dX9_keeps_46 : decode cX9_keeps 46 = .ok (.getfield 59, 3) := by decide +kernel
theorem dX9_keeps_49 : decode cX9_keeps 49 = .ok (.sipush 320, 3) := by decide +kernel
theorem dX9_keeps_52 : decode cX9_keeps 52 = .ok (.iload_n 1, 1) := by decide +kernel
theorem dX9_keeps_53 : decode cX9_keeps 53 = .ok (.iadd, 1) := by decide +kernel
theorem dX9_keeps_54 : decode cX9_keeps 54 = .ok (.iaload, 1) := by decide +kernel
theorem dX9_keeps_55 : decode cX9_keeps 55 = .ok (.iastore, 1) := by decide +kernel
theorem dX9_keeps_56 : decode cX9_keeps 56 = .ok (.iinc 1 1, 3) := by decide +kernel
theorem dX9_keeps_59 : decode cX9_keeps 59 = .ok (.goto (-57), 3) := by decide +kernel
theorem dX9_keeps_62 : decode cX9_keeps 62 = .ok (.iconst 0, 1) := by decide +kernel
theorem dX9_keeps_63 : decode cX9_keeps 63 = .ok (.istore_n 1, 1) := by decide +kernel
theorem dX9_keeps_64 : decode cX9_keeps 64 = .ok (.iload_n 1, 1) := by decide +kernel
theorem dX9_keeps_65 : decode cX9_keeps 65 = .ok (.aload_n 0, 1) := by decide +kernel
theorem dX9_keeps_66 : decode cX9_keeps 66 = .ok (.getfield 207, 3) := by decide +kernel
theorem dX9_keeps_69 : decode cX9_keeps 69 = .ok (.if_icmp .ge 59, 3) := by decide +kernel
theorem dX9_keeps_72 : decode cX9_keeps 72 = .ok (.aload_n 0, 1) := by decide +kernel
theorem dX9_keeps_73 : decode cX9_keeps 73 = .ok (.getfield 62, 3) := by decide +kernel
theorem dX9_keeps_76 : decode cX9_keeps 76 = .ok (.sipush 660, 3) := by decide +kernel
theorem dX9_keeps_79 : decode cX9_keeps 79 = .ok (.aload_n 0, 1) := by decide +kernel
theorem dX9_keeps_80 : decode cX9_keeps 80 = .ok (.getfield 210, 3) := by decide +kernel
theorem dX9_keeps_83 : decode cX9_keeps 83 = .ok (.imul, 1) := by decide +kernel
theorem dX9_keeps_84 : decode cX9_keeps 84 = .ok (.iload_n 1, 1) := by decide +kernel
theorem dX9_keeps_85 : decode cX9_keeps 85 = .ok (.iadd, 1) := by decide +kernel
theorem dX9_keeps_86 : decode cX9_keeps 86 = .ok (.aload_n 0, 1) := by decide +kernel
theorem dX9_keeps_87 : decode cX9_keeps 87 = .ok (.getfield 62, 3) := by decide +kernel
theorem dX9_keeps_90 : decode cX9_keeps 90 = .ok (.sipush 13200, 3) := by decide +kernel
theorem dX9_keeps_93 : decode cX9_keeps 93 = .ok (.iload_n 1, 1) := by decide +kernel
theorem dX9_keeps_94 : decode cX9_keeps 94 = .ok (.iadd, 1) := by decide +kernel
theorem dX9_keeps_95 : decode cX9_keeps 95 = .ok (.iaload, 1) := by decide +kernel
theorem dX9_keeps_96 : decode cX9_keeps 96 = .ok (.iastore, 1) := by decide +kernel
theorem dX9_keeps_97 : decode cX9_keeps 97 = .ok (.aload_n 0, 1) := by decide +kernel
theorem dX9_keeps_98 : decode cX9_keeps 98 = .ok (.getfield 65, 3) := by decide +kernel
theorem dX9_keeps_101 : decode cX9_keeps 101 = .ok (.sipush 660, 3) := by decide +kernel
theorem dX9_keeps_104 : decode cX9_keeps 104 = .ok (.aload_n 0, 1) := by decide +kernel
theorem dX9_keeps_105 : decode cX9_keeps 105 = .ok (.getfield 210, 3) := by decide +kernel
theorem dX9_keeps_108 : decode cX9_keeps 108 = .ok (.imul, 1) := by decide +kernel
theorem dX9_keeps_109 : decode cX9_keeps 109 = .ok (.iload_n 1, 1) := by decide +kernel
theorem dX9_keeps_110 : decode cX9_keeps 110 = .ok (.iadd, 1) := by decide +kernel
theorem dX9_keeps_111 : decode cX9_keeps 111 = .ok (.aload_n 0, 1) := by decide +kernel
theorem dX9_keeps_112 : decode cX9_keeps 112 = .ok (.getfield 65, 3) := by decide +kernel
theorem dX9_keeps_115 : decode cX9_keeps 115 = .ok (.sipush 13200, 3) := by decide +kernel
theorem dX9_keeps_118 : decode cX9_keeps 118 = .ok (.iload_n 1, 1) := by decide +kernel
theorem dX9_keeps_119 : decode cX9_keeps 119 = .ok (.iadd, 1) := by decide +kernel
theorem dX9_keeps_120 : decode cX9_keeps 120 = .ok (.iaload, 1) := by decide +kernel
theorem dX9_keeps_121 : decode cX9_keeps 121 = .ok (.iastore, 1) := by decide +kernel
theorem dX9_keeps_122 : decode cX9_keeps 122 = .ok (.iinc 1 1, 3) := by decide +kernel
theorem dX9_keeps_125 : decode cX9_keeps 125 = .ok (.goto (-61), 3) := by decide +kernel
theorem dX9_keeps_128 : decode cX9_keeps 128 = .ok (.aload_n 0, 1) := by decide +kernel
theorem dX9_keeps_129 : decode cX9_keeps 129 = .ok (.getfield 53, 3) := by decide +kernel
theorem dX9_keeps_132 : decode cX9_keeps 132 = .ok (.aload_n 0, 1) := by decide +kernel
theorem dX9_keeps_133 : decode cX9_keeps 133 = .ok (.getfield 210, 3) := by decide +kernel
theorem dX9_keeps_136 : decode cX9_keeps 136 = .ok (.aload_n 0, 1) := by decide +kernel
theorem dX9_keeps_137 : decode cX9_keeps 137 = .ok (.getfield 53, 3) := by decide +kernel
theorem dX9_keeps_140 : decode cX9_keeps 140 = .ok (.bipush 20, 2) := by decide +kernel
theorem dX9_keeps_142 : decode cX9_keeps 142 = .ok (.iaload, 1) := by decide +kernel
theorem dX9_keeps_143 : decode cX9_keeps 143 = .ok (.iastore, 1) := by decide +kernel
theorem dX9_keeps_144 : decode cX9_keeps 144 = .ok (.aload_n 0, 1) := by decide +kernel
theorem dX9_keeps_145 : decode cX9_keeps 145 = .ok (.aload_n 0, 1) := by decide +kernel
theorem dX9_keeps_146 : decode cX9_keeps 146 = .ok (.getfield 210, 3) := by decide +kernel
theorem dX9_keeps_149 : decode cX9_keeps 149 = .ok (.putfield 162, 3) := by decide +kernel
theorem dX9_keeps_152 : decode cX9_keeps 152 = .ok (.aload_n 0, 1) := by decide +kernel
theorem dX9_keeps_153 : decode cX9_keeps 153 = .ok (.dup, 1) := by decide +kernel
theorem dX9_keeps_154 : decode cX9_keeps 154 = .ok (.getfield 210, 3) := by decide +kernel
theorem dX9_keeps_157 : decode cX9_keeps 157 = .ok (.iconst 1, 1) := by decide +kernel
theorem dX9_keeps_158 : decode cX9_keeps 158 = .ok (.iadd, 1) := by decide +kernel
theorem dX9_keeps_159 : decode cX9_keeps 159 = .ok (.putfield 210, 3) := by decide +kernel
theorem dX9_keeps_162 : decode cX9_keeps 162 = .ok (.return_, 1) := by decide +kernel
set_option maxRecDepth 20000 in
theorem dX9_line_0 : decode cX9_line 0 = .ok (.aload_n 0, 1) := by decide +kernel
theorem dX9_line_1 : decode cX9_line 1 = .ok (.iconst 0, 1) := by decide +kernel
theorem dX9_line_2 : decode cX9_line 2 = .ok (.invokevirtual 201, 3) := by decide +kernel
theorem dX9_line_5 : decode cX9_line 5 = .ok (.ifCond .ne 11, 3) := by decide +kernel
theorem dX9_line_8 : decode cX9_line 8 = .ok (.aload_n 0, 1) := by decide +kernel
theorem dX9_line_9 : decode cX9_line 9 = .ok (.iconst 1, 1) := by decide +kernel
theorem dX9_line_10 : decode cX9_line 10 = .ok (.invokevirtual 197, 3) := by decide +kernel
theorem dX9_line_13 : decode cX9_line 13 = .ok (.goto 20, 3) := by decide +kernel
theorem dX9_line_16 : decode cX9_line 16 = .ok (.aload_n 0, 1) := by decide +kernel
theorem dX9_line_17 : decode cX9_line 17 = .ok (.getfield 53, 3) := by decide +kernel
theorem dX9_line_20 : decode cX9_line 20 = .ok (.bipush 20, 2) := by decide +kernel
theorem dX9_line_22 : decode cX9_line 22 = .ok (.iaload, 1) := by decide +kernel
theorem dX9_line_23 : decode cX9_line 23 = .ok (.bipush 16, 2) := by decide +kernel
theorem dX9_line_25 : decode cX9_line 25 = .ok (.if_icmp .ne 8, 3) := by decide +kernel
theorem dX9_line_28 : decode cX9_line 28 = .ok (.aload_n 0, 1) := by decide +kernel
theorem dX9_line_29 : decode cX9_line 29 = .ok (.iconst 5, 1) := by decide +kernel
theorem dX9_line_30 : decode cX9_line 30 = .ok (.invokevirtual 197, 3) := by decide +kernel
theorem dX9_line_33 : decode cX9_line 33 = .ok (.aload_n 0, 1) := by decide +kernel
theorem dX9_line_34 : decode cX9_line 34 = .ok (.getfield 191, 3) := by decide +kernel
theorem dX9_line_37 : decode cX9_line 37 = .ok (.ifCond .le 4, 3) := by decide +kernel
theorem dX9_line_40 : decode cX9_line 40 = .ok (.return_, 1) := by decide +kernel
theorem dX9_line_41 : decode cX9_line 41 = .ok (.aload_n 0, 1) := by decide +kernel
theorem dX9_line_42 : decode cX9_line 42 = .ok (.dup, 1) := by decide +kernel
theorem dX9_line_43 : decode cX9_line 43 = .ok (.getfield 188, 3) := by decide +kernel
theorem dX9_line_46 : decode cX9_line 46 = .ok (.iconst 1, 1) := by decide +kernel
theorem dX9_line_47 : decode cX9_line 47 = .ok (.iadd, 1) := by decide +kernel
theorem dX9_line_48 : decode cX9_line 48 = .ok (.putfield 188, 3) := by decide +kernel
theorem dX9_line_51 : decode cX9_line 51 = .ok (.sipush 320, 3) := by decide +kernel
theorem dX9_line_54 : decode cX9_line 54 = .ok (.aload_n 0, 1) := by decide +kernel
theorem dX9_line_55 : decode cX9_line 55 = .ok (.getfield 53, 3) := by decide +kernel
theorem dX9_line_58 : decode cX9_line 58 = .ok (.bipush 20, 2) := by decide +kernel
theorem dX9_line_60 : decode cX9_line 60 = .ok (.iaload, 1) := by decide +kernel
theorem dX9_line_61 : decode cX9_line 61 = .ok (.iadd, 1) := by decide +kernel
theorem dX9_line_62 : decode cX9_line 62 = .ok (.istore_n 1, 1) := by decide +kernel
theorem dX9_line_63 : decode cX9_line 63 = .ok (.aload_n 0, 1) := by decide +kernel
theorem dX9_line_64 : decode cX9_line 64 = .ok (.getfield 24, 3) := by decide +kernel
theorem dX9_line_67 : decode cX9_line 67 = .ok (.aload_n 0, 1) := by decide +kernel
theorem dX9_line_68 : decode cX9_line 68 = .ok (.getfield 188, 3) := by decide +kernel
theorem dX9_line_71 : decode cX9_line 71 = .ok (.iaload, 1) := by decide +kernel
theorem dX9_line_72 : decode cX9_line 72 = .ok (.iconst 2, 1) := by decide +kernel
theorem dX9_line_73 : decode cX9_line 73 = .ok (.if_icmp .eq 11, 3) := by decide +kernel
theorem dX9_line_76 : decode cX9_line 76 = .ok (.aload_n 0, 1) := by decide +kernel
theorem dX9_line_77 : decode cX9_line 77 = .ok (.iconst 1, 1) := by decide +kernel
theorem dX9_line_78 : decode cX9_line 78 = .ok (.invokevirtual 197, 3) := by decide +kernel
theorem dX9_line_81 : decode cX9_line 81 = .ok (.goto 24, 3) := by decide +kernel
theorem dX9_line_84 : decode cX9_line 84 = .ok (.aload_n 0, 1) := by decide +kernel
theorem dX9_line_85 : decode cX9_line 85 = .ok (.getfield 30, 3) := by decide +kernel
theorem dX9_line_88 : decode cX9_line 88 = .ok (.aload_n 0, 1) := by decide +kernel
theorem dX9_line_89 : decode cX9_line 89 = .ok (.getfield 188, 3) := by decide +kernel
theorem dX9_line_92 : decode cX9_line 92 = .ok (.laload, 1) := by decide +kernel
theorem dX9_line_93 : decode cX9_line 93 = .ok (.ldc2_w 222, 3) := by decide +kernel
theorem dX9_line_96 : decode cX9_line 96 = .ok (.lcmp, 1) := by decide +kernel
theorem dX9_line_97 : decode cX9_line 97 = .ok (.ifCond .le 8, 3) := by decide +kernel
theorem dX9_line_100 : decode cX9_line 100 = .ok (.aload_n 0, 1) := by decide +kernel
theorem dX9_line_101 : decode cX9_line 101 = .ok (.iconst 4, 1) := by decide +kernel
theorem dX9_line_102 : decode cX9_line 102 = .ok (.invokevirtual 197, 3) := by decide +kernel
theorem dX9_line_105 : decode cX9_line 105 = .ok (.aload_n 0, 1) := by decide +kernel
theorem dX9_line_106 : decode cX9_line 106 = .ok (.getfield 56, 3) := by decide +kernel
theorem dX9_line_109 : decode cX9_line 109 = .ok (.iload_n 1, 1) := by decide +kernel
theorem dX9_line_110 : decode cX9_line 110 = .ok (.aload_n 0, 1) := by decide +kernel
theorem dX9_line_111 : decode cX9_line 111 = .ok (.getfield 191, 3) := by decide +kernel
theorem dX9_line_114 : decode cX9_line 114 = .ok (.ifCond .le 7, 3) := by decide +kernel
theorem dX9_line_117 : decode cX9_line 117 = .ok (.iconst 0, 1) := by decide +kernel
theorem dX9_line_118 : decode cX9_line 118 = .ok (.goto 13, 3) := by decide +kernel
theorem dX9_line_121 : decode cX9_line 121 = .ok (.aload_n 0, 1) := by decide +kernel
theorem dX9_line_122 : decode cX9_line 122 = .ok (.getfield 30, 3) := by decide +kernel
theorem dX9_line_125 : decode cX9_line 125 = .ok (.aload_n 0, 1) := by decide +kernel
theorem dX9_line_126 : decode cX9_line 126 = .ok (.getfield 188, 3) := by decide +kernel
theorem dX9_line_129 : decode cX9_line 129 = .ok (.laload, 1) := by decide +kernel
theorem dX9_line_130 : decode cX9_line 130 = .ok (.l2i, 1) := by decide +kernel
theorem dX9_line_131 : decode cX9_line 131 = .ok (.iastore, 1) := by decide +kernel
theorem dX9_line_132 : decode cX9_line 132 = .ok (.aload_n 0, 1) := by decide +kernel
theorem dX9_line_133 : decode cX9_line 133 = .ok (.dup, 1) := by decide +kernel
theorem dX9_line_134 : decode cX9_line 134 = .ok (.getfield 188, 3) := by decide +kernel
theorem dX9_line_137 : decode cX9_line 137 = .ok (.iconst 1, 1) := by decide +kernel
theorem dX9_line_138 : decode cX9_line 138 = .ok (.iadd, 1) := by decide +kernel
theorem dX9_line_139 : decode cX9_line 139 = .ok (.putfield 188, 3) := by decide +kernel
theorem dX9_line_142 : decode cX9_line 142 = .ok (.aload_n 0, 1) := by decide +kernel
theorem dX9_line_143 : decode cX9_line 143 = .ok (.iconst 1, 1) := by decide +kernel
theorem dX9_line_144 : decode cX9_line 144 = .ok (.invokevirtual 224, 3) := by decide +kernel
theorem dX9_line_147 : decode cX9_line 147 = .ok (.aload_n 0, 1) := by decide +kernel
theorem dX9_line_148 : decode cX9_line 148 = .ok (.getfield 59, 3) := by decide +kernel
theorem dX9_line_151 : decode cX9_line 151 = .ok (.iload_n 1, 1) := by decide +kernel
theorem dX9_line_152 : decode cX9_line 152 = .ok (.aload_n 0, 1) := by decide +kernel
theorem dX9_line_153 : decode cX9_line 153 = .ok (.getfield 207, 3) := by decide +kernel
theorem dX9_line_156 : decode cX9_line 156 = .ok (.iastore, 1) := by decide +kernel
theorem dX9_line_157 : decode cX9_line 157 = .ok (.aload_n 0, 1) := by decide +kernel
theorem dX9_line_158 : decode cX9_line 158 = .ok (.iconst 0, 1) := by decide +kernel
theorem dX9_line_159 : decode cX9_line 159 = .ok (.putfield 227, 3) := by decide +kernel
theorem dX9_line_162 : decode cX9_line 162 = .ok (.aload_n 0, 1) := by decide +kernel
theorem dX9_line_163 : decode cX9_line 163 = .ok (.invokevirtual 230, 3) := by decide +kernel
theorem dX9_line_166 : decode cX9_line 166 = .ok (.iconst 1, 1) := by decide +kernel
theorem dX9_line_167 : decode cX9_line 167 = .ok (.istore_n 2, 1) := by decide +kernel
theorem dX9_line_168 : decode cX9_line 168 = .ok (.iload_n 2, 1) := by decide +kernel
theorem dX9_line_169 : decode cX9_line 169 = .ok (.ifCond .eq 33, 3) := by decide +kernel
theorem dX9_line_172 : decode cX9_line 172 = .ok (.aload_n 0, 1) := by decide +kernel
theorem dX9_line_173 : decode cX9_line 173 = .ok (.getfield 191, 3) := by decide +kernel
theorem dX9_line_176 : decode cX9_line 176 = .ok (.ifCond .ne 26, 3) := by decide +kernel
theorem dX9_line_179 : decode cX9_line 179 = .ok (.aload_n 0, 1) := by decide +kernel
theorem dX9_line_180 : decode cX9_line 180 = .ok (.invokevirtual 233, 3) := by decide +kernel
theorem dX9_line_183 : decode cX9_line 183 = .ok (.ifCond .ne 10, 3) := by decide +kernel
theorem dX9_line_186 : decode cX9_line 186 = .ok (.aload_n 0, 1) := by decide +kernel
theorem dX9_line_187 : decode cX9_line 187 = .ok (.invokevirtual 236, 3) := by decide +kernel
theorem dX9_line_190 : decode cX9_line 190 = .ok (.ifCond .eq 7, 3) := by decide +kernel
theorem dX9_line_193 : decode cX9_line 193 = .ok (.iconst 1, 1) := by decide +kernel
theorem dX9_line_194 : decode cX9_line 194 = .ok (.goto 4, 3) := by decide +kernel
theorem dX9_line_197 : decode cX9_line 197 = .ok (.iconst 0, 1) := by decide +kernel
theorem dX9_line_198 : decode cX9_line 198 = .ok (.istore_n 2, 1) := by decide +kernel
theorem dX9_line_199 : decode cX9_line 199 = .ok (.goto (-31), 3) := by decide +kernel
theorem dX9_line_202 : decode cX9_line 202 = .ok (.aload_n 0, 1) := by decide +kernel
theorem dX9_line_203 : decode cX9_line 203 = .ok (.iconst 0, 1) := by decide +kernel
theorem dX9_line_204 : decode cX9_line 204 = .ok (.iconst 0, 1) := by decide +kernel
theorem dX9_line_205 : decode cX9_line 205 = .ok (.invokevirtual 239, 3) := by decide +kernel
theorem dX9_line_208 : decode cX9_line 208 = .ok (.aload_n 0, 1) := by decide +kernel
theorem dX9_line_209 : decode cX9_line 209 = .ok (.bipush 59, 2) := by decide +kernel
theorem dX9_line_211 : decode cX9_line 211 = .ok (.invokevirtual 243, 3) := by decide +kernel
theorem dX9_line_214 : decode cX9_line 214 = .ok (.aload_n 0, 1) := by decide +kernel
theorem dX9_line_215 : decode cX9_line 215 = .ok (.getfield 53, 3) := by decide +kernel
theorem dX9_line_218 : decode cX9_line 218 = .ok (.bipush 20, 2) := by decide +kernel
theorem dX9_line_220 : decode cX9_line 220 = .ok (.dup2, 1) := by decide +kernel
theorem dX9_line_221 : decode cX9_line 221 = .ok (.iaload, 1) := by decide +kernel
theorem dX9_line_222 : decode cX9_line 222 = .ok (.iconst 1, 1) := by decide +kernel
theorem dX9_line_223 : decode cX9_line 223 = .ok (.iadd, 1) := by decide +kernel
theorem dX9_line_224 : decode cX9_line 224 = .ok (.iastore, 1) := by decide +kernel
theorem dX9_line_225 : decode cX9_line 225 = .ok (.return_, 1) := by decide +kernel
theorem dX9_opens_0 : decode cX9_opens 0 = .ok (.aload_n 0, 1) := by decide +kernel
theorem dX9_opens_1 : decode cX9_opens 1 = .ok (.getfield 68, 3) := by decide +kernel
theorem dX9_opens_4 : decode cX9_opens 4 = .ok (.aload_n 0, 1) := by decide +kernel
theorem dX9_opens_5 : decode cX9_opens 5 = .ok (.getfield 227, 3) := by decide +kernel
theorem dX9_opens_8 : decode cX9_opens 8 = .ok (.iconst 0, 1) := by decide +kernel
theorem dX9_opens_9 : decode cX9_opens 9 = .ok (.iastore, 1) := by decide +kernel
theorem dX9_opens_10 : decode cX9_opens 10 = .ok (.aload_n 0, 1) := by decide +kernel
theorem dX9_opens_11 : decode cX9_opens 11 = .ok (.getfield 71, 3) := by decide +kernel
theorem dX9_opens_14 : decode cX9_opens 14 = .ok (.aload_n 0, 1) := by decide +kernel
theorem dX9_opens_15 : decode cX9_opens 15 = .ok (.getfield 227, 3) := by decide +kernel
theorem dX9_opens_18 : decode cX9_opens 18 = .ok (.iconst 0, 1) := by decide +kernel
theorem dX9_opens_19 : decode cX9_opens 19 = .ok (.iastore, 1) := by decide +kernel
theorem dX9_opens_20 : decode cX9_opens 20 = .ok (.aload_n 0, 1) := by decide +kernel
theorem dX9_opens_21 : decode cX9_opens 21 = .ok (.getfield 74, 3) := by decide +kernel
theorem dX9_opens_24 : decode cX9_opens 24 = .ok (.aload_n 0, 1) := by decide +kernel
theorem dX9_opens_25 : decode cX9_opens 25 = .ok (.getfield 227, 3) := by decide +kernel
theorem dX9_opens_28 : decode cX9_opens 28 = .ok (.iconst 0, 1) := by decide +kernel
theorem dX9_opens_29 : decode cX9_opens 29 = .ok (.iastore, 1) := by decide +kernel
theorem dX9_opens_30 : decode cX9_opens 30 = .ok (.return_, 1) := by decide +kernel
set_option maxRecDepth 20000 in
theorem dX9_partWord_0 : decode cX9_partWord 0 = .ok (.iconst 0, 1) := by decide +kernel
theorem dX9_partWord_1 : decode cX9_partWord 1 = .ok (.istore_n 1, 1) := by decide +kernel
theorem dX9_partWord_2 : decode cX9_partWord 2 = .ok (.iload_n 1, 1) := by decide +kernel
theorem dX9_partWord_3 : decode cX9_partWord 3 = .ok (.iconst 5, 1) := by decide +kernel
theorem dX9_partWord_4 : decode cX9_partWord 4 = .ok (.if_icmp .ge 21, 3) := by decide +kernel
theorem dX9_partWord_7 : decode cX9_partWord 7 = .ok (.aload_n 0, 1) := by decide +kernel
theorem dX9_partWord_8 : decode cX9_partWord 8 = .ok (.iconst 3, 1) := by decide +kernel
theorem dX9_partWord_9 : decode cX9_partWord 9 = .ok (.iload_n 1, 1) := by decide +kernel
theorem dX9_partWord_10 : decode cX9_partWord 10 = .ok (.iadd, 1) := by decide +kernel
theorem dX9_partWord_11 : decode cX9_partWord 11 = .ok (.invokevirtual 201, 3) := by decide +kernel
theorem dX9_partWord_14 : decode cX9_partWord 14 = .ok (.ifCond .eq 5, 3) := by decide +kernel
theorem dX9_partWord_17 : decode cX9_partWord 17 = .ok (.iload_n 1, 1) := by decide +kernel
theorem dX9_partWord_18 : decode cX9_partWord 18 = .ok (.ireturn, 1) := by decide +kernel
theorem dX9_partWord_19 : decode cX9_partWord 19 = .ok (.iinc 1 1, 3) := by decide +kernel
theorem dX9_partWord_22 : decode cX9_partWord 22 = .ok (.goto (-20), 3) := by decide +kernel
theorem dX9_partWord_25 : decode cX9_partWord 25 = .ok (.iconst (-1), 1) := by decide +kernel
theorem dX9_partWord_26 : decode cX9_partWord 26 = .ok (.ireturn, 1) := by decide +kernel
set_option maxRecDepth 20000 in
theorem dX9_part_0 : decode cX9_part 0 = .ok (.aload_n 0, 1) := by decide +kernel
theorem dX9_part_1 : decode cX9_part 1 = .ok (.invokevirtual 246, 3) := by decide +kernel
theorem dX9_part_4 : decode cX9_part 4 = .ok (.istore_n 1, 1) := by decide +kernel
theorem dX9_part_5 : decode cX9_part 5 = .ok (.aload_n 0, 1) := by decide +kernel
theorem dX9_part_6 : decode cX9_part 6 = .ok (.getfield 191, 3) := by decide +kernel
theorem dX9_part_9 : decode cX9_part 9 = .ok (.ifCond .ne 37, 3) := by decide +kernel
theorem dX9_part_12 : decode cX9_part 12 = .ok (.aload_n 0, 1) := by decide +kernel
theorem dX9_part_13 : decode cX9_part 13 = .ok (.getfield 24, 3) := by decide +kernel
theorem dX9_part_16 : decode cX9_part 16 = .ok (.aload_n 0, 1) := by decide +kernel
theorem dX9_part_17 : decode cX9_part 17 = .ok (.getfield 188, 3) := by decide +kernel
theorem dX9_part_20 : decode cX9_part 20 = .ok (.iaload, 1) := by decide +kernel
theorem dX9_part_21 : decode cX9_part 21 = .ok (.iconst 2, 1) := by decide +kernel
theorem dX9_part_22 : decode cX9_part 22 = .ok (.if_icmp .eq 24, 3) := by decide +kernel
theorem dX9_part_25 : decode cX9_part 25 = .ok (.aload_n 0, 1) := by decide +kernel
theorem dX9_part_26 : decode cX9_part 26 = .ok (.bipush 40, 2) := by decide +kernel
theorem dX9_part_28 : decode cX9_part 28 = .ok (.invokevirtual 194, 3) := by decide +kernel
theorem dX9_part_31 : decode cX9_part 31 = .ok (.ifCond .ne 15, 3) := by decide +kernel
theorem dX9_part_34 : decode cX9_part 34 = .ok (.iload_n 1, 1) := by decide +kernel
theorem dX9_part_35 : decode cX9_part 35 = .ok (.ifCond .ge 11, 3) := by decide +kernel
theorem dX9_part_38 : decode cX9_part 38 = .ok (.aload_n 0, 1) := by decide +kernel
theorem dX9_part_39 : decode cX9_part 39 = .ok (.iconst 1, 1) := by decide +kernel
theorem dX9_part_40 : decode cX9_part 40 = .ok (.invokevirtual 197, 3) := by decide +kernel
theorem dX9_part_43 : decode cX9_part 43 = .ok (.goto 16, 3) := by decide +kernel
theorem dX9_part_46 : decode cX9_part 46 = .ok (.aload_n 0, 1) := by decide +kernel
theorem dX9_part_47 : decode cX9_part 47 = .ok (.getfield 227, 3) := by decide +kernel
theorem dX9_part_50 : decode cX9_part 50 = .ok (.iconst 5, 1) := by decide +kernel
theorem dX9_part_51 : decode cX9_part 51 = .ok (.if_icmp .ne 8, 3) := by decide +kernel
theorem dX9_part_54 : decode cX9_part 54 = .ok (.aload_n 0, 1) := by decide +kernel
theorem dX9_part_55 : decode cX9_part 55 = .ok (.iconst 5, 1) := by decide +kernel
theorem dX9_part_56 : decode cX9_part 56 = .ok (.invokevirtual 197, 3) := by decide +kernel
theorem dX9_part_59 : decode cX9_part 59 = .ok (.aload_n 0, 1) := by decide +kernel
theorem dX9_part_60 : decode cX9_part 60 = .ok (.getfield 191, 3) := by decide +kernel
theorem dX9_part_63 : decode cX9_part 63 = .ok (.ifCond .le 5, 3) := by decide +kernel
theorem dX9_part_66 : decode cX9_part 66 = .ok (.iconst 0, 1) := by decide +kernel
theorem dX9_part_67 : decode cX9_part 67 = .ok (.ireturn, 1) := by decide +kernel
theorem dX9_part_68 : decode cX9_part 68 = .ok (.aload_n 0, 1) := by decide +kernel
theorem dX9_part_69 : decode cX9_part 69 = .ok (.bipush 40, 2) := by decide +kernel
theorem dX9_part_71 : decode cX9_part 71 = .ok (.invokevirtual 250, 3) := by decide +kernel
theorem dX9_part_74 : decode cX9_part 74 = .ok (.ifCond .eq 19, 3) := by decide +kernel
theorem dX9_part_77 : decode cX9_part 77 = .ok (.aload_n 0, 1) := by decide +kernel
theorem dX9_part_78 : decode cX9_part 78 = .ok (.dup, 1) := by decide +kernel
theorem dX9_part_79 : decode cX9_part 79 = .ok (.getfield 227, 3) := by decide +kernel
theorem dX9_part_82 : decode cX9_part 82 = .ok (.iconst 1, 1) := by decide +kernel
theorem dX9_part_83 : decode cX9_part 83 = .ok (.iadd, 1) := by decide +kernel
theorem dX9_part_84 : decode cX9_part 84 = .ok (.putfield 227, 3) := by decide +kernel
theorem dX9_part_87 : decode cX9_part 87 = .ok (.aload_n 0, 1) := by decide +kernel
theorem dX9_part_88 : decode cX9_part 88 = .ok (.invokevirtual 230, 3) := by decide +kernel
theorem dX9_part_91 : decode cX9_part 91 = .ok (.iconst 1, 1) := by decide +kernel
theorem dX9_part_92 : decode cX9_part 92 = .ok (.ireturn, 1) := by decide +kernel
theorem dX9_part_93 : decode cX9_part 93 = .ok (.aload_n 0, 1) := by decide +kernel
theorem dX9_part_94 : decode cX9_part 94 = .ok (.iload_n 1, 1) := by decide +kernel
theorem dX9_part_95 : decode cX9_part 95 = .ok (.ifCond .ge 7, 3) := by decide +kernel
theorem dX9_part_98 : decode cX9_part 98 = .ok (.iconst 1, 1) := by decide +kernel
theorem dX9_part_99 : decode cX9_part 99 = .ok (.goto 4, 3) := by decide +kernel
theorem dX9_part_102 : decode cX9_part 102 = .ok (.iconst 2, 1) := by decide +kernel
theorem dX9_part_103 : decode cX9_part 103 = .ok (.iload_n 1, 1) := by decide +kernel
theorem dX9_part_104 : decode cX9_part 104 = .ok (.ifCond .ge 16, 3) := by decide +kernel
theorem dX9_part_107 : decode cX9_part 107 = .ok (.aload_n 0, 1) := by decide +kernel
theorem dX9_part_108 : decode cX9_part 108 = .ok (.getfield 30, 3) := by decide +kernel
theorem dX9_part_111 : decode cX9_part 111 = .ok (.aload_n 0, 1) := by decide +kernel
theorem dX9_part_112 : decode cX9_part 112 = .ok (.getfield 188, 3) := by decide +kernel
theorem dX9_part_115 : decode cX9_part 115 = .ok (.laload, 1) := by decide +kernel
theorem dX9_part_116 : decode cX9_part 116 = .ok (.l2i, 1) := by decide +kernel
theorem dX9_part_117 : decode cX9_part 117 = .ok (.goto 4, 3) := by decide +kernel
theorem dX9_part_120 : decode cX9_part 120 = .ok (.iload_n 1, 1) := by decide +kernel
theorem dX9_part_121 : decode cX9_part 121 = .ok (.invokevirtual 239, 3) := by decide +kernel
theorem dX9_part_124 : decode cX9_part 124 = .ok (.aload_n 0, 1) := by decide +kernel
theorem dX9_part_125 : decode cX9_part 125 = .ok (.dup, 1) := by decide +kernel
theorem dX9_part_126 : decode cX9_part 126 = .ok (.getfield 188, 3) := by decide +kernel
theorem dX9_part_129 : decode cX9_part 129 = .ok (.iconst 1, 1) := by decide +kernel
theorem dX9_part_130 : decode cX9_part 130 = .ok (.iadd, 1) := by decide +kernel
theorem dX9_part_131 : decode cX9_part 131 = .ok (.putfield 188, 3) := by decide +kernel
theorem dX9_part_134 : decode cX9_part 134 = .ok (.iconst 0, 1) := by decide +kernel
theorem dX9_part_135 : decode cX9_part 135 = .ok (.ireturn, 1) := by decide +kernel
set_option maxRecDepth 20000 in
theorem dX9_goesOnBehind_0 : decode cX9_goesOnBehind 0 = .ok (.aload_n 0, 1) := by decide +kernel
theorem dX9_goesOnBehind_1 : decode cX9_goesOnBehind 1 = .ok (.getfield 191, 3) := by decide +kernel
theorem dX9_goesOnBehind_4 : decode cX9_goesOnBehind 4 = .ok (.ifCond .ne 273, 3) := by decide +kernel
theorem dX9_goesOnBehind_7 : decode cX9_goesOnBehind 7 = .ok (.aload_n 0, 1) := by decide +kernel
theorem dX9_goesOnBehind_8 : decode cX9_goesOnBehind 8 = .ok (.getfield 68, 3) := by decide +kernel
theorem dX9_goesOnBehind_11 : decode cX9_goesOnBehind 11 = .ok (.aload_n 0, 1) := by decide +kernel
theorem dX9_goesOnBehind_12 : decode cX9_goesOnBehind 12 = .ok (.getfield 227, 3) := by decide +kernel
theorem dX9_goesOnBehind_15 : decode cX9_goesOnBehind 15 = .ok (.iaload, 1) := by decide +kernel
theorem dX9_goesOnBehind_16 : decode cX9_goesOnBehind 16 = .ok (.ifCond .eq 27, 3) := by decide +kernel
theorem dX9_goesOnBehind_19 : decode cX9_goesOnBehind 19 = .ok (.aload_n 0, 1) := by decide +kernel
theorem dX9_goesOnBehind_20 : decode cX9_goesOnBehind 20 = .ok (.aload_n 0, 1) := by decide +kernel
theorem dX9_goesOnBehind_21 : decode cX9_goesOnBehind 21 = .ok (.getfield 68, 3) := by decide +kernel
theorem dX9_goesOnBehind_24 : decode cX9_goesOnBehind 24 = .ok (.aload_n 0, 1) := by decide +kernel
theorem dX9_goesOnBehind_25 : decode cX9_goesOnBehind 25 = .ok (.getfield 227, 3) := by decide +kernel
theorem dX9_goesOnBehind_28 : decode cX9_goesOnBehind 28 = .ok (.iaload, 1) := by decide +kernel
theorem dX9_goesOnBehind_29 : decode cX9_goesOnBehind 29 = .ok (.iconst 0, 1) := by decide +kernel
theorem dX9_goesOnBehind_30 : decode cX9_goesOnBehind 30 = .ok (.invokevirtual 239, 3) := by decide +kernel
theorem dX9_goesOnBehind_33 : decode cX9_goesOnBehind 33 = .ok (.aload_n 0, 1) := by decide +kernel
theorem dX9_goesOnBehind_34 : decode cX9_goesOnBehind 34 = .ok (.getfield 68, 3) := by decide +kernel
theorem dX9_goesOnBehind_37 : decode cX9_goesOnBehind 37 = .ok (.aload_n 0, 1) := by decide +kernel
theorem dX9_goesOnBehind_38 : decode cX9_goesOnBehind 38 = .ok (.getfield 227, 3) := by decide +kernel
theorem dX9_goesOnBehind_41 : decode cX9_goesOnBehind 41 = .ok (.iconst 0, 1) := by decide +kernel
theorem dX9_goesOnBehind_42 : decode cX9_goesOnBehind 42 = .ok (.iastore, 1) := by decide +kernel
theorem dX9_goesOnBehind_43 : decode cX9_goesOnBehind 43 = .ok (.aload_n 0, 1) := by decide +kernel
theorem dX9_goesOnBehind_44 : decode cX9_goesOnBehind 44 = .ok (.bipush 43, 2) := by decide +kernel
theorem dX9_goesOnBehind_46 : decode cX9_goesOnBehind 46 = .ok (.invokevirtual 194, 3) := by decide +kernel
theorem dX9_goesOnBehind_49 : decode cX9_goesOnBehind 49 = .ok (.ifCond .ne 12, 3) := by decide +kernel
theorem dX9_goesOnBehind_52 : decode cX9_goesOnBehind 52 = .ok (.aload_n 0, 1) := by decide +kernel
theorem dX9_goesOnBehind_53 : decode cX9_goesOnBehind 53 = .ok (.bipush 45, 2) := by decide +kernel
theorem dX9_goesOnBehind_55 : decode cX9_goesOnBehind 55 = .ok (.invokevirtual 194, 3) := by decide +kernel
theorem dX9_goesOnBehind_58 : decode cX9_goesOnBehind 58 = .ok (.ifCond .eq 38, 3) := by decide +kernel
theorem dX9_goesOnBehind_61 : decode cX9_goesOnBehind 61 = .ok (.aload_n 0, 1) := by decide +kernel
theorem dX9_goesOnBehind_62 : decode cX9_goesOnBehind 62 = .ok (.getfield 68, 3) := by decide +kernel
theorem dX9_goesOnBehind_65 : decode cX9_goesOnBehind 65 = .ok (.aload_n 0, 1) := by decide +kernel
theorem dX9_goesOnBehind_66 : decode cX9_goesOnBehind 66 = .ok (.getfield 227, 3) := by decide +kernel
theorem dX9_goesOnBehind_69 : decode cX9_goesOnBehind 69 = .ok (.aload_n 0, 1) := by decide +kernel
theorem dX9_goesOnBehind_70 : decode cX9_goesOnBehind 70 = .ok (.bipush 43, 2) := by decide +kernel
theorem dX9_goesOnBehind_72 : decode cX9_goesOnBehind 72 = .ok (.invokevirtual 194, 3) := by decide +kernel
theorem dX9_goesOnBehind_75 : decode cX9_goesOnBehind 75 = .ok (.ifCond .eq 7, 3) := by decide +kernel
theorem dX9_goesOnBehind_78 : decode cX9_goesOnBehind 78 = .ok (.iconst 3, 1) := by decide +kernel
theorem dX9_goesOnBehind_79 : decode cX9_goesOnBehind 79 = .ok (.goto 4, 3) := by decide +kernel
theorem dX9_goesOnBehind_82 : decode cX9_goesOnBehind 82 = .ok (.iconst 4, 1) := by decide +kernel
theorem dX9_goesOnBehind_83 : decode cX9_goesOnBehind 83 = .ok (.iastore, 1) := by decide +kernel
theorem dX9_goesOnBehind_84 : decode cX9_goesOnBehind 84 = .ok (.aload_n 0, 1) := by decide +kernel
theorem dX9_goesOnBehind_85 : decode cX9_goesOnBehind 85 = .ok (.dup, 1) := by decide +kernel
theorem dX9_goesOnBehind_86 : decode cX9_goesOnBehind 86 = .ok (.getfield 188, 3) := by decide +kernel
theorem dX9_goesOnBehind_89 : decode cX9_goesOnBehind 89 = .ok (.iconst 1, 1) := by decide +kernel
theorem dX9_goesOnBehind_90 : decode cX9_goesOnBehind 90 = .ok (.iadd, 1) := by decide +kernel
theorem dX9_goesOnBehind_91 : decode cX9_goesOnBehind 91 = .ok (.putfield 188, 3) := by decide +kernel
theorem dX9_goesOnBehind_94 : decode cX9_goesOnBehind 94 = .ok (.iconst 1, 1) := by decide +kernel
theorem dX9_goesOnBehind_95 : decode cX9_goesOnBehind 95 = .ok (.ireturn, 1) := by decide +kernel
theorem dX9_goesOnBehind_96 : decode cX9_goesOnBehind 96 = .ok (.aload_n 0, 1) := by decide +kernel
theorem dX9_goesOnBehind_97 : decode cX9_goesOnBehind 97 = .ok (.getfield 71, 3) := by decide +kernel
theorem dX9_goesOnBehind_100 : decode cX9_goesOnBehind 100 = .ok (.aload_n 0, 1) := by decide +kernel
theorem dX9_goesOnBehind_101 : decode cX9_goesOnBehind 101 = .ok (.getfield 227, 3) := by decide +kernel
theorem dX9_goesOnBehind_104 : decode cX9_goesOnBehind 104 = .ok (.iaload, 1) := by decide +kernel
theorem dX9_goesOnBehind_105 : decode cX9_goesOnBehind 105 = .ok (.ifCond .eq 30, 3) := by decide +kernel
theorem dX9_goesOnBehind_108 : decode cX9_goesOnBehind 108 = .ok (.aload_n 0, 1) := by decide +kernel
theorem dX9_goesOnBehind_109 : decode cX9_goesOnBehind 109 = .ok (.aload_n 0, 1) := by decide +kernel
theorem dX9_goesOnBehind_110 : decode cX9_goesOnBehind 110 = .ok (.getfield 71, 3) := by decide +kernel
theorem dX9_goesOnBehind_113 : decode cX9_goesOnBehind 113 = .ok (.aload_n 0, 1) := by decide +kernel
theorem dX9_goesOnBehind_114 : decode cX9_goesOnBehind 114 = .ok (.getfield 227, 3) := by decide +kernel
theorem dX9_goesOnBehind_117 : decode cX9_goesOnBehind 117 = .ok (.iaload, 1) := by decide +kernel
theorem dX9_goesOnBehind_118 : decode cX9_goesOnBehind 118 = .ok (.iconst 0, 1) := by decide +kernel
theorem dX9_goesOnBehind_119 : decode cX9_goesOnBehind 119 = .ok (.invokevirtual 239, 3) := by decide +kernel
theorem dX9_goesOnBehind_122 : decode cX9_goesOnBehind 122 = .ok (.aload_n 0, 1) := by decide +kernel
theorem dX9_goesOnBehind_123 : decode cX9_goesOnBehind 123 = .ok (.getfield 71, 3) := by decide +kernel
theorem dX9_goesOnBehind_126 : decode cX9_goesOnBehind 126 = .ok (.aload_n 0, 1) := by decide +kernel
theorem dX9_goesOnBehind_127 : decode cX9_goesOnBehind 127 = .ok (.getfield 227, 3) := by decide +kernel
theorem dX9_goesOnBehind_130 : decode cX9_goesOnBehind 130 = .ok (.iconst 0, 1) := by decide +kernel
theorem dX9_goesOnBehind_131 : decode cX9_goesOnBehind 131 = .ok (.iastore, 1) := by decide +kernel
theorem dX9_goesOnBehind_132 : decode cX9_goesOnBehind 132 = .ok (.goto 57, 3) := by decide +kernel
theorem dX9_goesOnBehind_135 : decode cX9_goesOnBehind 135 = .ok (.aload_n 0, 1) := by decide +kernel
theorem dX9_goesOnBehind_136 : decode cX9_goesOnBehind 136 = .ok (.bipush 60, 2) := by decide +kernel
theorem dX9_goesOnBehind_138 : decode cX9_goesOnBehind 138 = .ok (.invokevirtual 194, 3) := by decide +kernel
theorem dX9_goesOnBehind_141 : decode cX9_goesOnBehind 141 = .ok (.ifCond .ne 12, 3) := by decide +kernel
theorem dX9_goesOnBehind_144 : decode cX9_goesOnBehind 144 = .ok (.aload_n 0, 1) := by decide +kernel
theorem dX9_goesOnBehind_145 : decode cX9_goesOnBehind 145 = .ok (.bipush 61, 2) := by decide +kernel
theorem dX9_goesOnBehind_147 : decode cX9_goesOnBehind 147 = .ok (.invokevirtual 194, 3) := by decide +kernel
theorem dX9_goesOnBehind_150 : decode cX9_goesOnBehind 150 = .ok (.ifCond .eq 39, 3) := by decide +kernel
theorem dX9_goesOnBehind_153 : decode cX9_goesOnBehind 153 = .ok (.aload_n 0, 1) := by decide +kernel
theorem dX9_goesOnBehind_154 : decode cX9_goesOnBehind 154 = .ok (.getfield 71, 3) := by decide +kernel
theorem dX9_goesOnBehind_157 : decode cX9_goesOnBehind 157 = .ok (.aload_n 0, 1) := by decide +kernel
theorem dX9_goesOnBehind_158 : decode cX9_goesOnBehind 158 = .ok (.getfield 227, 3) := by decide +kernel
theorem dX9_goesOnBehind_161 : decode cX9_goesOnBehind 161 = .ok (.aload_n 0, 1) := by decide +kernel
theorem dX9_goesOnBehind_162 : decode cX9_goesOnBehind 162 = .ok (.bipush 60, 2) := by decide +kernel
theorem dX9_goesOnBehind_164 : decode cX9_goesOnBehind 164 = .ok (.invokevirtual 194, 3) := by decide +kernel
theorem dX9_goesOnBehind_167 : decode cX9_goesOnBehind 167 = .ok (.ifCond .eq 7, 3) := by decide +kernel
theorem dX9_goesOnBehind_170 : decode cX9_goesOnBehind 170 = .ok (.iconst 5, 1) := by decide +kernel
theorem dX9_goesOnBehind_171 : decode cX9_goesOnBehind 171 = .ok (.goto 5, 3) := by decide +kernel
theorem dX9_goesOnBehind_174 : decode cX9_goesOnBehind 174 = .ok (.bipush 6, 2) := by decide +kernel
theorem dX9_goesOnBehind_176 : decode cX9_goesOnBehind 176 = .ok (.iastore, 1) := by decide +kernel
theorem dX9_goesOnBehind_177 : decode cX9_goesOnBehind 177 = .ok (.aload_n 0, 1) := by decide +kernel
theorem dX9_goesOnBehind_178 : decode cX9_goesOnBehind 178 = .ok (.dup, 1) := by decide +kernel
theorem dX9_goesOnBehind_179 : decode cX9_goesOnBehind 179 = .ok (.getfield 188, 3) := by decide +kernel
theorem dX9_goesOnBehind_182 : decode cX9_goesOnBehind 182 = .ok (.iconst 1, 1) := by decide +kernel
theorem dX9_goesOnBehind_183 : decode cX9_goesOnBehind 183 = .ok (.iadd, 1) := by decide +kernel
theorem dX9_goesOnBehind_184 : decode cX9_goesOnBehind 184 = .ok (.putfield 188, 3) := by decide +kernel
theorem dX9_goesOnBehind_187 : decode cX9_goesOnBehind 187 = .ok (.iconst 1, 1) := by decide +kernel
theorem dX9_goesOnBehind_188 : decode cX9_goesOnBehind 188 = .ok (.ireturn, 1) := by decide +kernel
theorem dX9_goesOnBehind_189 : decode cX9_goesOnBehind 189 = .ok (.aload_n 0, 1) := by decide +kernel
theorem dX9_goesOnBehind_190 : decode cX9_goesOnBehind 190 = .ok (.getfield 74, 3) := by decide +kernel
theorem dX9_goesOnBehind_193 : decode cX9_goesOnBehind 193 = .ok (.aload_n 0, 1) := by decide +kernel
theorem dX9_goesOnBehind_194 : decode cX9_goesOnBehind 194 = .ok (.getfield 227, 3) := by decide +kernel
theorem dX9_goesOnBehind_197 : decode cX9_goesOnBehind 197 = .ok (.iaload, 1) := by decide +kernel
theorem dX9_goesOnBehind_198 : decode cX9_goesOnBehind 198 = .ok (.ifCond .eq 20, 3) := by decide +kernel
theorem dX9_goesOnBehind_201 : decode cX9_goesOnBehind 201 = .ok (.aload_n 0, 1) := by decide +kernel
theorem dX9_goesOnBehind_202 : decode cX9_goesOnBehind 202 = .ok (.bipush 7, 2) := by decide +kernel
theorem dX9_goesOnBehind_204 : decode cX9_goesOnBehind 204 = .ok (.iconst 0, 1) := by decide +kernel
theorem dX9_goesOnBehind_205 : decode cX9_goesOnBehind 205 = .ok (.invokevirtual 239, 3) := by decide +kernel
theorem dX9_goesOnBehind_208 : decode cX9_goesOnBehind 208 = .ok (.aload_n 0, 1) := by decide +kernel
theorem dX9_goesOnBehind_209 : decode cX9_goesOnBehind 209 = .ok (.getfield 74, 3) := by decide +kernel
theorem dX9_goesOnBehind_212 : decode cX9_goesOnBehind 212 = .ok (.aload_n 0, 1) := by decide +kernel
theorem dX9_goesOnBehind_213 : decode cX9_goesOnBehind 213 = .ok (.getfield 227, 3) := by decide +kernel
theorem dX9_goesOnBehind_216 : decode cX9_goesOnBehind 216 = .ok (.iconst 0, 1) := by decide +kernel
theorem dX9_goesOnBehind_217 : decode cX9_goesOnBehind 217 = .ok (.iastore, 1) := by decide +kernel
theorem dX9_goesOnBehind_218 : decode cX9_goesOnBehind 218 = .ok (.aload_n 0, 1) := by decide +kernel
theorem dX9_goesOnBehind_219 : decode cX9_goesOnBehind 219 = .ok (.iconst 2, 1) := by decide +kernel
theorem dX9_goesOnBehind_220 : decode cX9_goesOnBehind 220 = .ok (.invokevirtual 201, 3) := by decide +kernel
theorem dX9_goesOnBehind_223 : decode cX9_goesOnBehind 223 = .ok (.ifCond .eq 26, 3) := by decide +kernel
theorem dX9_goesOnBehind_226 : decode cX9_goesOnBehind 226 = .ok (.aload_n 0, 1) := by decide +kernel
theorem dX9_goesOnBehind_227 : decode cX9_goesOnBehind 227 = .ok (.getfield 74, 3) := by decide +kernel
theorem dX9_goesOnBehind_230 : decode cX9_goesOnBehind 230 = .ok (.aload_n 0, 1) := by decide +kernel
theorem dX9_goesOnBehind_231 : decode cX9_goesOnBehind 231 = .ok (.getfield 227, 3) := by decide +kernel
theorem dX9_goesOnBehind_234 : decode cX9_goesOnBehind 234 = .ok (.bipush 7, 2) := by decide +kernel
theorem dX9_goesOnBehind_236 : decode cX9_goesOnBehind 236 = .ok (.iastore, 1) := by decide +kernel
theorem dX9_goesOnBehind_237 : decode cX9_goesOnBehind 237 = .ok (.aload_n 0, 1) := by decide +kernel
theorem dX9_goesOnBehind_238 : decode cX9_goesOnBehind 238 = .ok (.dup, 1) := by decide +kernel
theorem dX9_goesOnBehind_239 : decode cX9_goesOnBehind 239 = .ok (.getfield 188, 3) := by decide +kernel
theorem dX9_goesOnBehind_242 : decode cX9_goesOnBehind 242 = .ok (.iconst 1, 1) := by decide +kernel
theorem dX9_goesOnBehind_243 : decode cX9_goesOnBehind 243 = .ok (.iadd, 1) := by decide +kernel
theorem dX9_goesOnBehind_244 : decode cX9_goesOnBehind 244 = .ok (.putfield 188, 3) := by decide +kernel
theorem dX9_goesOnBehind_247 : decode cX9_goesOnBehind 247 = .ok (.iconst 1, 1) := by decide +kernel
theorem dX9_goesOnBehind_248 : decode cX9_goesOnBehind 248 = .ok (.ireturn, 1) := by decide +kernel
theorem dX9_goesOnBehind_249 : decode cX9_goesOnBehind 249 = .ok (.aload_n 0, 1) := by decide +kernel
theorem dX9_goesOnBehind_250 : decode cX9_goesOnBehind 250 = .ok (.getfield 227, 3) := by decide +kernel
theorem dX9_goesOnBehind_253 : decode cX9_goesOnBehind 253 = .ok (.ifCond .ne 5, 3) := by decide +kernel
theorem dX9_goesOnBehind_256 : decode cX9_goesOnBehind 256 = .ok (.iconst 0, 1) := by decide +kernel
theorem dX9_goesOnBehind_257 : decode cX9_goesOnBehind 257 = .ok (.ireturn, 1) := by decide +kernel
theorem dX9_goesOnBehind_258 : decode cX9_goesOnBehind 258 = .ok (.aload_n 0, 1) := by decide +kernel
theorem dX9_goesOnBehind_259 : decode cX9_goesOnBehind 259 = .ok (.bipush 41, 2) := by decide +kernel
theorem dX9_goesOnBehind_261 : decode cX9_goesOnBehind 261 = .ok (.invokevirtual 243, 3) := by decide +kernel
theorem dX9_goesOnBehind_264 : decode cX9_goesOnBehind 264 = .ok (.aload_n 0, 1) := by decide +kernel
theorem dX9_goesOnBehind_265 : decode cX9_goesOnBehind 265 = .ok (.dup, 1) := by decide +kernel
theorem dX9_goesOnBehind_266 : decode cX9_goesOnBehind 266 = .ok (.getfield 227, 3) := by decide +kernel
theorem dX9_goesOnBehind_269 : decode cX9_goesOnBehind 269 = .ok (.iconst 1, 1) := by decide +kernel
theorem dX9_goesOnBehind_270 : decode cX9_goesOnBehind 270 = .ok (.isub, 1) := by decide +kernel
theorem dX9_goesOnBehind_271 : decode cX9_goesOnBehind 271 = .ok (.putfield 227, 3) := by decide +kernel
theorem dX9_goesOnBehind_274 : decode cX9_goesOnBehind 274 = .ok (.goto (-274), 3) := by decide +kernel
theorem dX9_goesOnBehind_277 : decode cX9_goesOnBehind 277 = .ok (.iconst 0, 1) := by decide +kernel
theorem dX9_goesOnBehind_278 : decode cX9_goesOnBehind 278 = .ok (.ireturn, 1) := by decide +kernel
theorem dX9_worth_0 : decode cX9_worth 0 = .ok (.iload_n 1, 1) := by decide +kernel
theorem dX9_worth_1 : decode cX9_worth 1 = .ok (.istore_n 2, 1) := by decide +kernel
theorem dX9_worth_2 : decode cX9_worth 2 = .ok (.iconst 0, 1) := by decide +kernel
theorem dX9_worth_3 : decode cX9_worth 3 = .ok (.istore_n 3, 1) := by decide +kernel
theorem dX9_worth_4 : decode cX9_worth 4 = .ok (.aload_n 0, 1) := by decide +kernel
theorem dX9_worth_5 : decode cX9_worth 5 = .ok (.getfield 62, 3) := by decide +kernel
theorem dX9_worth_8 : decode cX9_worth 8 = .ok (.iload_n 2, 1) := by decide +kernel
theorem dX9_worth_9 : decode cX9_worth 9 = .ok (.iaload, 1) := by decide +kernel
theorem dX9_worth_10 : decode cX9_worth 10 = .ok (.ifCond .eq 182, 3) := by decide +kernel
theorem dX9_worth_13 : decode cX9_worth 13 = .ok (.aload_n 0, 1) := by decide +kernel
theorem dX9_worth_14 : decode cX9_worth 14 = .ok (.getfield 62, 3) := by decide +kernel
theorem dX9_worth_17 : decode cX9_worth 17 = .ok (.iload_n 2, 1) := by decide +kernel
theorem dX9_worth_18 : decode cX9_worth 18 = .ok (.iaload, 1) := by decide +kernel
theorem dX9_worth_19 : decode cX9_worth 19 = .ok (.istore 4, 2) := by decide +kernel
theorem dX9_worth_21 : decode cX9_worth 21 = .ok (.iload 4, 2) := by decide +kernel
theorem dX9_worth_23 : decode cX9_worth 23 = .ok (.iconst 1, 1) := by decide +kernel
theorem dX9_worth_24 : decode cX9_worth 24 = .ok (.if_icmp .eq 9, 3) := by decide +kernel
theorem dX9_worth_27 : decode cX9_worth 27 = .ok (.iload 4, 2) := by decide +kernel
theorem dX9_worth_29 : decode cX9_worth 29 = .ok (.iconst 2, 1) := by decide +kernel
theorem dX9_worth_30 : decode cX9_worth 30 = .ok (.if_icmp .ne 41, 3) := by decide +kernel
theorem dX9_worth_33 : decode cX9_worth 33 = .ok (.aload_n 0, 1) := by decide +kernel
theorem dX9_worth_34 : decode cX9_worth 34 = .ok (.getfield 80, 3) := by decide +kernel
theorem dX9_worth_37 : decode cX9_worth 37 = .ok (.iload_n 3, 1) := by decide +kernel
theorem dX9_worth_38 : decode cX9_worth 38 = .ok (.iload 4, 2) := by decide +kernel
theorem dX9_worth_40 : decode cX9_worth 40 = .ok (.iconst 1, 1) := by decide +kernel
theorem dX9_worth_41 : decode cX9_worth 41 = .ok (.if_icmp .ne 12, 3) := by decide +kernel
theorem dX9_worth_44 : decode cX9_worth 44 = .ok (.aload_n 0, 1) := by decide +kernel
theorem dX9_worth_45 : decode cX9_worth 45 = .ok (.getfield 65, 3) := by decide +kernel
theorem dX9_worth_48 : decode cX9_worth 48 = .ok (.iload_n 2, 1) := by decide +kernel
theorem dX9_worth_49 : decode cX9_worth 49 = .ok (.iaload, 1) := by decide +kernel
theorem dX9_worth_50 : decode cX9_worth 50 = .ok (.goto 14, 3) := by decide +kernel
theorem dX9_worth_53 : decode cX9_worth 53 = .ok (.aload_n 0, 1) := by decide +kernel
theorem dX9_worth_54 : decode cX9_worth 54 = .ok (.getfield 77, 3) := by decide +kernel
theorem dX9_worth_57 : decode cX9_worth 57 = .ok (.aload_n 0, 1) := by decide +kernel
theorem dX9_worth_58 : decode cX9_worth 58 = .ok (.getfield 65, 3) := by decide +kernel
theorem dX9_worth_61 : decode cX9_worth 61 = .ok (.iload_n 2, 1) := by decide +kernel
theorem dX9_worth_62 : decode cX9_worth 62 = .ok (.iaload, 1) := by decide +kernel
theorem dX9_worth_63 : decode cX9_worth 63 = .ok (.iaload, 1) := by decide +kernel
theorem dX9_worth_64 : decode cX9_worth 64 = .ok (.iastore, 1) := by decide +kernel
theorem dX9_worth_65 : decode cX9_worth 65 = .ok (.iinc 3 1, 3) := by decide +kernel
theorem dX9_worth_68 : decode cX9_worth 68 = .ok (.goto 118, 3) := by decide +kernel
theorem dX9_worth_71 : decode cX9_worth 71 = .ok (.iinc 3 (-1), 3) := by decide +kernel
theorem dX9_worth_74 : decode cX9_worth 74 = .ok (.aload_n 0, 1) := by decide +kernel
theorem dX9_worth_75 : decode cX9_worth 75 = .ok (.getfield 80, 3) := by decide +kernel
theorem dX9_worth_78 : decode cX9_worth 78 = .ok (.iload_n 3, 1) := by decide +kernel
theorem dX9_worth_79 : decode cX9_worth 79 = .ok (.iaload, 1) := by decide +kernel
theorem dX9_worth_80 : decode cX9_worth 80 = .ok (.istore 5, 2) := by decide +kernel
theorem dX9_worth_82 : decode cX9_worth 82 = .ok (.aload_n 0, 1) := by decide +kernel
theorem dX9_worth_83 : decode cX9_worth 83 = .ok (.getfield 80, 3) := by decide +kernel
theorem dX9_worth_86 : decode cX9_worth 86 = .ok (.iload_n 3, 1) := by decide +kernel
theorem dX9_worth_87 : decode cX9_worth 87 = .ok (.iconst 1, 1) := by decide +kernel
theorem dX9_worth_88 : decode cX9_worth 88 = .ok (.isub, 1) := by decide +kernel
theorem dX9_worth_89 : decode cX9_worth 89 = .ok (.iaload, 1) := by decide +kernel
theorem dX9_worth_90 : decode cX9_worth 90 = .ok (.istore 6, 2) := by decide +kernel
theorem dX9_worth_92 : decode cX9_worth 92 = .ok (.aload_n 0, 1) := by decide +kernel
theorem dX9_worth_93 : decode cX9_worth 93 = .ok (.getfield 80, 3) := by decide +kernel
theorem dX9_worth_96 : decode cX9_worth 96 = .ok (.iload_n 3, 1) := by decide +kernel
theorem dX9_worth_97 : decode cX9_worth 97 = .ok (.iconst 1, 1) := by decide +kernel
theorem dX9_worth_98 : decode cX9_worth 98 = .ok (.isub, 1) := by decide +kernel
theorem dX9_worth_99 : decode cX9_worth 99 = .ok (.iload 4, 2) := by decide +kernel
theorem dX9_worth_101 : decode cX9_worth 101 = .ok (.iconst 3, 1) := by decide +kernel
theorem dX9_worth_102 : decode cX9_worth 102 = .ok (.if_icmp .ne 11, 3) := by decide +kernel
theorem dX9_worth_105 : decode cX9_worth 105 = .ok (.iload 6, 2) := by decide +kernel
theorem dX9_worth_107 : decode cX9_worth 107 = .ok (.iload 5, 2) := by decide +kernel
theorem dX9_worth_109 : decode cX9_worth 109 = .ok (.iadd, 1) := by decide +kernel
theorem dX9_worth_110 : decode cX9_worth 110 = .ok (.goto 75, 3) := by decide +kernel
theorem dX9_worth_113 : decode cX9_worth 113 = .ok (.iload 4, 2) := by decide +kernel
theorem dX9_worth_115 : decode cX9_worth 115 = .ok (.iconst 4, 1) := by decide +kernel
theorem dX9_worth_116 : decode cX9_worth 116 = .ok (.if_icmp .ne 11, 3) := by decide +kernel
theorem dX9_worth_119 : decode cX9_worth 119 = .ok (.iload 6, 2) := by decide +kernel
theorem dX9_worth_121 : decode cX9_worth 121 = .ok (.iload 5, 2) := by decide +kernel
theorem dX9_worth_123 : decode cX9_worth 123 = .ok (.isub, 1) := by decide +kernel
theorem dX9_worth_124 : decode cX9_worth 124 = .ok (.goto 61, 3) := by decide +kernel
theorem dX9_worth_127 : decode cX9_worth 127 = .ok (.iload 4, 2) := by decide +kernel
theorem dX9_worth_129 : decode cX9_worth 129 = .ok (.iconst 5, 1) := by decide +kernel
theorem dX9_worth_130 : decode cX9_worth 130 = .ok (.if_icmp .ne 18, 3) := by decide +kernel
theorem dX9_worth_133 : decode cX9_worth 133 = .ok (.iload 6, 2) := by decide +kernel
theorem dX9_worth_135 : decode cX9_worth 135 = .ok (.iload 5, 2) := by decide +kernel
theorem dX9_worth_137 : decode cX9_worth 137 = .ok (.if_icmp .ge 7, 3) := by decide +kernel
theorem dX9_worth_140 : decode cX9_worth 140 = .ok (.iconst 1, 1) := by decide +kernel
theorem dX9_worth_141 : decode cX9_worth 141 = .ok (.goto 44, 3) := by decide +kernel
theorem dX9_worth_144 : decode cX9_worth 144 = .ok (.iconst 0, 1) := by decide +kernel
theorem dX9_worth_145 : decode cX9_worth 145 = .ok (.goto 40, 3) := by decide +kernel
theorem dX9_worth_148 : decode cX9_worth 148 = .ok (.iload 4, 2) := by decide +kernel
theorem dX9_worth_150 : decode cX9_worth 150 = .ok (.bipush 6, 2) := by decide +kernel
theorem dX9_worth_152 : decode cX9_worth 152 = .ok (.if_icmp .ne 18, 3) := by decide +kernel
theorem dX9_worth_155 : decode cX9_worth 155 = .ok (.iload 6, 2) := by decide +kernel
theorem dX9_worth_157 : decode cX9_worth 157 = .ok (.iload 5, 2) := by decide +kernel
theorem dX9_worth_159 : decode cX9_worth 159 = .ok (.if_icmp .ne 7, 3) := by decide +kernel
theorem dX9_worth_162 : decode cX9_worth 162 = .ok (.iconst 1, 1) := by decide +kernel
theorem dX9_worth_163 : decode cX9_worth 163 = .ok (.goto 22, 3) := by decide +kernel
theorem dX9_worth_166 : decode cX9_worth 166 = .ok (.iconst 0, 1) := by decide +kernel
theorem dX9_worth_167 : decode cX9_worth 167 = .ok (.goto 18, 3) := by decide +kernel
theorem dX9_worth_170 : decode cX9_worth 170 = .ok (.iload 6, 2) := by decide +kernel
theorem dX9_worth_172 : decode cX9_worth 172 = .ok (.ifCond .eq 12, 3) := by decide +kernel
theorem dX9_worth_175 : decode cX9_worth 175 = .ok (.iload 5, 2) := by decide +kernel
theorem dX9_worth_177 : decode cX9_worth 177 = .ok (.ifCond .eq 7, 3) := by decide +kernel
theorem dX9_worth_180 : decode cX9_worth 180 = .ok (.iconst 1, 1) := by decide +kernel
theorem dX9_worth_181 : decode cX9_worth 181 = .ok (.goto 4, 3) := by decide +kernel
theorem dX9_worth_184 : decode cX9_worth 184 = .ok (.iconst 0, 1) := by decide +kernel
theorem dX9_worth_185 : decode cX9_worth 185 = .ok (.iastore, 1) := by decide +kernel
theorem dX9_worth_186 : decode cX9_worth 186 = .ok (.iinc 2 1, 3) := by decide +kernel
theorem dX9_worth_189 : decode cX9_worth 189 = .ok (.goto (-185), 3) := by decide +kernel
theorem dX9_worth_192 : decode cX9_worth 192 = .ok (.aload_n 0, 1) := by decide +kernel
theorem dX9_worth_193 : decode cX9_worth 193 = .ok (.getfield 80, 3) := by decide +kernel
theorem dX9_worth_196 : decode cX9_worth 196 = .ok (.iconst 0, 1) := by decide +kernel
theorem dX9_worth_197 : decode cX9_worth 197 = .ok (.iaload, 1) := by decide +kernel
theorem dX9_worth_198 : decode cX9_worth 198 = .ok (.ireturn, 1) := by decide +kernel
theorem dX9_within_0 : decode cX9_within 0 = .ok (.iload_n 0, 1) := by decide +kernel
theorem dX9_within_1 : decode cX9_within 1 = .ok (.iload_n 1, 1) := by decide +kernel
theorem dX9_within_2 : decode cX9_within 2 = .ok (.if_icmp .lt 12, 3) := by decide +kernel
theorem dX9_within_5 : decode cX9_within 5 = .ok (.iload_n 0, 1) := by decide +kernel
theorem dX9_within_6 : decode cX9_within 6 = .ok (.iload_n 2, 1) := by decide +kernel
theorem dX9_within_7 : decode cX9_within 7 = .ok (.if_icmp .gt 7, 3) := by decide +kernel
theorem dX9_within_10 : decode cX9_within 10 = .ok (.iconst 1, 1) := by decide +kernel
theorem dX9_within_11 : decode cX9_within 11 = .ok (.goto 4, 3) := by decide +kernel
theorem dX9_within_14 : decode cX9_within 14 = .ok (.iconst 0, 1) := by decide +kernel
theorem dX9_within_15 : decode cX9_within 15 = .ok (.ireturn, 1) := by decide +kernel
set_option maxRecDepth 20000 in
theorem dX9_feature_0 : decode cX9_feature 0 = .ok (.aload_n 0, 1) := by decide +kernel
theorem dX9_feature_1 : decode cX9_feature 1 = .ok (.iconst 0, 1) := by decide +kernel
theorem dX9_feature_2 : decode cX9_feature 2 = .ok (.putfield 1, 3) := by decide +kernel
theorem dX9_feature_5 : decode cX9_feature 5 = .ok (.iload_n 1, 1) := by decide +kernel
theorem dX9_feature_6 : decode cX9_feature 6 = .ok (.iconst 0, 1) := by decide +kernel
theorem dX9_feature_7 : decode cX9_feature 7 = .ok (.iconst 3, 1) := by decide +kernel
theorem dX9_feature_8 : decode cX9_feature 8 = .ok (.invokestatic 253, 3) := by decide +kernel
theorem dX9_feature_11 : decode cX9_feature 11 = .ok (.ifCond .eq 65, 3) := by decide +kernel
theorem dX9_feature_14 : decode cX9_feature 14 = .ok (.iload_n 2, 1) := by decide +kernel
theorem dX9_feature_15 : decode cX9_feature 15 = .ok (.iconst 0, 1) := by decide +kernel
theorem dX9_feature_16 : decode cX9_feature 16 = .ok (.sipush 500, 3) := by decide +kernel
theorem dX9_feature_19 : decode cX9_feature 19 = .ok (.invokestatic 253, 3) := by decide +kernel
theorem dX9_feature_22 : decode cX9_feature 22 = .ok (.ifCond .eq 54, 3) := by decide +kernel
theorem dX9_feature_25 : decode cX9_feature 25 = .ok (.iload_n 3, 1) := by decide +kernel
theorem dX9_feature_26 : decode cX9_feature 26 = .ok (.iconst 0, 1) := by decide +kernel
theorem dX9_feature_27 : decode cX9_feature 27 = .ok (.bipush 100, 2) := by decide +kernel
theorem dX9_feature_29 : decode cX9_feature 29 = .ok (.invokestatic 253, 3) := by decide +kernel
theorem dX9_feature_32 : decode cX9_feature 32 = .ok (.ifCond .eq 44, 3) := by decide +kernel
theorem dX9_feature_35 : decode cX9_feature 35 = .ok (.iload 4, 2) := by decide +kernel
theorem dX9_feature_37 : decode cX9_feature 37 = .ok (.iconst 0, 1) := by decide +kernel
theorem dX9_feature_38 : decode cX9_feature 38 = .ok (.bipush 100, 2) := by decide +kernel
theorem dX9_feature_40 : decode cX9_feature 40 = .ok (.invokestatic 253, 3) := by decide +kernel
theorem dX9_feature_43 : decode cX9_feature 43 = .ok (.ifCond .eq 33, 3) := by decide +kernel
theorem dX9_feature_46 : decode cX9_feature 46 = .ok (.iload 5, 2) := by decide +kernel
theorem dX9_feature_48 : decode cX9_feature 48 = .ok (.iconst 0, 1) := by decide +kernel
theorem dX9_feature_49 : decode cX9_feature 49 = .ok (.bipush 100, 2) := by decide +kernel
theorem dX9_feature_51 : decode cX9_feature 51 = .ok (.invokestatic 253, 3) := by decide +kernel
theorem dX9_feature_54 : decode cX9_feature 54 = .ok (.ifCond .eq 22, 3) := by decide +kernel
theorem dX9_feature_57 : decode cX9_feature 57 = .ok (.iload_n 3, 1) := by decide +kernel
theorem dX9_feature_58 : decode cX9_feature 58 = .ok (.iload 4, 2) := by decide +kernel
theorem dX9_feature_60 : decode cX9_feature 60 = .ok (.iadd, 1) := by decide +kernel
theorem dX9_feature_61 : decode cX9_feature 61 = .ok (.iload 5, 2) := by decide +kernel
theorem dX9_feature_63 : decode cX9_feature 63 = .ok (.iadd, 1) := by decide +kernel
theorem dX9_feature_64 : decode cX9_feature 64 = .ok (.ifCond .eq 12, 3) := by decide +kernel
theorem dX9_feature_67 : decode cX9_feature 67 = .ok (.aload_n 0, 1) := by decide +kernel
theorem dX9_feature_68 : decode cX9_feature 68 = .ok (.getfield 257, 3) := by decide +kernel
theorem dX9_feature_71 : decode cX9_feature 71 = .ok (.bipush 10, 2) := by decide +kernel
theorem dX9_feature_73 : decode cX9_feature 73 = .ok (.if_icmp .ne 5, 3) := by decide +kernel
theorem dX9_feature_76 : decode cX9_feature 76 = .ok (.iconst (-1), 1) := by decide +kernel
theorem dX9_feature_77 : decode cX9_feature 77 = .ok (.ireturn, 1) := by decide +kernel
theorem dX9_feature_78 : decode cX9_feature 78 = .ok (.aload_n 0, 1) := by decide +kernel
theorem dX9_feature_79 : decode cX9_feature 79 = .ok (.getfield 83, 3) := by decide +kernel
theorem dX9_feature_82 : decode cX9_feature 82 = .ok (.aload_n 0, 1) := by decide +kernel
theorem dX9_feature_83 : decode cX9_feature 83 = .ok (.getfield 257, 3) := by decide +kernel
theorem dX9_feature_86 : decode cX9_feature 86 = .ok (.iload_n 1, 1) := by decide +kernel
theorem dX9_feature_87 : decode cX9_feature 87 = .ok (.iastore, 1) := by decide +kernel
theorem dX9_feature_88 : decode cX9_feature 88 = .ok (.aload_n 0, 1) := by decide +kernel
theorem dX9_feature_89 : decode cX9_feature 89 = .ok (.getfield 86, 3) := by decide +kernel
theorem dX9_feature_92 : decode cX9_feature 92 = .ok (.aload_n 0, 1) := by decide +kernel
theorem dX9_feature_93 : decode cX9_feature 93 = .ok (.getfield 257, 3) := by decide +kernel
theorem dX9_feature_96 : decode cX9_feature 96 = .ok (.iload_n 2, 1) := by decide +kernel
theorem dX9_feature_97 : decode cX9_feature 97 = .ok (.iastore, 1) := by decide +kernel
theorem dX9_feature_98 : decode cX9_feature 98 = .ok (.aload_n 0, 1) := by decide +kernel
theorem dX9_feature_99 : decode cX9_feature 99 = .ok (.getfield 89, 3) := by decide +kernel
theorem dX9_feature_102 : decode cX9_feature 102 = .ok (.iconst 3, 1) := by decide +kernel
theorem dX9_feature_103 : decode cX9_feature 103 = .ok (.aload_n 0, 1) := by decide +kernel
theorem dX9_feature_104 : decode cX9_feature 104 = .ok (.getfield 257, 3) := by decide +kernel
theorem dX9_feature_107 : decode cX9_feature 107 = .ok (.imul, 1) := by decide +kernel
theorem dX9_feature_108 : decode cX9_feature 108 = .ok (.iload_n 3, 1) := by decide +kernel
theorem dX9_feature_109 : decode cX9_feature 109 = .ok (.iastore, 1) := by decide +kernel
theorem dX9_feature_110 : decode cX9_feature 110 = .ok (.aload_n 0, 1) := by decide +kernel
theorem dX9_feature_111 : decode cX9_feature 111 = .ok (.getfield 89, 3) := by decide +kernel
theorem dX9_feature_114 : decode cX9_feature 114 = .ok (.iconst 3, 1) := by decide +kernel
theorem dX9_feature_115 : decode cX9_feature 115 = .ok (.aload_n 0, 1) := by decide +kernel
theorem dX9_feature_116 : decode cX9_feature 116 = .ok (.getfield 257, 3) := by decide +kernel
theorem dX9_feature_119 : decode cX9_feature 119 = .ok (.imul, 1) := by decide +kernel
theorem dX9_feature_120 : decode cX9_feature 120 = .ok (.iconst 1, 1) := by decide +kernel
theorem dX9_feature_121 : decode cX9_feature 121 = .ok (.iadd, 1) := by decide +kernel
theorem dX9_feature_122 : decode cX9_feature 122 = .ok (.iload 4, 2) := by decide +kernel
theorem dX9_feature_124 : decode cX9_feature 124 = .ok (.iastore, 1) := by decide +kernel
theorem dX9_feature_125 : decode cX9_feature 125 = .ok (.aload_n 0, 1) := by decide +kernel
theorem dX9_feature_126 : decode cX9_feature 126 = .ok (.getfield 89, 3) := by decide +kernel
theorem dX9_feature_129 : decode cX9_feature 129 = .ok (.iconst 3, 1) := by decide +kernel
theorem dX9_feature_130 : decode cX9_feature 130 = .ok (.aload_n 0, 1) := by decide +kernel
theorem dX9_feature_131 : decode cX9_feature 131 = .ok (.getfield 257, 3) := by decide +kernel
theorem dX9_feature_134 : decode cX9_feature 134 = .ok (.imul, 1) := by decide +kernel
theorem dX9_feature_135 : decode cX9_feature 135 = .ok (.iconst 2, 1) := by decide +kernel
theorem dX9_feature_136 : decode cX9_feature 136 = .ok (.iadd, 1) := by decide +kernel
theorem dX9_feature_137 : decode cX9_feature 137 = .ok (.iload 5, 2) := by decide +kernel
theorem dX9_feature_139 : decode cX9_feature 139 = .ok (.iastore, 1) := by decide +kernel
theorem dX9_feature_140 : decode cX9_feature 140 = .ok (.aload_n 0, 1) := by decide +kernel
theorem dX9_feature_141 : decode cX9_feature 141 = .ok (.dup, 1) := by decide +kernel
theorem dX9_feature_142 : decode cX9_feature 142 = .ok (.getfield 257, 3) := by decide +kernel
theorem dX9_feature_145 : decode cX9_feature 145 = .ok (.iconst 1, 1) := by decide +kernel
theorem dX9_feature_146 : decode cX9_feature 146 = .ok (.iadd, 1) := by decide +kernel
theorem dX9_feature_147 : decode cX9_feature 147 = .ok (.putfield 257, 3) := by decide +kernel
theorem dX9_feature_150 : decode cX9_feature 150 = .ok (.aload_n 0, 1) := by decide +kernel
theorem dX9_feature_151 : decode cX9_feature 151 = .ok (.getfield 257, 3) := by decide +kernel
theorem dX9_feature_154 : decode cX9_feature 154 = .ok (.iconst 1, 1) := by decide +kernel
theorem dX9_feature_155 : decode cX9_feature 155 = .ok (.isub, 1) := by decide +kernel
theorem dX9_feature_156 : decode cX9_feature 156 = .ok (.ireturn, 1) := by decide +kernel
set_option maxRecDepth 20000 in
theorem dX9_paper_0 : decode cX9_paper 0 = .ok (.aload_n 0, 1) := by decide +kernel
theorem dX9_paper_1 : decode cX9_paper 1 = .ok (.iconst 0, 1) := by decide +kernel
theorem dX9_paper_2 : decode cX9_paper 2 = .ok (.putfield 1, 3) := by decide +kernel
theorem dX9_paper_5 : decode cX9_paper 5 = .ok (.iload_n 1, 1) := by decide +kernel
theorem dX9_paper_6 : decode cX9_paper 6 = .ok (.iconst 0, 1) := by decide +kernel
theorem dX9_paper_7 : decode cX9_paper 7 = .ok (.sipush 999, 3) := by decide +kernel
theorem dX9_paper_10 : decode cX9_paper 10 = .ok (.invokestatic 253, 3) := by decide +kernel
theorem dX9_paper_13 : decode cX9_paper 13 = .ok (.ifCond .eq 34, 3) := by decide +kernel
theorem dX9_paper_16 : decode cX9_paper 16 = .ok (.iload_n 2, 1) := by decide +kernel
theorem dX9_paper_17 : decode cX9_paper 17 = .ok (.iconst 0, 1) := by decide +kernel
theorem dX9_paper_18 : decode cX9_paper 18 = .ok (.sipush 999, 3) := by decide +kernel
theorem dX9_paper_21 : decode cX9_paper 21 = .ok (.invokestatic 253, 3) := by decide +kernel
theorem dX9_paper_24 : decode cX9_paper 24 = .ok (.ifCond .eq 23, 3) := by decide +kernel
theorem dX9_paper_27 : decode cX9_paper 27 = .ok (.iload_n 3, 1) := by decide +kernel
theorem dX9_paper_28 : decode cX9_paper 28 = .ok (.iconst 1, 1) := by decide +kernel
theorem dX9_paper_29 : decode cX9_paper 29 = .ok (.ldc_w 260, 3) := by decide +kernel
theorem dX9_paper_32 : decode cX9_paper 32 = .ok (.invokestatic 253, 3) := by decide +kernel
theorem dX9_paper_35 : decode cX9_paper 35 = .ok (.ifCond .eq 12, 3) := by decide +kernel
theorem dX9_paper_38 : decode cX9_paper 38 = .ok (.aload_n 0, 1) := by decide +kernel
theorem dX9_paper_39 : decode cX9_paper 39 = .ok (.getfield 261, 3) := by decide +kernel
theorem dX9_paper_42 : decode cX9_paper 42 = .ok (.bipush 20, 2) := by decide +kernel
theorem dX9_paper_44 : decode cX9_paper 44 = .ok (.if_icmp .ne 5, 3) := by decide +kernel
theorem dX9_paper_47 : decode cX9_paper 47 = .ok (.iconst (-1), 1) := by decide +kernel
theorem dX9_paper_48 : decode cX9_paper 48 = .ok (.ireturn, 1) := by decide +kernel
theorem dX9_paper_49 : decode cX9_paper 49 = .ok (.aload_n 0, 1) := by decide +kernel
theorem dX9_paper_50 : decode cX9_paper 50 = .ok (.getfield 108, 3) := by decide +kernel
theorem dX9_paper_53 : decode cX9_paper 53 = .ok (.aload_n 0, 1) := by decide +kernel
theorem dX9_paper_54 : decode cX9_paper 54 = .ok (.getfield 261, 3) := by decide +kernel
theorem dX9_paper_57 : decode cX9_paper 57 = .ok (.iload_n 1, 1) := by decide +kernel
theorem dX9_paper_58 : decode cX9_paper 58 = .ok (.iastore, 1) := by decide +kernel
theorem dX9_paper_59 : decode cX9_paper 59 = .ok (.aload_n 0, 1) := by decide +kernel
theorem dX9_paper_60 : decode cX9_paper 60 = .ok (.getfield 111, 3) := by decide +kernel
theorem dX9_paper_63 : decode cX9_paper 63 = .ok (.aload_n 0, 1) := by decide +kernel
theorem dX9_paper_64 : decode cX9_paper 64 = .ok (.getfield 261, 3) := by decide +kernel
theorem dX9_paper_67 : decode cX9_paper 67 = .ok (.iload_n 2, 1) := by decide +kernel
theorem dX9_paper_68 : decode cX9_paper 68 = .ok (.iastore, 1) := by decide +kernel
theorem dX9_paper_69 : decode cX9_paper 69 = .ok (.aload_n 0, 1) := by decide +kernel
theorem dX9_paper_70 : decode cX9_paper 70 = .ok (.getfield 114, 3) := by decide +kernel
theorem dX9_paper_73 : decode cX9_paper 73 = .ok (.aload_n 0, 1) := by decide +kernel
theorem dX9_paper_74 : decode cX9_paper 74 = .ok (.getfield 261, 3) := by decide +kernel
theorem dX9_paper_77 : decode cX9_paper 77 = .ok (.iload_n 3, 1) := by decide +kernel
theorem dX9_paper_78 : decode cX9_paper 78 = .ok (.iastore, 1) := by decide +kernel
theorem dX9_paper_79 : decode cX9_paper 79 = .ok (.iconst 0, 1) := by decide +kernel
theorem dX9_paper_80 : decode cX9_paper 80 = .ok (.istore 4, 2) := by decide +kernel
theorem dX9_paper_82 : decode cX9_paper 82 = .ok (.iload 4, 2) := by decide +kernel
theorem dX9_paper_84 : decode cX9_paper 84 = .ok (.aload_n 0, 1) := by decide +kernel
theorem dX9_paper_85 : decode cX9_paper 85 = .ok (.getfield 264, 3) := by decide +kernel
theorem dX9_paper_88 : decode cX9_paper 88 = .ok (.iconst 4, 1) := by decide +kernel
theorem dX9_paper_89 : decode cX9_paper 89 = .ok (.idiv, 1) := by decide +kernel
theorem dX9_paper_90 : decode cX9_paper 90 = .ok (.if_icmp .ge 25, 3) := by decide +kernel
theorem dX9_paper_93 : decode cX9_paper 93 = .ok (.aload_n 0, 1) := by decide +kernel
theorem dX9_paper_94 : decode cX9_paper 94 = .ok (.getfield 117, 3) := by decide +kernel
theorem dX9_paper_97 : decode cX9_paper 97 = .ok (.bipush 51, 2) := by decide +kernel
theorem dX9_paper_99 : decode cX9_paper 99 = .ok (.aload_n 0, 1) := by decide +kernel
theorem dX9_paper_100 : decode cX9_paper 100 = .ok (.getfield 261, 3) := by decide +kernel
theorem dX9_paper_103 : decode cX9_paper 103 = .ok (.imul, 1) := by decide +kernel
theorem dX9_paper_104 : decode cX9_paper 104 = .ok (.iload 4, 2) := by decide +kernel
theorem dX9_paper_106 : decode cX9_paper 106 = .ok (.iadd, 1) := by decide +kernel
theorem dX9_paper_107 : decode cX9_paper 107 = .ok (.iload_n 3, 1) := by decide +kernel
theorem dX9_paper_108 : decode cX9_paper 108 = .ok (.iastore, 1) := by decide +kernel
theorem dX9_paper_109 : decode cX9_paper 109 = .ok (.iinc 4 1, 3) := by decide +kernel
theorem dX9_paper_112 : decode cX9_paper 112 = .ok (.goto (-30), 3) := by decide +kernel
theorem dX9_paper_115 : decode cX9_paper 115 = .ok (.aload_n 0, 1) := by decide +kernel
theorem dX9_paper_116 : decode cX9_paper 116 = .ok (.dup, 1) := by decide +kernel
theorem dX9_paper_117 : decode cX9_paper 117 = .ok (.getfield 261, 3) := by decide +kernel
theorem dX9_paper_120 : decode cX9_paper 120 = .ok (.iconst 1, 1) := by decide +kernel
theorem dX9_paper_121 : decode cX9_paper 121 = .ok (.iadd, 1) := by decide +kernel
theorem dX9_paper_122 : decode cX9_paper 122 = .ok (.putfield 261, 3) := by decide +kernel
theorem dX9_paper_125 : decode cX9_paper 125 = .ok (.aload_n 0, 1) := by decide +kernel
theorem dX9_paper_126 : decode cX9_paper 126 = .ok (.getfield 261, 3) := by decide +kernel
theorem dX9_paper_129 : decode cX9_paper 129 = .ok (.iconst 1, 1) := by decide +kernel
theorem dX9_paper_130 : decode cX9_paper 130 = .ok (.isub, 1) := by decide +kernel
theorem dX9_paper_131 : decode cX9_paper 131 = .ok (.ireturn, 1) := by decide +kernel
theorem dX9_isFeature_0 : decode cX9_isFeature 0 = .ok (.iload_n 1, 1) := by decide +kernel
theorem dX9_isFeature_1 : decode cX9_isFeature 1 = .ok (.ifCond .lt 15, 3) := by decide +kernel
theorem dX9_isFeature_4 : decode cX9_isFeature 4 = .ok (.iload_n 1, 1) := by decide +kernel
theorem dX9_isFeature_5 : decode cX9_isFeature 5 = .ok (.aload_n 0, 1) := by decide +kernel
theorem dX9_isFeature_6 : decode cX9_isFeature 6 = .ok (.getfield 257, 3) := by decide +kernel
theorem dX9_isFeature_9 : decode cX9_isFeature 9 = .ok (.if_icmp .ge 7, 3) := by decide +kernel
theorem dX9_isFeature_12 : decode cX9_isFeature 12 = .ok (.iconst 1, 1) := by decide +kernel
theorem dX9_isFeature_13 : decode cX9_isFeature 13 = .ok (.goto 4, 3) := by decide +kernel
theorem dX9_isFeature_16 : decode cX9_isFeature 16 = .ok (.iconst 0, 1) := by decide +kernel
theorem dX9_isFeature_17 : decode cX9_isFeature 17 = .ok (.ireturn, 1) := by decide +kernel
theorem dX9_isPaper_0 : decode cX9_isPaper 0 = .ok (.iload_n 1, 1) := by decide +kernel
theorem dX9_isPaper_1 : decode cX9_isPaper 1 = .ok (.ifCond .lt 15, 3) := by decide +kernel
theorem dX9_isPaper_4 : decode cX9_isPaper 4 = .ok (.iload_n 1, 1) := by decide +kernel
theorem dX9_isPaper_5 : decode cX9_isPaper 5 = .ok (.aload_n 0, 1) := by decide +kernel
theorem dX9_isPaper_6 : decode cX9_isPaper 6 = .ok (.getfield 261, 3) := by decide +kernel
theorem dX9_isPaper_9 : decode cX9_isPaper 9 = .ok (.if_icmp .ge 7, 3) := by decide +kernel
theorem dX9_isPaper_12 : decode cX9_isPaper 12 = .ok (.iconst 1, 1) := by decide +kernel
theorem dX9_isPaper_13 : decode cX9_isPaper 13 = .ok (.goto 4, 3) := by decide +kernel
theorem dX9_isPaper_16 : decode cX9_isPaper 16 = .ok (.iconst 0, 1) := by decide +kernel
theorem dX9_isPaper_17 : decode cX9_isPaper 17 = .ok (.ireturn, 1) := by decide +kernel
set_option maxRecDepth 20000 in
theorem dX9_circulation_0 : decode cX9_circulation 0 = .ok (.aload_n 0, 1) := by decide +kernel
theorem dX9_circulation_1 : decode cX9_circulation 1 = .ok (.iconst 0, 1) := by decide +kernel
theorem dX9_circulation_2 : decode cX9_circulation 2 = .ok (.putfield 1, 3) := by decide +kernel
theorem dX9_circulation_5 : decode cX9_circulation 5 = .ok (.aload_n 0, 1) := by decide +kernel
theorem dX9_circulation_6 : decode cX9_circulation 6 = .ok (.iload_n 1, 1) := by decide +kernel
theorem dX9_circulation_7 : decode cX9_circulation 7 = .ok (.invokevirtual 267, 3) := by decide +kernel
theorem dX9_circulation_10 : decode cX9_circulation 10 = .ok (.ifCond .eq 14, 3) := by decide +kernel
theorem dX9_circulation_13 : decode cX9_circulation 13 = .ok (.iload_n 2, 1) := by decide +kernel
theorem dX9_circulation_14 : decode cX9_circulation 14 = .ok (.iconst 1, 1) := by decide +kernel
theorem dX9_circulation_15 : decode cX9_circulation 15 = .ok (.ldc_w 260, 3) := by decide +kernel
theorem dX9_circulation_18 : decode cX9_circulation 18 = .ok (.invokestatic 253, 3) := by decide +kernel
theorem dX9_circulation_21 : decode cX9_circulation 21 = .ok (.ifCond .ne 5, 3) := by decide +kernel
theorem dX9_circulation_24 : decode cX9_circulation 24 = .ok (.iconst 0, 1) := by decide +kernel
theorem dX9_circulation_25 : decode cX9_circulation 25 = .ok (.ireturn, 1) := by decide +kernel
theorem dX9_circulation_26 : decode cX9_circulation 26 = .ok (.aload_n 0, 1) := by decide +kernel
theorem dX9_circulation_27 : decode cX9_circulation 27 = .ok (.getfield 114, 3) := by decide +kernel
theorem dX9_circulation_30 : decode cX9_circulation 30 = .ok (.iload_n 1, 1) := by decide +kernel
theorem dX9_circulation_31 : decode cX9_circulation 31 = .ok (.iload_n 2, 1) := by decide +kernel
theorem dX9_circulation_32 : decode cX9_circulation 32 = .ok (.iastore, 1) := by decide +kernel
theorem dX9_circulation_33 : decode cX9_circulation 33 = .ok (.iconst 1, 1) := by decide +kernel
theorem dX9_circulation_34 : decode cX9_circulation 34 = .ok (.ireturn, 1) := by decide +kernel
set_option maxRecDepth 20000 in
theorem dX9_sells_0 : decode cX9_sells 0 = .ok (.aload_n 0, 1) := by decide +kernel
theorem dX9_sells_1 : decode cX9_sells 1 = .ok (.iconst 0, 1) := by decide +kernel
theorem dX9_sells_2 : decode cX9_sells 2 = .ok (.putfield 1, 3) := by decide +kernel
theorem dX9_sells_5 : decode cX9_sells 5 = .ok (.aload_n 0, 1) := by decide +kernel
theorem dX9_sells_6 : decode cX9_sells 6 = .ok (.iload_n 1, 1) := by decide +kernel
theorem dX9_sells_7 : decode cX9_sells 7 = .ok (.invokevirtual 267, 3) := by decide +kernel
theorem dX9_sells_10 : decode cX9_sells 10 = .ok (.ifCond .eq 17, 3) := by decide +kernel
theorem dX9_sells_13 : decode cX9_sells 13 = .ok (.iload_n 2, 1) := by decide +kernel
theorem dX9_sells_14 : decode cX9_sells 14 = .ok (.ifCond .lt 13, 3) := by decide +kernel
theorem dX9_sells_17 : decode cX9_sells 17 = .ok (.iload_n 2, 1) := by decide +kernel
theorem dX9_sells_18 : decode cX9_sells 18 = .ok (.aload_n 0, 1) := by decide +kernel
theorem dX9_sells_19 : decode cX9_sells 19 = .ok (.getfield 264, 3) := by decide +kernel
theorem dX9_sells_22 : decode cX9_sells 22 = .ok (.iconst 4, 1) := by decide +kernel
theorem dX9_sells_23 : decode cX9_sells 23 = .ok (.idiv, 1) := by decide +kernel
theorem dX9_sells_24 : decode cX9_sells 24 = .ok (.if_icmp .le 7, 3) := by decide +kernel
theorem dX9_sells_27 : decode cX9_sells 27 = .ok (.iconst (-1), 1) := by decide +kernel
theorem dX9_sells_28 : decode cX9_sells 28 = .ok (.goto 33, 3) := by decide +kernel
theorem dX9_sells_31 : decode cX9_sells 31 = .ok (.iload_n 2, 1) := by decide +kernel
theorem dX9_sells_32 : decode cX9_sells 32 = .ok (.aload_n 0, 1) := by decide +kernel
theorem dX9_sells_33 : decode cX9_sells 33 = .ok (.getfield 264, 3) := by decide +kernel
theorem dX9_sells_36 : decode cX9_sells 36 = .ok (.iconst 4, 1) := by decide +kernel
theorem dX9_sells_37 : decode cX9_sells 37 = .ok (.idiv, 1) := by decide +kernel
theorem dX9_sells_38 : decode cX9_sells 38 = .ok (.if_icmp .ne 12, 3) := by decide +kernel
theorem dX9_sells_41 : decode cX9_sells 41 = .ok (.aload_n 0, 1) := by decide +kernel
theorem dX9_sells_42 : decode cX9_sells 42 = .ok (.getfield 114, 3) := by decide +kernel
theorem dX9_sells_45 : decode cX9_sells 45 = .ok (.iload_n 1, 1) := by decide +kernel
theorem dX9_sells_46 : decode cX9_sells 46 = .ok (.iaload, 1) := by decide +kernel
theorem dX9_sells_47 : decode cX9_sells 47 = .ok (.goto 14, 3) := by decide +kernel
theorem dX9_sells_50 : decode cX9_sells 50 = .ok (.aload_n 0, 1) := by decide +kernel
theorem dX9_sells_51 : decode cX9_sells 51 = .ok (.getfield 117, 3) := by decide +kernel
theorem dX9_sells_54 : decode cX9_sells 54 = .ok (.bipush 51, 2) := by decide +kernel
theorem dX9_sells_56 : decode cX9_sells 56 = .ok (.iload_n 1, 1) := by decide +kernel
theorem dX9_sells_57 : decode cX9_sells 57 = .ok (.imul, 1) := by decide +kernel
theorem dX9_sells_58 : decode cX9_sells 58 = .ok (.iload_n 2, 1) := by decide +kernel
theorem dX9_sells_59 : decode cX9_sells 59 = .ok (.iadd, 1) := by decide +kernel
theorem dX9_sells_60 : decode cX9_sells 60 = .ok (.iaload, 1) := by decide +kernel
theorem dX9_sells_61 : decode cX9_sells 61 = .ok (.ireturn, 1) := by decide +kernel
set_option maxRecDepth 20000 in
theorem dX9_ill_0 : decode cX9_ill 0 = .ok (.aload_n 0, 1) := by decide +kernel
theorem dX9_ill_1 : decode cX9_ill 1 = .ok (.iconst 0, 1) := by decide +kernel
theorem dX9_ill_2 : decode cX9_ill 2 = .ok (.putfield 1, 3) := by decide +kernel
theorem dX9_ill_5 : decode cX9_ill 5 = .ok (.aload_n 0, 1) := by decide +kernel
theorem dX9_ill_6 : decode cX9_ill 6 = .ok (.iload_n 1, 1) := by decide +kernel
theorem dX9_ill_7 : decode cX9_ill 7 = .ok (.invokevirtual 270, 3) := by decide +kernel
theorem dX9_ill_10 : decode cX9_ill 10 = .ok (.ifCond .eq 13, 3) := by decide +kernel
theorem dX9_ill_13 : decode cX9_ill 13 = .ok (.iload_n 2, 1) := by decide +kernel
theorem dX9_ill_14 : decode cX9_ill 14 = .ok (.iconst 1, 1) := by decide +kernel
theorem dX9_ill_15 : decode cX9_ill 15 = .ok (.bipush 50, 2) := by decide +kernel
theorem dX9_ill_17 : decode cX9_ill 17 = .ok (.invokestatic 253, 3) := by decide +kernel
theorem dX9_ill_20 : decode cX9_ill 20 = .ok (.ifCond .ne 5, 3) := by decide +kernel
theorem dX9_ill_23 : decode cX9_ill 23 = .ok (.iconst 0, 1) := by decide +kernel
theorem dX9_ill_24 : decode cX9_ill 24 = .ok (.ireturn, 1) := by decide +kernel
theorem dX9_ill_25 : decode cX9_ill 25 = .ok (.aload_n 0, 1) := by decide +kernel
theorem dX9_ill_26 : decode cX9_ill 26 = .ok (.getfield 96, 3) := by decide +kernel
theorem dX9_ill_29 : decode cX9_ill 29 = .ok (.iload_n 1, 1) := by decide +kernel
theorem dX9_ill_30 : decode cX9_ill 30 = .ok (.aload_n 0, 1) := by decide +kernel
theorem dX9_ill_31 : decode cX9_ill 31 = .ok (.getfield 264, 3) := by decide +kernel
theorem dX9_ill_34 : decode cX9_ill 34 = .ok (.iload_n 2, 1) := by decide +kernel
theorem dX9_ill_35 : decode cX9_ill 35 = .ok (.iadd, 1) := by decide +kernel
theorem dX9_ill_36 : decode cX9_ill 36 = .ok (.iastore, 1) := by decide +kernel
theorem dX9_ill_37 : decode cX9_ill 37 = .ok (.iconst 1, 1) := by decide +kernel
theorem dX9_ill_38 : decode cX9_ill 38 = .ok (.ireturn, 1) := by decide +kernel
set_option maxRecDepth 20000 in
theorem dX9_stop_0 : decode cX9_stop 0 = .ok (.aload_n 0, 1) := by decide +kernel
theorem dX9_stop_1 : decode cX9_stop 1 = .ok (.iconst 0, 1) := by decide +kernel
theorem dX9_stop_2 : decode cX9_stop 2 = .ok (.putfield 1, 3) := by decide +kernel
theorem dX9_stop_5 : decode cX9_stop 5 = .ok (.aload_n 0, 1) := by decide +kernel
theorem dX9_stop_6 : decode cX9_stop 6 = .ok (.iload_n 1, 1) := by decide +kernel
theorem dX9_stop_7 : decode cX9_stop 7 = .ok (.invokevirtual 270, 3) := by decide +kernel
theorem dX9_stop_10 : decode cX9_stop 10 = .ok (.ifCond .eq 13, 3) := by decide +kernel
theorem dX9_stop_13 : decode cX9_stop 13 = .ok (.aload_n 0, 1) := by decide +kernel
theorem dX9_stop_14 : decode cX9_stop 14 = .ok (.getfield 92, 3) := by decide +kernel
theorem dX9_stop_17 : decode cX9_stop 17 = .ok (.iload_n 1, 1) := by decide +kernel
theorem dX9_stop_18 : decode cX9_stop 18 = .ok (.baload, 1) := by decide +kernel
theorem dX9_stop_19 : decode cX9_stop 19 = .ok (.iload_n 2, 1) := by decide +kernel
theorem dX9_stop_20 : decode cX9_stop 20 = .ok (.if_icmp .ne 5, 3) := by decide +kernel
theorem dX9_stop_23 : decode cX9_stop 23 = .ok (.iconst 0, 1) := by decide +kernel
theorem dX9_stop_24 : decode cX9_stop 24 = .ok (.ireturn, 1) := by decide +kernel
theorem dX9_stop_25 : decode cX9_stop 25 = .ok (.aload_n 0, 1) := by decide +kernel
theorem dX9_stop_26 : decode cX9_stop 26 = .ok (.getfield 92, 3) := by decide +kernel
theorem dX9_stop_29 : decode cX9_stop 29 = .ok (.iload_n 1, 1) := by decide +kernel
theorem dX9_stop_30 : decode cX9_stop 30 = .ok (.iload_n 2, 1) := by decide +kernel
theorem dX9_stop_31 : decode cX9_stop 31 = .ok (.bastore, 1) := by decide +kernel
theorem dX9_stop_32 : decode cX9_stop 32 = .ok (.iconst 1, 1) := by decide +kernel
theorem dX9_stop_33 : decode cX9_stop 33 = .ok (.ireturn, 1) := by decide +kernel
set_option maxRecDepth 20000 in
theorem dX9_panel_0 : decode cX9_panel 0 = .ok (.aload_n 0, 1) := by decide +kernel
theorem dX9_panel_1 : decode cX9_panel 1 = .ok (.iconst 0, 1) := by decide +kernel
theorem dX9_panel_2 : decode cX9_panel 2 = .ok (.putfield 1, 3) := by decide +kernel
theorem dX9_panel_5 : decode cX9_panel 5 = .ok (.aload_n 0, 1) := by decide +kernel
theorem dX9_panel_6 : decode cX9_panel 6 = .ok (.iload_n 1, 1) := by decide +kernel
theorem dX9_panel_7 : decode cX9_panel 7 = .ok (.invokevirtual 270, 3) := by decide +kernel
theorem dX9_panel_10 : decode cX9_panel 10 = .ok (.ifCond .eq 12, 3) := by decide +kernel
theorem dX9_panel_13 : decode cX9_panel 13 = .ok (.aload_n 0, 1) := by decide +kernel
theorem dX9_panel_14 : decode cX9_panel 14 = .ok (.getfield 99, 3) := by decide +kernel
theorem dX9_panel_17 : decode cX9_panel 17 = .ok (.iload_n 1, 1) := by decide +kernel
theorem dX9_panel_18 : decode cX9_panel 18 = .ok (.iaload, 1) := by decide +kernel
theorem dX9_panel_19 : decode cX9_panel 19 = .ok (.goto 4, 3) := by decide +kernel
theorem dX9_panel_22 : decode cX9_panel 22 = .ok (.iconst (-1), 1) := by decide +kernel
theorem dX9_panel_23 : decode cX9_panel 23 = .ok (.ireturn, 1) := by decide +kernel
theorem dX9_isContract_0 : decode cX9_isContract 0 = .ok (.iload_n 1, 1) := by decide +kernel
theorem dX9_isContract_1 : decode cX9_isContract 1 = .ok (.ifCond .lt 15, 3) := by decide +kernel
theorem dX9_isContract_4 : decode cX9_isContract 4 = .ok (.iload_n 1, 1) := by decide +kernel
theorem dX9_isContract_5 : decode cX9_isContract 5 = .ok (.aload_n 0, 1) := by decide +kernel
theorem dX9_isContract_6 : decode cX9_isContract 6 = .ok (.getfield 273, 3) := by decide +kernel
theorem dX9_isContract_9 : decode cX9_isContract 9 = .ok (.if_icmp .ge 7, 3) := by decide +kernel
theorem dX9_isContract_12 : decode cX9_isContract 12 = .ok (.iconst 1, 1) := by decide +kernel
theorem dX9_isContract_13 : decode cX9_isContract 13 = .ok (.goto 4, 3) := by decide +kernel
theorem dX9_isContract_16 : decode cX9_isContract 16 = .ok (.iconst 0, 1) := by decide +kernel
theorem dX9_isContract_17 : decode cX9_isContract 17 = .ok (.ireturn, 1) := by decide +kernel
theorem dX9_runsIn_0 : decode cX9_runsIn 0 = .ok (.aload_n 0, 1) := by decide +kernel
theorem dX9_runsIn_1 : decode cX9_runsIn 1 = .ok (.getfield 126, 3) := by decide +kernel
theorem dX9_runsIn_4 : decode cX9_runsIn 4 = .ok (.iload_n 1, 1) := by decide +kernel
theorem dX9_runsIn_5 : decode cX9_runsIn 5 = .ok (.iaload, 1) := by decide +kernel
theorem dX9_runsIn_6 : decode cX9_runsIn 6 = .ok (.iload_n 2, 1) := by decide +kernel
theorem dX9_runsIn_7 : decode cX9_runsIn 7 = .ok (.if_icmp .gt 27, 3) := by decide +kernel
theorem dX9_runsIn_10 : decode cX9_runsIn 10 = .ok (.aload_n 0, 1) := by decide +kernel
theorem dX9_runsIn_11 : decode cX9_runsIn 11 = .ok (.getfield 129, 3) := by decide +kernel
theorem dX9_runsIn_14 : decode cX9_runsIn 14 = .ok (.iload_n 1, 1) := by decide +kernel
theorem dX9_runsIn_15 : decode cX9_runsIn 15 = .ok (.iaload, 1) := by decide +kernel
theorem dX9_runsIn_16 : decode cX9_runsIn 16 = .ok (.iconst (-1), 1) := by decide +kernel
theorem dX9_runsIn_17 : decode cX9_runsIn 17 = .ok (.if_icmp .eq 13, 3) := by decide +kernel
theorem dX9_runsIn_20 : decode cX9_runsIn 20 = .ok (.iload_n 2, 1) := by decide +kernel
theorem dX9_runsIn_21 : decode cX9_runsIn 21 = .ok (.aload_n 0, 1) := by decide +kernel
theorem dX9_runsIn_22 : decode cX9_runsIn 22 = .ok (.getfield 129, 3) := by decide +kernel
theorem dX9_runsIn_25 : decode cX9_runsIn 25 = .ok (.iload_n 1, 1) := by decide +kernel
theorem dX9_runsIn_26 : decode cX9_runsIn 26 = .ok (.iaload, 1) := by decide +kernel
theorem dX9_runsIn_27 : decode cX9_runsIn 27 = .ok (.if_icmp .gt 7, 3) := by decide +kernel
theorem dX9_runsIn_30 : decode cX9_runsIn 30 = .ok (.iconst 1, 1) := by decide +kernel
theorem dX9_runsIn_31 : decode cX9_runsIn 31 = .ok (.goto 4, 3) := by decide +kernel
theorem dX9_runsIn_34 : decode cX9_runsIn 34 = .ok (.iconst 0, 1) := by decide +kernel
theorem dX9_runsIn_35 : decode cX9_runsIn 35 = .ok (.ireturn, 1) := by decide +kernel
set_option maxRecDepth 20000 in
theorem dX9_why_0 : decode cX9_why 0 = .ok (.aload_n 0, 1) := by decide +kernel
theorem dX9_why_1 : decode cX9_why 1 = .ok (.iload_n 1, 1) := by decide +kernel
theorem dX9_why_2 : decode cX9_why 2 = .ok (.invokevirtual 267, 3) := by decide +kernel
theorem dX9_why_5 : decode cX9_why 5 = .ok (.ifCond .eq 20, 3) := by decide +kernel
theorem dX9_why_8 : decode cX9_why 8 = .ok (.aload_n 0, 1) := by decide +kernel
theorem dX9_why_9 : decode cX9_why 9 = .ok (.iload_n 2, 1) := by decide +kernel
theorem dX9_why_10 : decode cX9_why 10 = .ok (.invokevirtual 270, 3) := by decide +kernel
theorem dX9_why_13 : decode cX9_why 13 = .ok (.ifCond .eq 12, 3) := by decide +kernel
theorem dX9_why_16 : decode cX9_why 16 = .ok (.aload_n 0, 1) := by decide +kernel
theorem dX9_why_17 : decode cX9_why 17 = .ok (.getfield 273, 3) := by decide +kernel
theorem dX9_why_20 : decode cX9_why 20 = .ok (.bipush 60, 2) := by decide +kernel
theorem dX9_why_22 : decode cX9_why 22 = .ok (.if_icmp .ne 5, 3) := by decide +kernel
theorem dX9_why_25 : decode cX9_why 25 = .ok (.iconst 1, 1) := by decide +kernel
theorem dX9_why_26 : decode cX9_why 26 = .ok (.ireturn, 1) := by decide +kernel
theorem dX9_why_27 : decode cX9_why 27 = .ok (.iconst 0, 1) := by decide +kernel
theorem dX9_why_28 : decode cX9_why 28 = .ok (.istore_n 3, 1) := by decide +kernel
theorem dX9_why_29 : decode cX9_why 29 = .ok (.iconst 0, 1) := by decide +kernel
theorem dX9_why_30 : decode cX9_why 30 = .ok (.istore 4, 2) := by decide +kernel
theorem dX9_why_32 : decode cX9_why 32 = .ok (.iconst 0, 1) := by decide +kernel
theorem dX9_why_33 : decode cX9_why 33 = .ok (.istore 5, 2) := by decide +kernel
theorem dX9_why_35 : decode cX9_why 35 = .ok (.iload 5, 2) := by decide +kernel
theorem dX9_why_37 : decode cX9_why 37 = .ok (.aload_n 0, 1) := by decide +kernel
theorem dX9_why_38 : decode cX9_why 38 = .ok (.getfield 273, 3) := by decide +kernel
theorem dX9_why_41 : decode cX9_why 41 = .ok (.if_icmp .ge 148, 3) := by decide +kernel
theorem dX9_why_44 : decode cX9_why 44 = .ok (.aload_n 0, 1) := by decide +kernel
theorem dX9_why_45 : decode cX9_why 45 = .ok (.getfield 123, 3) := by decide +kernel
theorem dX9_why_48 : decode cX9_why 48 = .ok (.iload 5, 2) := by decide +kernel
theorem dX9_why_50 : decode cX9_why 50 = .ok (.iaload, 1) := by decide +kernel
theorem dX9_why_51 : decode cX9_why 51 = .ok (.iload_n 2, 1) := by decide +kernel
theorem dX9_why_52 : decode cX9_why 52 = .ok (.if_icmp .ne 131, 3) := by decide +kernel
theorem dX9_why_55 : decode cX9_why 55 = .ok (.aload_n 0, 1) := by decide +kernel
theorem dX9_why_56 : decode cX9_why 56 = .ok (.iload 5, 2) := by decide +kernel
theorem dX9_why_58 : decode cX9_why 58 = .ok (.aload_n 0, 1) := by decide +kernel
theorem dX9_why_59 : decode cX9_why 59 = .ok (.getfield 264, 3) := by decide +kernel
theorem dX9_why_62 : decode cX9_why 62 = .ok (.iconst 1, 1) := by decide +kernel
theorem dX9_why_63 : decode cX9_why 63 = .ok (.iadd, 1) := by decide +kernel
theorem dX9_why_64 : decode cX9_why 64 = .ok (.invokevirtual 276, 3) := by decide +kernel
theorem dX9_why_67 : decode cX9_why 67 = .ok (.ifCond .eq 116, 3) := by decide +kernel
theorem dX9_why_70 : decode cX9_why 70 = .ok (.aload_n 0, 1) := by decide +kernel
theorem dX9_why_71 : decode cX9_why 71 = .ok (.getfield 108, 3) := by decide +kernel
theorem dX9_why_74 : decode cX9_why 74 = .ok (.aload_n 0, 1) := by decide +kernel
theorem dX9_why_75 : decode cX9_why 75 = .ok (.getfield 120, 3) := by decide +kernel
theorem dX9_why_78 : decode cX9_why 78 = .ok (.iload 5, 2) := by decide +kernel
theorem dX9_why_80 : decode cX9_why 80 = .ok (.iaload, 1) := by decide +kernel
theorem dX9_why_81 : decode cX9_why 81 = .ok (.iaload, 1) := by decide +kernel
theorem dX9_why_82 : decode cX9_why 82 = .ok (.aload_n 0, 1) := by decide +kernel
theorem dX9_why_83 : decode cX9_why 83 = .ok (.getfield 108, 3) := by decide +kernel
theorem dX9_why_86 : decode cX9_why 86 = .ok (.iload_n 1, 1) := by decide +kernel
theorem dX9_why_87 : decode cX9_why 87 = .ok (.iaload, 1) := by decide +kernel
theorem dX9_why_88 : decode cX9_why 88 = .ok (.isub, 1) := by decide +kernel
theorem dX9_why_89 : decode cX9_why 89 = .ok (.istore 6, 2) := by decide +kernel
theorem dX9_why_91 : decode cX9_why 91 = .ok (.aload_n 0, 1) := by decide +kernel
theorem dX9_why_92 : decode cX9_why 92 = .ok (.getfield 111, 3) := by decide +kernel
theorem dX9_why_95 : decode cX9_why 95 = .ok (.aload_n 0, 1) := by decide +kernel
theorem dX9_why_96 : decode cX9_why 96 = .ok (.getfield 120, 3) := by decide +kernel
theorem dX9_why_99 : decode cX9_why 99 = .ok (.iload 5, 2) := by decide +kernel
theorem dX9_why_101 : decode cX9_why 101 = .ok (.iaload, 1) := by decide +kernel
theorem dX9_why_102 : decode cX9_why 102 = .ok (.iaload, 1) := by decide +kernel
theorem dX9_why_103 : decode cX9_why 103 = .ok (.aload_n 0, 1) := by decide +kernel
theorem dX9_why_104 : decode cX9_why 104 = .ok (.getfield 111, 3) := by decide +kernel
theorem dX9_why_107 : decode cX9_why 107 = .ok (.iload_n 1, 1) := by decide +kernel
theorem dX9_why_108 : decode cX9_why 108 = .ok (.iaload, 1) := by decide +kernel
theorem dX9_why_109 : decode cX9_why 109 = .ok (.isub, 1) := by decide +kernel
theorem dX9_why_110 : decode cX9_why 110 = .ok (.istore 7, 2) := by decide +kernel
theorem dX9_why_112 : decode cX9_why 112 = .ok (.iload_n 3, 1) := by decide +kernel
theorem dX9_why_113 : decode cX9_why 113 = .ok (.ifCond .ne 14, 3) := by decide +kernel
theorem dX9_why_116 : decode cX9_why 116 = .ok (.aload_n 0, 1) := by decide +kernel
theorem dX9_why_117 : decode cX9_why 117 = .ok (.getfield 120, 3) := by decide +kernel
theorem dX9_why_120 : decode cX9_why 120 = .ok (.iload 5, 2) := by decide +kernel
theorem dX9_why_122 : decode cX9_why 122 = .ok (.iaload, 1) := by decide +kernel
theorem dX9_why_123 : decode cX9_why 123 = .ok (.iload_n 1, 1) := by decide +kernel
theorem dX9_why_124 : decode cX9_why 124 = .ok (.if_icmp .ne 7, 3) := by decide +kernel
theorem dX9_why_127 : decode cX9_why 127 = .ok (.iconst 1, 1) := by decide +kernel
theorem dX9_why_128 : decode cX9_why 128 = .ok (.goto 4, 3) := by decide +kernel
theorem dX9_why_131 : decode cX9_why 131 = .ok (.iconst 0, 1) := by decide +kernel
theorem dX9_why_132 : decode cX9_why 132 = .ok (.istore_n 3, 1) := by decide +kernel
theorem dX9_why_133 : decode cX9_why 133 = .ok (.iload 4, 2) := by decide +kernel
theorem dX9_why_135 : decode cX9_why 135 = .ok (.ifCond .ne 41, 3) := by decide +kernel
theorem dX9_why_138 : decode cX9_why 138 = .ok (.aload_n 0, 1) := by decide +kernel
theorem dX9_why_139 : decode cX9_why 139 = .ok (.getfield 120, 3) := by decide +kernel
theorem dX9_why_142 : decode cX9_why 142 = .ok (.iload 5, 2) := by decide +kernel
theorem dX9_why_144 : decode cX9_why 144 = .ok (.iaload, 1) := by decide +kernel
theorem dX9_why_145 : decode cX9_why 145 = .ok (.iload_n 1, 1) := by decide +kernel
theorem dX9_why_146 : decode cX9_why 146 = .ok (.if_icmp .eq 34, 3) := by decide +kernel
theorem dX9_why_149 : decode cX9_why 149 = .ok (.iload 6, 2) := by decide +kernel
theorem dX9_why_151 : decode cX9_why 151 = .ok (.iload 6, 2) := by decide +kernel
theorem dX9_why_153 : decode cX9_why 153 = .ok (.imul, 1) := by decide +kernel
theorem dX9_why_154 : decode cX9_why 154 = .ok (.iload 7, 2) := by decide +kernel
theorem dX9_why_156 : decode cX9_why 156 = .ok (.iload 7, 2) := by decide +kernel
theorem dX9_why_158 : decode cX9_why 158 = .ok (.imul, 1) := by decide +kernel
theorem dX9_why_159 : decode cX9_why 159 = .ok (.iadd, 1) := by decide +kernel
theorem dX9_why_160 : decode cX9_why 160 = .ok (.aload_n 0, 1) := by decide +kernel
theorem dX9_why_161 : decode cX9_why 161 = .ok (.getfield 86, 3) := by decide +kernel
theorem dX9_why_164 : decode cX9_why 164 = .ok (.iload_n 2, 1) := by decide +kernel
theorem dX9_why_165 : decode cX9_why 165 = .ok (.iaload, 1) := by decide +kernel
theorem dX9_why_166 : decode cX9_why 166 = .ok (.aload_n 0, 1) := by decide +kernel
theorem dX9_why_167 : decode cX9_why 167 = .ok (.getfield 86, 3) := by decide +kernel
theorem dX9_why_170 : decode cX9_why 170 = .ok (.iload_n 2, 1) := by decide +kernel
theorem dX9_why_171 : decode cX9_why 171 = .ok (.iaload, 1) := by decide +kernel
theorem dX9_why_172 : decode cX9_why 172 = .ok (.imul, 1) := by decide +kernel
theorem dX9_why_173 : decode cX9_why 173 = .ok (.if_icmp .ge 7, 3) := by decide +kernel
theorem dX9_why_176 : decode cX9_why 176 = .ok (.iconst 1, 1) := by decide +kernel
theorem dX9_why_177 : decode cX9_why 177 = .ok (.goto 4, 3) := by decide +kernel
theorem dX9_why_180 : decode cX9_why 180 = .ok (.iconst 0, 1) := by decide +kernel
theorem dX9_why_181 : decode cX9_why 181 = .ok (.istore 4, 2) := by decide +kernel
theorem dX9_why_183 : decode cX9_why 183 = .ok (.iinc 5 1, 3) := by decide +kernel
theorem dX9_why_186 : decode cX9_why 186 = .ok (.goto (-151), 3) := by decide +kernel
theorem dX9_why_189 : decode cX9_why 189 = .ok (.iload_n 3, 1) := by decide +kernel
theorem dX9_why_190 : decode cX9_why 190 = .ok (.ifCond .eq 7, 3) := by decide +kernel
theorem dX9_why_193 : decode cX9_why 193 = .ok (.iconst 2, 1) := by decide +kernel
theorem dX9_why_194 : decode cX9_why 194 = .ok (.goto 26, 3) := by decide +kernel
theorem dX9_why_197 : decode cX9_why 197 = .ok (.iload 4, 2) := by decide +kernel
theorem dX9_why_199 : decode cX9_why 199 = .ok (.ifCond .eq 7, 3) := by decide +kernel
theorem dX9_why_202 : decode cX9_why 202 = .ok (.iconst 3, 1) := by decide +kernel
theorem dX9_why_203 : decode cX9_why 203 = .ok (.goto 17, 3) := by decide +kernel
theorem dX9_why_206 : decode cX9_why 206 = .ok (.aload_n 0, 1) := by decide +kernel
theorem dX9_why_207 : decode cX9_why 207 = .ok (.getfield 92, 3) := by decide +kernel
theorem dX9_why_210 : decode cX9_why 210 = .ok (.iload_n 2, 1) := by decide +kernel
theorem dX9_why_211 : decode cX9_why 211 = .ok (.baload, 1) := by decide +kernel
theorem dX9_why_212 : decode cX9_why 212 = .ok (.ifCond .eq 7, 3) := by decide +kernel
theorem dX9_why_215 : decode cX9_why 215 = .ok (.iconst 4, 1) := by decide +kernel
theorem dX9_why_216 : decode cX9_why 216 = .ok (.goto 4, 3) := by decide +kernel
theorem dX9_why_219 : decode cX9_why 219 = .ok (.iconst 0, 1) := by decide +kernel
theorem dX9_why_220 : decode cX9_why 220 = .ok (.ireturn, 1) := by decide +kernel
set_option maxRecDepth 20000 in
theorem dX9_sign_0 : decode cX9_sign 0 = .ok (.aload_n 0, 1) := by decide +kernel
theorem dX9_sign_1 : decode cX9_sign 1 = .ok (.iconst 0, 1) := by decide +kernel
theorem dX9_sign_2 : decode cX9_sign 2 = .ok (.putfield 1, 3) := by decide +kernel
theorem dX9_sign_5 : decode cX9_sign 5 = .ok (.aload_n 0, 1) := by decide +kernel
theorem dX9_sign_6 : decode cX9_sign 6 = .ok (.iload_n 1, 1) := by decide +kernel
theorem dX9_sign_7 : decode cX9_sign 7 = .ok (.iload_n 2, 1) := by decide +kernel
theorem dX9_sign_8 : decode cX9_sign 8 = .ok (.invokevirtual 280, 3) := by decide +kernel
theorem dX9_sign_11 : decode cX9_sign 11 = .ok (.istore_n 3, 1) := by decide +kernel
theorem dX9_sign_12 : decode cX9_sign 12 = .ok (.iload_n 3, 1) := by decide +kernel
theorem dX9_sign_13 : decode cX9_sign 13 = .ok (.ifCond .le 5, 3) := by decide +kernel
theorem dX9_sign_16 : decode cX9_sign 16 = .ok (.iload_n 3, 1) := by decide +kernel
theorem dX9_sign_17 : decode cX9_sign 17 = .ok (.ireturn, 1) := by decide +kernel
theorem dX9_sign_18 : decode cX9_sign 18 = .ok (.aload_n 0, 1) := by decide +kernel
theorem dX9_sign_19 : decode cX9_sign 19 = .ok (.getfield 120, 3) := by decide +kernel
theorem dX9_sign_22 : decode cX9_sign 22 = .ok (.aload_n 0, 1) := by decide +kernel
theorem dX9_sign_23 : decode cX9_sign 23 = .ok (.getfield 273, 3) := by decide +kernel
theorem dX9_sign_26 : decode cX9_sign 26 = .ok (.iload_n 1, 1) := by decide +kernel
theorem dX9_sign_27 : decode cX9_sign 27 = .ok (.iastore, 1) := by decide +kernel
theorem dX9_sign_28 : decode cX9_sign 28 = .ok (.aload_n 0, 1) := by decide +kernel
theorem dX9_sign_29 : decode cX9_sign 29 = .ok (.getfield 123, 3) := by decide +kernel
theorem dX9_sign_32 : decode cX9_sign 32 = .ok (.aload_n 0, 1) := by decide +kernel
theorem dX9_sign_33 : decode cX9_sign 33 = .ok (.getfield 273, 3) := by decide +kernel
theorem dX9_sign_36 : decode cX9_sign 36 = .ok (.iload_n 2, 1) := by decide +kernel
theorem dX9_sign_37 : decode cX9_sign 37 = .ok (.iastore, 1) := by decide +kernel
theorem dX9_sign_38 : decode cX9_sign 38 = .ok (.aload_n 0, 1) := by decide +kernel
theorem dX9_sign_39 : decode cX9_sign 39 = .ok (.getfield 126, 3) := by decide +kernel
theorem dX9_sign_42 : decode cX9_sign 42 = .ok (.aload_n 0, 1) := by decide +kernel
theorem dX9_sign_43 : decode cX9_sign 43 = .ok (.getfield 273, 3) := by decide +kernel
theorem dX9_sign_46 : decode cX9_sign 46 = .ok (.aload_n 0, 1) := by decide +kernel
theorem dX9_sign_47 : decode cX9_sign 47 = .ok (.getfield 264, 3) := by decide +kernel
theorem dX9_sign_50 : decode cX9_sign 50 = .ok (.iconst 1, 1) := by decide +kernel
theorem dX9_sign_51 : decode cX9_sign 51 = .ok (.iadd, 1) := by decide +kernel
theorem dX9_sign_52 : decode cX9_sign 52 = .ok (.iastore, 1) := by decide +kernel
theorem dX9_sign_53 : decode cX9_sign 53 = .ok (.aload_n 0, 1) := by decide +kernel
theorem dX9_sign_54 : decode cX9_sign 54 = .ok (.getfield 129, 3) := by decide +kernel
theorem dX9_sign_57 : decode cX9_sign 57 = .ok (.aload_n 0, 1) := by decide +kernel
theorem dX9_sign_58 : decode cX9_sign 58 = .ok (.getfield 273, 3) := by decide +kernel
theorem dX9_sign_61 : decode cX9_sign 61 = .ok (.iconst (-1), 1) := by decide +kernel
theorem dX9_sign_62 : decode cX9_sign 62 = .ok (.iastore, 1) := by decide +kernel
theorem dX9_sign_63 : decode cX9_sign 63 = .ok (.aload_n 0, 1) := by decide +kernel
theorem dX9_sign_64 : decode cX9_sign 64 = .ok (.getfield 132, 3) := by decide +kernel
theorem dX9_sign_67 : decode cX9_sign 67 = .ok (.aload_n 0, 1) := by decide +kernel
theorem dX9_sign_68 : decode cX9_sign 68 = .ok (.getfield 273, 3) := by decide +kernel
theorem dX9_sign_71 : decode cX9_sign 71 = .ok (.iconst (-1), 1) := by decide +kernel
theorem dX9_sign_72 : decode cX9_sign 72 = .ok (.iastore, 1) := by decide +kernel
theorem dX9_sign_73 : decode cX9_sign 73 = .ok (.aload_n 0, 1) := by decide +kernel
theorem dX9_sign_74 : decode cX9_sign 74 = .ok (.dup, 1) := by decide +kernel
theorem dX9_sign_75 : decode cX9_sign 75 = .ok (.getfield 273, 3) := by decide +kernel
theorem dX9_sign_78 : decode cX9_sign 78 = .ok (.iconst 1, 1) := by decide +kernel
theorem dX9_sign_79 : decode cX9_sign 79 = .ok (.iadd, 1) := by decide +kernel
theorem dX9_sign_80 : decode cX9_sign 80 = .ok (.putfield 273, 3) := by decide +kernel
theorem dX9_sign_83 : decode cX9_sign 83 = .ok (.bipush 99, 2) := by decide +kernel
theorem dX9_sign_85 : decode cX9_sign 85 = .ok (.aload_n 0, 1) := by decide +kernel
theorem dX9_sign_86 : decode cX9_sign 86 = .ok (.getfield 273, 3) := by decide +kernel
theorem dX9_sign_89 : decode cX9_sign 89 = .ok (.iadd, 1) := by decide +kernel
theorem dX9_sign_90 : decode cX9_sign 90 = .ok (.ireturn, 1) := by decide +kernel
set_option maxRecDepth 20000 in
theorem dX9_cancel_0 : decode cX9_cancel 0 = .ok (.aload_n 0, 1) := by decide +kernel
theorem dX9_cancel_1 : decode cX9_cancel 1 = .ok (.iconst 0, 1) := by decide +kernel
theorem dX9_cancel_2 : decode cX9_cancel 2 = .ok (.putfield 1, 3) := by decide +kernel
theorem dX9_cancel_5 : decode cX9_cancel 5 = .ok (.aload_n 0, 1) := by decide +kernel
theorem dX9_cancel_6 : decode cX9_cancel 6 = .ok (.iload_n 1, 1) := by decide +kernel
theorem dX9_cancel_7 : decode cX9_cancel 7 = .ok (.invokevirtual 284, 3) := by decide +kernel
theorem dX9_cancel_10 : decode cX9_cancel 10 = .ok (.ifCond .eq 13, 3) := by decide +kernel
theorem dX9_cancel_13 : decode cX9_cancel 13 = .ok (.aload_n 0, 1) := by decide +kernel
theorem dX9_cancel_14 : decode cX9_cancel 14 = .ok (.getfield 129, 3) := by decide +kernel
theorem dX9_cancel_17 : decode cX9_cancel 17 = .ok (.iload_n 1, 1) := by decide +kernel
theorem dX9_cancel_18 : decode cX9_cancel 18 = .ok (.iaload, 1) := by decide +kernel
theorem dX9_cancel_19 : decode cX9_cancel 19 = .ok (.iconst (-1), 1) := by decide +kernel
theorem dX9_cancel_20 : decode cX9_cancel 20 = .ok (.if_icmp .eq 5, 3) := by decide +kernel
theorem dX9_cancel_23 : decode cX9_cancel 23 = .ok (.iconst (-1), 1) := by decide +kernel
theorem dX9_cancel_24 : decode cX9_cancel 24 = .ok (.ireturn, 1) := by decide +kernel
theorem dX9_cancel_25 : decode cX9_cancel 25 = .ok (.aload_n 0, 1) := by decide +kernel
theorem dX9_cancel_26 : decode cX9_cancel 26 = .ok (.getfield 129, 3) := by decide +kernel
theorem dX9_cancel_29 : decode cX9_cancel 29 = .ok (.iload_n 1, 1) := by decide +kernel
theorem dX9_cancel_30 : decode cX9_cancel 30 = .ok (.aload_n 0, 1) := by decide +kernel
theorem dX9_cancel_31 : decode cX9_cancel 31 = .ok (.getfield 264, 3) := by decide +kernel
theorem dX9_cancel_34 : decode cX9_cancel 34 = .ok (.iconst 4, 1) := by decide +kernel
theorem dX9_cancel_35 : decode cX9_cancel 35 = .ok (.iadd, 1) := by decide +kernel
theorem dX9_cancel_36 : decode cX9_cancel 36 = .ok (.iastore, 1) := by decide +kernel
theorem dX9_cancel_37 : decode cX9_cancel 37 = .ok (.aload_n 0, 1) := by decide +kernel
theorem dX9_cancel_38 : decode cX9_cancel 38 = .ok (.getfield 129, 3) := by decide +kernel
theorem dX9_cancel_41 : decode cX9_cancel 41 = .ok (.iload_n 1, 1) := by decide +kernel
theorem dX9_cancel_42 : decode cX9_cancel 42 = .ok (.iaload, 1) := by decide +kernel
theorem dX9_cancel_43 : decode cX9_cancel 43 = .ok (.ireturn, 1) := by decide +kernel
set_option maxRecDepth 20000 in
theorem dX9_miss_0 : decode cX9_miss 0 = .ok (.aload_n 0, 1) := by decide +kernel
theorem dX9_miss_1 : decode cX9_miss 1 = .ok (.iconst 0, 1) := by decide +kernel
theorem dX9_miss_2 : decode cX9_miss 2 = .ok (.putfield 1, 3) := by decide +kernel
theorem dX9_miss_5 : decode cX9_miss 5 = .ok (.aload_n 0, 1) := by decide +kernel
theorem dX9_miss_6 : decode cX9_miss 6 = .ok (.iload_n 1, 1) := by decide +kernel
theorem dX9_miss_7 : decode cX9_miss 7 = .ok (.invokevirtual 284, 3) := by decide +kernel
theorem dX9_miss_10 : decode cX9_miss 10 = .ok (.ifCond .eq 12, 3) := by decide +kernel
theorem dX9_miss_13 : decode cX9_miss 13 = .ok (.aload_n 0, 1) := by decide +kernel
theorem dX9_miss_14 : decode cX9_miss 14 = .ok (.getfield 138, 3) := by decide +kernel
theorem dX9_miss_17 : decode cX9_miss 17 = .ok (.iload_n 1, 1) := by decide +kernel
theorem dX9_miss_18 : decode cX9_miss 18 = .ok (.baload, 1) := by decide +kernel
theorem dX9_miss_19 : decode cX9_miss 19 = .ok (.ifCond .eq 5, 3) := by decide +kernel
theorem dX9_miss_22 : decode cX9_miss 22 = .ok (.iconst 0, 1) := by decide +kernel
theorem dX9_miss_23 : decode cX9_miss 23 = .ok (.ireturn, 1) := by decide +kernel
theorem dX9_miss_24 : decode cX9_miss 24 = .ok (.aload_n 0, 1) := by decide +kernel
theorem dX9_miss_25 : decode cX9_miss 25 = .ok (.getfield 138, 3) := by decide +kernel
theorem dX9_miss_28 : decode cX9_miss 28 = .ok (.iload_n 1, 1) := by decide +kernel
theorem dX9_miss_29 : decode cX9_miss 29 = .ok (.iconst 1, 1) := by decide +kernel
theorem dX9_miss_30 : decode cX9_miss 30 = .ok (.bastore, 1) := by decide +kernel
theorem dX9_miss_31 : decode cX9_miss 31 = .ok (.iconst 1, 1) := by decide +kernel
theorem dX9_miss_32 : decode cX9_miss 32 = .ok (.ireturn, 1) := by decide +kernel
set_option maxRecDepth 20000 in
theorem dX9_isOfRun_0 : decode cX9_isOfRun 0 = .ok (.aload_n 0, 1) := by decide +kernel
theorem dX9_isOfRun_1 : decode cX9_isOfRun 1 = .ok (.iload_n 1, 1) := by decide +kernel
theorem dX9_isOfRun_2 : decode cX9_isOfRun 2 = .ok (.aload_n 0, 1) := by decide +kernel
theorem dX9_isOfRun_3 : decode cX9_isOfRun 3 = .ok (.getfield 102, 3) := by decide +kernel
theorem dX9_isOfRun_6 : decode cX9_isOfRun 6 = .ok (.sipush 202, 3) := by decide +kernel
theorem dX9_isOfRun_9 : decode cX9_isOfRun 9 = .ok (.aload_n 0, 1) := by decide +kernel
theorem dX9_isOfRun_10 : decode cX9_isOfRun 10 = .ok (.getfield 123, 3) := by decide +kernel
theorem dX9_isOfRun_13 : decode cX9_isOfRun 13 = .ok (.iload_n 1, 1) := by decide +kernel
theorem dX9_isOfRun_14 : decode cX9_isOfRun 14 = .ok (.iaload, 1) := by decide +kernel
theorem dX9_isOfRun_15 : decode cX9_isOfRun 15 = .ok (.imul, 1) := by decide +kernel
theorem dX9_isOfRun_16 : decode cX9_isOfRun 16 = .ok (.iload_n 2, 1) := by decide +kernel
theorem dX9_isOfRun_17 : decode cX9_isOfRun 17 = .ok (.iadd, 1) := by decide +kernel
theorem dX9_isOfRun_18 : decode cX9_isOfRun 18 = .ok (.iaload, 1) := by decide +kernel
theorem dX9_isOfRun_19 : decode cX9_isOfRun 19 = .ok (.invokevirtual 276, 3) := by decide +kernel
theorem dX9_isOfRun_22 : decode cX9_isOfRun 22 = .ok (.ireturn, 1) := by decide +kernel
set_option maxRecDepth 20000 in
theorem dX9_missing_0 : decode cX9_missing 0 = .ok (.iconst 1, 1) := by decide +kernel
theorem dX9_missing_1 : decode cX9_missing 1 = .ok (.istore_n 2, 1) := by decide +kernel
theorem dX9_missing_2 : decode cX9_missing 2 = .ok (.iload_n 2, 1) := by decide +kernel
theorem dX9_missing_3 : decode cX9_missing 3 = .ok (.aload_n 0, 1) := by decide +kernel
theorem dX9_missing_4 : decode cX9_missing 4 = .ok (.getfield 99, 3) := by decide +kernel
theorem dX9_missing_7 : decode cX9_missing 7 = .ok (.aload_n 0, 1) := by decide +kernel
theorem dX9_missing_8 : decode cX9_missing 8 = .ok (.getfield 123, 3) := by decide +kernel
theorem dX9_missing_11 : decode cX9_missing 11 = .ok (.iload_n 1, 1) := by decide +kernel
theorem dX9_missing_12 : decode cX9_missing 12 = .ok (.iaload, 1) := by decide +kernel
theorem dX9_missing_13 : decode cX9_missing 13 = .ok (.iaload, 1) := by decide +kernel
theorem dX9_missing_14 : decode cX9_missing 14 = .ok (.if_icmp .gt 35, 3) := by decide +kernel
theorem dX9_missing_17 : decode cX9_missing 17 = .ok (.aload_n 0, 1) := by decide +kernel
theorem dX9_missing_18 : decode cX9_missing 18 = .ok (.iload_n 1, 1) := by decide +kernel
theorem dX9_missing_19 : decode cX9_missing 19 = .ok (.iload_n 2, 1) := by decide +kernel
theorem dX9_missing_20 : decode cX9_missing 20 = .ok (.invokevirtual 287, 3) := by decide +kernel
theorem dX9_missing_23 : decode cX9_missing 23 = .ok (.ifCond .eq 20, 3) := by decide +kernel
theorem dX9_missing_26 : decode cX9_missing 26 = .ok (.aload_n 0, 1) := by decide +kernel
theorem dX9_missing_27 : decode cX9_missing 27 = .ok (.getfield 141, 3) := by decide +kernel
theorem dX9_missing_30 : decode cX9_missing 30 = .ok (.sipush 202, 3) := by decide +kernel
theorem dX9_missing_33 : decode cX9_missing 33 = .ok (.iload_n 1, 1) := by decide +kernel
theorem dX9_missing_34 : decode cX9_missing 34 = .ok (.imul, 1) := by decide +kernel
theorem dX9_missing_35 : decode cX9_missing 35 = .ok (.iload_n 2, 1) := by decide +kernel
theorem dX9_missing_36 : decode cX9_missing 36 = .ok (.iadd, 1) := by decide +kernel
theorem dX9_missing_37 : decode cX9_missing 37 = .ok (.baload, 1) := by decide +kernel
theorem dX9_missing_38 : decode cX9_missing 38 = .ok (.ifCond .ne 5, 3) := by decide +kernel
theorem dX9_missing_41 : decode cX9_missing 41 = .ok (.iload_n 2, 1) := by decide +kernel
theorem dX9_missing_42 : decode cX9_missing 42 = .ok (.ireturn, 1) := by decide +kernel
theorem dX9_missing_43 : decode cX9_missing 43 = .ok (.iinc 2 1, 3) := by decide +kernel
theorem dX9_missing_46 : decode cX9_missing 46 = .ok (.goto (-44), 3) := by decide +kernel
theorem dX9_missing_49 : decode cX9_missing 49 = .ok (.iconst (-1), 1) := by decide +kernel
theorem dX9_missing_50 : decode cX9_missing 50 = .ok (.ireturn, 1) := by decide +kernel
set_option maxRecDepth 20000 in
theorem dX9_send_0 : decode cX9_send 0 = .ok (.aload_n 0, 1) := by decide +kernel
theorem dX9_send_1 : decode cX9_send 1 = .ok (.iconst 0, 1) := by decide +kernel
theorem dX9_send_2 : decode cX9_send 2 = .ok (.putfield 1, 3) := by decide +kernel
theorem dX9_send_5 : decode cX9_send 5 = .ok (.aload_n 0, 1) := by decide +kernel
theorem dX9_send_6 : decode cX9_send 6 = .ok (.iload_n 1, 1) := by decide +kernel
theorem dX9_send_7 : decode cX9_send 7 = .ok (.invokevirtual 284, 3) := by decide +kernel
theorem dX9_send_10 : decode cX9_send 10 = .ok (.ifCond .eq 11, 3) := by decide +kernel
theorem dX9_send_13 : decode cX9_send 13 = .ok (.aload_n 0, 1) := by decide +kernel
theorem dX9_send_14 : decode cX9_send 14 = .ok (.iload_n 1, 1) := by decide +kernel
theorem dX9_send_15 : decode cX9_send 15 = .ok (.invokevirtual 290, 3) := by decide +kernel
theorem dX9_send_18 : decode cX9_send 18 = .ok (.goto 4, 3) := by decide +kernel
theorem dX9_send_21 : decode cX9_send 21 = .ok (.iconst (-1), 1) := by decide +kernel
theorem dX9_send_22 : decode cX9_send 22 = .ok (.istore_n 2, 1) := by decide +kernel
theorem dX9_send_23 : decode cX9_send 23 = .ok (.iload_n 2, 1) := by decide +kernel
theorem dX9_send_24 : decode cX9_send 24 = .ok (.ifCond .lt 16, 3) := by decide +kernel
theorem dX9_send_27 : decode cX9_send 27 = .ok (.aload_n 0, 1) := by decide +kernel
theorem dX9_send_28 : decode cX9_send 28 = .ok (.getfield 141, 3) := by decide +kernel
theorem dX9_send_31 : decode cX9_send 31 = .ok (.sipush 202, 3) := by decide +kernel
theorem dX9_send_34 : decode cX9_send 34 = .ok (.iload_n 1, 1) := by decide +kernel
theorem dX9_send_35 : decode cX9_send 35 = .ok (.imul, 1) := by decide +kernel
theorem dX9_send_36 : decode cX9_send 36 = .ok (.iload_n 2, 1) := by decide +kernel
theorem dX9_send_37 : decode cX9_send 37 = .ok (.iadd, 1) := by decide +kernel
theorem dX9_send_38 : decode cX9_send 38 = .ok (.iconst 1, 1) := by decide +kernel
theorem dX9_send_39 : decode cX9_send 39 = .ok (.bastore, 1) := by decide +kernel
theorem dX9_send_40 : decode cX9_send 40 = .ok (.iload_n 2, 1) := by decide +kernel
theorem dX9_send_41 : decode cX9_send 41 = .ok (.ireturn, 1) := by decide +kernel
theorem dX9_prints_0 : decode cX9_prints 0 = .ok (.aload_n 0, 1) := by decide +kernel
theorem dX9_prints_1 : decode cX9_prints 1 = .ok (.getfield 132, 3) := by decide +kernel
theorem dX9_prints_4 : decode cX9_prints 4 = .ok (.iload_n 1, 1) := by decide +kernel
theorem dX9_prints_5 : decode cX9_prints 5 = .ok (.iaload, 1) := by decide +kernel
theorem dX9_prints_6 : decode cX9_prints 6 = .ok (.istore_n 3, 1) := by decide +kernel
theorem dX9_prints_7 : decode cX9_prints 7 = .ok (.iload_n 3, 1) := by decide +kernel
theorem dX9_prints_8 : decode cX9_prints 8 = .ok (.ifCond .lt 37, 3) := by decide +kernel
theorem dX9_prints_11 : decode cX9_prints 11 = .ok (.iload_n 3, 1) := by decide +kernel
theorem dX9_prints_12 : decode cX9_prints 12 = .ok (.aload_n 0, 1) := by decide +kernel
theorem dX9_prints_13 : decode cX9_prints 13 = .ok (.getfield 99, 3) := by decide +kernel
theorem dX9_prints_16 : decode cX9_prints 16 = .ok (.aload_n 0, 1) := by decide +kernel
theorem dX9_prints_17 : decode cX9_prints 17 = .ok (.getfield 123, 3) := by decide +kernel
theorem dX9_prints_20 : decode cX9_prints 20 = .ok (.iload_n 1, 1) := by decide +kernel
theorem dX9_prints_21 : decode cX9_prints 21 = .ok (.iaload, 1) := by decide +kernel
theorem dX9_prints_22 : decode cX9_prints 22 = .ok (.iaload, 1) := by decide +kernel
theorem dX9_prints_23 : decode cX9_prints 23 = .ok (.if_icmp .gt 22, 3) := by decide +kernel
theorem dX9_prints_26 : decode cX9_prints 26 = .ok (.aload_n 0, 1) := by decide +kernel
theorem dX9_prints_27 : decode cX9_prints 27 = .ok (.getfield 141, 3) := by decide +kernel
theorem dX9_prints_30 : decode cX9_prints 30 = .ok (.sipush 202, 3) := by decide +kernel
theorem dX9_prints_33 : decode cX9_prints 33 = .ok (.iload_n 1, 1) := by decide +kernel
theorem dX9_prints_34 : decode cX9_prints 34 = .ok (.imul, 1) := by decide +kernel
theorem dX9_prints_35 : decode cX9_prints 35 = .ok (.iload_n 3, 1) := by decide +kernel
theorem dX9_prints_36 : decode cX9_prints 36 = .ok (.iadd, 1) := by decide +kernel
theorem dX9_prints_37 : decode cX9_prints 37 = .ok (.baload, 1) := by decide +kernel
theorem dX9_prints_38 : decode cX9_prints 38 = .ok (.ifCond .eq 7, 3) := by decide +kernel
theorem dX9_prints_41 : decode cX9_prints 41 = .ok (.iconst 1, 1) := by decide +kernel
theorem dX9_prints_42 : decode cX9_prints 42 = .ok (.goto 4, 3) := by decide +kernel
theorem dX9_prints_45 : decode cX9_prints 45 = .ok (.iconst 0, 1) := by decide +kernel
theorem dX9_prints_46 : decode cX9_prints 46 = .ok (.istore 4, 2) := by decide +kernel
theorem dX9_prints_48 : decode cX9_prints 48 = .ok (.iload 4, 2) := by decide +kernel
theorem dX9_prints_50 : decode cX9_prints 50 = .ok (.ifCond .eq 73, 3) := by decide +kernel
theorem dX9_prints_53 : decode cX9_prints 53 = .ok (.iload_n 2, 1) := by decide +kernel
theorem dX9_prints_54 : decode cX9_prints 54 = .ok (.ifCond .eq 27, 3) := by decide +kernel
theorem dX9_prints_57 : decode cX9_prints 57 = .ok (.aload_n 0, 1) := by decide +kernel
theorem dX9_prints_58 : decode cX9_prints 58 = .ok (.getfield 102, 3) := by decide +kernel
theorem dX9_prints_61 : decode cX9_prints 61 = .ok (.sipush 202, 3) := by decide +kernel
theorem dX9_prints_64 : decode cX9_prints 64 = .ok (.aload_n 0, 1) := by decide +kernel
theorem dX9_prints_65 : decode cX9_prints 65 = .ok (.getfield 123, 3) := by decide +kernel
theorem dX9_prints_68 : decode cX9_prints 68 = .ok (.iload_n 1, 1) := by decide +kernel
theorem dX9_prints_69 : decode cX9_prints 69 = .ok (.iaload, 1) := by decide +kernel
theorem dX9_prints_70 : decode cX9_prints 70 = .ok (.imul, 1) := by decide +kernel
theorem dX9_prints_71 : decode cX9_prints 71 = .ok (.iload_n 3, 1) := by decide +kernel
theorem dX9_prints_72 : decode cX9_prints 72 = .ok (.iadd, 1) := by decide +kernel
theorem dX9_prints_73 : decode cX9_prints 73 = .ok (.iaload, 1) := by decide +kernel
theorem dX9_prints_74 : decode cX9_prints 74 = .ok (.aload_n 0, 1) := by decide +kernel
theorem dX9_prints_75 : decode cX9_prints 75 = .ok (.getfield 264, 3) := by decide +kernel
theorem dX9_prints_78 : decode cX9_prints 78 = .ok (.if_icmp .ge 45, 3) := by decide +kernel
theorem dX9_prints_81 : decode cX9_prints 81 = .ok (.aload_n 0, 1) := by decide +kernel
theorem dX9_prints_82 : decode cX9_prints 82 = .ok (.getfield 132, 3) := by decide +kernel
theorem dX9_prints_85 : decode cX9_prints 85 = .ok (.iload_n 1, 1) := by decide +kernel
theorem dX9_prints_86 : decode cX9_prints 86 = .ok (.dup2, 1) := by decide +kernel
theorem dX9_prints_87 : decode cX9_prints 87 = .ok (.iaload, 1) := by decide +kernel
theorem dX9_prints_88 : decode cX9_prints 88 = .ok (.iconst 1, 1) := by decide +kernel
theorem dX9_prints_89 : decode cX9_prints 89 = .ok (.iadd, 1) := by decide +kernel
theorem dX9_prints_90 : decode cX9_prints 90 = .ok (.iastore, 1) := by decide +kernel
theorem dX9_prints_91 : decode cX9_prints 91 = .ok (.aload_n 0, 1) := by decide +kernel
theorem dX9_prints_92 : decode cX9_prints 92 = .ok (.getfield 135, 3) := by decide +kernel
theorem dX9_prints_95 : decode cX9_prints 95 = .ok (.iload_n 1, 1) := by decide +kernel
theorem dX9_prints_96 : decode cX9_prints 96 = .ok (.dup2, 1) := by decide +kernel
theorem dX9_prints_97 : decode cX9_prints 97 = .ok (.iaload, 1) := by decide +kernel
theorem dX9_prints_98 : decode cX9_prints 98 = .ok (.iconst 1, 1) := by decide +kernel
theorem dX9_prints_99 : decode cX9_prints 99 = .ok (.iadd, 1) := by decide +kernel
theorem dX9_prints_100 : decode cX9_prints 100 = .ok (.iastore, 1) := by decide +kernel
theorem dX9_prints_101 : decode cX9_prints 101 = .ok (.aload_n 0, 1) := by decide +kernel
theorem dX9_prints_102 : decode cX9_prints 102 = .ok (.getfield 144, 3) := by decide +kernel
theorem dX9_prints_105 : decode cX9_prints 105 = .ok (.bipush 51, 2) := by decide +kernel
theorem dX9_prints_107 : decode cX9_prints 107 = .ok (.iload_n 1, 1) := by decide +kernel
theorem dX9_prints_108 : decode cX9_prints 108 = .ok (.imul, 1) := by decide +kernel
theorem dX9_prints_109 : decode cX9_prints 109 = .ok (.aload_n 0, 1) := by decide +kernel
theorem dX9_prints_110 : decode cX9_prints 110 = .ok (.getfield 264, 3) := by decide +kernel
theorem dX9_prints_113 : decode cX9_prints 113 = .ok (.iconst 1, 1) := by decide +kernel
theorem dX9_prints_114 : decode cX9_prints 114 = .ok (.isub, 1) := by decide +kernel
theorem dX9_prints_115 : decode cX9_prints 115 = .ok (.iconst 4, 1) := by decide +kernel
theorem dX9_prints_116 : decode cX9_prints 116 = .ok (.idiv, 1) := by decide +kernel
theorem dX9_prints_117 : decode cX9_prints 117 = .ok (.iadd, 1) := by decide +kernel
theorem dX9_prints_118 : decode cX9_prints 118 = .ok (.dup2, 1) := by decide +kernel
theorem dX9_prints_119 : decode cX9_prints 119 = .ok (.iaload, 1) := by decide +kernel
theorem dX9_prints_120 : decode cX9_prints 120 = .ok (.iconst 1, 1) := by decide +kernel
theorem dX9_prints_121 : decode cX9_prints 121 = .ok (.iadd, 1) := by decide +kernel
theorem dX9_prints_122 : decode cX9_prints 122 = .ok (.iastore, 1) := by decide +kernel
theorem dX9_prints_123 : decode cX9_prints 123 = .ok (.return_, 1) := by decide +kernel
set_option maxRecDepth 20000 in
theorem dX9_runs_0 : decode cX9_runs 0 = .ok (.aload_n 0, 1) := by decide +kernel
theorem dX9_runs_1 : decode cX9_runs 1 = .ok (.getfield 123, 3) := by decide +kernel
theorem dX9_runs_4 : decode cX9_runs 4 = .ok (.iload_n 1, 1) := by decide +kernel
theorem dX9_runs_5 : decode cX9_runs 5 = .ok (.iaload, 1) := by decide +kernel
theorem dX9_runs_6 : decode cX9_runs 6 = .ok (.istore_n 2, 1) := by decide +kernel
theorem dX9_runs_7 : decode cX9_runs 7 = .ok (.aload_n 0, 1) := by decide +kernel
theorem dX9_runs_8 : decode cX9_runs 8 = .ok (.getfield 99, 3) := by decide +kernel
theorem dX9_runs_11 : decode cX9_runs 11 = .ok (.iload_n 2, 1) := by decide +kernel
theorem dX9_runs_12 : decode cX9_runs 12 = .ok (.iaload, 1) := by decide +kernel
theorem dX9_runs_13 : decode cX9_runs 13 = .ok (.istore_n 3, 1) := by decide +kernel
theorem dX9_runs_14 : decode cX9_runs 14 = .ok (.iload_n 3, 1) := by decide +kernel
theorem dX9_runs_15 : decode cX9_runs 15 = .ok (.ifCond .le 26, 3) := by decide +kernel
theorem dX9_runs_18 : decode cX9_runs 18 = .ok (.aload_n 0, 1) := by decide +kernel
theorem dX9_runs_19 : decode cX9_runs 19 = .ok (.getfield 102, 3) := by decide +kernel
theorem dX9_runs_22 : decode cX9_runs 22 = .ok (.sipush 202, 3) := by decide +kernel
theorem dX9_runs_25 : decode cX9_runs 25 = .ok (.iload_n 2, 1) := by decide +kernel
theorem dX9_runs_26 : decode cX9_runs 26 = .ok (.imul, 1) := by decide +kernel
theorem dX9_runs_27 : decode cX9_runs 27 = .ok (.iload_n 3, 1) := by decide +kernel
theorem dX9_runs_28 : decode cX9_runs 28 = .ok (.iadd, 1) := by decide +kernel
theorem dX9_runs_29 : decode cX9_runs 29 = .ok (.iaload, 1) := by decide +kernel
theorem dX9_runs_30 : decode cX9_runs 30 = .ok (.aload_n 0, 1) := by decide +kernel
theorem dX9_runs_31 : decode cX9_runs 31 = .ok (.getfield 264, 3) := by decide +kernel
theorem dX9_runs_34 : decode cX9_runs 34 = .ok (.if_icmp .ne 7, 3) := by decide +kernel
theorem dX9_runs_37 : decode cX9_runs 37 = .ok (.iconst 1, 1) := by decide +kernel
theorem dX9_runs_38 : decode cX9_runs 38 = .ok (.goto 4, 3) := by decide +kernel
theorem dX9_runs_41 : decode cX9_runs 41 = .ok (.iconst 0, 1) := by decide +kernel
theorem dX9_runs_42 : decode cX9_runs 42 = .ok (.istore 4, 2) := by decide +kernel
theorem dX9_runs_44 : decode cX9_runs 44 = .ok (.iload 4, 2) := by decide +kernel
theorem dX9_runs_46 : decode cX9_runs 46 = .ok (.ifCond .eq 54, 3) := by decide +kernel
theorem dX9_runs_49 : decode cX9_runs 49 = .ok (.aload_n 0, 1) := by decide +kernel
theorem dX9_runs_50 : decode cX9_runs 50 = .ok (.getfield 141, 3) := by decide +kernel
theorem dX9_runs_53 : decode cX9_runs 53 = .ok (.sipush 202, 3) := by decide +kernel
theorem dX9_runs_56 : decode cX9_runs 56 = .ok (.iload_n 1, 1) := by decide +kernel
theorem dX9_runs_57 : decode cX9_runs 57 = .ok (.imul, 1) := by decide +kernel
theorem dX9_runs_58 : decode cX9_runs 58 = .ok (.iload_n 3, 1) := by decide +kernel
theorem dX9_runs_59 : decode cX9_runs 59 = .ok (.iadd, 1) := by decide +kernel
theorem dX9_runs_60 : decode cX9_runs 60 = .ok (.aload_n 0, 1) := by decide +kernel
theorem dX9_runs_61 : decode cX9_runs 61 = .ok (.getfield 138, 3) := by decide +kernel
theorem dX9_runs_64 : decode cX9_runs 64 = .ok (.iload_n 1, 1) := by decide +kernel
theorem dX9_runs_65 : decode cX9_runs 65 = .ok (.baload, 1) := by decide +kernel
theorem dX9_runs_66 : decode cX9_runs 66 = .ok (.ifCond .ne 7, 3) := by decide +kernel
theorem dX9_runs_69 : decode cX9_runs 69 = .ok (.iconst 1, 1) := by decide +kernel
theorem dX9_runs_70 : decode cX9_runs 70 = .ok (.goto 4, 3) := by decide +kernel
theorem dX9_runs_73 : decode cX9_runs 73 = .ok (.iconst 0, 1) := by decide +kernel
theorem dX9_runs_74 : decode cX9_runs 74 = .ok (.bastore, 1) := by decide +kernel
theorem dX9_runs_75 : decode cX9_runs 75 = .ok (.aload_n 0, 1) := by decide +kernel
theorem dX9_runs_76 : decode cX9_runs 76 = .ok (.getfield 132, 3) := by decide +kernel
theorem dX9_runs_79 : decode cX9_runs 79 = .ok (.iload_n 1, 1) := by decide +kernel
theorem dX9_runs_80 : decode cX9_runs 80 = .ok (.aload_n 0, 1) := by decide +kernel
theorem dX9_runs_81 : decode cX9_runs 81 = .ok (.getfield 132, 3) := by decide +kernel
theorem dX9_runs_84 : decode cX9_runs 84 = .ok (.iload_n 1, 1) := by decide +kernel
theorem dX9_runs_85 : decode cX9_runs 85 = .ok (.iaload, 1) := by decide +kernel
theorem dX9_runs_86 : decode cX9_runs 86 = .ok (.ifCond .ge 7, 3) := by decide +kernel
theorem dX9_runs_89 : decode cX9_runs 89 = .ok (.iload_n 3, 1) := by decide +kernel
theorem dX9_runs_90 : decode cX9_runs 90 = .ok (.goto 9, 3) := by decide +kernel
theorem dX9_runs_93 : decode cX9_runs 93 = .ok (.aload_n 0, 1) := by decide +kernel
theorem dX9_runs_94 : decode cX9_runs 94 = .ok (.getfield 132, 3) := by decide +kernel
theorem dX9_runs_97 : decode cX9_runs 97 = .ok (.iload_n 1, 1) := by decide +kernel
theorem dX9_runs_98 : decode cX9_runs 98 = .ok (.iaload, 1) := by decide +kernel
theorem dX9_runs_99 : decode cX9_runs 99 = .ok (.iastore, 1) := by decide +kernel
theorem dX9_runs_100 : decode cX9_runs 100 = .ok (.aload_n 0, 1) := by decide +kernel
theorem dX9_runs_101 : decode cX9_runs 101 = .ok (.getfield 135, 3) := by decide +kernel
theorem dX9_runs_104 : decode cX9_runs 104 = .ok (.iload_n 1, 1) := by decide +kernel
theorem dX9_runs_105 : decode cX9_runs 105 = .ok (.iaload, 1) := by decide +kernel
theorem dX9_runs_106 : decode cX9_runs 106 = .ok (.istore 5, 2) := by decide +kernel
theorem dX9_runs_108 : decode cX9_runs 108 = .ok (.aload_n 0, 1) := by decide +kernel
theorem dX9_runs_109 : decode cX9_runs 109 = .ok (.iload_n 1, 1) := by decide +kernel
theorem dX9_runs_110 : decode cX9_runs 110 = .ok (.iconst 0, 1) := by decide +kernel
theorem dX9_runs_111 : decode cX9_runs 111 = .ok (.invokevirtual 293, 3) := by decide +kernel
theorem dX9_runs_114 : decode cX9_runs 114 = .ok (.aload_n 0, 1) := by decide +kernel
theorem dX9_runs_115 : decode cX9_runs 115 = .ok (.getfield 135, 3) := by decide +kernel
theorem dX9_runs_118 : decode cX9_runs 118 = .ok (.iload_n 1, 1) := by decide +kernel
theorem dX9_runs_119 : decode cX9_runs 119 = .ok (.iaload, 1) := by decide +kernel
theorem dX9_runs_120 : decode cX9_runs 120 = .ok (.iload 5, 2) := by decide +kernel
theorem dX9_runs_122 : decode cX9_runs 122 = .ok (.if_icmp .le 9, 3) := by decide +kernel
theorem dX9_runs_125 : decode cX9_runs 125 = .ok (.aload_n 0, 1) := by decide +kernel
theorem dX9_runs_126 : decode cX9_runs 126 = .ok (.iload_n 1, 1) := by decide +kernel
theorem dX9_runs_127 : decode cX9_runs 127 = .ok (.iconst 1, 1) := by decide +kernel
theorem dX9_runs_128 : decode cX9_runs 128 = .ok (.invokevirtual 293, 3) := by decide +kernel
theorem dX9_runs_131 : decode cX9_runs 131 = .ok (.return_, 1) := by decide +kernel
set_option maxRecDepth 20000 in
theorem dX9_week_0 : decode cX9_week 0 = .ok (.aload_n 0, 1) := by decide +kernel
theorem dX9_week_1 : decode cX9_week 1 = .ok (.dup, 1) := by decide +kernel
theorem dX9_week_2 : decode cX9_week 2 = .ok (.getfield 264, 3) := by decide +kernel
theorem dX9_week_5 : decode cX9_week 5 = .ok (.iconst 1, 1) := by decide +kernel
theorem dX9_week_6 : decode cX9_week 6 = .ok (.iadd, 1) := by decide +kernel
theorem dX9_week_7 : decode cX9_week 7 = .ok (.putfield 264, 3) := by decide +kernel
theorem dX9_week_10 : decode cX9_week 10 = .ok (.iconst 0, 1) := by decide +kernel
theorem dX9_week_11 : decode cX9_week 11 = .ok (.istore_n 1, 1) := by decide +kernel
theorem dX9_week_12 : decode cX9_week 12 = .ok (.iload_n 1, 1) := by decide +kernel
theorem dX9_week_13 : decode cX9_week 13 = .ok (.aload_n 0, 1) := by decide +kernel
theorem dX9_week_14 : decode cX9_week 14 = .ok (.getfield 257, 3) := by decide +kernel
theorem dX9_week_17 : decode cX9_week 17 = .ok (.if_icmp .ge 62, 3) := by decide +kernel
theorem dX9_week_20 : decode cX9_week 20 = .ok (.aload_n 0, 1) := by decide +kernel
theorem dX9_week_21 : decode cX9_week 21 = .ok (.getfield 92, 3) := by decide +kernel
theorem dX9_week_24 : decode cX9_week 24 = .ok (.iload_n 1, 1) := by decide +kernel
theorem dX9_week_25 : decode cX9_week 25 = .ok (.baload, 1) := by decide +kernel
theorem dX9_week_26 : decode cX9_week 26 = .ok (.ifCond .ne 47, 3) := by decide +kernel
theorem dX9_week_29 : decode cX9_week 29 = .ok (.aload_n 0, 1) := by decide +kernel
theorem dX9_week_30 : decode cX9_week 30 = .ok (.getfield 264, 3) := by decide +kernel
theorem dX9_week_33 : decode cX9_week 33 = .ok (.aload_n 0, 1) := by decide +kernel
theorem dX9_week_34 : decode cX9_week 34 = .ok (.getfield 96, 3) := by decide +kernel
theorem dX9_week_37 : decode cX9_week 37 = .ok (.iload_n 1, 1) := by decide +kernel
theorem dX9_week_38 : decode cX9_week 38 = .ok (.iaload, 1) := by decide +kernel
theorem dX9_week_39 : decode cX9_week 39 = .ok (.if_icmp .le 34, 3) := by decide +kernel
theorem dX9_week_42 : decode cX9_week 42 = .ok (.aload_n 0, 1) := by decide +kernel
theorem dX9_week_43 : decode cX9_week 43 = .ok (.getfield 99, 3) := by decide +kernel
theorem dX9_week_46 : decode cX9_week 46 = .ok (.iload_n 1, 1) := by decide +kernel
theorem dX9_week_47 : decode cX9_week 47 = .ok (.dup2, 1) := by decide +kernel
theorem dX9_week_48 : decode cX9_week 48 = .ok (.iaload, 1) := by decide +kernel
theorem dX9_week_49 : decode cX9_week 49 = .ok (.iconst 1, 1) := by decide +kernel
theorem dX9_week_50 : decode cX9_week 50 = .ok (.iadd, 1) := by decide +kernel
theorem dX9_week_51 : decode cX9_week 51 = .ok (.iastore, 1) := by decide +kernel
theorem dX9_week_52 : decode cX9_week 52 = .ok (.aload_n 0, 1) := by decide +kernel
theorem dX9_week_53 : decode cX9_week 53 = .ok (.getfield 102, 3) := by decide +kernel
theorem dX9_week_56 : decode cX9_week 56 = .ok (.sipush 202, 3) := by decide +kernel
theorem dX9_week_59 : decode cX9_week 59 = .ok (.iload_n 1, 1) := by decide +kernel
theorem dX9_week_60 : decode cX9_week 60 = .ok (.imul, 1) := by decide +kernel
theorem dX9_week_61 : decode cX9_week 61 = .ok (.aload_n 0, 1) := by decide +kernel
theorem dX9_week_62 : decode cX9_week 62 = .ok (.getfield 99, 3) := by decide +kernel
theorem dX9_week_65 : decode cX9_week 65 = .ok (.iload_n 1, 1) := by decide +kernel
theorem dX9_week_66 : decode cX9_week 66 = .ok (.iaload, 1) := by decide +kernel
theorem dX9_week_67 : decode cX9_week 67 = .ok (.iadd, 1) := by decide +kernel
theorem dX9_week_68 : decode cX9_week 68 = .ok (.aload_n 0, 1) := by decide +kernel
theorem dX9_week_69 : decode cX9_week 69 = .ok (.getfield 264, 3) := by decide +kernel
theorem dX9_week_72 : decode cX9_week 72 = .ok (.iastore, 1) := by decide +kernel
theorem dX9_week_73 : decode cX9_week 73 = .ok (.iinc 1 1, 3) := by decide +kernel
theorem dX9_week_76 : decode cX9_week 76 = .ok (.goto (-64), 3) := by decide +kernel
theorem dX9_week_79 : decode cX9_week 79 = .ok (.iconst 0, 1) := by decide +kernel
theorem dX9_week_80 : decode cX9_week 80 = .ok (.istore_n 1, 1) := by decide +kernel
theorem dX9_week_81 : decode cX9_week 81 = .ok (.iload_n 1, 1) := by decide +kernel
theorem dX9_week_82 : decode cX9_week 82 = .ok (.aload_n 0, 1) := by decide +kernel
theorem dX9_week_83 : decode cX9_week 83 = .ok (.getfield 273, 3) := by decide +kernel
theorem dX9_week_86 : decode cX9_week 86 = .ok (.if_icmp .ge 33, 3) := by decide +kernel
theorem dX9_week_89 : decode cX9_week 89 = .ok (.aload_n 0, 1) := by decide +kernel
theorem dX9_week_90 : decode cX9_week 90 = .ok (.iload_n 1, 1) := by decide +kernel
theorem dX9_week_91 : decode cX9_week 91 = .ok (.aload_n 0, 1) := by decide +kernel
theorem dX9_week_92 : decode cX9_week 92 = .ok (.getfield 264, 3) := by decide +kernel
theorem dX9_week_95 : decode cX9_week 95 = .ok (.invokevirtual 276, 3) := by decide +kernel
theorem dX9_week_98 : decode cX9_week 98 = .ok (.ifCond .eq 8, 3) := by decide +kernel
theorem dX9_week_101 : decode cX9_week 101 = .ok (.aload_n 0, 1) := by decide +kernel
theorem dX9_week_102 : decode cX9_week 102 = .ok (.iload_n 1, 1) := by decide +kernel
theorem dX9_week_103 : decode cX9_week 103 = .ok (.invokevirtual 297, 3) := by decide +kernel
theorem dX9_week_106 : decode cX9_week 106 = .ok (.aload_n 0, 1) := by decide +kernel
theorem dX9_week_107 : decode cX9_week 107 = .ok (.getfield 138, 3) := by decide +kernel
theorem dX9_week_110 : decode cX9_week 110 = .ok (.iload_n 1, 1) := by decide +kernel
theorem dX9_week_111 : decode cX9_week 111 = .ok (.iconst 0, 1) := by decide +kernel
theorem dX9_week_112 : decode cX9_week 112 = .ok (.bastore, 1) := by decide +kernel
theorem dX9_week_113 : decode cX9_week 113 = .ok (.iinc 1 1, 3) := by decide +kernel
theorem dX9_week_116 : decode cX9_week 116 = .ok (.goto (-35), 3) := by decide +kernel
theorem dX9_week_119 : decode cX9_week 119 = .ok (.aload_n 0, 1) := by decide +kernel
theorem dX9_week_120 : decode cX9_week 120 = .ok (.getfield 264, 3) := by decide +kernel
theorem dX9_week_123 : decode cX9_week 123 = .ok (.iconst 4, 1) := by decide +kernel
theorem dX9_week_124 : decode cX9_week 124 = .ok (.irem, 1) := by decide +kernel
theorem dX9_week_125 : decode cX9_week 125 = .ok (.ifCond .ne 15, 3) := by decide +kernel
theorem dX9_week_128 : decode cX9_week 128 = .ok (.aload_n 0, 1) := by decide +kernel
theorem dX9_week_129 : decode cX9_week 129 = .ok (.aload_n 0, 1) := by decide +kernel
theorem dX9_week_130 : decode cX9_week 130 = .ok (.getfield 264, 3) := by decide +kernel
theorem dX9_week_133 : decode cX9_week 133 = .ok (.iconst 4, 1) := by decide +kernel
theorem dX9_week_134 : decode cX9_week 134 = .ok (.idiv, 1) := by decide +kernel
theorem dX9_week_135 : decode cX9_week 135 = .ok (.iconst 1, 1) := by decide +kernel
theorem dX9_week_136 : decode cX9_week 136 = .ok (.isub, 1) := by decide +kernel
theorem dX9_week_137 : decode cX9_week 137 = .ok (.invokevirtual 300, 3) := by decide +kernel
theorem dX9_week_140 : decode cX9_week 140 = .ok (.return_, 1) := by decide +kernel
set_option maxRecDepth 20000 in
theorem dX9_weeks_0 : decode cX9_weeks 0 = .ok (.aload_n 0, 1) := by decide +kernel
theorem dX9_weeks_1 : decode cX9_weeks 1 = .ok (.iconst 0, 1) := by decide +kernel
theorem dX9_weeks_2 : decode cX9_weeks 2 = .ok (.putfield 1, 3) := by decide +kernel
theorem dX9_weeks_5 : decode cX9_weeks 5 = .ok (.iload_n 1, 1) := by decide +kernel
theorem dX9_weeks_6 : decode cX9_weeks 6 = .ok (.ifCond .lt 21, 3) := by decide +kernel
theorem dX9_weeks_9 : decode cX9_weeks 9 = .ok (.iload_n 1, 1) := by decide +kernel
theorem dX9_weeks_10 : decode cX9_weeks 10 = .ok (.bipush 30, 2) := by decide +kernel
theorem dX9_weeks_12 : decode cX9_weeks 12 = .ok (.if_icmp .gt 15, 3) := by decide +kernel
theorem dX9_weeks_15 : decode cX9_weeks 15 = .ok (.aload_n 0, 1) := by decide +kernel
theorem dX9_weeks_16 : decode cX9_weeks 16 = .ok (.getfield 264, 3) := by decide +kernel
theorem dX9_weeks_19 : decode cX9_weeks 19 = .ok (.iload_n 1, 1) := by decide +kernel
theorem dX9_weeks_20 : decode cX9_weeks 20 = .ok (.iadd, 1) := by decide +kernel
theorem dX9_weeks_21 : decode cX9_weeks 21 = .ok (.sipush 200, 3) := by decide +kernel
theorem dX9_weeks_24 : decode cX9_weeks 24 = .ok (.if_icmp .le 5, 3) := by decide +kernel
theorem dX9_weeks_27 : decode cX9_weeks 27 = .ok (.iconst (-1), 1) := by decide +kernel
theorem dX9_weeks_28 : decode cX9_weeks 28 = .ok (.ireturn, 1) := by decide +kernel
theorem dX9_weeks_29 : decode cX9_weeks 29 = .ok (.iconst 0, 1) := by decide +kernel
theorem dX9_weeks_30 : decode cX9_weeks 30 = .ok (.istore_n 2, 1) := by decide +kernel
theorem dX9_weeks_31 : decode cX9_weeks 31 = .ok (.iload_n 2, 1) := by decide +kernel
theorem dX9_weeks_32 : decode cX9_weeks 32 = .ok (.iload_n 1, 1) := by decide +kernel
theorem dX9_weeks_33 : decode cX9_weeks 33 = .ok (.if_icmp .ge 13, 3) := by decide +kernel
theorem dX9_weeks_36 : decode cX9_weeks 36 = .ok (.aload_n 0, 1) := by decide +kernel
theorem dX9_weeks_37 : decode cX9_weeks 37 = .ok (.invokevirtual 303, 3) := by decide +kernel
theorem dX9_weeks_40 : decode cX9_weeks 40 = .ok (.iinc 2 1, 3) := by decide +kernel
theorem dX9_weeks_43 : decode cX9_weeks 43 = .ok (.goto (-12), 3) := by decide +kernel
theorem dX9_weeks_46 : decode cX9_weeks 46 = .ok (.aload_n 0, 1) := by decide +kernel
theorem dX9_weeks_47 : decode cX9_weeks 47 = .ok (.getfield 264, 3) := by decide +kernel
theorem dX9_weeks_50 : decode cX9_weeks 50 = .ok (.ireturn, 1) := by decide +kernel
set_option maxRecDepth 20000 in
theorem dX9_weeksIn_0 : decode cX9_weeksIn 0 = .ok (.iconst 0, 1) := by decide +kernel
theorem dX9_weeksIn_1 : decode cX9_weeksIn 1 = .ok (.istore_n 3, 1) := by decide +kernel
theorem dX9_weeksIn_2 : decode cX9_weeksIn 2 = .ok (.iconst 4, 1) := by decide +kernel
theorem dX9_weeksIn_3 : decode cX9_weeksIn 3 = .ok (.iload_n 2, 1) := by decide +kernel
theorem dX9_weeksIn_4 : decode cX9_weeksIn 4 = .ok (.imul, 1) := by decide +kernel
theorem dX9_weeksIn_5 : decode cX9_weeksIn 5 = .ok (.iconst 1, 1) := by decide +kernel
theorem dX9_weeksIn_6 : decode cX9_weeksIn 6 = .ok (.iadd, 1) := by decide +kernel
theorem dX9_weeksIn_7 : decode cX9_weeksIn 7 = .ok (.istore 4, 2) := by decide +kernel
theorem dX9_weeksIn_9 : decode cX9_weeksIn 9 = .ok (.iload 4, 2) := by decide +kernel
theorem dX9_weeksIn_11 : decode cX9_weeksIn 11 = .ok (.iconst 4, 1) := by decide +kernel
theorem dX9_weeksIn_12 : decode cX9_weeksIn 12 = .ok (.iload_n 2, 1) := by decide +kernel
theorem dX9_weeksIn_13 : decode cX9_weeksIn 13 = .ok (.imul, 1) := by decide +kernel
theorem dX9_weeksIn_14 : decode cX9_weeksIn 14 = .ok (.iconst 4, 1) := by decide +kernel
theorem dX9_weeksIn_15 : decode cX9_weeksIn 15 = .ok (.iadd, 1) := by decide +kernel
theorem dX9_weeksIn_16 : decode cX9_weeksIn 16 = .ok (.if_icmp .gt 27, 3) := by decide +kernel
theorem dX9_weeksIn_19 : decode cX9_weeksIn 19 = .ok (.iload_n 3, 1) := by decide +kernel
theorem dX9_weeksIn_20 : decode cX9_weeksIn 20 = .ok (.aload_n 0, 1) := by decide +kernel
theorem dX9_weeksIn_21 : decode cX9_weeksIn 21 = .ok (.iload_n 1, 1) := by decide +kernel
theorem dX9_weeksIn_22 : decode cX9_weeksIn 22 = .ok (.iload 4, 2) := by decide +kernel
theorem dX9_weeksIn_24 : decode cX9_weeksIn 24 = .ok (.invokevirtual 276, 3) := by decide +kernel
theorem dX9_weeksIn_27 : decode cX9_weeksIn 27 = .ok (.ifCond .eq 7, 3) := by decide +kernel
theorem dX9_weeksIn_30 : decode cX9_weeksIn 30 = .ok (.iconst 1, 1) := by decide +kernel
theorem dX9_weeksIn_31 : decode cX9_weeksIn 31 = .ok (.goto 4, 3) := by decide +kernel
theorem dX9_weeksIn_34 : decode cX9_weeksIn 34 = .ok (.iconst 0, 1) := by decide +kernel
theorem dX9_weeksIn_35 : decode cX9_weeksIn 35 = .ok (.iadd, 1) := by decide +kernel
theorem dX9_weeksIn_36 : decode cX9_weeksIn 36 = .ok (.istore_n 3, 1) := by decide +kernel
theorem dX9_weeksIn_37 : decode cX9_weeksIn 37 = .ok (.iinc 4 1, 3) := by decide +kernel
theorem dX9_weeksIn_40 : decode cX9_weeksIn 40 = .ok (.goto (-31), 3) := by decide +kernel
theorem dX9_weeksIn_43 : decode cX9_weeksIn 43 = .ok (.iload_n 3, 1) := by decide +kernel
theorem dX9_weeksIn_44 : decode cX9_weeksIn 44 = .ok (.ireturn, 1) := by decide +kernel
set_option maxRecDepth 20000 in
theorem dX9_billOf_0 : decode cX9_billOf 0 = .ok (.aload_n 0, 1) := by decide +kernel
theorem dX9_billOf_1 : decode cX9_billOf 1 = .ok (.getfield 153, 3) := by decide +kernel
theorem dX9_billOf_4 : decode cX9_billOf 4 = .ok (.iload_n 2, 1) := by decide +kernel
theorem dX9_billOf_5 : decode cX9_billOf 5 = .ok (.iaload, 1) := by decide +kernel
theorem dX9_billOf_6 : decode cX9_billOf 6 = .ok (.istore_n 3, 1) := by decide +kernel
theorem dX9_billOf_7 : decode cX9_billOf 7 = .ok (.aload_n 0, 1) := by decide +kernel
theorem dX9_billOf_8 : decode cX9_billOf 8 = .ok (.getfield 117, 3) := by decide +kernel
theorem dX9_billOf_11 : decode cX9_billOf 11 = .ok (.bipush 51, 2) := by decide +kernel
theorem dX9_billOf_13 : decode cX9_billOf 13 = .ok (.aload_n 0, 1) := by decide +kernel
theorem dX9_billOf_14 : decode cX9_billOf 14 = .ok (.getfield 120, 3) := by decide +kernel
theorem dX9_billOf_17 : decode cX9_billOf 17 = .ok (.iload_n 1, 1) := by decide +kernel
theorem dX9_billOf_18 : decode cX9_billOf 18 = .ok (.iaload, 1) := by decide +kernel
theorem dX9_billOf_19 : decode cX9_billOf 19 = .ok (.imul, 1) := by decide +kernel
theorem dX9_billOf_20 : decode cX9_billOf 20 = .ok (.iload_n 2, 1) := by decide +kernel
theorem dX9_billOf_21 : decode cX9_billOf 21 = .ok (.iadd, 1) := by decide +kernel
theorem dX9_billOf_22 : decode cX9_billOf 22 = .ok (.iaload, 1) := by decide +kernel
theorem dX9_billOf_23 : decode cX9_billOf 23 = .ok (.istore 4, 2) := by decide +kernel
theorem dX9_billOf_25 : decode cX9_billOf 25 = .ok (.aload_n 0, 1) := by decide +kernel
theorem dX9_billOf_26 : decode cX9_billOf 26 = .ok (.getfield 144, 3) := by decide +kernel
theorem dX9_billOf_29 : decode cX9_billOf 29 = .ok (.bipush 51, 2) := by decide +kernel
theorem dX9_billOf_31 : decode cX9_billOf 31 = .ok (.iload_n 1, 1) := by decide +kernel
theorem dX9_billOf_32 : decode cX9_billOf 32 = .ok (.imul, 1) := by decide +kernel
theorem dX9_billOf_33 : decode cX9_billOf 33 = .ok (.iload_n 2, 1) := by decide +kernel
theorem dX9_billOf_34 : decode cX9_billOf 34 = .ok (.iadd, 1) := by decide +kernel
theorem dX9_billOf_35 : decode cX9_billOf 35 = .ok (.iaload, 1) := by decide +kernel
theorem dX9_billOf_36 : decode cX9_billOf 36 = .ok (.istore 5, 2) := by decide +kernel
theorem dX9_billOf_38 : decode cX9_billOf 38 = .ok (.aload_n 0, 1) := by decide +kernel
theorem dX9_billOf_39 : decode cX9_billOf 39 = .ok (.getfield 77, 3) := by decide +kernel
theorem dX9_billOf_42 : decode cX9_billOf 42 = .ok (.iconst 0, 1) := by decide +kernel
theorem dX9_billOf_43 : decode cX9_billOf 43 = .ok (.aload_n 0, 1) := by decide +kernel
theorem dX9_billOf_44 : decode cX9_billOf 44 = .ok (.getfield 83, 3) := by decide +kernel
theorem dX9_billOf_47 : decode cX9_billOf 47 = .ok (.aload_n 0, 1) := by decide +kernel
theorem dX9_billOf_48 : decode cX9_billOf 48 = .ok (.getfield 123, 3) := by decide +kernel
theorem dX9_billOf_51 : decode cX9_billOf 51 = .ok (.iload_n 1, 1) := by decide +kernel
theorem dX9_billOf_52 : decode cX9_billOf 52 = .ok (.iaload, 1) := by decide +kernel
theorem dX9_billOf_53 : decode cX9_billOf 53 = .ok (.iaload, 1) := by decide +kernel
theorem dX9_billOf_54 : decode cX9_billOf 54 = .ok (.iastore, 1) := by decide +kernel
theorem dX9_billOf_55 : decode cX9_billOf 55 = .ok (.aload_n 0, 1) := by decide +kernel
theorem dX9_billOf_56 : decode cX9_billOf 56 = .ok (.getfield 77, 3) := by decide +kernel
theorem dX9_billOf_59 : decode cX9_billOf 59 = .ok (.iconst 1, 1) := by decide +kernel
theorem dX9_billOf_60 : decode cX9_billOf 60 = .ok (.iload 4, 2) := by decide +kernel
theorem dX9_billOf_62 : decode cX9_billOf 62 = .ok (.sipush 1000, 3) := by decide +kernel
theorem dX9_billOf_65 : decode cX9_billOf 65 = .ok (.idiv, 1) := by decide +kernel
theorem dX9_billOf_66 : decode cX9_billOf 66 = .ok (.iastore, 1) := by decide +kernel
theorem dX9_billOf_67 : decode cX9_billOf 67 = .ok (.aload_n 0, 1) := by decide +kernel
theorem dX9_billOf_68 : decode cX9_billOf 68 = .ok (.getfield 77, 3) := by decide +kernel
theorem dX9_billOf_71 : decode cX9_billOf 71 = .ok (.iconst 2, 1) := by decide +kernel
theorem dX9_billOf_72 : decode cX9_billOf 72 = .ok (.iload 5, 2) := by decide +kernel
theorem dX9_billOf_74 : decode cX9_billOf 74 = .ok (.iastore, 1) := by decide +kernel
theorem dX9_billOf_75 : decode cX9_billOf 75 = .ok (.aload_n 0, 1) := by decide +kernel
theorem dX9_billOf_76 : decode cX9_billOf 76 = .ok (.getfield 77, 3) := by decide +kernel
theorem dX9_billOf_79 : decode cX9_billOf 79 = .ok (.iconst 3, 1) := by decide +kernel
theorem dX9_billOf_80 : decode cX9_billOf 80 = .ok (.iload_n 2, 1) := by decide +kernel
theorem dX9_billOf_81 : decode cX9_billOf 81 = .ok (.iastore, 1) := by decide +kernel
theorem dX9_billOf_82 : decode cX9_billOf 82 = .ok (.aload_n 0, 1) := by decide +kernel
theorem dX9_billOf_83 : decode cX9_billOf 83 = .ok (.getfield 77, 3) := by decide +kernel
theorem dX9_billOf_86 : decode cX9_billOf 86 = .ok (.iconst 4, 1) := by decide +kernel
theorem dX9_billOf_87 : decode cX9_billOf 87 = .ok (.aload_n 0, 1) := by decide +kernel
theorem dX9_billOf_88 : decode cX9_billOf 88 = .ok (.iload_n 1, 1) := by decide +kernel
theorem dX9_billOf_89 : decode cX9_billOf 89 = .ok (.iload_n 2, 1) := by decide +kernel
theorem dX9_billOf_90 : decode cX9_billOf 90 = .ok (.invokevirtual 306, 3) := by decide +kernel
theorem dX9_billOf_93 : decode cX9_billOf 93 = .ok (.iastore, 1) := by decide +kernel
theorem dX9_billOf_94 : decode cX9_billOf 94 = .ok (.iconst 0, 1) := by decide +kernel
theorem dX9_billOf_95 : decode cX9_billOf 95 = .ok (.istore 6, 2) := by decide +kernel
theorem dX9_billOf_97 : decode cX9_billOf 97 = .ok (.iload_n 3, 1) := by decide +kernel
theorem dX9_billOf_98 : decode cX9_billOf 98 = .ok (.ifCond .lt 81, 3) := by decide +kernel
theorem dX9_billOf_101 : decode cX9_billOf 101 = .ok (.iload 6, 2) := by decide +kernel
theorem dX9_billOf_103 : decode cX9_billOf 103 = .ok (.aload_n 0, 1) := by decide +kernel
theorem dX9_billOf_104 : decode cX9_billOf 104 = .ok (.getfield 53, 3) := by decide +kernel
theorem dX9_billOf_107 : decode cX9_billOf 107 = .ok (.iload_n 3, 1) := by decide +kernel
theorem dX9_billOf_108 : decode cX9_billOf 108 = .ok (.iaload, 1) := by decide +kernel
theorem dX9_billOf_109 : decode cX9_billOf 109 = .ok (.if_icmp .ge 70, 3) := by decide +kernel
theorem dX9_billOf_112 : decode cX9_billOf 112 = .ok (.aload_n 0, 1) := by decide +kernel
theorem dX9_billOf_113 : decode cX9_billOf 113 = .ok (.getfield 77, 3) := by decide +kernel
theorem dX9_billOf_116 : decode cX9_billOf 116 = .ok (.iconst 4, 1) := by decide +kernel
theorem dX9_billOf_117 : decode cX9_billOf 117 = .ok (.iaload, 1) := by decide +kernel
theorem dX9_billOf_118 : decode cX9_billOf 118 = .ok (.ifCond .le 61, 3) := by decide +kernel
theorem dX9_billOf_121 : decode cX9_billOf 121 = .ok (.aload_n 0, 1) := by decide +kernel
theorem dX9_billOf_122 : decode cX9_billOf 122 = .ok (.sipush 660, 3) := by decide +kernel
theorem dX9_billOf_125 : decode cX9_billOf 125 = .ok (.iload_n 3, 1) := by decide +kernel
theorem dX9_billOf_126 : decode cX9_billOf 126 = .ok (.imul, 1) := by decide +kernel
theorem dX9_billOf_127 : decode cX9_billOf 127 = .ok (.aload_n 0, 1) := by decide +kernel
theorem dX9_billOf_128 : decode cX9_billOf 128 = .ok (.getfield 59, 3) := by decide +kernel
theorem dX9_billOf_131 : decode cX9_billOf 131 = .ok (.bipush 16, 2) := by decide +kernel
theorem dX9_billOf_133 : decode cX9_billOf 133 = .ok (.iload_n 3, 1) := by decide +kernel
theorem dX9_billOf_134 : decode cX9_billOf 134 = .ok (.imul, 1) := by decide +kernel
theorem dX9_billOf_135 : decode cX9_billOf 135 = .ok (.iload 6, 2) := by decide +kernel
theorem dX9_billOf_137 : decode cX9_billOf 137 = .ok (.iadd, 1) := by decide +kernel
theorem dX9_billOf_138 : decode cX9_billOf 138 = .ok (.iaload, 1) := by decide +kernel
theorem dX9_billOf_139 : decode cX9_billOf 139 = .ok (.iadd, 1) := by decide +kernel
theorem dX9_billOf_140 : decode cX9_billOf 140 = .ok (.invokevirtual 309, 3) := by decide +kernel
theorem dX9_billOf_143 : decode cX9_billOf 143 = .ok (.ifCond .eq 30, 3) := by decide +kernel
theorem dX9_billOf_146 : decode cX9_billOf 146 = .ok (.aload_n 0, 1) := by decide +kernel
theorem dX9_billOf_147 : decode cX9_billOf 147 = .ok (.getfield 56, 3) := by decide +kernel
theorem dX9_billOf_150 : decode cX9_billOf 150 = .ok (.bipush 16, 2) := by decide +kernel
theorem dX9_billOf_152 : decode cX9_billOf 152 = .ok (.iload_n 3, 1) := by decide +kernel
theorem dX9_billOf_153 : decode cX9_billOf 153 = .ok (.imul, 1) := by decide +kernel
theorem dX9_billOf_154 : decode cX9_billOf 154 = .ok (.iload 6, 2) := by decide +kernel
theorem dX9_billOf_156 : decode cX9_billOf 156 = .ok (.iadd, 1) := by decide +kernel
theorem dX9_billOf_157 : decode cX9_billOf 157 = .ok (.iaload, 1) := by decide +kernel
theorem dX9_billOf_158 : decode cX9_billOf 158 = .ok (.i2l, 1) := by decide +kernel
theorem dX9_billOf_159 : decode cX9_billOf 159 = .ok (.iload 5, 2) := by decide +kernel
theorem dX9_billOf_161 : decode cX9_billOf 161 = .ok (.i2l, 1) := by decide +kernel
theorem dX9_billOf_162 : decode cX9_billOf 162 = .ok (.lmul, 1) := by decide +kernel
theorem dX9_billOf_163 : decode cX9_billOf 163 = .ok (.iload 4, 2) := by decide +kernel
theorem dX9_billOf_165 : decode cX9_billOf 165 = .ok (.i2l, 1) := by decide +kernel
theorem dX9_billOf_166 : decode cX9_billOf 166 = .ok (.lmul, 1) := by decide +kernel
theorem dX9_billOf_167 : decode cX9_billOf 167 = .ok (.ldc2_w 312, 3) := by decide +kernel
theorem dX9_billOf_170 : decode cX9_billOf 170 = .ok (.ldiv, 1) := by decide +kernel
theorem dX9_billOf_171 : decode cX9_billOf 171 = .ok (.l2i, 1) := by decide +kernel
theorem dX9_billOf_172 : decode cX9_billOf 172 = .ok (.ireturn, 1) := by decide +kernel
theorem dX9_billOf_173 : decode cX9_billOf 173 = .ok (.iinc 6 1, 3) := by decide +kernel
theorem dX9_billOf_176 : decode cX9_billOf 176 = .ok (.goto (-79), 3) := by decide +kernel
theorem dX9_billOf_179 : decode cX9_billOf 179 = .ok (.iconst 0, 1) := by decide +kernel
theorem dX9_billOf_180 : decode cX9_billOf 180 = .ok (.ireturn, 1) := by decide +kernel
set_option maxRecDepth 20000 in
theorem dX9_bill_0 : decode cX9_bill 0 = .ok (.aload_n 0, 1) := by decide +kernel
theorem dX9_bill_1 : decode cX9_bill 1 = .ok (.iload_n 1, 1) := by decide +kernel
theorem dX9_bill_2 : decode cX9_bill 2 = .ok (.iload_n 2, 1) := by decide +kernel
theorem dX9_bill_3 : decode cX9_bill 3 = .ok (.invokevirtual 314, 3) := by decide +kernel
theorem dX9_bill_6 : decode cX9_bill 6 = .ok (.aload_n 0, 1) := by decide +kernel
theorem dX9_bill_7 : decode cX9_bill 7 = .ok (.getfield 147, 3) := by decide +kernel
theorem dX9_bill_10 : decode cX9_bill 10 = .ok (.bipush 51, 2) := by decide +kernel
theorem dX9_bill_12 : decode cX9_bill 12 = .ok (.iload_n 1, 1) := by decide +kernel
theorem dX9_bill_13 : decode cX9_bill 13 = .ok (.imul, 1) := by decide +kernel
theorem dX9_bill_14 : decode cX9_bill 14 = .ok (.iload_n 2, 1) := by decide +kernel
theorem dX9_bill_15 : decode cX9_bill 15 = .ok (.iadd, 1) := by decide +kernel
theorem dX9_bill_16 : decode cX9_bill 16 = .ok (.iaload, 1) := by decide +kernel
theorem dX9_bill_17 : decode cX9_bill 17 = .ok (.isub, 1) := by decide +kernel
theorem dX9_bill_18 : decode cX9_bill 18 = .ok (.istore_n 3, 1) := by decide +kernel
theorem dX9_bill_19 : decode cX9_bill 19 = .ok (.aload_n 0, 1) := by decide +kernel
theorem dX9_bill_20 : decode cX9_bill 20 = .ok (.getfield 147, 3) := by decide +kernel
theorem dX9_bill_23 : decode cX9_bill 23 = .ok (.bipush 51, 2) := by decide +kernel
theorem dX9_bill_25 : decode cX9_bill 25 = .ok (.iload_n 1, 1) := by decide +kernel
theorem dX9_bill_26 : decode cX9_bill 26 = .ok (.imul, 1) := by decide +kernel
theorem dX9_bill_27 : decode cX9_bill 27 = .ok (.iload_n 2, 1) := by decide +kernel
theorem dX9_bill_28 : decode cX9_bill 28 = .ok (.iadd, 1) := by decide +kernel
theorem dX9_bill_29 : decode cX9_bill 29 = .ok (.dup2, 1) := by decide +kernel
theorem dX9_bill_30 : decode cX9_bill 30 = .ok (.iaload, 1) := by decide +kernel
theorem dX9_bill_31 : decode cX9_bill 31 = .ok (.iload_n 3, 1) := by decide +kernel
theorem dX9_bill_32 : decode cX9_bill 32 = .ok (.iadd, 1) := by decide +kernel
theorem dX9_bill_33 : decode cX9_bill 33 = .ok (.iastore, 1) := by decide +kernel
theorem dX9_bill_34 : decode cX9_bill 34 = .ok (.aload_n 0, 1) := by decide +kernel
theorem dX9_bill_35 : decode cX9_bill 35 = .ok (.getfield 150, 3) := by decide +kernel
theorem dX9_bill_38 : decode cX9_bill 38 = .ok (.iload_n 1, 1) := by decide +kernel
theorem dX9_bill_39 : decode cX9_bill 39 = .ok (.dup2, 1) := by decide +kernel
theorem dX9_bill_40 : decode cX9_bill 40 = .ok (.iaload, 1) := by decide +kernel
theorem dX9_bill_41 : decode cX9_bill 41 = .ok (.iload_n 3, 1) := by decide +kernel
theorem dX9_bill_42 : decode cX9_bill 42 = .ok (.iadd, 1) := by decide +kernel
theorem dX9_bill_43 : decode cX9_bill 43 = .ok (.iastore, 1) := by decide +kernel
theorem dX9_bill_44 : decode cX9_bill 44 = .ok (.aload_n 0, 1) := by decide +kernel
theorem dX9_bill_45 : decode cX9_bill 45 = .ok (.getfield 105, 3) := by decide +kernel
theorem dX9_bill_48 : decode cX9_bill 48 = .ok (.aload_n 0, 1) := by decide +kernel
theorem dX9_bill_49 : decode cX9_bill 49 = .ok (.getfield 123, 3) := by decide +kernel
theorem dX9_bill_52 : decode cX9_bill 52 = .ok (.iload_n 1, 1) := by decide +kernel
theorem dX9_bill_53 : decode cX9_bill 53 = .ok (.iaload, 1) := by decide +kernel
theorem dX9_bill_54 : decode cX9_bill 54 = .ok (.dup2, 1) := by decide +kernel
theorem dX9_bill_55 : decode cX9_bill 55 = .ok (.iaload, 1) := by decide +kernel
theorem dX9_bill_56 : decode cX9_bill 56 = .ok (.iload_n 3, 1) := by decide +kernel
theorem dX9_bill_57 : decode cX9_bill 57 = .ok (.iadd, 1) := by decide +kernel
theorem dX9_bill_58 : decode cX9_bill 58 = .ok (.iastore, 1) := by decide +kernel
theorem dX9_bill_59 : decode cX9_bill 59 = .ok (.iload_n 3, 1) := by decide +kernel
theorem dX9_bill_60 : decode cX9_bill 60 = .ok (.ireturn, 1) := by decide +kernel
set_option maxRecDepth 20000 in
theorem dX9_bills_0 : decode cX9_bills 0 = .ok (.aload_n 0, 1) := by decide +kernel
theorem dX9_bills_1 : decode cX9_bills 1 = .ok (.getfield 153, 3) := by decide +kernel
theorem dX9_bills_4 : decode cX9_bills 4 = .ok (.iload_n 1, 1) := by decide +kernel
theorem dX9_bills_5 : decode cX9_bills 5 = .ok (.aload_n 0, 1) := by decide +kernel
theorem dX9_bills_6 : decode cX9_bills 6 = .ok (.getfield 162, 3) := by decide +kernel
theorem dX9_bills_9 : decode cX9_bills 9 = .ok (.iastore, 1) := by decide +kernel
theorem dX9_bills_10 : decode cX9_bills 10 = .ok (.iconst 0, 1) := by decide +kernel
theorem dX9_bills_11 : decode cX9_bills 11 = .ok (.istore_n 2, 1) := by decide +kernel
theorem dX9_bills_12 : decode cX9_bills 12 = .ok (.iload_n 2, 1) := by decide +kernel
theorem dX9_bills_13 : decode cX9_bills 13 = .ok (.aload_n 0, 1) := by decide +kernel
theorem dX9_bills_14 : decode cX9_bills 14 = .ok (.getfield 261, 3) := by decide +kernel
theorem dX9_bills_17 : decode cX9_bills 17 = .ok (.if_icmp .ge 26, 3) := by decide +kernel
theorem dX9_bills_20 : decode cX9_bills 20 = .ok (.aload_n 0, 1) := by decide +kernel
theorem dX9_bills_21 : decode cX9_bills 21 = .ok (.getfield 117, 3) := by decide +kernel
theorem dX9_bills_24 : decode cX9_bills 24 = .ok (.bipush 51, 2) := by decide +kernel
theorem dX9_bills_26 : decode cX9_bills 26 = .ok (.iload_n 2, 1) := by decide +kernel
theorem dX9_bills_27 : decode cX9_bills 27 = .ok (.imul, 1) := by decide +kernel
theorem dX9_bills_28 : decode cX9_bills 28 = .ok (.iload_n 1, 1) := by decide +kernel
theorem dX9_bills_29 : decode cX9_bills 29 = .ok (.iadd, 1) := by decide +kernel
theorem dX9_bills_30 : decode cX9_bills 30 = .ok (.aload_n 0, 1) := by decide +kernel
theorem dX9_bills_31 : decode cX9_bills 31 = .ok (.getfield 114, 3) := by decide +kernel
theorem dX9_bills_34 : decode cX9_bills 34 = .ok (.iload_n 2, 1) := by decide +kernel
theorem dX9_bills_35 : decode cX9_bills 35 = .ok (.iaload, 1) := by decide +kernel
theorem dX9_bills_36 : decode cX9_bills 36 = .ok (.iastore, 1) := by decide +kernel
theorem dX9_bills_37 : decode cX9_bills 37 = .ok (.iinc 2 1, 3) := by decide +kernel
theorem dX9_bills_40 : decode cX9_bills 40 = .ok (.goto (-28), 3) := by decide +kernel
theorem dX9_bills_43 : decode cX9_bills 43 = .ok (.iconst 0, 1) := by decide +kernel
theorem dX9_bills_44 : decode cX9_bills 44 = .ok (.istore_n 2, 1) := by decide +kernel
theorem dX9_bills_45 : decode cX9_bills 45 = .ok (.iload_n 2, 1) := by decide +kernel
theorem dX9_bills_46 : decode cX9_bills 46 = .ok (.aload_n 0, 1) := by decide +kernel
theorem dX9_bills_47 : decode cX9_bills 47 = .ok (.getfield 273, 3) := by decide +kernel
theorem dX9_bills_50 : decode cX9_bills 50 = .ok (.if_icmp .ge 16, 3) := by decide +kernel
theorem dX9_bills_53 : decode cX9_bills 53 = .ok (.aload_n 0, 1) := by decide +kernel
theorem dX9_bills_54 : decode cX9_bills 54 = .ok (.iload_n 2, 1) := by decide +kernel
theorem dX9_bills_55 : decode cX9_bills 55 = .ok (.iload_n 1, 1) := by decide +kernel
theorem dX9_bills_56 : decode cX9_bills 56 = .ok (.invokevirtual 317, 3) := by decide +kernel
theorem dX9_bills_59 : decode cX9_bills 59 = .ok (.istore_n 3, 1) := by decide +kernel
theorem dX9_bills_60 : decode cX9_bills 60 = .ok (.iinc 2 1, 3) := by decide +kernel
theorem dX9_bills_63 : decode cX9_bills 63 = .ok (.goto (-18), 3) := by decide +kernel
theorem dX9_bills_66 : decode cX9_bills 66 = .ok (.return_, 1) := by decide +kernel
set_option maxRecDepth 20000 in
theorem dX9_right_0 : decode cX9_right 0 = .ok (.aload_n 0, 1) := by decide +kernel
theorem dX9_right_1 : decode cX9_right 1 = .ok (.aload_n 0, 1) := by decide +kernel
theorem dX9_right_2 : decode cX9_right 2 = .ok (.iload_n 1, 1) := by decide +kernel
theorem dX9_right_3 : decode cX9_right 3 = .ok (.invokevirtual 267, 3) := by decide +kernel
theorem dX9_right_6 : decode cX9_right 6 = .ok (.ifCond .eq 32, 3) := by decide +kernel
theorem dX9_right_9 : decode cX9_right 9 = .ok (.iload_n 2, 1) := by decide +kernel
theorem dX9_right_10 : decode cX9_right 10 = .ok (.ifCond .lt 28, 3) := by decide +kernel
theorem dX9_right_13 : decode cX9_right 13 = .ok (.iload_n 2, 1) := by decide +kernel
theorem dX9_right_14 : decode cX9_right 14 = .ok (.aload_n 0, 1) := by decide +kernel
theorem dX9_right_15 : decode cX9_right 15 = .ok (.getfield 264, 3) := by decide +kernel
theorem dX9_right_18 : decode cX9_right 18 = .ok (.iconst 4, 1) := by decide +kernel
theorem dX9_right_19 : decode cX9_right 19 = .ok (.idiv, 1) := by decide +kernel
theorem dX9_right_20 : decode cX9_right 20 = .ok (.if_icmp .ge 18, 3) := by decide +kernel
theorem dX9_right_23 : decode cX9_right 23 = .ok (.iload_n 3, 1) := by decide +kernel
theorem dX9_right_24 : decode cX9_right 24 = .ok (.iconst 1, 1) := by decide +kernel
theorem dX9_right_25 : decode cX9_right 25 = .ok (.ldc_w 260, 3) := by decide +kernel
theorem dX9_right_28 : decode cX9_right 28 = .ok (.invokestatic 253, 3) := by decide +kernel
theorem dX9_right_31 : decode cX9_right 31 = .ok (.ifCond .eq 7, 3) := by decide +kernel
theorem dX9_right_34 : decode cX9_right 34 = .ok (.iconst 0, 1) := by decide +kernel
theorem dX9_right_35 : decode cX9_right 35 = .ok (.goto 4, 3) := by decide +kernel
theorem dX9_right_38 : decode cX9_right 38 = .ok (.iconst 1, 1) := by decide +kernel
theorem dX9_right_39 : decode cX9_right 39 = .ok (.putfield 1, 3) := by decide +kernel
theorem dX9_right_42 : decode cX9_right 42 = .ok (.aload_n 0, 1) := by decide +kernel
theorem dX9_right_43 : decode cX9_right 43 = .ok (.getfield 1, 3) := by decide +kernel
theorem dX9_right_46 : decode cX9_right 46 = .ok (.ifCond .le 5, 3) := by decide +kernel
theorem dX9_right_49 : decode cX9_right 49 = .ok (.iconst 0, 1) := by decide +kernel
theorem dX9_right_50 : decode cX9_right 50 = .ok (.ireturn, 1) := by decide +kernel
theorem dX9_right_51 : decode cX9_right 51 = .ok (.aload_n 0, 1) := by decide +kernel
theorem dX9_right_52 : decode cX9_right 52 = .ok (.getfield 117, 3) := by decide +kernel
theorem dX9_right_55 : decode cX9_right 55 = .ok (.bipush 51, 2) := by decide +kernel
theorem dX9_right_57 : decode cX9_right 57 = .ok (.iload_n 1, 1) := by decide +kernel
theorem dX9_right_58 : decode cX9_right 58 = .ok (.imul, 1) := by decide +kernel
theorem dX9_right_59 : decode cX9_right 59 = .ok (.iload_n 2, 1) := by decide +kernel
theorem dX9_right_60 : decode cX9_right 60 = .ok (.iadd, 1) := by decide +kernel
theorem dX9_right_61 : decode cX9_right 61 = .ok (.iload_n 3, 1) := by decide +kernel
theorem dX9_right_62 : decode cX9_right 62 = .ok (.iastore, 1) := by decide +kernel
theorem dX9_right_63 : decode cX9_right 63 = .ok (.iconst 0, 1) := by decide +kernel
theorem dX9_right_64 : decode cX9_right 64 = .ok (.istore 4, 2) := by decide +kernel
theorem dX9_right_66 : decode cX9_right 66 = .ok (.iconst 0, 1) := by decide +kernel
theorem dX9_right_67 : decode cX9_right 67 = .ok (.istore 5, 2) := by decide +kernel
theorem dX9_right_69 : decode cX9_right 69 = .ok (.iload 5, 2) := by decide +kernel
theorem dX9_right_71 : decode cX9_right 71 = .ok (.aload_n 0, 1) := by decide +kernel
theorem dX9_right_72 : decode cX9_right 72 = .ok (.getfield 273, 3) := by decide +kernel
theorem dX9_right_75 : decode cX9_right 75 = .ok (.if_icmp .ge 36, 3) := by decide +kernel
theorem dX9_right_78 : decode cX9_right 78 = .ok (.iload 4, 2) := by decide +kernel
theorem dX9_right_80 : decode cX9_right 80 = .ok (.aload_n 0, 1) := by decide +kernel
theorem dX9_right_81 : decode cX9_right 81 = .ok (.getfield 120, 3) := by decide +kernel
theorem dX9_right_84 : decode cX9_right 84 = .ok (.iload 5, 2) := by decide +kernel
theorem dX9_right_86 : decode cX9_right 86 = .ok (.iaload, 1) := by decide +kernel
theorem dX9_right_87 : decode cX9_right 87 = .ok (.iload_n 1, 1) := by decide +kernel
theorem dX9_right_88 : decode cX9_right 88 = .ok (.if_icmp .ne 13, 3) := by decide +kernel
theorem dX9_right_91 : decode cX9_right 91 = .ok (.aload_n 0, 1) := by decide +kernel
theorem dX9_right_92 : decode cX9_right 92 = .ok (.iload 5, 2) := by decide +kernel
theorem dX9_right_94 : decode cX9_right 94 = .ok (.iload_n 2, 1) := by decide +kernel
theorem dX9_right_95 : decode cX9_right 95 = .ok (.invokevirtual 317, 3) := by decide +kernel
theorem dX9_right_98 : decode cX9_right 98 = .ok (.goto 4, 3) := by decide +kernel
theorem dX9_right_101 : decode cX9_right 101 = .ok (.iconst 0, 1) := by decide +kernel
theorem dX9_right_102 : decode cX9_right 102 = .ok (.iadd, 1) := by decide +kernel
theorem dX9_right_103 : decode cX9_right 103 = .ok (.istore 4, 2) := by decide +kernel
theorem dX9_right_105 : decode cX9_right 105 = .ok (.iinc 5 1, 3) := by decide +kernel
theorem dX9_right_108 : decode cX9_right 108 = .ok (.goto (-39), 3) := by decide +kernel
theorem dX9_right_111 : decode cX9_right 111 = .ok (.iload 4, 2) := by decide +kernel
theorem dX9_right_113 : decode cX9_right 113 = .ok (.ireturn, 1) := by decide +kernel
set_option maxRecDepth 20000 in
theorem dX9_income_0 : decode cX9_income 0 = .ok (.aload_n 0, 1) := by decide +kernel
theorem dX9_income_1 : decode cX9_income 1 = .ok (.aload_n 0, 1) := by decide +kernel
theorem dX9_income_2 : decode cX9_income 2 = .ok (.iload_n 1, 1) := by decide +kernel
theorem dX9_income_3 : decode cX9_income 3 = .ok (.invokevirtual 270, 3) := by decide +kernel
theorem dX9_income_6 : decode cX9_income 6 = .ok (.ifCond .eq 7, 3) := by decide +kernel
theorem dX9_income_9 : decode cX9_income 9 = .ok (.iconst 0, 1) := by decide +kernel
theorem dX9_income_10 : decode cX9_income 10 = .ok (.goto 4, 3) := by decide +kernel
theorem dX9_income_13 : decode cX9_income 13 = .ok (.iconst 1, 1) := by decide +kernel
theorem dX9_income_14 : decode cX9_income 14 = .ok (.putfield 1, 3) := by decide +kernel
theorem dX9_income_17 : decode cX9_income 17 = .ok (.aload_n 0, 1) := by decide +kernel
theorem dX9_income_18 : decode cX9_income 18 = .ok (.getfield 1, 3) := by decide +kernel
theorem dX9_income_21 : decode cX9_income 21 = .ok (.ifCond .le 7, 3) := by decide +kernel
theorem dX9_income_24 : decode cX9_income 24 = .ok (.iconst 0, 1) := by decide +kernel
theorem dX9_income_25 : decode cX9_income 25 = .ok (.goto 9, 3) := by decide +kernel
theorem dX9_income_28 : decode cX9_income 28 = .ok (.aload_n 0, 1) := by decide +kernel
theorem dX9_income_29 : decode cX9_income 29 = .ok (.getfield 105, 3) := by decide +kernel
theorem dX9_income_32 : decode cX9_income 32 = .ok (.iload_n 1, 1) := by decide +kernel
theorem dX9_income_33 : decode cX9_income 33 = .ok (.iaload, 1) := by decide +kernel
theorem dX9_income_34 : decode cX9_income 34 = .ok (.ireturn, 1) := by decide +kernel
set_option maxRecDepth 20000 in
theorem dX9_share_0 : decode cX9_share 0 = .ok (.aload_n 0, 1) := by decide +kernel
theorem dX9_share_1 : decode cX9_share 1 = .ok (.iconst 0, 1) := by decide +kernel
theorem dX9_share_2 : decode cX9_share 2 = .ok (.putfield 1, 3) := by decide +kernel
theorem dX9_share_5 : decode cX9_share 5 = .ok (.aload_n 0, 1) := by decide +kernel
theorem dX9_share_6 : decode cX9_share 6 = .ok (.iload_n 1, 1) := by decide +kernel
theorem dX9_share_7 : decode cX9_share 7 = .ok (.invokevirtual 270, 3) := by decide +kernel
theorem dX9_share_10 : decode cX9_share 10 = .ok (.ifCond .eq 12, 3) := by decide +kernel
theorem dX9_share_13 : decode cX9_share 13 = .ok (.iload_n 2, 1) := by decide +kernel
theorem dX9_share_14 : decode cX9_share 14 = .ok (.iconst 0, 1) := by decide +kernel
theorem dX9_share_15 : decode cX9_share 15 = .ok (.iconst 2, 1) := by decide +kernel
theorem dX9_share_16 : decode cX9_share 16 = .ok (.invokestatic 253, 3) := by decide +kernel
theorem dX9_share_19 : decode cX9_share 19 = .ok (.ifCond .ne 5, 3) := by decide +kernel
theorem dX9_share_22 : decode cX9_share 22 = .ok (.iconst (-1), 1) := by decide +kernel
theorem dX9_share_23 : decode cX9_share 23 = .ok (.ireturn, 1) := by decide +kernel
theorem dX9_share_24 : decode cX9_share 24 = .ok (.aload_n 0, 1) := by decide +kernel
theorem dX9_share_25 : decode cX9_share 25 = .ok (.getfield 89, 3) := by decide +kernel
theorem dX9_share_28 : decode cX9_share 28 = .ok (.iconst 3, 1) := by decide +kernel
theorem dX9_share_29 : decode cX9_share 29 = .ok (.iload_n 1, 1) := by decide +kernel
theorem dX9_share_30 : decode cX9_share 30 = .ok (.imul, 1) := by decide +kernel
theorem dX9_share_31 : decode cX9_share 31 = .ok (.iaload, 1) := by decide +kernel
theorem dX9_share_32 : decode cX9_share 32 = .ok (.aload_n 0, 1) := by decide +kernel
theorem dX9_share_33 : decode cX9_share 33 = .ok (.getfield 89, 3) := by decide +kernel
theorem dX9_share_36 : decode cX9_share 36 = .ok (.iconst 3, 1) := by decide +kernel
theorem dX9_share_37 : decode cX9_share 37 = .ok (.iload_n 1, 1) := by decide +kernel
theorem dX9_share_38 : decode cX9_share 38 = .ok (.imul, 1) := by decide +kernel
theorem dX9_share_39 : decode cX9_share 39 = .ok (.iconst 1, 1) := by decide +kernel
theorem dX9_share_40 : decode cX9_share 40 = .ok (.iadd, 1) := by decide +kernel
theorem dX9_share_41 : decode cX9_share 41 = .ok (.iaload, 1) := by decide +kernel
theorem dX9_share_42 : decode cX9_share 42 = .ok (.iadd, 1) := by decide +kernel
theorem dX9_share_43 : decode cX9_share 43 = .ok (.aload_n 0, 1) := by decide +kernel
theorem dX9_share_44 : decode cX9_share 44 = .ok (.getfield 89, 3) := by decide +kernel
theorem dX9_share_47 : decode cX9_share 47 = .ok (.iconst 3, 1) := by decide +kernel
theorem dX9_share_48 : decode cX9_share 48 = .ok (.iload_n 1, 1) := by decide +kernel
theorem dX9_share_49 : decode cX9_share 49 = .ok (.imul, 1) := by decide +kernel
theorem dX9_share_50 : decode cX9_share 50 = .ok (.iconst 2, 1) := by decide +kernel
theorem dX9_share_51 : decode cX9_share 51 = .ok (.iadd, 1) := by decide +kernel
theorem dX9_share_52 : decode cX9_share 52 = .ok (.iaload, 1) := by decide +kernel
theorem dX9_share_53 : decode cX9_share 53 = .ok (.iadd, 1) := by decide +kernel
theorem dX9_share_54 : decode cX9_share 54 = .ok (.istore_n 3, 1) := by decide +kernel
theorem dX9_share_55 : decode cX9_share 55 = .ok (.aload_n 0, 1) := by decide +kernel
theorem dX9_share_56 : decode cX9_share 56 = .ok (.getfield 105, 3) := by decide +kernel
theorem dX9_share_59 : decode cX9_share 59 = .ok (.iload_n 1, 1) := by decide +kernel
theorem dX9_share_60 : decode cX9_share 60 = .ok (.iaload, 1) := by decide +kernel
theorem dX9_share_61 : decode cX9_share 61 = .ok (.ifCond .ge 7, 3) := by decide +kernel
theorem dX9_share_64 : decode cX9_share 64 = .ok (.iconst 0, 1) := by decide +kernel
theorem dX9_share_65 : decode cX9_share 65 = .ok (.goto 9, 3) := by decide +kernel
theorem dX9_share_68 : decode cX9_share 68 = .ok (.aload_n 0, 1) := by decide +kernel
theorem dX9_share_69 : decode cX9_share 69 = .ok (.getfield 105, 3) := by decide +kernel
theorem dX9_share_72 : decode cX9_share 72 = .ok (.iload_n 1, 1) := by decide +kernel
theorem dX9_share_73 : decode cX9_share 73 = .ok (.iaload, 1) := by decide +kernel
theorem dX9_share_74 : decode cX9_share 74 = .ok (.istore 4, 2) := by decide +kernel
theorem dX9_share_76 : decode cX9_share 76 = .ok (.iload 4, 2) := by decide +kernel
theorem dX9_share_78 : decode cX9_share 78 = .ok (.i2l, 1) := by decide +kernel
theorem dX9_share_79 : decode cX9_share 79 = .ok (.lstore 5, 2) := by decide +kernel
theorem dX9_share_81 : decode cX9_share 81 = .ok (.iconst 0, 1) := by decide +kernel
theorem dX9_share_82 : decode cX9_share 82 = .ok (.istore 7, 2) := by decide +kernel
theorem dX9_share_84 : decode cX9_share 84 = .ok (.iload 7, 2) := by decide +kernel
theorem dX9_share_86 : decode cX9_share 86 = .ok (.iconst 3, 1) := by decide +kernel
theorem dX9_share_87 : decode cX9_share 87 = .ok (.if_icmp .ge 73, 3) := by decide +kernel
theorem dX9_share_90 : decode cX9_share 90 = .ok (.aload_n 0, 1) := by decide +kernel
theorem dX9_share_91 : decode cX9_share 91 = .ok (.getfield 159, 3) := by decide +kernel
theorem dX9_share_94 : decode cX9_share 94 = .ok (.iload 7, 2) := by decide +kernel
theorem dX9_share_96 : decode cX9_share 96 = .ok (.lload 5, 2) := by decide +kernel
theorem dX9_share_98 : decode cX9_share 98 = .ok (.aload_n 0, 1) := by decide +kernel
theorem dX9_share_99 : decode cX9_share 99 = .ok (.getfield 89, 3) := by decide +kernel
theorem dX9_share_102 : decode cX9_share 102 = .ok (.iconst 3, 1) := by decide +kernel
theorem dX9_share_103 : decode cX9_share 103 = .ok (.iload_n 1, 1) := by decide +kernel
theorem dX9_share_104 : decode cX9_share 104 = .ok (.imul, 1) := by decide +kernel
theorem dX9_share_105 : decode cX9_share 105 = .ok (.iload 7, 2) := by decide +kernel
theorem dX9_share_107 : decode cX9_share 107 = .ok (.iadd, 1) := by decide +kernel
theorem dX9_share_108 : decode cX9_share 108 = .ok (.iaload, 1) := by decide +kernel
theorem dX9_share_109 : decode cX9_share 109 = .ok (.i2l, 1) := by decide +kernel
theorem dX9_share_110 : decode cX9_share 110 = .ok (.lmul, 1) := by decide +kernel
theorem dX9_share_111 : decode cX9_share 111 = .ok (.iload_n 3, 1) := by decide +kernel
theorem dX9_share_112 : decode cX9_share 112 = .ok (.i2l, 1) := by decide +kernel
theorem dX9_share_113 : decode cX9_share 113 = .ok (.ldiv, 1) := by decide +kernel
theorem dX9_share_114 : decode cX9_share 114 = .ok (.l2i, 1) := by decide +kernel
theorem dX9_share_115 : decode cX9_share 115 = .ok (.iastore, 1) := by decide +kernel
theorem dX9_share_116 : decode cX9_share 116 = .ok (.aload_n 0, 1) := by decide +kernel
theorem dX9_share_117 : decode cX9_share 117 = .ok (.getfield 156, 3) := by decide +kernel
theorem dX9_share_120 : decode cX9_share 120 = .ok (.iload 7, 2) := by decide +kernel
theorem dX9_share_122 : decode cX9_share 122 = .ok (.lload 5, 2) := by decide +kernel
theorem dX9_share_124 : decode cX9_share 124 = .ok (.aload_n 0, 1) := by decide +kernel
theorem dX9_share_125 : decode cX9_share 125 = .ok (.getfield 89, 3) := by decide +kernel
theorem dX9_share_128 : decode cX9_share 128 = .ok (.iconst 3, 1) := by decide +kernel
theorem dX9_share_129 : decode cX9_share 129 = .ok (.iload_n 1, 1) := by decide +kernel
theorem dX9_share_130 : decode cX9_share 130 = .ok (.imul, 1) := by decide +kernel
theorem dX9_share_131 : decode cX9_share 131 = .ok (.iload 7, 2) := by decide +kernel
theorem dX9_share_133 : decode cX9_share 133 = .ok (.iadd, 1) := by decide +kernel
theorem dX9_share_134 : decode cX9_share 134 = .ok (.iaload, 1) := by decide +kernel
theorem dX9_share_135 : decode cX9_share 135 = .ok (.i2l, 1) := by decide +kernel
theorem dX9_share_136 : decode cX9_share 136 = .ok (.lmul, 1) := by decide +kernel
theorem dX9_share_137 : decode cX9_share 137 = .ok (.iload_n 3, 1) := by decide +kernel
theorem dX9_share_138 : decode cX9_share 138 = .ok (.i2l, 1) := by decide +kernel
theorem dX9_share_139 : decode cX9_share 139 = .ok (.lrem, 1) := by decide +kernel
theorem dX9_share_140 : decode cX9_share 140 = .ok (.l2i, 1) := by decide +kernel
theorem dX9_share_141 : decode cX9_share 141 = .ok (.iastore, 1) := by decide +kernel
theorem dX9_share_142 : decode cX9_share 142 = .ok (.iload 4, 2) := by decide +kernel
theorem dX9_share_144 : decode cX9_share 144 = .ok (.aload_n 0, 1) := by decide +kernel
theorem dX9_share_145 : decode cX9_share 145 = .ok (.getfield 159, 3) := by decide +kernel
theorem dX9_share_148 : decode cX9_share 148 = .ok (.iload 7, 2) := by decide +kernel
theorem dX9_share_150 : decode cX9_share 150 = .ok (.iaload, 1) := by decide +kernel
theorem dX9_share_151 : decode cX9_share 151 = .ok (.isub, 1) := by decide +kernel
theorem dX9_share_152 : decode cX9_share 152 = .ok (.istore 4, 2) := by decide +kernel
theorem dX9_share_154 : decode cX9_share 154 = .ok (.iinc 7 1, 3) := by decide +kernel
theorem dX9_share_157 : decode cX9_share 157 = .ok (.goto (-73), 3) := by decide +kernel
theorem dX9_share_160 : decode cX9_share 160 = .ok (.iload 4, 2) := by decide +kernel
theorem dX9_share_162 : decode cX9_share 162 = .ok (.ifCond .le 72, 3) := by decide +kernel
theorem dX9_share_165 : decode cX9_share 165 = .ok (.iconst 0, 1) := by decide +kernel
theorem dX9_share_166 : decode cX9_share 166 = .ok (.istore 7, 2) := by decide +kernel
theorem dX9_share_168 : decode cX9_share 168 = .ok (.iconst 1, 1) := by decide +kernel
theorem dX9_share_169 : decode cX9_share 169 = .ok (.istore 8, 2) := by decide +kernel
theorem dX9_share_171 : decode cX9_share 171 = .ok (.iload 8, 2) := by decide +kernel
theorem dX9_share_173 : decode cX9_share 173 = .ok (.iconst 3, 1) := by decide +kernel
theorem dX9_share_174 : decode cX9_share 174 = .ok (.if_icmp .ge 35, 3) := by decide +kernel
theorem dX9_share_177 : decode cX9_share 177 = .ok (.aload_n 0, 1) := by decide +kernel
theorem dX9_share_178 : decode cX9_share 178 = .ok (.getfield 156, 3) := by decide +kernel
theorem dX9_share_181 : decode cX9_share 181 = .ok (.iload 8, 2) := by decide +kernel
theorem dX9_share_183 : decode cX9_share 183 = .ok (.iaload, 1) := by decide +kernel
theorem dX9_share_184 : decode cX9_share 184 = .ok (.aload_n 0, 1) := by decide +kernel
theorem dX9_share_185 : decode cX9_share 185 = .ok (.getfield 156, 3) := by decide +kernel
theorem dX9_share_188 : decode cX9_share 188 = .ok (.iload 7, 2) := by decide +kernel
theorem dX9_share_190 : decode cX9_share 190 = .ok (.iaload, 1) := by decide +kernel
theorem dX9_share_191 : decode cX9_share 191 = .ok (.if_icmp .le 8, 3) := by decide +kernel
theorem dX9_share_194 : decode cX9_share 194 = .ok (.iload 8, 2) := by decide +kernel
theorem dX9_share_196 : decode cX9_share 196 = .ok (.goto 5, 3) := by decide +kernel
theorem dX9_share_199 : decode cX9_share 199 = .ok (.iload 7, 2) := by decide +kernel
theorem dX9_share_201 : decode cX9_share 201 = .ok (.istore 7, 2) := by decide +kernel
theorem dX9_share_203 : decode cX9_share 203 = .ok (.iinc 8 1, 3) := by decide +kernel
theorem dX9_share_206 : decode cX9_share 206 = .ok (.goto (-35), 3) := by decide +kernel
theorem dX9_share_209 : decode cX9_share 209 = .ok (.aload_n 0, 1) := by decide +kernel
theorem dX9_share_210 : decode cX9_share 210 = .ok (.getfield 159, 3) := by decide +kernel
theorem dX9_share_213 : decode cX9_share 213 = .ok (.iload 7, 2) := by decide +kernel
theorem dX9_share_215 : decode cX9_share 215 = .ok (.dup2, 1) := by decide +kernel
theorem dX9_share_216 : decode cX9_share 216 = .ok (.iaload, 1) := by decide +kernel
theorem dX9_share_217 : decode cX9_share 217 = .ok (.iconst 1, 1) := by decide +kernel
theorem dX9_share_218 : decode cX9_share 218 = .ok (.iadd, 1) := by decide +kernel
theorem dX9_share_219 : decode cX9_share 219 = .ok (.iastore, 1) := by decide +kernel
theorem dX9_share_220 : decode cX9_share 220 = .ok (.aload_n 0, 1) := by decide +kernel
theorem dX9_share_221 : decode cX9_share 221 = .ok (.getfield 156, 3) := by decide +kernel
theorem dX9_share_224 : decode cX9_share 224 = .ok (.iload 7, 2) := by decide +kernel
theorem dX9_share_226 : decode cX9_share 226 = .ok (.iconst (-1), 1) := by decide +kernel
theorem dX9_share_227 : decode cX9_share 227 = .ok (.iastore, 1) := by decide +kernel
theorem dX9_share_228 : decode cX9_share 228 = .ok (.iinc 4 (-1), 3) := by decide +kernel
theorem dX9_share_231 : decode cX9_share 231 = .ok (.goto (-71), 3) := by decide +kernel
theorem dX9_share_234 : decode cX9_share 234 = .ok (.aload_n 0, 1) := by decide +kernel
theorem dX9_share_235 : decode cX9_share 235 = .ok (.getfield 159, 3) := by decide +kernel
theorem dX9_share_238 : decode cX9_share 238 = .ok (.iload_n 2, 1) := by decide +kernel
theorem dX9_share_239 : decode cX9_share 239 = .ok (.iaload, 1) := by decide +kernel
theorem dX9_share_240 : decode cX9_share 240 = .ok (.ireturn, 1) := by decide +kernel
set_option maxRecDepth 20000 in
theorem dX9_gap_0 : decode cX9_gap 0 = .ok (.iconst 0, 1) := by decide +kernel
theorem dX9_gap_1 : decode cX9_gap 1 = .ok (.istore_n 3, 1) := by decide +kernel
theorem dX9_gap_2 : decode cX9_gap 2 = .ok (.iconst 1, 1) := by decide +kernel
theorem dX9_gap_3 : decode cX9_gap 3 = .ok (.istore 4, 2) := by decide +kernel
theorem dX9_gap_5 : decode cX9_gap 5 = .ok (.iload 4, 2) := by decide +kernel
theorem dX9_gap_7 : decode cX9_gap 7 = .ok (.aload_n 0, 1) := by decide +kernel
theorem dX9_gap_8 : decode cX9_gap 8 = .ok (.getfield 99, 3) := by decide +kernel
theorem dX9_gap_11 : decode cX9_gap 11 = .ok (.aload_n 0, 1) := by decide +kernel
theorem dX9_gap_12 : decode cX9_gap 12 = .ok (.getfield 123, 3) := by decide +kernel
theorem dX9_gap_15 : decode cX9_gap 15 = .ok (.iload_n 1, 1) := by decide +kernel
theorem dX9_gap_16 : decode cX9_gap 16 = .ok (.iaload, 1) := by decide +kernel
theorem dX9_gap_17 : decode cX9_gap 17 = .ok (.iaload, 1) := by decide +kernel
theorem dX9_gap_18 : decode cX9_gap 18 = .ok (.if_icmp .gt 70, 3) := by decide +kernel
theorem dX9_gap_21 : decode cX9_gap 21 = .ok (.aload_n 0, 1) := by decide +kernel
theorem dX9_gap_22 : decode cX9_gap 22 = .ok (.iload_n 1, 1) := by decide +kernel
theorem dX9_gap_23 : decode cX9_gap 23 = .ok (.iload 4, 2) := by decide +kernel
theorem dX9_gap_25 : decode cX9_gap 25 = .ok (.invokevirtual 287, 3) := by decide +kernel
theorem dX9_gap_28 : decode cX9_gap 28 = .ok (.ifCond .eq 18, 3) := by decide +kernel
theorem dX9_gap_31 : decode cX9_gap 31 = .ok (.iload 4, 2) := by decide +kernel
theorem dX9_gap_33 : decode cX9_gap 33 = .ok (.aload_n 0, 1) := by decide +kernel
theorem dX9_gap_34 : decode cX9_gap 34 = .ok (.getfield 132, 3) := by decide +kernel
theorem dX9_gap_37 : decode cX9_gap 37 = .ok (.iload_n 1, 1) := by decide +kernel
theorem dX9_gap_38 : decode cX9_gap 38 = .ok (.iaload, 1) := by decide +kernel
theorem dX9_gap_39 : decode cX9_gap 39 = .ok (.if_icmp .lt 7, 3) := by decide +kernel
theorem dX9_gap_42 : decode cX9_gap 42 = .ok (.iconst 1, 1) := by decide +kernel
theorem dX9_gap_43 : decode cX9_gap 43 = .ok (.goto 4, 3) := by decide +kernel
theorem dX9_gap_46 : decode cX9_gap 46 = .ok (.iconst 0, 1) := by decide +kernel
theorem dX9_gap_47 : decode cX9_gap 47 = .ok (.istore 5, 2) := by decide +kernel
theorem dX9_gap_49 : decode cX9_gap 49 = .ok (.iload_n 3, 1) := by decide +kernel
theorem dX9_gap_50 : decode cX9_gap 50 = .ok (.iload 5, 2) := by decide +kernel
theorem dX9_gap_52 : decode cX9_gap 52 = .ok (.ifCond .eq 27, 3) := by decide +kernel
theorem dX9_gap_55 : decode cX9_gap 55 = .ok (.iload_n 2, 1) := by decide +kernel
theorem dX9_gap_56 : decode cX9_gap 56 = .ok (.ifCond .eq 19, 3) := by decide +kernel
theorem dX9_gap_59 : decode cX9_gap 59 = .ok (.aload_n 0, 1) := by decide +kernel
theorem dX9_gap_60 : decode cX9_gap 60 = .ok (.getfield 141, 3) := by decide +kernel
theorem dX9_gap_63 : decode cX9_gap 63 = .ok (.sipush 202, 3) := by decide +kernel
theorem dX9_gap_66 : decode cX9_gap 66 = .ok (.iload_n 1, 1) := by decide +kernel
theorem dX9_gap_67 : decode cX9_gap 67 = .ok (.imul, 1) := by decide +kernel
theorem dX9_gap_68 : decode cX9_gap 68 = .ok (.iload 4, 2) := by decide +kernel
theorem dX9_gap_70 : decode cX9_gap 70 = .ok (.iadd, 1) := by decide +kernel
theorem dX9_gap_71 : decode cX9_gap 71 = .ok (.baload, 1) := by decide +kernel
theorem dX9_gap_72 : decode cX9_gap 72 = .ok (.ifCond .ne 7, 3) := by decide +kernel
theorem dX9_gap_75 : decode cX9_gap 75 = .ok (.iconst 1, 1) := by decide +kernel
theorem dX9_gap_76 : decode cX9_gap 76 = .ok (.goto 4, 3) := by decide +kernel
theorem dX9_gap_79 : decode cX9_gap 79 = .ok (.iconst 0, 1) := by decide +kernel
theorem dX9_gap_80 : decode cX9_gap 80 = .ok (.iadd, 1) := by decide +kernel
theorem dX9_gap_81 : decode cX9_gap 81 = .ok (.istore_n 3, 1) := by decide +kernel
theorem dX9_gap_82 : decode cX9_gap 82 = .ok (.iinc 4 1, 3) := by decide +kernel
theorem dX9_gap_85 : decode cX9_gap 85 = .ok (.goto (-80), 3) := by decide +kernel
theorem dX9_gap_88 : decode cX9_gap 88 = .ok (.iload_n 3, 1) := by decide +kernel
theorem dX9_gap_89 : decode cX9_gap 89 = .ok (.ireturn, 1) := by decide +kernel
set_option maxRecDepth 20000 in
theorem dX9_look_0 : decode cX9_look 0 = .ok (.aload_n 0, 1) := by decide +kernel
theorem dX9_look_1 : decode cX9_look 1 = .ok (.aload_n 0, 1) := by decide +kernel
theorem dX9_look_2 : decode cX9_look 2 = .ok (.iload_n 1, 1) := by decide +kernel
theorem dX9_look_3 : decode cX9_look 3 = .ok (.invokevirtual 284, 3) := by decide +kernel
theorem dX9_look_6 : decode cX9_look 6 = .ok (.ifCond .eq 17, 3) := by decide +kernel
theorem dX9_look_9 : decode cX9_look 9 = .ok (.iload_n 2, 1) := by decide +kernel
theorem dX9_look_10 : decode cX9_look 10 = .ok (.ifCond .lt 13, 3) := by decide +kernel
theorem dX9_look_13 : decode cX9_look 13 = .ok (.iload_n 2, 1) := by decide +kernel
theorem dX9_look_14 : decode cX9_look 14 = .ok (.bipush 9, 2) := by decide +kernel
theorem dX9_look_16 : decode cX9_look 16 = .ok (.if_icmp .gt 7, 3) := by decide +kernel
theorem dX9_look_19 : decode cX9_look 19 = .ok (.iconst 0, 1) := by decide +kernel
theorem dX9_look_20 : decode cX9_look 20 = .ok (.goto 4, 3) := by decide +kernel
theorem dX9_look_23 : decode cX9_look 23 = .ok (.iconst 1, 1) := by decide +kernel
theorem dX9_look_24 : decode cX9_look 24 = .ok (.putfield 1, 3) := by decide +kernel
theorem dX9_look_27 : decode cX9_look 27 = .ok (.aload_n 0, 1) := by decide +kernel
theorem dX9_look_28 : decode cX9_look 28 = .ok (.getfield 1, 3) := by decide +kernel
theorem dX9_look_31 : decode cX9_look 31 = .ok (.ifCond .le 5, 3) := by decide +kernel
theorem dX9_look_34 : decode cX9_look 34 = .ok (.iconst 0, 1) := by decide +kernel
theorem dX9_look_35 : decode cX9_look 35 = .ok (.ireturn, 1) := by decide +kernel
theorem dX9_look_36 : decode cX9_look 36 = .ok (.iload_n 2, 1) := by decide +kernel
theorem dX9_look_37 : decode cX9_look 37 = .ok (.tableswitch 127 0 8 #[51, 58, 65, 72, 79, 99, 106, 113, 120], 51) := by decide +kernel
theorem dX9_look_88 : decode cX9_look 88 = .ok (.aload_n 0, 1) := by decide +kernel
theorem dX9_look_89 : decode cX9_look 89 = .ok (.getfield 120, 3) := by decide +kernel
theorem dX9_look_92 : decode cX9_look 92 = .ok (.iload_n 1, 1) := by decide +kernel
theorem dX9_look_93 : decode cX9_look 93 = .ok (.iaload, 1) := by decide +kernel
theorem dX9_look_94 : decode cX9_look 94 = .ok (.ireturn, 1) := by decide +kernel
theorem dX9_look_95 : decode cX9_look 95 = .ok (.aload_n 0, 1) := by decide +kernel
theorem dX9_look_96 : decode cX9_look 96 = .ok (.getfield 123, 3) := by decide +kernel
theorem dX9_look_99 : decode cX9_look 99 = .ok (.iload_n 1, 1) := by decide +kernel
theorem dX9_look_100 : decode cX9_look 100 = .ok (.iaload, 1) := by decide +kernel
theorem dX9_look_101 : decode cX9_look 101 = .ok (.ireturn, 1) := by decide +kernel
theorem dX9_look_102 : decode cX9_look 102 = .ok (.aload_n 0, 1) := by decide +kernel
theorem dX9_look_103 : decode cX9_look 103 = .ok (.getfield 126, 3) := by decide +kernel
theorem dX9_look_106 : decode cX9_look 106 = .ok (.iload_n 1, 1) := by decide +kernel
theorem dX9_look_107 : decode cX9_look 107 = .ok (.iaload, 1) := by decide +kernel
theorem dX9_look_108 : decode cX9_look 108 = .ok (.ireturn, 1) := by decide +kernel
theorem dX9_look_109 : decode cX9_look 109 = .ok (.aload_n 0, 1) := by decide +kernel
theorem dX9_look_110 : decode cX9_look 110 = .ok (.getfield 129, 3) := by decide +kernel
theorem dX9_look_113 : decode cX9_look 113 = .ok (.iload_n 1, 1) := by decide +kernel
theorem dX9_look_114 : decode cX9_look 114 = .ok (.iaload, 1) := by decide +kernel
theorem dX9_look_115 : decode cX9_look 115 = .ok (.ireturn, 1) := by decide +kernel
theorem dX9_look_116 : decode cX9_look 116 = .ok (.aload_n 0, 1) := by decide +kernel
theorem dX9_look_117 : decode cX9_look 117 = .ok (.iload_n 1, 1) := by decide +kernel
theorem dX9_look_118 : decode cX9_look 118 = .ok (.aload_n 0, 1) := by decide +kernel
theorem dX9_look_119 : decode cX9_look 119 = .ok (.getfield 264, 3) := by decide +kernel
theorem dX9_look_122 : decode cX9_look 122 = .ok (.iconst 1, 1) := by decide +kernel
theorem dX9_look_123 : decode cX9_look 123 = .ok (.iadd, 1) := by decide +kernel
theorem dX9_look_124 : decode cX9_look 124 = .ok (.invokevirtual 276, 3) := by decide +kernel
theorem dX9_look_127 : decode cX9_look 127 = .ok (.ifCond .eq 7, 3) := by decide +kernel
theorem dX9_look_130 : decode cX9_look 130 = .ok (.iconst 1, 1) := by decide +kernel
theorem dX9_look_131 : decode cX9_look 131 = .ok (.goto 4, 3) := by decide +kernel
theorem dX9_look_134 : decode cX9_look 134 = .ok (.iconst 0, 1) := by decide +kernel
theorem dX9_look_135 : decode cX9_look 135 = .ok (.ireturn, 1) := by decide +kernel
theorem dX9_look_136 : decode cX9_look 136 = .ok (.aload_n 0, 1) := by decide +kernel
theorem dX9_look_137 : decode cX9_look 137 = .ok (.getfield 135, 3) := by decide +kernel
theorem dX9_look_140 : decode cX9_look 140 = .ok (.iload_n 1, 1) := by decide +kernel
theorem dX9_look_141 : decode cX9_look 141 = .ok (.iaload, 1) := by decide +kernel
theorem dX9_look_142 : decode cX9_look 142 = .ok (.ireturn, 1) := by decide +kernel
theorem dX9_look_143 : decode cX9_look 143 = .ok (.aload_n 0, 1) := by decide +kernel
theorem dX9_look_144 : decode cX9_look 144 = .ok (.getfield 132, 3) := by decide +kernel
theorem dX9_look_147 : decode cX9_look 147 = .ok (.iload_n 1, 1) := by decide +kernel
theorem dX9_look_148 : decode cX9_look 148 = .ok (.iaload, 1) := by decide +kernel
theorem dX9_look_149 : decode cX9_look 149 = .ok (.ireturn, 1) := by decide +kernel
theorem dX9_look_150 : decode cX9_look 150 = .ok (.aload_n 0, 1) := by decide +kernel
theorem dX9_look_151 : decode cX9_look 151 = .ok (.iload_n 1, 1) := by decide +kernel
theorem dX9_look_152 : decode cX9_look 152 = .ok (.iconst 0, 1) := by decide +kernel
theorem dX9_look_153 : decode cX9_look 153 = .ok (.invokevirtual 320, 3) := by decide +kernel
theorem dX9_look_156 : decode cX9_look 156 = .ok (.ireturn, 1) := by decide +kernel
theorem dX9_look_157 : decode cX9_look 157 = .ok (.aload_n 0, 1) := by decide +kernel
theorem dX9_look_158 : decode cX9_look 158 = .ok (.iload_n 1, 1) := by decide +kernel
theorem dX9_look_159 : decode cX9_look 159 = .ok (.iconst 1, 1) := by decide +kernel
theorem dX9_look_160 : decode cX9_look 160 = .ok (.invokevirtual 320, 3) := by decide +kernel
theorem dX9_look_163 : decode cX9_look 163 = .ok (.ireturn, 1) := by decide +kernel
theorem dX9_look_164 : decode cX9_look 164 = .ok (.aload_n 0, 1) := by decide +kernel
theorem dX9_look_165 : decode cX9_look 165 = .ok (.getfield 150, 3) := by decide +kernel
theorem dX9_look_168 : decode cX9_look 168 = .ok (.iload_n 1, 1) := by decide +kernel
theorem dX9_look_169 : decode cX9_look 169 = .ok (.iaload, 1) := by decide +kernel
theorem dX9_look_170 : decode cX9_look 170 = .ok (.ireturn, 1) := by decide +kernel
set_option maxRecDepth 20000 in
theorem dX9_count_0 : decode cX9_count 0 = .ok (.aload_n 0, 1) := by decide +kernel
theorem dX9_count_1 : decode cX9_count 1 = .ok (.iconst 0, 1) := by decide +kernel
theorem dX9_count_2 : decode cX9_count 2 = .ok (.putfield 1, 3) := by decide +kernel
theorem dX9_count_5 : decode cX9_count 5 = .ok (.iconst 0, 1) := by decide +kernel
theorem dX9_count_6 : decode cX9_count 6 = .ok (.istore_n 2, 1) := by decide +kernel
theorem dX9_count_7 : decode cX9_count 7 = .ok (.iconst 0, 1) := by decide +kernel
theorem dX9_count_8 : decode cX9_count 8 = .ok (.istore_n 3, 1) := by decide +kernel
theorem dX9_count_9 : decode cX9_count 9 = .ok (.iload_n 3, 1) := by decide +kernel
theorem dX9_count_10 : decode cX9_count 10 = .ok (.aload_n 0, 1) := by decide +kernel
theorem dX9_count_11 : decode cX9_count 11 = .ok (.getfield 273, 3) := by decide +kernel
theorem dX9_count_14 : decode cX9_count 14 = .ok (.if_icmp .ge 31, 3) := by decide +kernel
theorem dX9_count_17 : decode cX9_count 17 = .ok (.iload_n 2, 1) := by decide +kernel
theorem dX9_count_18 : decode cX9_count 18 = .ok (.aload_n 0, 1) := by decide +kernel
theorem dX9_count_19 : decode cX9_count 19 = .ok (.iload_n 3, 1) := by decide +kernel
theorem dX9_count_20 : decode cX9_count 20 = .ok (.aload_n 0, 1) := by decide +kernel
theorem dX9_count_21 : decode cX9_count 21 = .ok (.getfield 264, 3) := by decide +kernel
theorem dX9_count_24 : decode cX9_count 24 = .ok (.iconst 1, 1) := by decide +kernel
theorem dX9_count_25 : decode cX9_count 25 = .ok (.iadd, 1) := by decide +kernel
theorem dX9_count_26 : decode cX9_count 26 = .ok (.invokevirtual 276, 3) := by decide +kernel
theorem dX9_count_29 : decode cX9_count 29 = .ok (.ifCond .eq 7, 3) := by decide +kernel
theorem dX9_count_32 : decode cX9_count 32 = .ok (.iconst 1, 1) := by decide +kernel
theorem dX9_count_33 : decode cX9_count 33 = .ok (.goto 4, 3) := by decide +kernel
theorem dX9_count_36 : decode cX9_count 36 = .ok (.iconst 0, 1) := by decide +kernel
theorem dX9_count_37 : decode cX9_count 37 = .ok (.iadd, 1) := by decide +kernel
theorem dX9_count_38 : decode cX9_count 38 = .ok (.istore_n 2, 1) := by decide +kernel
theorem dX9_count_39 : decode cX9_count 39 = .ok (.iinc 3 1, 3) := by decide +kernel
theorem dX9_count_42 : decode cX9_count 42 = .ok (.goto (-33), 3) := by decide +kernel
theorem dX9_count_45 : decode cX9_count 45 = .ok (.iload_n 1, 1) := by decide +kernel
theorem dX9_count_46 : decode cX9_count 46 = .ok (.tableswitch 99 0 7 #[46, 51, 56, 61, 66, 68, 89, 94], 46) := by decide +kernel
theorem dX9_count_92 : decode cX9_count 92 = .ok (.aload_n 0, 1) := by decide +kernel
theorem dX9_count_93 : decode cX9_count 93 = .ok (.getfield 257, 3) := by decide +kernel
theorem dX9_count_96 : decode cX9_count 96 = .ok (.ireturn, 1) := by decide +kernel
theorem dX9_count_97 : decode cX9_count 97 = .ok (.aload_n 0, 1) := by decide +kernel
theorem dX9_count_98 : decode cX9_count 98 = .ok (.getfield 261, 3) := by decide +kernel
theorem dX9_count_101 : decode cX9_count 101 = .ok (.ireturn, 1) := by decide +kernel
theorem dX9_count_102 : decode cX9_count 102 = .ok (.aload_n 0, 1) := by decide +kernel
theorem dX9_count_103 : decode cX9_count 103 = .ok (.getfield 273, 3) := by decide +kernel
theorem dX9_count_106 : decode cX9_count 106 = .ok (.ireturn, 1) := by decide +kernel
theorem dX9_count_107 : decode cX9_count 107 = .ok (.aload_n 0, 1) := by decide +kernel
theorem dX9_count_108 : decode cX9_count 108 = .ok (.getfield 264, 3) := by decide +kernel
theorem dX9_count_111 : decode cX9_count 111 = .ok (.ireturn, 1) := by decide +kernel
theorem dX9_count_112 : decode cX9_count 112 = .ok (.iload_n 2, 1) := by decide +kernel
theorem dX9_count_113 : decode cX9_count 113 = .ok (.ireturn, 1) := by decide +kernel
theorem dX9_count_114 : decode cX9_count 114 = .ok (.aload_n 0, 1) := by decide +kernel
theorem dX9_count_115 : decode cX9_count 115 = .ok (.getfield 162, 3) := by decide +kernel
theorem dX9_count_118 : decode cX9_count 118 = .ok (.ifCond .ge 7, 3) := by decide +kernel
theorem dX9_count_121 : decode cX9_count 121 = .ok (.iconst 0, 1) := by decide +kernel
theorem dX9_count_122 : decode cX9_count 122 = .ok (.goto 12, 3) := by decide +kernel
theorem dX9_count_125 : decode cX9_count 125 = .ok (.aload_n 0, 1) := by decide +kernel
theorem dX9_count_126 : decode cX9_count 126 = .ok (.getfield 53, 3) := by decide +kernel
theorem dX9_count_129 : decode cX9_count 129 = .ok (.aload_n 0, 1) := by decide +kernel
theorem dX9_count_130 : decode cX9_count 130 = .ok (.getfield 162, 3) := by decide +kernel
theorem dX9_count_133 : decode cX9_count 133 = .ok (.iaload, 1) := by decide +kernel
theorem dX9_count_134 : decode cX9_count 134 = .ok (.ireturn, 1) := by decide +kernel
theorem dX9_count_135 : decode cX9_count 135 = .ok (.aload_n 0, 1) := by decide +kernel
theorem dX9_count_136 : decode cX9_count 136 = .ok (.getfield 11, 3) := by decide +kernel
theorem dX9_count_139 : decode cX9_count 139 = .ok (.ireturn, 1) := by decide +kernel
theorem dX9_count_140 : decode cX9_count 140 = .ok (.aload_n 0, 1) := by decide +kernel
theorem dX9_count_141 : decode cX9_count 141 = .ok (.getfield 210, 3) := by decide +kernel
theorem dX9_count_144 : decode cX9_count 144 = .ok (.ireturn, 1) := by decide +kernel
theorem dX9_count_145 : decode cX9_count 145 = .ok (.iconst (-1), 1) := by decide +kernel
theorem dX9_count_146 : decode cX9_count 146 = .ok (.ireturn, 1) := by decide +kernel
