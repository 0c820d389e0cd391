theorem dX8_init_0 : decode cX8_init 0 = .ok (.aload_n 0, 1) := by decide +kernel
theorem dX8_init_1 : decode cX8_init 1 = .ok (.invokespecial 1, 3) := by decide +kernel
theorem dX8_init_4 : decode cX8_init 4 = .ok (.aload_n 0, 1) := by decide +kernel
theorem dX8_init_5 : decode cX8_init 5 = .ok (.ldc 7, 2) := by decide +kernel
theorem dX8_init_7 : decode cX8_init 7 = .ok (.newarray .int, 2) := by decide +kernel
theorem dX8_init_9 : decode cX8_init 9 = .ok (.putfield 8, 3) := by decide +kernel
theorem dX8_init_12 : decode cX8_init 12 = .ok (.aload_n 0, 1) := by decide +kernel
theorem dX8_init_13 : decode cX8_init 13 = .ok (.ldc 7, 2) := by decide +kernel
theorem dX8_init_15 : decode cX8_init 15 = .ok (.newarray .int, 2) := by decide +kernel
theorem dX8_init_17 : decode cX8_init 17 = .ok (.putfield 14, 3) := by decide +kernel
theorem dX8_init_20 : decode cX8_init 20 = .ok (.aload_n 0, 1) := by decide +kernel
theorem dX8_init_21 : decode cX8_init 21 = .ok (.ldc 17, 2) := by decide +kernel
theorem dX8_init_23 : decode cX8_init 23 = .ok (.newarray .int, 2) := by decide +kernel
theorem dX8_init_25 : decode cX8_init 25 = .ok (.putfield 18, 3) := by decide +kernel
theorem dX8_init_28 : decode cX8_init 28 = .ok (.aload_n 0, 1) := by decide +kernel
theorem dX8_init_29 : decode cX8_init 29 = .ok (.bipush 8, 2) := by decide +kernel
theorem dX8_init_31 : decode cX8_init 31 = .ok (.newarray .int, 2) := by decide +kernel
theorem dX8_init_33 : decode cX8_init 33 = .ok (.putfield 21, 3) := by decide +kernel
theorem dX8_init_36 : decode cX8_init 36 = .ok (.aload_n 0, 1) := by decide +kernel
theorem dX8_init_37 : decode cX8_init 37 = .ok (.bipush 8, 2) := by decide +kernel
theorem dX8_init_39 : decode cX8_init 39 = .ok (.newarray .int, 2) := by decide +kernel
theorem dX8_init_41 : decode cX8_init 41 = .ok (.putfield 24, 3) := by decide +kernel
theorem dX8_init_44 : decode cX8_init 44 = .ok (.aload_n 0, 1) := by decide +kernel
theorem dX8_init_45 : decode cX8_init 45 = .ok (.bipush 8, 2) := by decide +kernel
theorem dX8_init_47 : decode cX8_init 47 = .ok (.newarray .int, 2) := by decide +kernel
theorem dX8_init_49 : decode cX8_init 49 = .ok (.putfield 27, 3) := by decide +kernel
theorem dX8_init_52 : decode cX8_init 52 = .ok (.aload_n 0, 1) := by decide +kernel
theorem dX8_init_53 : decode cX8_init 53 = .ok (.bipush 8, 2) := by decide +kernel
theorem dX8_init_55 : decode cX8_init 55 = .ok (.newarray .int, 2) := by decide +kernel
theorem dX8_init_57 : decode cX8_init 57 = .ok (.putfield 30, 3) := by decide +kernel
theorem dX8_init_60 : decode cX8_init 60 = .ok (.aload_n 0, 1) := by decide +kernel
theorem dX8_init_61 : decode cX8_init 61 = .ok (.bipush 8, 2) := by decide +kernel
theorem dX8_init_63 : decode cX8_init 63 = .ok (.newarray .int, 2) := by decide +kernel
theorem dX8_init_65 : decode cX8_init 65 = .ok (.putfield 33, 3) := by decide +kernel
theorem dX8_init_68 : decode cX8_init 68 = .ok (.aload_n 0, 1) := by decide +kernel
theorem dX8_init_69 : decode cX8_init 69 = .ok (.bipush 8, 2) := by decide +kernel
theorem dX8_init_71 : decode cX8_init 71 = .ok (.newarray .int, 2) := by decide +kernel
theorem dX8_init_73 : decode cX8_init 73 = .ok (.putfield 36, 3) := by decide +kernel
theorem dX8_init_76 : decode cX8_init 76 = .ok (.aload_n 0, 1) := by decide +kernel
theorem dX8_init_77 : decode cX8_init 77 = .ok (.bipush 8, 2) := by decide +kernel
theorem dX8_init_79 : decode cX8_init 79 = .ok (.newarray .int, 2) := by decide +kernel
theorem dX8_init_81 : decode cX8_init 81 = .ok (.putfield 39, 3) := by decide +kernel
theorem dX8_init_84 : decode cX8_init 84 = .ok (.aload_n 0, 1) := by decide +kernel
theorem dX8_init_85 : decode cX8_init 85 = .ok (.bipush 8, 2) := by decide +kernel
theorem dX8_init_87 : decode cX8_init 87 = .ok (.newarray .int, 2) := by decide +kernel
theorem dX8_init_89 : decode cX8_init 89 = .ok (.putfield 42, 3) := by decide +kernel
theorem dX8_init_92 : decode cX8_init 92 = .ok (.aload_n 0, 1) := by decide +kernel
theorem dX8_init_93 : decode cX8_init 93 = .ok (.bipush 8, 2) := by decide +kernel
theorem dX8_init_95 : decode cX8_init 95 = .ok (.newarray .int, 2) := by decide +kernel
theorem dX8_init_97 : decode cX8_init 97 = .ok (.putfield 45, 3) := by decide +kernel
theorem dX8_init_100 : decode cX8_init 100 = .ok (.aload_n 0, 1) := by decide +kernel
theorem dX8_init_101 : decode cX8_init 101 = .ok (.bipush 8, 2) := by decide +kernel
theorem dX8_init_103 : decode cX8_init 103 = .ok (.newarray .int, 2) := by decide +kernel
theorem dX8_init_105 : decode cX8_init 105 = .ok (.putfield 48, 3) := by decide +kernel
theorem dX8_init_108 : decode cX8_init 108 = .ok (.aload_n 0, 1) := by decide +kernel
theorem dX8_init_109 : decode cX8_init 109 = .ok (.bipush 8, 2) := by decide +kernel
theorem dX8_init_111 : decode cX8_init 111 = .ok (.newarray .int, 2) := by decide +kernel
theorem dX8_init_113 : decode cX8_init 113 = .ok (.putfield 51, 3) := by decide +kernel
theorem dX8_init_116 : decode cX8_init 116 = .ok (.aload_n 0, 1) := by decide +kernel
theorem dX8_init_117 : decode cX8_init 117 = .ok (.bipush 8, 2) := by decide +kernel
theorem dX8_init_119 : decode cX8_init 119 = .ok (.newarray .int, 2) := by decide +kernel
theorem dX8_init_121 : decode cX8_init 121 = .ok (.putfield 54, 3) := by decide +kernel
theorem dX8_init_124 : decode cX8_init 124 = .ok (.aload_n 0, 1) := by decide +kernel
theorem dX8_init_125 : decode cX8_init 125 = .ok (.bipush 8, 2) := by decide +kernel
theorem dX8_init_127 : decode cX8_init 127 = .ok (.newarray .int, 2) := by decide +kernel
theorem dX8_init_129 : decode cX8_init 129 = .ok (.putfield 57, 3) := by decide +kernel
theorem dX8_init_132 : decode cX8_init 132 = .ok (.aload_n 0, 1) := by decide +kernel
theorem dX8_init_133 : decode cX8_init 133 = .ok (.bipush 8, 2) := by decide +kernel
theorem dX8_init_135 : decode cX8_init 135 = .ok (.newarray .boolean, 2) := by decide +kernel
theorem dX8_init_137 : decode cX8_init 137 = .ok (.putfield 60, 3) := by decide +kernel
theorem dX8_init_140 : decode cX8_init 140 = .ok (.aload_n 0, 1) := by decide +kernel
theorem dX8_init_141 : decode cX8_init 141 = .ok (.bipush 8, 2) := by decide +kernel
theorem dX8_init_143 : decode cX8_init 143 = .ok (.newarray .int, 2) := by decide +kernel
theorem dX8_init_145 : decode cX8_init 145 = .ok (.putfield 64, 3) := by decide +kernel
theorem dX8_init_148 : decode cX8_init 148 = .ok (.aload_n 0, 1) := by decide +kernel
theorem dX8_init_149 : decode cX8_init 149 = .ok (.bipush 8, 2) := by decide +kernel
theorem dX8_init_151 : decode cX8_init 151 = .ok (.newarray .int, 2) := by decide +kernel
theorem dX8_init_153 : decode cX8_init 153 = .ok (.putfield 67, 3) := by decide +kernel
theorem dX8_init_156 : decode cX8_init 156 = .ok (.aload_n 0, 1) := by decide +kernel
theorem dX8_init_157 : decode cX8_init 157 = .ok (.bipush 8, 2) := by decide +kernel
theorem dX8_init_159 : decode cX8_init 159 = .ok (.newarray .int, 2) := by decide +kernel
theorem dX8_init_161 : decode cX8_init 161 = .ok (.putfield 70, 3) := by decide +kernel
theorem dX8_init_164 : decode cX8_init 164 = .ok (.aload_n 0, 1) := by decide +kernel
theorem dX8_init_165 : decode cX8_init 165 = .ok (.bipush 8, 2) := by decide +kernel
theorem dX8_init_167 : decode cX8_init 167 = .ok (.newarray .int, 2) := by decide +kernel
theorem dX8_init_169 : decode cX8_init 169 = .ok (.putfield 73, 3) := by decide +kernel
theorem dX8_init_172 : decode cX8_init 172 = .ok (.aload_n 0, 1) := by decide +kernel
theorem dX8_init_173 : decode cX8_init 173 = .ok (.sipush 256, 3) := by decide +kernel
theorem dX8_init_176 : decode cX8_init 176 = .ok (.newarray .int, 2) := by decide +kernel
theorem dX8_init_178 : decode cX8_init 178 = .ok (.putfield 76, 3) := by decide +kernel
theorem dX8_init_181 : decode cX8_init 181 = .ok (.aload_n 0, 1) := by decide +kernel
theorem dX8_init_182 : decode cX8_init 182 = .ok (.bipush 8, 2) := by decide +kernel
theorem dX8_init_184 : decode cX8_init 184 = .ok (.newarray .int, 2) := by decide +kernel
theorem dX8_init_186 : decode cX8_init 186 = .ok (.putfield 79, 3) := by decide +kernel
theorem dX8_init_189 : decode cX8_init 189 = .ok (.aload_n 0, 1) := by decide +kernel
theorem dX8_init_190 : decode cX8_init 190 = .ok (.sipush 160, 3) := by decide +kernel
theorem dX8_init_193 : decode cX8_init 193 = .ok (.newarray .int, 2) := by decide +kernel
theorem dX8_init_195 : decode cX8_init 195 = .ok (.putfield 82, 3) := by decide +kernel
theorem dX8_init_198 : decode cX8_init 198 = .ok (.aload_n 0, 1) := by decide +kernel
theorem dX8_init_199 : decode cX8_init 199 = .ok (.bipush 20, 2) := by decide +kernel
theorem dX8_init_201 : decode cX8_init 201 = .ok (.newarray .int, 2) := by decide +kernel
theorem dX8_init_203 : decode cX8_init 203 = .ok (.putfield 85, 3) := by decide +kernel
theorem dX8_init_206 : decode cX8_init 206 = .ok (.aload_n 0, 1) := by decide +kernel
theorem dX8_init_207 : decode cX8_init 207 = .ok (.bipush 32, 2) := by decide +kernel
theorem dX8_init_209 : decode cX8_init 209 = .ok (.newarray .int, 2) := by decide +kernel
theorem dX8_init_211 : decode cX8_init 211 = .ok (.putfield 88, 3) := by decide +kernel
theorem dX8_init_214 : decode cX8_init 214 = .ok (.aload_n 0, 1) := by decide +kernel
theorem dX8_init_215 : decode cX8_init 215 = .ok (.sipush 256, 3) := by decide +kernel
theorem dX8_init_218 : decode cX8_init 218 = .ok (.newarray .int, 2) := by decide +kernel
theorem dX8_init_220 : decode cX8_init 220 = .ok (.putfield 91, 3) := by decide +kernel
theorem dX8_init_223 : decode cX8_init 223 = .ok (.aload_n 0, 1) := by decide +kernel
theorem dX8_init_224 : decode cX8_init 224 = .ok (.bipush 32, 2) := by decide +kernel
theorem dX8_init_226 : decode cX8_init 226 = .ok (.newarray .int, 2) := by decide +kernel
theorem dX8_init_228 : decode cX8_init 228 = .ok (.putfield 94, 3) := by decide +kernel
theorem dX8_init_231 : decode cX8_init 231 = .ok (.aload_n 0, 1) := by decide +kernel
theorem dX8_init_232 : decode cX8_init 232 = .ok (.bipush 32, 2) := by decide +kernel
theorem dX8_init_234 : decode cX8_init 234 = .ok (.newarray .boolean, 2) := by decide +kernel
theorem dX8_init_236 : decode cX8_init 236 = .ok (.putfield 97, 3) := by decide +kernel
theorem dX8_init_239 : decode cX8_init 239 = .ok (.aload_n 0, 1) := by decide +kernel
theorem dX8_init_240 : decode cX8_init 240 = .ok (.bipush 32, 2) := by decide +kernel
theorem dX8_init_242 : decode cX8_init 242 = .ok (.newarray .int, 2) := by decide +kernel
theorem dX8_init_244 : decode cX8_init 244 = .ok (.putfield 100, 3) := by decide +kernel
theorem dX8_init_247 : decode cX8_init 247 = .ok (.aload_n 0, 1) := by decide +kernel
theorem dX8_init_248 : decode cX8_init 248 = .ok (.bipush 32, 2) := by decide +kernel
theorem dX8_init_250 : decode cX8_init 250 = .ok (.newarray .int, 2) := by decide +kernel
theorem dX8_init_252 : decode cX8_init 252 = .ok (.putfield 103, 3) := by decide +kernel
theorem dX8_init_255 : decode cX8_init 255 = .ok (.aload_n 0, 1) := by decide +kernel
theorem dX8_init_256 : decode cX8_init 256 = .ok (.sipush 512, 3) := by decide +kernel
theorem dX8_init_259 : decode cX8_init 259 = .ok (.newarray .int, 2) := by decide +kernel
theorem dX8_init_261 : decode cX8_init 261 = .ok (.putfield 106, 3) := by decide +kernel
theorem dX8_init_264 : decode cX8_init 264 = .ok (.aload_n 0, 1) := by decide +kernel
theorem dX8_init_265 : decode cX8_init 265 = .ok (.sipush 512, 3) := by decide +kernel
theorem dX8_init_268 : decode cX8_init 268 = .ok (.newarray .int, 2) := by decide +kernel
theorem dX8_init_270 : decode cX8_init 270 = .ok (.putfield 109, 3) := by decide +kernel
theorem dX8_init_273 : decode cX8_init 273 = .ok (.aload_n 0, 1) := by decide +kernel
theorem dX8_init_274 : decode cX8_init 274 = .ok (.sipush 512, 3) := by decide +kernel
theorem dX8_init_277 : decode cX8_init 277 = .ok (.newarray .int, 2) := by decide +kernel
theorem dX8_init_279 : decode cX8_init 279 = .ok (.putfield 112, 3) := by decide +kernel
theorem dX8_init_282 : decode cX8_init 282 = .ok (.aload_n 0, 1) := by decide +kernel
theorem dX8_init_283 : decode cX8_init 283 = .ok (.sipush 512, 3) := by decide +kernel
theorem dX8_init_286 : decode cX8_init 286 = .ok (.newarray .int, 2) := by decide +kernel
theorem dX8_init_288 : decode cX8_init 288 = .ok (.putfield 115, 3) := by decide +kernel
theorem dX8_init_291 : decode cX8_init 291 = .ok (.aload_n 0, 1) := by decide +kernel
theorem dX8_init_292 : decode cX8_init 292 = .ok (.bipush 32, 2) := by decide +kernel
theorem dX8_init_294 : decode cX8_init 294 = .ok (.newarray .int, 2) := by decide +kernel
theorem dX8_init_296 : decode cX8_init 296 = .ok (.putfield 118, 3) := by decide +kernel
theorem dX8_init_299 : decode cX8_init 299 = .ok (.aload_n 0, 1) := by decide +kernel
theorem dX8_init_300 : decode cX8_init 300 = .ok (.bipush 32, 2) := by decide +kernel
theorem dX8_init_302 : decode cX8_init 302 = .ok (.newarray .int, 2) := by decide +kernel
theorem dX8_init_304 : decode cX8_init 304 = .ok (.putfield 121, 3) := by decide +kernel
theorem dX8_init_307 : decode cX8_init 307 = .ok (.aload_n 0, 1) := by decide +kernel
theorem dX8_init_308 : decode cX8_init 308 = .ok (.bipush 50, 2) := by decide +kernel
theorem dX8_init_310 : decode cX8_init 310 = .ok (.newarray .int, 2) := by decide +kernel
theorem dX8_init_312 : decode cX8_init 312 = .ok (.putfield 124, 3) := by decide +kernel
theorem dX8_init_315 : decode cX8_init 315 = .ok (.aload_n 0, 1) := by decide +kernel
theorem dX8_init_316 : decode cX8_init 316 = .ok (.bipush 50, 2) := by decide +kernel
theorem dX8_init_318 : decode cX8_init 318 = .ok (.newarray .int, 2) := by decide +kernel
theorem dX8_init_320 : decode cX8_init 320 = .ok (.putfield 127, 3) := by decide +kernel
theorem dX8_init_323 : decode cX8_init 323 = .ok (.aload_n 0, 1) := by decide +kernel
theorem dX8_init_324 : decode cX8_init 324 = .ok (.bipush 50, 2) := by decide +kernel
theorem dX8_init_326 : decode cX8_init 326 = .ok (.newarray .int, 2) := by decide +kernel
theorem dX8_init_328 : decode cX8_init 328 = .ok (.putfield 130, 3) := by decide +kernel
theorem dX8_init_331 : decode cX8_init 331 = .ok (.aload_n 0, 1) := by decide +kernel
theorem dX8_init_332 : decode cX8_init 332 = .ok (.bipush 50, 2) := by decide +kernel
theorem dX8_init_334 : decode cX8_init 334 = .ok (.newarray .int, 2) := by decide +kernel
theorem dX8_init_336 : decode cX8_init 336 = .ok (.putfield 133, 3) := by decide +kernel
theorem dX8_init_339 : decode cX8_init 339 = .ok (.return_, 1) := by decide +kernel
theorem dX8_isStage_0 : decode cX8_isStage 0 = .ok (.iload_n 1, 1) := by decide +kernel
theorem dX8_isStage_1 : decode cX8_isStage 1 = .ok (.ifCond .lt 15, 3) := by decide +kernel
theorem dX8_isStage_4 : decode cX8_isStage 4 = .ok (.iload_n 1, 1) := by decide +kernel
theorem dX8_isStage_5 : decode cX8_isStage 5 = .ok (.aload_n 0, 1) := by decide +kernel
theorem dX8_isStage_6 : decode cX8_isStage 6 = .ok (.getfield 136, 3) := by decide +kernel
theorem dX8_isStage_9 : decode cX8_isStage 9 = .ok (.if_icmp .ge 7, 3) := by decide +kernel
theorem dX8_isStage_12 : decode cX8_isStage 12 = .ok (.iconst 1, 1) := by decide +kernel
theorem dX8_isStage_13 : decode cX8_isStage 13 = .ok (.goto 4, 3) := by decide +kernel
theorem dX8_isStage_16 : decode cX8_isStage 16 = .ok (.iconst 0, 1) := by decide +kernel
theorem dX8_isStage_17 : decode cX8_isStage 17 = .ok (.ireturn, 1) := by decide +kernel
theorem dX8_in_0 : decode cX8_in 0 = .ok (.iload_n 0, 1) := by decide +kernel
theorem dX8_in_1 : decode cX8_in 1 = .ok (.iload_n 1, 1) := by decide +kernel
theorem dX8_in_2 : decode cX8_in 2 = .ok (.if_icmp .lt 12, 3) := by decide +kernel
theorem dX8_in_5 : decode cX8_in 5 = .ok (.iload_n 0, 1) := by decide +kernel
theorem dX8_in_6 : decode cX8_in 6 = .ok (.iload_n 2, 1) := by decide +kernel
theorem dX8_in_7 : decode cX8_in 7 = .ok (.if_icmp .gt 7, 3) := by decide +kernel
theorem dX8_in_10 : decode cX8_in 10 = .ok (.iconst 1, 1) := by decide +kernel
theorem dX8_in_11 : decode cX8_in 11 = .ok (.goto 4, 3) := by decide +kernel
theorem dX8_in_14 : decode cX8_in 14 = .ok (.iconst 0, 1) := by decide +kernel
theorem dX8_in_15 : decode cX8_in 15 = .ok (.ireturn, 1) := by decide +kernel
set_option maxRecDepth 20000 in
theorem ggX8_stage_X8_in : GoodIn wsX8_stage wsX8_in := goodIn_r _ [16] (by decide +kernel) (by decide +kernel)
set_option maxRecDepth 20000 in
theorem gX8_stage_X8_in : GoodIn wsX8_stage (va_wsS RX8 140 yX8_in wsX8_in) := goodIn_app (goodIn_of _ (by decide +kernel)) ggX8_stage_X8_in
theorem dX8_stage_0 : decode cX8_stage 0 = .ok (.iload_n 1, 1) := by decide +kernel
theorem dX8_stage_1 : decode cX8_stage 1 = .ok (.iconst 0, 1) := by decide +kernel
theorem dX8_stage_2 : decode cX8_stage 2 = .ok (.iconst 4, 1) := by decide +kernel
theorem dX8_stage_3 : decode cX8_stage 3 = .ok (.invokestatic 140, 3) := by decide +kernel
theorem dX8_stage_6 : decode cX8_stage 6 = .ok (.ifCond .eq 33, 3) := by decide +kernel
theorem dX8_stage_9 : decode cX8_stage 9 = .ok (.iload_n 2, 1) := by decide +kernel
theorem dX8_stage_10 : decode cX8_stage 10 = .ok (.iconst 1, 1) := by decide +kernel
theorem dX8_stage_11 : decode cX8_stage 11 = .ok (.bipush 32, 2) := by decide +kernel
theorem dX8_stage_13 : decode cX8_stage 13 = .ok (.invokestatic 140, 3) := by decide +kernel
theorem dX8_stage_16 : decode cX8_stage 16 = .ok (.ifCond .eq 23, 3) := by decide +kernel
theorem dX8_stage_19 : decode cX8_stage 19 = .ok (.iload_n 3, 1) := by decide +kernel
theorem dX8_stage_20 : decode cX8_stage 20 = .ok (.iconst 1, 1) := by decide +kernel
theorem dX8_stage_21 : decode cX8_stage 21 = .ok (.iconst 4, 1) := by decide +kernel
theorem dX8_stage_22 : decode cX8_stage 22 = .ok (.invokestatic 140, 3) := by decide +kernel
theorem dX8_stage_25 : decode cX8_stage 25 = .ok (.ifCond .eq 14, 3) := by decide +kernel
theorem dX8_stage_28 : decode cX8_stage 28 = .ok (.iload 4, 2) := by decide +kernel
theorem dX8_stage_30 : decode cX8_stage 30 = .ok (.iconst 0, 1) := by decide +kernel
theorem dX8_stage_31 : decode cX8_stage 31 = .ok (.bipush 9, 2) := by decide +kernel
theorem dX8_stage_33 : decode cX8_stage 33 = .ok (.invokestatic 140, 3) := by decide +kernel
theorem dX8_stage_36 : decode cX8_stage 36 = .ok (.ifCond .ne 5, 3) := by decide +kernel
theorem dX8_stage_39 : decode cX8_stage 39 = .ok (.iconst (-1), 1) := by decide +kernel
theorem dX8_stage_40 : decode cX8_stage 40 = .ok (.ireturn, 1) := by decide +kernel
theorem dX8_stage_41 : decode cX8_stage 41 = .ok (.aload_n 0, 1) := by decide +kernel
theorem dX8_stage_42 : decode cX8_stage 42 = .ok (.getfield 136, 3) := by decide +kernel
theorem dX8_stage_45 : decode cX8_stage 45 = .ok (.bipush 8, 2) := by decide +kernel
theorem dX8_stage_47 : decode cX8_stage 47 = .ok (.if_icmp .ne 6, 3) := by decide +kernel
theorem dX8_stage_50 : decode cX8_stage 50 = .ok (.bipush (-2), 2) := by decide +kernel
theorem dX8_stage_52 : decode cX8_stage 52 = .ok (.ireturn, 1) := by decide +kernel
theorem dX8_stage_53 : decode cX8_stage 53 = .ok (.aload_n 0, 1) := by decide +kernel
theorem dX8_stage_54 : decode cX8_stage 54 = .ok (.getfield 136, 3) := by decide +kernel
theorem dX8_stage_57 : decode cX8_stage 57 = .ok (.istore 5, 2) := by decide +kernel
theorem dX8_stage_59 : decode cX8_stage 59 = .ok (.aload_n 0, 1) := by decide +kernel
theorem dX8_stage_60 : decode cX8_stage 60 = .ok (.getfield 21, 3) := by decide +kernel
theorem dX8_stage_63 : decode cX8_stage 63 = .ok (.iload 5, 2) := by decide +kernel
theorem dX8_stage_65 : decode cX8_stage 65 = .ok (.iload_n 1, 1) := by decide +kernel
theorem dX8_stage_66 : decode cX8_stage 66 = .ok (.iastore, 1) := by decide +kernel
theorem dX8_stage_67 : decode cX8_stage 67 = .ok (.aload_n 0, 1) := by decide +kernel
theorem dX8_stage_68 : decode cX8_stage 68 = .ok (.getfield 24, 3) := by decide +kernel
theorem dX8_stage_71 : decode cX8_stage 71 = .ok (.iload 5, 2) := by decide +kernel
theorem dX8_stage_73 : decode cX8_stage 73 = .ok (.iconst (-1), 1) := by decide +kernel
theorem dX8_stage_74 : decode cX8_stage 74 = .ok (.iastore, 1) := by decide +kernel
theorem dX8_stage_75 : decode cX8_stage 75 = .ok (.aload_n 0, 1) := by decide +kernel
theorem dX8_stage_76 : decode cX8_stage 76 = .ok (.getfield 27, 3) := by decide +kernel
theorem dX8_stage_79 : decode cX8_stage 79 = .ok (.iload 5, 2) := by decide +kernel
theorem dX8_stage_81 : decode cX8_stage 81 = .ok (.iconst (-1), 1) := by decide +kernel
theorem dX8_stage_82 : decode cX8_stage 82 = .ok (.iastore, 1) := by decide +kernel
theorem dX8_stage_83 : decode cX8_stage 83 = .ok (.aload_n 0, 1) := by decide +kernel
theorem dX8_stage_84 : decode cX8_stage 84 = .ok (.getfield 30, 3) := by decide +kernel
theorem dX8_stage_87 : decode cX8_stage 87 = .ok (.iload 5, 2) := by decide +kernel
theorem dX8_stage_89 : decode cX8_stage 89 = .ok (.iload_n 2, 1) := by decide +kernel
theorem dX8_stage_90 : decode cX8_stage 90 = .ok (.iastore, 1) := by decide +kernel
theorem dX8_stage_91 : decode cX8_stage 91 = .ok (.aload_n 0, 1) := by decide +kernel
theorem dX8_stage_92 : decode cX8_stage 92 = .ok (.getfield 36, 3) := by decide +kernel
theorem dX8_stage_95 : decode cX8_stage 95 = .ok (.iload 5, 2) := by decide +kernel
theorem dX8_stage_97 : decode cX8_stage 97 = .ok (.bipush 100, 2) := by decide +kernel
theorem dX8_stage_99 : decode cX8_stage 99 = .ok (.iastore, 1) := by decide +kernel
theorem dX8_stage_100 : decode cX8_stage 100 = .ok (.aload_n 0, 1) := by decide +kernel
theorem dX8_stage_101 : decode cX8_stage 101 = .ok (.getfield 39, 3) := by decide +kernel
theorem dX8_stage_104 : decode cX8_stage 104 = .ok (.iload 5, 2) := by decide +kernel
theorem dX8_stage_106 : decode cX8_stage 106 = .ok (.bipush 100, 2) := by decide +kernel
theorem dX8_stage_108 : decode cX8_stage 108 = .ok (.iastore, 1) := by decide +kernel
theorem dX8_stage_109 : decode cX8_stage 109 = .ok (.aload_n 0, 1) := by decide +kernel
theorem dX8_stage_110 : decode cX8_stage 110 = .ok (.getfield 42, 3) := by decide +kernel
theorem dX8_stage_113 : decode cX8_stage 113 = .ok (.iload 5, 2) := by decide +kernel
theorem dX8_stage_115 : decode cX8_stage 115 = .ok (.bipush 100, 2) := by decide +kernel
theorem dX8_stage_117 : decode cX8_stage 117 = .ok (.iastore, 1) := by decide +kernel
theorem dX8_stage_118 : decode cX8_stage 118 = .ok (.aload_n 0, 1) := by decide +kernel
theorem dX8_stage_119 : decode cX8_stage 119 = .ok (.getfield 51, 3) := by decide +kernel
theorem dX8_stage_122 : decode cX8_stage 122 = .ok (.iload 5, 2) := by decide +kernel
theorem dX8_stage_124 : decode cX8_stage 124 = .ok (.iload_n 3, 1) := by decide +kernel
theorem dX8_stage_125 : decode cX8_stage 125 = .ok (.iastore, 1) := by decide +kernel
theorem dX8_stage_126 : decode cX8_stage 126 = .ok (.aload_n 0, 1) := by decide +kernel
theorem dX8_stage_127 : decode cX8_stage 127 = .ok (.getfield 57, 3) := by decide +kernel
theorem dX8_stage_130 : decode cX8_stage 130 = .ok (.iload 5, 2) := by decide +kernel
theorem dX8_stage_132 : decode cX8_stage 132 = .ok (.iload 4, 2) := by decide +kernel
theorem dX8_stage_134 : decode cX8_stage 134 = .ok (.iastore, 1) := by decide +kernel
theorem dX8_stage_135 : decode cX8_stage 135 = .ok (.aload_n 0, 1) := by decide +kernel
theorem dX8_stage_136 : decode cX8_stage 136 = .ok (.getfield 54, 3) := by decide +kernel
theorem dX8_stage_139 : decode cX8_stage 139 = .ok (.iload 5, 2) := by decide +kernel
theorem dX8_stage_141 : decode cX8_stage 141 = .ok (.iconst 1, 1) := by decide +kernel
theorem dX8_stage_142 : decode cX8_stage 142 = .ok (.iastore, 1) := by decide +kernel
theorem dX8_stage_143 : decode cX8_stage 143 = .ok (.aload_n 0, 1) := by decide +kernel
theorem dX8_stage_144 : decode cX8_stage 144 = .ok (.getfield 48, 3) := by decide +kernel
theorem dX8_stage_147 : decode cX8_stage 147 = .ok (.iload 5, 2) := by decide +kernel
theorem dX8_stage_149 : decode cX8_stage 149 = .ok (.iconst 1, 1) := by decide +kernel
theorem dX8_stage_150 : decode cX8_stage 150 = .ok (.iastore, 1) := by decide +kernel
theorem dX8_stage_151 : decode cX8_stage 151 = .ok (.aload_n 0, 1) := by decide +kernel
theorem dX8_stage_152 : decode cX8_stage 152 = .ok (.dup, 1) := by decide +kernel
theorem dX8_stage_153 : decode cX8_stage 153 = .ok (.getfield 136, 3) := by decide +kernel
theorem dX8_stage_156 : decode cX8_stage 156 = .ok (.iconst 1, 1) := by decide +kernel
theorem dX8_stage_157 : decode cX8_stage 157 = .ok (.iadd, 1) := by decide +kernel
theorem dX8_stage_158 : decode cX8_stage 158 = .ok (.putfield 136, 3) := by decide +kernel
theorem dX8_stage_161 : decode cX8_stage 161 = .ok (.iload 5, 2) := by decide +kernel
theorem dX8_stage_163 : decode cX8_stage 163 = .ok (.ireturn, 1) := by decide +kernel
set_option maxRecDepth 20000 in
theorem ggX8_targets_X8_isStage : GoodIn wsX8_targets wsX8_isStage := goodIn_r _ [7, 8, 9, 10, 11, 12, 13, 14, 15, 16, 17, 18, 19, 20, 21, 22, 23, 24, 25, 26, 27, 28, 29, 30, 31, 32, 33, 34, 35, 36, 37, 38, 39, 40, 41, 42, 43, 44, 45, 46, 47, 48, 49, 50, 51, 52, 53, 54, 55, 56] (by decide +kernel) (by decide +kernel)
set_option maxRecDepth 20000 in
theorem gX8_targets_X8_isStage : GoodIn wsX8_targets (wsV RX8 144 RX8 yX8_isStage wsX8_isStage) := goodIn_app (goodIn_of _ (by decide +kernel)) ggX8_targets_X8_isStage
theorem dX8_targets_0 : decode cX8_targets 0 = .ok (.aload_n 0, 1) := by decide +kernel
theorem dX8_targets_1 : decode cX8_targets 1 = .ok (.iload_n 1, 1) := by decide +kernel
theorem dX8_targets_2 : decode cX8_targets 2 = .ok (.invokevirtual 144, 3) := by decide +kernel
theorem dX8_targets_5 : decode cX8_targets 5 = .ok (.ifCond .eq 29, 3) := by decide +kernel
theorem dX8_targets_8 : decode cX8_targets 8 = .ok (.iload_n 2, 1) := by decide +kernel
theorem dX8_targets_9 : decode cX8_targets 9 = .ok (.iconst (-1), 1) := by decide +kernel
theorem dX8_targets_10 : decode cX8_targets 10 = .ok (.if_icmp .eq 11, 3) := by decide +kernel
theorem dX8_targets_13 : decode cX8_targets 13 = .ok (.aload_n 0, 1) := by decide +kernel
theorem dX8_targets_14 : decode cX8_targets 14 = .ok (.iload_n 2, 1) := by decide +kernel
theorem dX8_targets_15 : decode cX8_targets 15 = .ok (.invokevirtual 144, 3) := by decide +kernel
theorem dX8_targets_18 : decode cX8_targets 18 = .ok (.ifCond .eq 16, 3) := by decide +kernel
theorem dX8_targets_21 : decode cX8_targets 21 = .ok (.iload_n 3, 1) := by decide +kernel
theorem dX8_targets_22 : decode cX8_targets 22 = .ok (.iconst (-1), 1) := by decide +kernel
theorem dX8_targets_23 : decode cX8_targets 23 = .ok (.if_icmp .eq 13, 3) := by decide +kernel
theorem dX8_targets_26 : decode cX8_targets 26 = .ok (.aload_n 0, 1) := by decide +kernel
theorem dX8_targets_27 : decode cX8_targets 27 = .ok (.iload_n 3, 1) := by decide +kernel
theorem dX8_targets_28 : decode cX8_targets 28 = .ok (.invokevirtual 144, 3) := by decide +kernel
theorem dX8_targets_31 : decode cX8_targets 31 = .ok (.ifCond .ne 5, 3) := by decide +kernel
theorem dX8_targets_34 : decode cX8_targets 34 = .ok (.iconst (-1), 1) := by decide +kernel
theorem dX8_targets_35 : decode cX8_targets 35 = .ok (.ireturn, 1) := by decide +kernel
theorem dX8_targets_36 : decode cX8_targets 36 = .ok (.aload_n 0, 1) := by decide +kernel
theorem dX8_targets_37 : decode cX8_targets 37 = .ok (.getfield 24, 3) := by decide +kernel
theorem dX8_targets_40 : decode cX8_targets 40 = .ok (.iload_n 1, 1) := by decide +kernel
theorem dX8_targets_41 : decode cX8_targets 41 = .ok (.iload_n 2, 1) := by decide +kernel
theorem dX8_targets_42 : decode cX8_targets 42 = .ok (.iastore, 1) := by decide +kernel
theorem dX8_targets_43 : decode cX8_targets 43 = .ok (.aload_n 0, 1) := by decide +kernel
theorem dX8_targets_44 : decode cX8_targets 44 = .ok (.getfield 27, 3) := by decide +kernel
theorem dX8_targets_47 : decode cX8_targets 47 = .ok (.iload_n 1, 1) := by decide +kernel
theorem dX8_targets_48 : decode cX8_targets 48 = .ok (.iload_n 3, 1) := by decide +kernel
theorem dX8_targets_49 : decode cX8_targets 49 = .ok (.iastore, 1) := by decide +kernel
theorem dX8_targets_50 : decode cX8_targets 50 = .ok (.iconst 1, 1) := by decide +kernel
theorem dX8_targets_51 : decode cX8_targets 51 = .ok (.ireturn, 1) := by decide +kernel
set_option maxRecDepth 20000 in
theorem ggX8_admit_X8_isStage : GoodIn wsX8_admit wsX8_isStage := goodIn_r _ [9, 10, 14, 15, 16, 17, 18, 19, 20, 21, 22, 23, 24, 25, 26, 27, 28, 29, 30, 31, 32, 33, 34, 35, 36, 37, 38, 39, 40, 41, 42, 43, 44, 45, 46, 47, 48, 49, 50, 51, 52, 53, 54, 55, 56, 57, 58, 59, 60, 61] (by decide +kernel) (by decide +kernel)
set_option maxRecDepth 20000 in
theorem gX8_admit_X8_isStage : GoodIn wsX8_admit (wsV RX8 144 RX8 yX8_isStage wsX8_isStage) := goodIn_app (goodIn_of _ (by decide +kernel)) ggX8_admit_X8_isStage
set_option maxRecDepth 20000 in
theorem ggX8_admit_X8_in : GoodIn wsX8_admit wsX8_in := goodIn_r _ [13] (by decide +kernel) (by decide +kernel)
set_option maxRecDepth 20000 in
theorem gX8_admit_X8_in : GoodIn wsX8_admit (va_wsS RX8 140 yX8_in wsX8_in) := goodIn_app (goodIn_of _ (by decide +kernel)) ggX8_admit_X8_in
theorem dX8_admit_0 : decode cX8_admit 0 = .ok (.aload_n 0, 1) := by decide +kernel
theorem dX8_admit_1 : decode cX8_admit 1 = .ok (.iload_n 1, 1) := by decide +kernel
theorem dX8_admit_2 : decode cX8_admit 2 = .ok (.invokevirtual 144, 3) := by decide +kernel
theorem dX8_admit_5 : decode cX8_admit 5 = .ok (.ifCond .eq 35, 3) := by decide +kernel
theorem dX8_admit_8 : decode cX8_admit 8 = .ok (.iload_n 2, 1) := by decide +kernel
theorem dX8_admit_9 : decode cX8_admit 9 = .ok (.iconst 0, 1) := by decide +kernel
theorem dX8_admit_10 : decode cX8_admit 10 = .ok (.bipush 100, 2) := by decide +kernel
theorem dX8_admit_12 : decode cX8_admit 12 = .ok (.invokestatic 140, 3) := by decide +kernel
theorem dX8_admit_15 : decode cX8_admit 15 = .ok (.ifCond .eq 25, 3) := by decide +kernel
theorem dX8_admit_18 : decode cX8_admit 18 = .ok (.iload_n 3, 1) := by decide +kernel
theorem dX8_admit_19 : decode cX8_admit 19 = .ok (.iconst 1, 1) := by decide +kernel
theorem dX8_admit_20 : decode cX8_admit 20 = .ok (.bipush 100, 2) := by decide +kernel
theorem dX8_admit_22 : decode cX8_admit 22 = .ok (.invokestatic 140, 3) := by decide +kernel
theorem dX8_admit_25 : decode cX8_admit 25 = .ok (.ifCond .eq 15, 3) := by decide +kernel
theorem dX8_admit_28 : decode cX8_admit 28 = .ok (.iload 4, 2) := by decide +kernel
theorem dX8_admit_30 : decode cX8_admit 30 = .ok (.iconst 0, 1) := by decide +kernel
theorem dX8_admit_31 : decode cX8_admit 31 = .ok (.sipush 1000, 3) := by decide +kernel
theorem dX8_admit_34 : decode cX8_admit 34 = .ok (.invokestatic 140, 3) := by decide +kernel
theorem dX8_admit_37 : decode cX8_admit 37 = .ok (.ifCond .ne 5, 3) := by decide +kernel
theorem dX8_admit_40 : decode cX8_admit 40 = .ok (.iconst (-1), 1) := by decide +kernel
theorem dX8_admit_41 : decode cX8_admit 41 = .ok (.ireturn, 1) := by decide +kernel
theorem dX8_admit_42 : decode cX8_admit 42 = .ok (.aload_n 0, 1) := by decide +kernel
theorem dX8_admit_43 : decode cX8_admit 43 = .ok (.getfield 42, 3) := by decide +kernel
theorem dX8_admit_46 : decode cX8_admit 46 = .ok (.iload_n 1, 1) := by decide +kernel
theorem dX8_admit_47 : decode cX8_admit 47 = .ok (.iload_n 2, 1) := by decide +kernel
theorem dX8_admit_48 : decode cX8_admit 48 = .ok (.iastore, 1) := by decide +kernel
theorem dX8_admit_49 : decode cX8_admit 49 = .ok (.aload_n 0, 1) := by decide +kernel
theorem dX8_admit_50 : decode cX8_admit 50 = .ok (.getfield 39, 3) := by decide +kernel
theorem dX8_admit_53 : decode cX8_admit 53 = .ok (.iload_n 1, 1) := by decide +kernel
theorem dX8_admit_54 : decode cX8_admit 54 = .ok (.iload_n 3, 1) := by decide +kernel
theorem dX8_admit_55 : decode cX8_admit 55 = .ok (.iastore, 1) := by decide +kernel
theorem dX8_admit_56 : decode cX8_admit 56 = .ok (.aload_n 0, 1) := by decide +kernel
theorem dX8_admit_57 : decode cX8_admit 57 = .ok (.getfield 36, 3) := by decide +kernel
theorem dX8_admit_60 : decode cX8_admit 60 = .ok (.iload_n 1, 1) := by decide +kernel
theorem dX8_admit_61 : decode cX8_admit 61 = .ok (.aload_n 0, 1) := by decide +kernel
theorem dX8_admit_62 : decode cX8_admit 62 = .ok (.getfield 36, 3) := by decide +kernel
theorem dX8_admit_65 : decode cX8_admit 65 = .ok (.iload_n 1, 1) := by decide +kernel
theorem dX8_admit_66 : decode cX8_admit 66 = .ok (.iaload, 1) := by decide +kernel
theorem dX8_admit_67 : decode cX8_admit 67 = .ok (.iload_n 3, 1) := by decide +kernel
theorem dX8_admit_68 : decode cX8_admit 68 = .ok (.if_icmp .le 7, 3) := by decide +kernel
theorem dX8_admit_71 : decode cX8_admit 71 = .ok (.iload_n 3, 1) := by decide +kernel
theorem dX8_admit_72 : decode cX8_admit 72 = .ok (.goto 9, 3) := by decide +kernel
theorem dX8_admit_75 : decode cX8_admit 75 = .ok (.aload_n 0, 1) := by decide +kernel
theorem dX8_admit_76 : decode cX8_admit 76 = .ok (.getfield 36, 3) := by decide +kernel
theorem dX8_admit_79 : decode cX8_admit 79 = .ok (.iload_n 1, 1) := by decide +kernel
theorem dX8_admit_80 : decode cX8_admit 80 = .ok (.iaload, 1) := by decide +kernel
theorem dX8_admit_81 : decode cX8_admit 81 = .ok (.iastore, 1) := by decide +kernel
theorem dX8_admit_82 : decode cX8_admit 82 = .ok (.aload_n 0, 1) := by decide +kernel
theorem dX8_admit_83 : decode cX8_admit 83 = .ok (.getfield 45, 3) := by decide +kernel
theorem dX8_admit_86 : decode cX8_admit 86 = .ok (.iload_n 1, 1) := by decide +kernel
theorem dX8_admit_87 : decode cX8_admit 87 = .ok (.iload 4, 2) := by decide +kernel
theorem dX8_admit_89 : decode cX8_admit 89 = .ok (.iastore, 1) := by decide +kernel
theorem dX8_admit_90 : decode cX8_admit 90 = .ok (.iconst 1, 1) := by decide +kernel
theorem dX8_admit_91 : decode cX8_admit 91 = .ok (.ireturn, 1) := by decide +kernel
theorem dX8_make_0 : decode cX8_make 0 = .ok (.aload_n 0, 1) := by decide +kernel
theorem dX8_make_1 : decode cX8_make 1 = .ok (.getfield 8, 3) := by decide +kernel
theorem dX8_make_4 : decode cX8_make 4 = .ok (.aload_n 0, 1) := by decide +kernel
theorem dX8_make_5 : decode cX8_make 5 = .ok (.getfield 148, 3) := by decide +kernel
theorem dX8_make_8 : decode cX8_make 8 = .ok (.iload_n 1, 1) := by decide +kernel
theorem dX8_make_9 : decode cX8_make 9 = .ok (.iastore, 1) := by decide +kernel
theorem dX8_make_10 : decode cX8_make 10 = .ok (.aload_n 0, 1) := by decide +kernel
theorem dX8_make_11 : decode cX8_make 11 = .ok (.getfield 14, 3) := by decide +kernel
theorem dX8_make_14 : decode cX8_make 14 = .ok (.aload_n 0, 1) := by decide +kernel
theorem dX8_make_15 : decode cX8_make 15 = .ok (.getfield 148, 3) := by decide +kernel
theorem dX8_make_18 : decode cX8_make 18 = .ok (.iload_n 2, 1) := by decide +kernel
theorem dX8_make_19 : decode cX8_make 19 = .ok (.iastore, 1) := by decide +kernel
theorem dX8_make_20 : decode cX8_make 20 = .ok (.aload_n 0, 1) := by decide +kernel
theorem dX8_make_21 : decode cX8_make 21 = .ok (.dup, 1) := by decide +kernel
theorem dX8_make_22 : decode cX8_make 22 = .ok (.getfield 148, 3) := by decide +kernel
theorem dX8_make_25 : decode cX8_make 25 = .ok (.iconst 1, 1) := by decide +kernel
theorem dX8_make_26 : decode cX8_make 26 = .ok (.iadd, 1) := by decide +kernel
theorem dX8_make_27 : decode cX8_make 27 = .ok (.putfield 148, 3) := by decide +kernel
theorem dX8_make_30 : decode cX8_make 30 = .ok (.aload_n 0, 1) := by decide +kernel
theorem dX8_make_31 : decode cX8_make 31 = .ok (.getfield 148, 3) := by decide +kernel
theorem dX8_make_34 : decode cX8_make 34 = .ok (.iconst 1, 1) := by decide +kernel
theorem dX8_make_35 : decode cX8_make 35 = .ok (.isub, 1) := by decide +kernel
theorem dX8_make_36 : decode cX8_make 36 = .ok (.ireturn, 1) := by decide +kernel
theorem dX8_refusal_0 : decode cX8_refusal 0 = .ok (.aload_n 0, 1) := by decide +kernel
theorem dX8_refusal_1 : decode cX8_refusal 1 = .ok (.getfield 60, 3) := by decide +kernel
theorem dX8_refusal_4 : decode cX8_refusal 4 = .ok (.iload_n 1, 1) := by decide +kernel
theorem dX8_refusal_5 : decode cX8_refusal 5 = .ok (.baload, 1) := by decide +kernel
theorem dX8_refusal_6 : decode cX8_refusal 6 = .ok (.ifCond .eq 8, 3) := by decide +kernel
theorem dX8_refusal_9 : decode cX8_refusal 9 = .ok (.bipush (-3), 2) := by decide +kernel
theorem dX8_refusal_11 : decode cX8_refusal 11 = .ok (.goto 45, 3) := by decide +kernel
theorem dX8_refusal_14 : decode cX8_refusal 14 = .ok (.aload_n 0, 1) := by decide +kernel
theorem dX8_refusal_15 : decode cX8_refusal 15 = .ok (.getfield 73, 3) := by decide +kernel
theorem dX8_refusal_18 : decode cX8_refusal 18 = .ok (.iload_n 1, 1) := by decide +kernel
theorem dX8_refusal_19 : decode cX8_refusal 19 = .ok (.iaload, 1) := by decide +kernel
theorem dX8_refusal_20 : decode cX8_refusal 20 = .ok (.aload_n 0, 1) := by decide +kernel
theorem dX8_refusal_21 : decode cX8_refusal 21 = .ok (.getfield 33, 3) := by decide +kernel
theorem dX8_refusal_24 : decode cX8_refusal 24 = .ok (.iload_n 1, 1) := by decide +kernel
theorem dX8_refusal_25 : decode cX8_refusal 25 = .ok (.iaload, 1) := by decide +kernel
theorem dX8_refusal_26 : decode cX8_refusal 26 = .ok (.iadd, 1) := by decide +kernel
theorem dX8_refusal_27 : decode cX8_refusal 27 = .ok (.aload_n 0, 1) := by decide +kernel
theorem dX8_refusal_28 : decode cX8_refusal 28 = .ok (.getfield 30, 3) := by decide +kernel
theorem dX8_refusal_31 : decode cX8_refusal 31 = .ok (.iload_n 1, 1) := by decide +kernel
theorem dX8_refusal_32 : decode cX8_refusal 32 = .ok (.iaload, 1) := by decide +kernel
theorem dX8_refusal_33 : decode cX8_refusal 33 = .ok (.if_icmp .lt 8, 3) := by decide +kernel
theorem dX8_refusal_36 : decode cX8_refusal 36 = .ok (.bipush (-2), 2) := by decide +kernel
theorem dX8_refusal_38 : decode cX8_refusal 38 = .ok (.goto 18, 3) := by decide +kernel
theorem dX8_refusal_41 : decode cX8_refusal 41 = .ok (.aload_n 0, 1) := by decide +kernel
theorem dX8_refusal_42 : decode cX8_refusal 42 = .ok (.getfield 36, 3) := by decide +kernel
theorem dX8_refusal_45 : decode cX8_refusal 45 = .ok (.iload_n 1, 1) := by decide +kernel
theorem dX8_refusal_46 : decode cX8_refusal 46 = .ok (.iaload, 1) := by decide +kernel
theorem dX8_refusal_47 : decode cX8_refusal 47 = .ok (.ifCond .ne 8, 3) := by decide +kernel
theorem dX8_refusal_50 : decode cX8_refusal 50 = .ok (.bipush (-4), 2) := by decide +kernel
theorem dX8_refusal_52 : decode cX8_refusal 52 = .ok (.goto 4, 3) := by decide +kernel
theorem dX8_refusal_55 : decode cX8_refusal 55 = .ok (.iconst 0, 1) := by decide +kernel
theorem dX8_refusal_56 : decode cX8_refusal 56 = .ok (.ireturn, 1) := by decide +kernel
theorem dX8_stand_0 : decode cX8_stand 0 = .ok (.aload_n 0, 1) := by decide +kernel
theorem dX8_stand_1 : decode cX8_stand 1 = .ok (.getfield 76, 3) := by decide +kernel
theorem dX8_stand_4 : decode cX8_stand 4 = .ok (.bipush 32, 2) := by decide +kernel
theorem dX8_stand_6 : decode cX8_stand 6 = .ok (.iload_n 1, 1) := by decide +kernel
theorem dX8_stand_7 : decode cX8_stand 7 = .ok (.imul, 1) := by decide +kernel
theorem dX8_stand_8 : decode cX8_stand 8 = .ok (.aload_n 0, 1) := by decide +kernel
theorem dX8_stand_9 : decode cX8_stand 9 = .ok (.getfield 73, 3) := by decide +kernel
theorem dX8_stand_12 : decode cX8_stand 12 = .ok (.iload_n 1, 1) := by decide +kernel
theorem dX8_stand_13 : decode cX8_stand 13 = .ok (.iaload, 1) := by decide +kernel
theorem dX8_stand_14 : decode cX8_stand 14 = .ok (.iadd, 1) := by decide +kernel
theorem dX8_stand_15 : decode cX8_stand 15 = .ok (.iload_n 2, 1) := by decide +kernel
theorem dX8_stand_16 : decode cX8_stand 16 = .ok (.iastore, 1) := by decide +kernel
theorem dX8_stand_17 : decode cX8_stand 17 = .ok (.aload_n 0, 1) := by decide +kernel
theorem dX8_stand_18 : decode cX8_stand 18 = .ok (.getfield 73, 3) := by decide +kernel
theorem dX8_stand_21 : decode cX8_stand 21 = .ok (.iload_n 1, 1) := by decide +kernel
theorem dX8_stand_22 : decode cX8_stand 22 = .ok (.dup2, 1) := by decide +kernel
theorem dX8_stand_23 : decode cX8_stand 23 = .ok (.iaload, 1) := by decide +kernel
theorem dX8_stand_24 : decode cX8_stand 24 = .ok (.iconst 1, 1) := by decide +kernel
theorem dX8_stand_25 : decode cX8_stand 25 = .ok (.iadd, 1) := by decide +kernel
theorem dX8_stand_26 : decode cX8_stand 26 = .ok (.iastore, 1) := by decide +kernel
theorem dX8_stand_27 : decode cX8_stand 27 = .ok (.return_, 1) := by decide +kernel
set_option maxRecDepth 20000 in
theorem ggX8_offer_X8_refusal : GoodIn wsX8_offer wsX8_refusal := goodIn_r _ [7, 8, 9, 10, 11, 2, 17, 18, 19, 20, 21, 22, 23, 24, 25, 26, 27, 28, 29, 30, 31, 32, 33, 34, 35, 36, 37, 38, 39, 40, 41, 42, 43, 44, 45, 46, 47, 48, 49, 50, 51, 52, 53, 54, 55, 56, 57, 58, 59, 60, 61, 62, 63, 64] (by decide +kernel) (by decide +kernel)
set_option maxRecDepth 20000 in
theorem gX8_offer_X8_refusal : GoodIn wsX8_offer (wsV RX8 151 RX8 yX8_refusal wsX8_refusal) := goodIn_app (goodIn_of _ (by decide +kernel)) ggX8_offer_X8_refusal
set_option maxRecDepth 20000 in
theorem ggX8_offer_X8_stand : GoodIn wsX8_offer wsX8_stand := goodIn_r _ [15, 16, 9, 17, 18, 19, 20, 21, 22, 23, 24, 25, 26, 27, 28, 29, 30, 31, 32, 33, 34, 35, 36, 37, 38, 39, 40, 41, 42, 43, 44, 45, 46, 47, 48, 49, 50, 51, 52, 53, 54, 55, 56, 57, 58, 59, 60, 61, 62, 63, 64] (by decide +kernel) (by decide +kernel)
set_option maxRecDepth 20000 in
theorem gX8_offer_X8_stand : GoodIn wsX8_offer (wsV RX8 155 RX8 yX8_stand wsX8_stand) := goodIn_app (goodIn_of _ (by decide +kernel)) ggX8_offer_X8_stand
theorem dX8_offer_0 : decode cX8_offer 0 = .ok (.aload_n 0, 1) := by decide +kernel
theorem dX8_offer_1 : decode cX8_offer 1 = .ok (.iload_n 1, 1) := by decide +kernel
theorem dX8_offer_2 : decode cX8_offer 2 = .ok (.invokevirtual 151, 3) := by decide +kernel
theorem dX8_offer_5 : decode cX8_offer 5 = .ok (.ifCond .ge 15, 3) := by decide +kernel
theorem dX8_offer_8 : decode cX8_offer 8 = .ok (.aload_n 0, 1) := by decide +kernel
theorem dX8_offer_9 : decode cX8_offer 9 = .ok (.getfield 64, 3) := by decide +kernel
theorem dX8_offer_12 : decode cX8_offer 12 = .ok (.iload_n 1, 1) := by decide +kernel
theorem dX8_offer_13 : decode cX8_offer 13 = .ok (.dup2, 1) := by decide +kernel
theorem dX8_offer_14 : decode cX8_offer 14 = .ok (.iaload, 1) := by decide +kernel
theorem dX8_offer_15 : decode cX8_offer 15 = .ok (.iconst 1, 1) := by decide +kernel
theorem dX8_offer_16 : decode cX8_offer 16 = .ok (.iadd, 1) := by decide +kernel
theorem dX8_offer_17 : decode cX8_offer 17 = .ok (.iastore, 1) := by decide +kernel
theorem dX8_offer_18 : decode cX8_offer 18 = .ok (.iconst 0, 1) := by decide +kernel
theorem dX8_offer_19 : decode cX8_offer 19 = .ok (.ireturn, 1) := by decide +kernel
theorem dX8_offer_20 : decode cX8_offer 20 = .ok (.aload_n 0, 1) := by decide +kernel
theorem dX8_offer_21 : decode cX8_offer 21 = .ok (.iload_n 1, 1) := by decide +kernel
theorem dX8_offer_22 : decode cX8_offer 22 = .ok (.iload_n 2, 1) := by decide +kernel
theorem dX8_offer_23 : decode cX8_offer 23 = .ok (.invokevirtual 155, 3) := by decide +kernel
theorem dX8_offer_26 : decode cX8_offer 26 = .ok (.aload_n 0, 1) := by decide +kernel
theorem dX8_offer_27 : decode cX8_offer 27 = .ok (.getfield 36, 3) := by decide +kernel
theorem dX8_offer_30 : decode cX8_offer 30 = .ok (.iload_n 1, 1) := by decide +kernel
theorem dX8_offer_31 : decode cX8_offer 31 = .ok (.dup2, 1) := by decide +kernel
theorem dX8_offer_32 : decode cX8_offer 32 = .ok (.iaload, 1) := by decide +kernel
theorem dX8_offer_33 : decode cX8_offer 33 = .ok (.iconst 1, 1) := by decide +kernel
theorem dX8_offer_34 : decode cX8_offer 34 = .ok (.isub, 1) := by decide +kernel
theorem dX8_offer_35 : decode cX8_offer 35 = .ok (.iastore, 1) := by decide +kernel
theorem dX8_offer_36 : decode cX8_offer 36 = .ok (.iconst 1, 1) := by decide +kernel
theorem dX8_offer_37 : decode cX8_offer 37 = .ok (.ireturn, 1) := by decide +kernel
set_option maxRecDepth 20000 in
theorem ggX8_put_X8_isStage : GoodIn wsX8_put wsX8_isStage := goodIn_r _ [8, 9, 34, 35, 36, 37, 38, 39, 40, 41, 42, 43, 44, 45, 46, 47, 48, 49, 50, 51, 52, 53, 54, 55, 56, 57, 58, 59, 60, 61, 62, 63, 64, 65, 66, 67, 68, 69, 70, 71, 72, 73, 74, 75, 76, 77, 78, 79, 80, 81] (by decide +kernel) (by decide +kernel)
set_option maxRecDepth 20000 in
theorem gX8_put_X8_isStage : GoodIn wsX8_put (wsV RX8 144 RX8 yX8_isStage wsX8_isStage) := goodIn_app (goodIn_of _ (by decide +kernel)) ggX8_put_X8_isStage
set_option maxRecDepth 20000 in
theorem ggX8_put_X8_refusal : GoodIn wsX8_put wsX8_refusal := goodIn_r _ [13, 14, 15, 16, 17, 18, 34, 35, 36, 37, 38, 39, 40, 41, 42, 43, 44, 45, 46, 47, 48, 49, 50, 51, 52, 53, 54, 55, 56, 57, 58, 59, 60, 61, 62, 63, 64, 65, 66, 67, 68, 69, 70, 71, 72, 73, 74, 75, 76, 77, 78, 79, 80, 81] (by decide +kernel) (by decide +kernel)
set_option maxRecDepth 20000 in
theorem gX8_put_X8_refusal : GoodIn wsX8_put (wsV RX8 151 RX8 yX8_refusal wsX8_refusal) := goodIn_app (goodIn_of _ (by decide +kernel)) ggX8_put_X8_refusal
set_option maxRecDepth 20000 in
theorem ggX8_put_X8_offer : GoodIn wsX8_put wsX8_offer := goodIn_r _ [22, 1, 18, 10, 11, 12, 7, 13, 14, 15, 16, 17, 23, 24, 25, 26, 27, 34, 35, 36, 37, 38, 39, 40, 41, 42, 43, 44, 45, 46, 47, 48, 49, 50, 51, 52, 53, 54, 55, 56, 57, 58, 59, 60, 61, 62, 63, 64, 65, 66, 67, 68, 69, 70, 71, 72, 73, 74, 75, 76, 77, 78, 79, 80, 81] (by decide +kernel) (by decide +kernel)
set_option maxRecDepth 20000 in
theorem gX8_put_X8_offer : GoodIn wsX8_put (wsV RX8 159 RX8 yX8_offer wsX8_offer) := goodIn_app (goodIn_of _ (by decide +kernel)) ggX8_put_X8_offer
set_option maxRecDepth 20000 in
theorem ggX8_put_X8_make : GoodIn wsX8_put wsX8_make := goodIn_r _ [31, 32, 2, 33, 34, 35, 36, 37, 38, 39, 40, 41, 42, 43, 44, 45, 46, 47, 48, 49, 50, 51, 52, 53, 54, 55, 56, 57, 58, 59, 60, 61, 62, 63, 64, 65, 66, 67, 68, 69, 70, 71, 72, 73, 74, 75, 76, 77, 78, 79, 80, 81] (by decide +kernel) (by decide +kernel)
set_option maxRecDepth 20000 in
theorem gX8_put_X8_make : GoodIn wsX8_put (wsV RX8 166 RX8 yX8_make wsX8_make) := goodIn_app (goodIn_of _ (by decide +kernel)) ggX8_put_X8_make
theorem dX8_put_0 : decode cX8_put 0 = .ok (.aload_n 0, 1) := by decide +kernel
theorem dX8_put_1 : decode cX8_put 1 = .ok (.iload_n 1, 1) := by decide +kernel
theorem dX8_put_2 : decode cX8_put 2 = .ok (.invokevirtual 144, 3) := by decide +kernel
theorem dX8_put_5 : decode cX8_put 5 = .ok (.ifCond .ne 5, 3) := by decide +kernel
theorem dX8_put_8 : decode cX8_put 8 = .ok (.iconst (-1), 1) := by decide +kernel
theorem dX8_put_9 : decode cX8_put 9 = .ok (.ireturn, 1) := by decide +kernel
theorem dX8_put_10 : decode cX8_put 10 = .ok (.aload_n 0, 1) := by decide +kernel
theorem dX8_put_11 : decode cX8_put 11 = .ok (.iload_n 1, 1) := by decide +kernel
theorem dX8_put_12 : decode cX8_put 12 = .ok (.invokevirtual 151, 3) := by decide +kernel
theorem dX8_put_15 : decode cX8_put 15 = .ok (.istore_n 3, 1) := by decide +kernel
theorem dX8_put_16 : decode cX8_put 16 = .ok (.iload_n 3, 1) := by decide +kernel
theorem dX8_put_17 : decode cX8_put 17 = .ok (.ifCond .ge 15, 3) := by decide +kernel
theorem dX8_put_20 : decode cX8_put 20 = .ok (.aload_n 0, 1) := by decide +kernel
theorem dX8_put_21 : decode cX8_put 21 = .ok (.getfield 64, 3) := by decide +kernel
theorem dX8_put_24 : decode cX8_put 24 = .ok (.iload_n 1, 1) := by decide +kernel
theorem dX8_put_25 : decode cX8_put 25 = .ok (.dup2, 1) := by decide +kernel
theorem dX8_put_26 : decode cX8_put 26 = .ok (.iaload, 1) := by decide +kernel
theorem dX8_put_27 : decode cX8_put 27 = .ok (.iconst 1, 1) := by decide +kernel
theorem dX8_put_28 : decode cX8_put 28 = .ok (.iadd, 1) := by decide +kernel
theorem dX8_put_29 : decode cX8_put 29 = .ok (.iastore, 1) := by decide +kernel
theorem dX8_put_30 : decode cX8_put 30 = .ok (.iload_n 3, 1) := by decide +kernel
theorem dX8_put_31 : decode cX8_put 31 = .ok (.ireturn, 1) := by decide +kernel
theorem dX8_put_32 : decode cX8_put 32 = .ok (.aload_n 0, 1) := by decide +kernel
theorem dX8_put_33 : decode cX8_put 33 = .ok (.iload_n 1, 1) := by decide +kernel
theorem dX8_put_34 : decode cX8_put 34 = .ok (.aload_n 0, 1) := by decide +kernel
theorem dX8_put_35 : decode cX8_put 35 = .ok (.getfield 148, 3) := by decide +kernel
theorem dX8_put_38 : decode cX8_put 38 = .ok (.invokevirtual 159, 3) := by decide +kernel
theorem dX8_put_41 : decode cX8_put 41 = .ok (.istore 4, 2) := by decide +kernel
theorem dX8_put_43 : decode cX8_put 43 = .ok (.aload_n 0, 1) := by decide +kernel
theorem dX8_put_44 : decode cX8_put 44 = .ok (.iload_n 2, 1) := by decide +kernel
theorem dX8_put_45 : decode cX8_put 45 = .ok (.aload_n 0, 1) := by decide +kernel
theorem dX8_put_46 : decode cX8_put 46 = .ok (.getfield 163, 3) := by decide +kernel
theorem dX8_put_49 : decode cX8_put 49 = .ok (.invokevirtual 166, 3) := by decide +kernel
theorem dX8_put_52 : decode cX8_put 52 = .ok (.ireturn, 1) := by decide +kernel
set_option maxRecDepth 20000 in
theorem ggX8_prepare_X8_isStage : GoodIn wsX8_prepare wsX8_isStage := goodIn_r _ [9, 10, 14, 15, 16, 17, 18, 19, 20, 21, 22, 23, 24, 25, 26, 27, 28, 29, 30, 31, 32, 33, 34, 35, 36, 37, 38, 39, 40, 41, 42, 43, 44, 45, 46, 47, 48, 49, 50, 51, 52, 53, 54, 55, 56, 57, 58, 59, 60, 61] (by decide +kernel) (by decide +kernel)
set_option maxRecDepth 20000 in
theorem gX8_prepare_X8_isStage : GoodIn wsX8_prepare (wsV RX8 144 RX8 yX8_isStage wsX8_isStage) := goodIn_app (goodIn_of _ (by decide +kernel)) ggX8_prepare_X8_isStage
set_option maxRecDepth 20000 in
theorem ggX8_prepare_X8_in : GoodIn wsX8_prepare wsX8_in := goodIn_r _ [13] (by decide +kernel) (by decide +kernel)
set_option maxRecDepth 20000 in
theorem gX8_prepare_X8_in : GoodIn wsX8_prepare (va_wsS RX8 140 yX8_in wsX8_in) := goodIn_app (goodIn_of _ (by decide +kernel)) ggX8_prepare_X8_in
theorem dX8_prepare_0 : decode cX8_prepare 0 = .ok (.aload_n 0, 1) := by decide +kernel
theorem dX8_prepare_1 : decode cX8_prepare 1 = .ok (.iload_n 1, 1) := by decide +kernel
theorem dX8_prepare_2 : decode cX8_prepare 2 = .ok (.invokevirtual 144, 3) := by decide +kernel
theorem dX8_prepare_5 : decode cX8_prepare 5 = .ok (.ifCond .eq 13, 3) := by decide +kernel
theorem dX8_prepare_8 : decode cX8_prepare 8 = .ok (.iload_n 2, 1) := by decide +kernel
theorem dX8_prepare_9 : decode cX8_prepare 9 = .ok (.iconst 1, 1) := by decide +kernel
theorem dX8_prepare_10 : decode cX8_prepare 10 = .ok (.bipush 8, 2) := by decide +kernel
theorem dX8_prepare_12 : decode cX8_prepare 12 = .ok (.invokestatic 140, 3) := by decide +kernel
theorem dX8_prepare_15 : decode cX8_prepare 15 = .ok (.ifCond .ne 5, 3) := by decide +kernel
theorem dX8_prepare_18 : decode cX8_prepare 18 = .ok (.iconst (-1), 1) := by decide +kernel
theorem dX8_prepare_19 : decode cX8_prepare 19 = .ok (.ireturn, 1) := by decide +kernel
theorem dX8_prepare_20 : decode cX8_prepare 20 = .ok (.aload_n 0, 1) := by decide +kernel
theorem dX8_prepare_21 : decode cX8_prepare 21 = .ok (.getfield 60, 3) := by decide +kernel
theorem dX8_prepare_24 : decode cX8_prepare 24 = .ok (.iload_n 1, 1) := by decide +kernel
theorem dX8_prepare_25 : decode cX8_prepare 25 = .ok (.baload, 1) := by decide +kernel
theorem dX8_prepare_26 : decode cX8_prepare 26 = .ok (.ifCond .eq 6, 3) := by decide +kernel
theorem dX8_prepare_29 : decode cX8_prepare 29 = .ok (.bipush (-3), 2) := by decide +kernel
theorem dX8_prepare_31 : decode cX8_prepare 31 = .ok (.ireturn, 1) := by decide +kernel
theorem dX8_prepare_32 : decode cX8_prepare 32 = .ok (.aload_n 0, 1) := by decide +kernel
theorem dX8_prepare_33 : decode cX8_prepare 33 = .ok (.getfield 73, 3) := by decide +kernel
theorem dX8_prepare_36 : decode cX8_prepare 36 = .ok (.iload_n 1, 1) := by decide +kernel
theorem dX8_prepare_37 : decode cX8_prepare 37 = .ok (.iaload, 1) := by decide +kernel
theorem dX8_prepare_38 : decode cX8_prepare 38 = .ok (.aload_n 0, 1) := by decide +kernel
theorem dX8_prepare_39 : decode cX8_prepare 39 = .ok (.getfield 33, 3) := by decide +kernel
theorem dX8_prepare_42 : decode cX8_prepare 42 = .ok (.iload_n 1, 1) := by decide +kernel
theorem dX8_prepare_43 : decode cX8_prepare 43 = .ok (.iaload, 1) := by decide +kernel
theorem dX8_prepare_44 : decode cX8_prepare 44 = .ok (.iadd, 1) := by decide +kernel
theorem dX8_prepare_45 : decode cX8_prepare 45 = .ok (.iload_n 2, 1) := by decide +kernel
theorem dX8_prepare_46 : decode cX8_prepare 46 = .ok (.iadd, 1) := by decide +kernel
theorem dX8_prepare_47 : decode cX8_prepare 47 = .ok (.aload_n 0, 1) := by decide +kernel
theorem dX8_prepare_48 : decode cX8_prepare 48 = .ok (.getfield 30, 3) := by decide +kernel
theorem dX8_prepare_51 : decode cX8_prepare 51 = .ok (.iload_n 1, 1) := by decide +kernel
theorem dX8_prepare_52 : decode cX8_prepare 52 = .ok (.iaload, 1) := by decide +kernel
theorem dX8_prepare_53 : decode cX8_prepare 53 = .ok (.if_icmp .le 6, 3) := by decide +kernel
theorem dX8_prepare_56 : decode cX8_prepare 56 = .ok (.bipush (-2), 2) := by decide +kernel
theorem dX8_prepare_58 : decode cX8_prepare 58 = .ok (.ireturn, 1) := by decide +kernel
theorem dX8_prepare_59 : decode cX8_prepare 59 = .ok (.aload_n 0, 1) := by decide +kernel
theorem dX8_prepare_60 : decode cX8_prepare 60 = .ok (.getfield 33, 3) := by decide +kernel
theorem dX8_prepare_63 : decode cX8_prepare 63 = .ok (.iload_n 1, 1) := by decide +kernel
theorem dX8_prepare_64 : decode cX8_prepare 64 = .ok (.dup2, 1) := by decide +kernel
theorem dX8_prepare_65 : decode cX8_prepare 65 = .ok (.iaload, 1) := by decide +kernel
theorem dX8_prepare_66 : decode cX8_prepare 66 = .ok (.iload_n 2, 1) := by decide +kernel
theorem dX8_prepare_67 : decode cX8_prepare 67 = .ok (.iadd, 1) := by decide +kernel
theorem dX8_prepare_68 : decode cX8_prepare 68 = .ok (.iastore, 1) := by decide +kernel
theorem dX8_prepare_69 : decode cX8_prepare 69 = .ok (.iconst 1, 1) := by decide +kernel
theorem dX8_prepare_70 : decode cX8_prepare 70 = .ok (.ireturn, 1) := by decide +kernel
set_option maxRecDepth 20000 in
theorem ggX8_commit_X8_isStage : GoodIn wsX8_commit wsX8_isStage := goodIn_r _ [9, 10, 23, 24, 25, 26, 27, 28, 29, 30, 31, 32, 33, 34, 35, 36, 37, 38, 39, 40, 41, 42, 43, 44, 45, 46, 47, 48, 49, 50, 51, 52, 53, 54, 55, 56, 57, 58, 59, 60, 61, 62, 63, 64, 65, 66, 67, 68, 69, 70] (by decide +kernel) (by decide +kernel)
set_option maxRecDepth 20000 in
theorem gX8_commit_X8_isStage : GoodIn wsX8_commit (wsV RX8 144 RX8 yX8_isStage wsX8_isStage) := goodIn_app (goodIn_of _ (by decide +kernel)) ggX8_commit_X8_isStage
set_option maxRecDepth 20000 in
theorem ggX8_commit_X8_make : GoodIn wsX8_commit wsX8_make := goodIn_r _ [14, 15, 3, 16, 23, 24, 25, 26, 27, 28, 29, 30, 31, 32, 33, 34, 35, 36, 37, 38, 39, 40, 41, 42, 43, 44, 45, 46, 47, 48, 49, 50, 51, 52, 53, 54, 55, 56, 57, 58, 59, 60, 61, 62, 63, 64, 65, 66, 67, 68, 69, 70] (by decide +kernel) (by decide +kernel)
set_option maxRecDepth 20000 in
theorem gX8_commit_X8_make : GoodIn wsX8_commit (wsV RX8 166 RX8 yX8_make wsX8_make) := goodIn_app (goodIn_of _ (by decide +kernel)) ggX8_commit_X8_make
set_option maxRecDepth 20000 in
theorem ggX8_commit_X8_stand : GoodIn wsX8_commit wsX8_stand := goodIn_r _ [20, 21, 22, 23, 24, 25, 26, 27, 28, 29, 30, 31, 32, 33, 34, 35, 36, 37, 38, 39, 40, 41, 42, 43, 44, 45, 46, 47, 48, 49, 50, 51, 52, 53, 54, 55, 56, 57, 58, 59, 60, 61, 62, 63, 64, 65, 66, 67, 68, 69, 70] (by decide +kernel) (by decide +kernel)
set_option maxRecDepth 20000 in
theorem gX8_commit_X8_stand : GoodIn wsX8_commit (wsV RX8 155 RX8 yX8_stand wsX8_stand) := goodIn_app (goodIn_of _ (by decide +kernel)) ggX8_commit_X8_stand
theorem dX8_commit_0 : decode cX8_commit 0 = .ok (.aload_n 0, 1) := by decide +kernel
theorem dX8_commit_1 : decode cX8_commit 1 = .ok (.iload_n 1, 1) := by decide +kernel
theorem dX8_commit_2 : decode cX8_commit 2 = .ok (.invokevirtual 144, 3) := by decide +kernel
theorem dX8_commit_5 : decode cX8_commit 5 = .ok (.ifCond .eq 12, 3) := by decide +kernel
theorem dX8_commit_8 : decode cX8_commit 8 = .ok (.aload_n 0, 1) := by decide +kernel
theorem dX8_commit_9 : decode cX8_commit 9 = .ok (.getfield 33, 3) := by decide +kernel
theorem dX8_commit_12 : decode cX8_commit 12 = .ok (.iload_n 1, 1) := by decide +kernel
theorem dX8_commit_13 : decode cX8_commit 13 = .ok (.iaload, 1) := by decide +kernel
theorem dX8_commit_14 : decode cX8_commit 14 = .ok (.ifCond .ne 5, 3) := by decide +kernel
theorem dX8_commit_17 : decode cX8_commit 17 = .ok (.iconst (-1), 1) := by decide +kernel
theorem dX8_commit_18 : decode cX8_commit 18 = .ok (.ireturn, 1) := by decide +kernel
theorem dX8_commit_19 : decode cX8_commit 19 = .ok (.aload_n 0, 1) := by decide +kernel
theorem dX8_commit_20 : decode cX8_commit 20 = .ok (.getfield 60, 3) := by decide +kernel
theorem dX8_commit_23 : decode cX8_commit 23 = .ok (.iload_n 1, 1) := by decide +kernel
theorem dX8_commit_24 : decode cX8_commit 24 = .ok (.baload, 1) := by decide +kernel
theorem dX8_commit_25 : decode cX8_commit 25 = .ok (.ifCond .eq 6, 3) := by decide +kernel
theorem dX8_commit_28 : decode cX8_commit 28 = .ok (.bipush (-3), 2) := by decide +kernel
theorem dX8_commit_30 : decode cX8_commit 30 = .ok (.ireturn, 1) := by decide +kernel
theorem dX8_commit_31 : decode cX8_commit 31 = .ok (.aload_n 0, 1) := by decide +kernel
theorem dX8_commit_32 : decode cX8_commit 32 = .ok (.getfield 148, 3) := by decide +kernel
theorem dX8_commit_35 : decode cX8_commit 35 = .ok (.istore_n 3, 1) := by decide +kernel
theorem dX8_commit_36 : decode cX8_commit 36 = .ok (.aload_n 0, 1) := by decide +kernel
theorem dX8_commit_37 : decode cX8_commit 37 = .ok (.getfield 33, 3) := by decide +kernel
theorem dX8_commit_40 : decode cX8_commit 40 = .ok (.iload_n 1, 1) := by decide +kernel
theorem dX8_commit_41 : decode cX8_commit 41 = .ok (.iaload, 1) := by decide +kernel
theorem dX8_commit_42 : decode cX8_commit 42 = .ok (.ifCond .le 30, 3) := by decide +kernel
theorem dX8_commit_45 : decode cX8_commit 45 = .ok (.aload_n 0, 1) := by decide +kernel
theorem dX8_commit_46 : decode cX8_commit 46 = .ok (.iload_n 1, 1) := by decide +kernel
theorem dX8_commit_47 : decode cX8_commit 47 = .ok (.aload_n 0, 1) := by decide +kernel
theorem dX8_commit_48 : decode cX8_commit 48 = .ok (.iload_n 2, 1) := by decide +kernel
theorem dX8_commit_49 : decode cX8_commit 49 = .ok (.aload_n 0, 1) := by decide +kernel
theorem dX8_commit_50 : decode cX8_commit 50 = .ok (.getfield 163, 3) := by decide +kernel
theorem dX8_commit_53 : decode cX8_commit 53 = .ok (.invokevirtual 166, 3) := by decide +kernel
theorem dX8_commit_56 : decode cX8_commit 56 = .ok (.invokevirtual 155, 3) := by decide +kernel
theorem dX8_commit_59 : decode cX8_commit 59 = .ok (.aload_n 0, 1) := by decide +kernel
theorem dX8_commit_60 : decode cX8_commit 60 = .ok (.getfield 33, 3) := by decide +kernel
theorem dX8_commit_63 : decode cX8_commit 63 = .ok (.iload_n 1, 1) := by decide +kernel
theorem dX8_commit_64 : decode cX8_commit 64 = .ok (.dup2, 1) := by decide +kernel
theorem dX8_commit_65 : decode cX8_commit 65 = .ok (.iaload, 1) := by decide +kernel
theorem dX8_commit_66 : decode cX8_commit 66 = .ok (.iconst 1, 1) := by decide +kernel
theorem dX8_commit_67 : decode cX8_commit 67 = .ok (.isub, 1) := by decide +kernel
theorem dX8_commit_68 : decode cX8_commit 68 = .ok (.iastore, 1) := by decide +kernel
theorem dX8_commit_69 : decode cX8_commit 69 = .ok (.goto (-33), 3) := by decide +kernel
theorem dX8_commit_72 : decode cX8_commit 72 = .ok (.iload_n 3, 1) := by decide +kernel
theorem dX8_commit_73 : decode cX8_commit 73 = .ok (.ireturn, 1) := by decide +kernel
set_option maxRecDepth 20000 in
theorem ggX8_abort_X8_isStage : GoodIn wsX8_abort wsX8_isStage := goodIn_r _ [6, 7, 8, 9, 10, 11, 12, 13, 14, 15, 16, 17, 18, 19, 20, 21, 22, 23, 24, 25, 26, 27, 28, 29, 30, 31, 32, 33, 34, 35, 36, 37, 38, 39, 40, 41, 42, 43, 44, 45, 46, 47, 48, 49, 50, 51, 52, 53, 54, 55] (by decide +kernel) (by decide +kernel)
set_option maxRecDepth 20000 in
theorem gX8_abort_X8_isStage : GoodIn wsX8_abort (wsV RX8 144 RX8 yX8_isStage wsX8_isStage) := goodIn_app (goodIn_of _ (by decide +kernel)) ggX8_abort_X8_isStage
theorem dX8_abort_0 : decode cX8_abort 0 = .ok (.aload_n 0, 1) := by decide +kernel
theorem dX8_abort_1 : decode cX8_abort 1 = .ok (.iload_n 1, 1) := by decide +kernel
theorem dX8_abort_2 : decode cX8_abort 2 = .ok (.invokevirtual 144, 3) := by decide +kernel
theorem dX8_abort_5 : decode cX8_abort 5 = .ok (.ifCond .ne 5, 3) := by decide +kernel
theorem dX8_abort_8 : decode cX8_abort 8 = .ok (.iconst (-1), 1) := by decide +kernel
theorem dX8_abort_9 : decode cX8_abort 9 = .ok (.ireturn, 1) := by decide +kernel
theorem dX8_abort_10 : decode cX8_abort 10 = .ok (.aload_n 0, 1) := by decide +kernel
theorem dX8_abort_11 : decode cX8_abort 11 = .ok (.getfield 33, 3) := by decide +kernel
theorem dX8_abort_14 : decode cX8_abort 14 = .ok (.iload_n 1, 1) := by decide +kernel
theorem dX8_abort_15 : decode cX8_abort 15 = .ok (.iaload, 1) := by decide +kernel
theorem dX8_abort_16 : decode cX8_abort 16 = .ok (.istore_n 2, 1) := by decide +kernel
theorem dX8_abort_17 : decode cX8_abort 17 = .ok (.aload_n 0, 1) := by decide +kernel
theorem dX8_abort_18 : decode cX8_abort 18 = .ok (.getfield 33, 3) := by decide +kernel
theorem dX8_abort_21 : decode cX8_abort 21 = .ok (.iload_n 1, 1) := by decide +kernel
theorem dX8_abort_22 : decode cX8_abort 22 = .ok (.iconst 0, 1) := by decide +kernel
theorem dX8_abort_23 : decode cX8_abort 23 = .ok (.iastore, 1) := by decide +kernel
theorem dX8_abort_24 : decode cX8_abort 24 = .ok (.iload_n 2, 1) := by decide +kernel
theorem dX8_abort_25 : decode cX8_abort 25 = .ok (.ireturn, 1) := by decide +kernel
set_option maxRecDepth 20000 in
theorem ggX8_timer_X8_isStage : GoodIn wsX8_timer wsX8_isStage := goodIn_r _ [12, 13, 17, 18, 19, 20, 21, 22, 23, 24, 25, 26, 27, 28, 29, 30, 31, 32, 33, 34, 35, 36, 37, 38, 39, 40, 41, 42, 43, 44, 45, 46, 47, 48, 49, 50, 51, 52, 53, 54, 55, 56, 57, 58, 59, 60, 61, 62, 63, 64] (by decide +kernel) (by decide +kernel)
set_option maxRecDepth 20000 in
theorem gX8_timer_X8_isStage : GoodIn wsX8_timer (wsV RX8 144 RX8 yX8_isStage wsX8_isStage) := goodIn_app (goodIn_of _ (by decide +kernel)) ggX8_timer_X8_isStage
set_option maxRecDepth 20000 in
theorem ggX8_timer_X8_in : GoodIn wsX8_timer wsX8_in := goodIn_r _ [16] (by decide +kernel) (by decide +kernel)
set_option maxRecDepth 20000 in
theorem gX8_timer_X8_in : GoodIn wsX8_timer (va_wsS RX8 140 yX8_in wsX8_in) := goodIn_app (goodIn_of _ (by decide +kernel)) ggX8_timer_X8_in
theorem dX8_timer_0 : decode cX8_timer 0 = .ok (.aload_n 0, 1) := by decide +kernel
theorem dX8_timer_1 : decode cX8_timer 1 = .ok (.iload_n 1, 1) := by decide +kernel
theorem dX8_timer_2 : decode cX8_timer 2 = .ok (.invokevirtual 144, 3) := by decide +kernel
theorem dX8_timer_5 : decode cX8_timer 5 = .ok (.ifCond .eq 14, 3) := by decide +kernel
theorem dX8_timer_8 : decode cX8_timer 8 = .ok (.iload_n 3, 1) := by decide +kernel
theorem dX8_timer_9 : decode cX8_timer 9 = .ok (.iconst 1, 1) := by decide +kernel
theorem dX8_timer_10 : decode cX8_timer 10 = .ok (.sipush 1000, 3) := by decide +kernel
theorem dX8_timer_13 : decode cX8_timer 13 = .ok (.invokestatic 140, 3) := by decide +kernel
theorem dX8_timer_16 : decode cX8_timer 16 = .ok (.ifCond .ne 5, 3) := by decide +kernel
theorem dX8_timer_19 : decode cX8_timer 19 = .ok (.iconst (-1), 1) := by decide +kernel
theorem dX8_timer_20 : decode cX8_timer 20 = .ok (.ireturn, 1) := by decide +kernel
theorem dX8_timer_21 : decode cX8_timer 21 = .ok (.aload_n 0, 1) := by decide +kernel
theorem dX8_timer_22 : decode cX8_timer 22 = .ok (.getfield 170, 3) := by decide +kernel
theorem dX8_timer_25 : decode cX8_timer 25 = .ok (.bipush 50, 2) := by decide +kernel
theorem dX8_timer_27 : decode cX8_timer 27 = .ok (.if_icmp .ne 6, 3) := by decide +kernel
theorem dX8_timer_30 : decode cX8_timer 30 = .ok (.bipush (-2), 2) := by decide +kernel
theorem dX8_timer_32 : decode cX8_timer 32 = .ok (.ireturn, 1) := by decide +kernel
theorem dX8_timer_33 : decode cX8_timer 33 = .ok (.aload_n 0, 1) := by decide +kernel
theorem dX8_timer_34 : decode cX8_timer 34 = .ok (.getfield 124, 3) := by decide +kernel
theorem dX8_timer_37 : decode cX8_timer 37 = .ok (.aload_n 0, 1) := by decide +kernel
theorem dX8_timer_38 : decode cX8_timer 38 = .ok (.getfield 170, 3) := by decide +kernel
theorem dX8_timer_41 : decode cX8_timer 41 = .ok (.aload_n 0, 1) := by decide +kernel
theorem dX8_timer_42 : decode cX8_timer 42 = .ok (.getfield 173, 3) := by decide +kernel
theorem dX8_timer_45 : decode cX8_timer 45 = .ok (.iastore, 1) := by decide +kernel
theorem dX8_timer_46 : decode cX8_timer 46 = .ok (.aload_n 0, 1) := by decide +kernel
theorem dX8_timer_47 : decode cX8_timer 47 = .ok (.getfield 127, 3) := by decide +kernel
theorem dX8_timer_50 : decode cX8_timer 50 = .ok (.aload_n 0, 1) := by decide +kernel
theorem dX8_timer_51 : decode cX8_timer 51 = .ok (.getfield 170, 3) := by decide +kernel
theorem dX8_timer_54 : decode cX8_timer 54 = .ok (.iload_n 1, 1) := by decide +kernel
theorem dX8_timer_55 : decode cX8_timer 55 = .ok (.iastore, 1) := by decide +kernel
theorem dX8_timer_56 : decode cX8_timer 56 = .ok (.aload_n 0, 1) := by decide +kernel
theorem dX8_timer_57 : decode cX8_timer 57 = .ok (.getfield 130, 3) := by decide +kernel
theorem dX8_timer_60 : decode cX8_timer 60 = .ok (.aload_n 0, 1) := by decide +kernel
theorem dX8_timer_61 : decode cX8_timer 61 = .ok (.getfield 170, 3) := by decide +kernel
theorem dX8_timer_64 : decode cX8_timer 64 = .ok (.iload_n 2, 1) := by decide +kernel
theorem dX8_timer_65 : decode cX8_timer 65 = .ok (.iastore, 1) := by decide +kernel
theorem dX8_timer_66 : decode cX8_timer 66 = .ok (.aload_n 0, 1) := by decide +kernel
theorem dX8_timer_67 : decode cX8_timer 67 = .ok (.getfield 133, 3) := by decide +kernel
theorem dX8_timer_70 : decode cX8_timer 70 = .ok (.aload_n 0, 1) := by decide +kernel
theorem dX8_timer_71 : decode cX8_timer 71 = .ok (.getfield 170, 3) := by decide +kernel
theorem dX8_timer_74 : decode cX8_timer 74 = .ok (.aload_n 0, 1) := by decide +kernel
theorem dX8_timer_75 : decode cX8_timer 75 = .ok (.getfield 163, 3) := by decide +kernel
theorem dX8_timer_78 : decode cX8_timer 78 = .ok (.iload_n 3, 1) := by decide +kernel
theorem dX8_timer_79 : decode cX8_timer 79 = .ok (.iadd, 1) := by decide +kernel
theorem dX8_timer_80 : decode cX8_timer 80 = .ok (.iastore, 1) := by decide +kernel
theorem dX8_timer_81 : decode cX8_timer 81 = .ok (.aload_n 0, 1) := by decide +kernel
theorem dX8_timer_82 : decode cX8_timer 82 = .ok (.dup, 1) := by decide +kernel
theorem dX8_timer_83 : decode cX8_timer 83 = .ok (.getfield 170, 3) := by decide +kernel
theorem dX8_timer_86 : decode cX8_timer 86 = .ok (.iconst 1, 1) := by decide +kernel
theorem dX8_timer_87 : decode cX8_timer 87 = .ok (.iadd, 1) := by decide +kernel
theorem dX8_timer_88 : decode cX8_timer 88 = .ok (.putfield 170, 3) := by decide +kernel
theorem dX8_timer_91 : decode cX8_timer 91 = .ok (.aload_n 0, 1) := by decide +kernel
theorem dX8_timer_92 : decode cX8_timer 92 = .ok (.dup, 1) := by decide +kernel
theorem dX8_timer_93 : decode cX8_timer 93 = .ok (.getfield 173, 3) := by decide +kernel
theorem dX8_timer_96 : decode cX8_timer 96 = .ok (.iconst 1, 1) := by decide +kernel
theorem dX8_timer_97 : decode cX8_timer 97 = .ok (.iadd, 1) := by decide +kernel
theorem dX8_timer_98 : decode cX8_timer 98 = .ok (.putfield 173, 3) := by decide +kernel
theorem dX8_timer_101 : decode cX8_timer 101 = .ok (.aload_n 0, 1) := by decide +kernel
theorem dX8_timer_102 : decode cX8_timer 102 = .ok (.getfield 173, 3) := by decide +kernel
theorem dX8_timer_105 : decode cX8_timer 105 = .ok (.iconst 1, 1) := by decide +kernel
theorem dX8_timer_106 : decode cX8_timer 106 = .ok (.isub, 1) := by decide +kernel
theorem dX8_timer_107 : decode cX8_timer 107 = .ok (.ireturn, 1) := by decide +kernel
theorem dX8_forgetTimer_0 : decode cX8_forgetTimer 0 = .ok (.aload_n 0, 1) := by decide +kernel
theorem dX8_forgetTimer_1 : decode cX8_forgetTimer 1 = .ok (.dup, 1) := by decide +kernel
theorem dX8_forgetTimer_2 : decode cX8_forgetTimer 2 = .ok (.getfield 170, 3) := by decide +kernel
theorem dX8_forgetTimer_5 : decode cX8_forgetTimer 5 = .ok (.iconst 1, 1) := by decide +kernel
theorem dX8_forgetTimer_6 : decode cX8_forgetTimer 6 = .ok (.isub, 1) := by decide +kernel
theorem dX8_forgetTimer_7 : decode cX8_forgetTimer 7 = .ok (.putfield 170, 3) := by decide +kernel
theorem dX8_forgetTimer_10 : decode cX8_forgetTimer 10 = .ok (.iload_n 1, 1) := by decide +kernel
theorem dX8_forgetTimer_11 : decode cX8_forgetTimer 11 = .ok (.istore_n 2, 1) := by decide +kernel
theorem dX8_forgetTimer_12 : decode cX8_forgetTimer 12 = .ok (.iload_n 2, 1) := by decide +kernel
theorem dX8_forgetTimer_13 : decode cX8_forgetTimer 13 = .ok (.aload_n 0, 1) := by decide +kernel
theorem dX8_forgetTimer_14 : decode cX8_forgetTimer 14 = .ok (.getfield 170, 3) := by decide +kernel
theorem dX8_forgetTimer_17 : decode cX8_forgetTimer 17 = .ok (.if_icmp .ge 65, 3) := by decide +kernel
theorem dX8_forgetTimer_20 : decode cX8_forgetTimer 20 = .ok (.aload_n 0, 1) := by decide +kernel
theorem dX8_forgetTimer_21 : decode cX8_forgetTimer 21 = .ok (.getfield 124, 3) := by decide +kernel
theorem dX8_forgetTimer_24 : decode cX8_forgetTimer 24 = .ok (.iload_n 2, 1) := by decide +kernel
theorem dX8_forgetTimer_25 : decode cX8_forgetTimer 25 = .ok (.aload_n 0, 1) := by decide +kernel
theorem dX8_forgetTimer_26 : decode cX8_forgetTimer 26 = .ok (.getfield 124, 3) := by decide +kernel
theorem dX8_forgetTimer_29 : decode cX8_forgetTimer 29 = .ok (.iload_n 2, 1) := by decide +kernel
theorem dX8_forgetTimer_30 : decode cX8_forgetTimer 30 = .ok (.iconst 1, 1) := by decide +kernel
theorem dX8_forgetTimer_31 : decode cX8_forgetTimer 31 = .ok (.iadd, 1) := by decide +kernel
theorem dX8_forgetTimer_32 : decode cX8_forgetTimer 32 = .ok (.iaload, 1) := by decide +kernel
theorem dX8_forgetTimer_33 : decode cX8_forgetTimer 33 = .ok (.iastore, 1) := by decide +kernel
theorem dX8_forgetTimer_34 : decode cX8_forgetTimer 34 = .ok (.aload_n 0, 1) := by decide +kernel
theorem dX8_forgetTimer_35 : decode cX8_forgetTimer 35 = .ok (.getfield 127, 3) := by decide +kernel
theorem dX8_forgetTimer_38 : decode cX8_forgetTimer 38 = .ok (.iload_n 2, 1) := by decide +kernel
theorem dX8_forgetTimer_39 : decode cX8_forgetTimer 39 = .ok (.aload_n 0, 1) := by decide +kernel
theorem dX8_forgetTimer_40 : decode cX8_forgetTimer 40 = .ok (.getfield 127, 3) := by decide +kernel
theorem dX8_forgetTimer_43 : decode cX8_forgetTimer 43 = .ok (.iload_n 2, 1) := by decide +kernel
theorem dX8_forgetTimer_44 : decode cX8_forgetTimer 44 = .ok (.iconst 1, 1) := by decide +kernel
theorem dX8_forgetTimer_45 : decode cX8_forgetTimer 45 = .ok (.iadd, 1) := by decide +kernel
theorem dX8_forgetTimer_46 : decode cX8_forgetTimer 46 = .ok (.iaload, 1) := by decide +kernel
theorem dX8_forgetTimer_47 : decode cX8_forgetTimer 47 = .ok (.iastore, 1) := by decide +kernel
theorem dX8_forgetTimer_48 : decode cX8_forgetTimer 48 = .ok (.aload_n 0, 1) := by decide +kernel
theorem dX8_forgetTimer_49 : decode cX8_forgetTimer 49 = .ok (.getfield 130, 3) := by decide +kernel
theorem dX8_forgetTimer_52 : decode cX8_forgetTimer 52 = .ok (.iload_n 2, 1) := by decide +kernel
theorem dX8_forgetTimer_53 : decode cX8_forgetTimer 53 = .ok (.aload_n 0, 1) := by decide +kernel
theorem dX8_forgetTimer_54 : decode cX8_forgetTimer 54 = .ok (.getfield 130, 3) := by decide +kernel
theorem dX8_forgetTimer_57 : decode cX8_forgetTimer 57 = .ok (.iload_n 2, 1) := by decide +kernel
theorem dX8_forgetTimer_58 : decode cX8_forgetTimer 58 = .ok (.iconst 1, 1) := by decide +kernel
theorem dX8_forgetTimer_59 : decode cX8_forgetTimer 59 = .ok (.iadd, 1) := by decide +kernel
theorem dX8_forgetTimer_60 : decode cX8_forgetTimer 60 = .ok (.iaload, 1) := by decide +kernel
theorem dX8_forgetTimer_61 : decode cX8_forgetTimer 61 = .ok (.iastore, 1) := by decide +kernel
theorem dX8_forgetTimer_62 : decode cX8_forgetTimer 62 = .ok (.aload_n 0, 1) := by decide +kernel
theorem dX8_forgetTimer_63 : decode cX8_forgetTimer 63 = .ok (.getfield 133, 3) := by decide +kernel
theorem dX8_forgetTimer_66 : decode cX8_forgetTimer 66 = .ok (.iload_n 2, 1) := by decide +kernel
theorem dX8_forgetTimer_67 : decode cX8_forgetTimer 67 = .ok (.aload_n 0, 1) := by decide +kernel
theorem dX8_forgetTimer_68 : decode cX8_forgetTimer 68 = .ok (.getfield 133, 3) := by decide +kernel
theorem dX8_forgetTimer_71 : decode cX8_forgetTimer 71 = .ok (.iload_n 2, 1) := by decide +kernel
theorem dX8_forgetTimer_72 : decode cX8_forgetTimer 72 = .ok (.iconst 1, 1) := by decide +kernel
theorem dX8_forgetTimer_73 : decode cX8_forgetTimer 73 = .ok (.iadd, 1) := by decide +kernel
theorem dX8_forgetTimer_74 : decode cX8_forgetTimer 74 = .ok (.iaload, 1) := by decide +kernel
theorem dX8_forgetTimer_75 : decode cX8_forgetTimer 75 = .ok (.iastore, 1) := by decide +kernel
theorem dX8_forgetTimer_76 : decode cX8_forgetTimer 76 = .ok (.iinc 2 1, 3) := by decide +kernel
theorem dX8_forgetTimer_79 : decode cX8_forgetTimer 79 = .ok (.goto (-67), 3) := by decide +kernel
theorem dX8_forgetTimer_82 : decode cX8_forgetTimer 82 = .ok (.return_, 1) := by decide +kernel
set_option maxRecDepth 20000 in
theorem ggX8_cancel_X8_forgetTimer : GoodIn wsX8_cancel wsX8_forgetTimer := goodIn_r _ [7, 1, 2, 8, 9, 10, 11, 12, 13, 14, 15, 16, 17, 18, 19, 20, 21, 22, 23, 24, 25, 26, 27, 28, 29, 30, 31, 32, 33, 34, 35, 36, 37, 38, 39, 40, 41, 42, 43, 44, 45, 46, 47, 48, 49, 50, 51, 52, 53, 54, 55, 56, 57, 58] (by decide +kernel) (by decide +kernel)
set_option maxRecDepth 20000 in
theorem gX8_cancel_X8_forgetTimer : GoodIn wsX8_cancel (wsV RX8 176 RX8 yX8_forgetTimer wsX8_forgetTimer) := goodIn_app (goodIn_of _ (by decide +kernel)) ggX8_cancel_X8_forgetTimer
theorem dX8_cancel_0 : decode cX8_cancel 0 = .ok (.iconst 0, 1) := by decide +kernel
theorem dX8_cancel_1 : decode cX8_cancel 1 = .ok (.istore_n 2, 1) := by decide +kernel
theorem dX8_cancel_2 : decode cX8_cancel 2 = .ok (.iload_n 2, 1) := by decide +kernel
theorem dX8_cancel_3 : decode cX8_cancel 3 = .ok (.aload_n 0, 1) := by decide +kernel
theorem dX8_cancel_4 : decode cX8_cancel 4 = .ok (.getfield 170, 3) := by decide +kernel
theorem dX8_cancel_7 : decode cX8_cancel 7 = .ok (.if_icmp .ge 26, 3) := by decide +kernel
theorem dX8_cancel_10 : decode cX8_cancel 10 = .ok (.aload_n 0, 1) := by decide +kernel
theorem dX8_cancel_11 : decode cX8_cancel 11 = .ok (.getfield 124, 3) := by decide +kernel
theorem dX8_cancel_14 : decode cX8_cancel 14 = .ok (.iload_n 2, 1) := by decide +kernel
theorem dX8_cancel_15 : decode cX8_cancel 15 = .ok (.iaload, 1) := by decide +kernel
theorem dX8_cancel_16 : decode cX8_cancel 16 = .ok (.iload_n 1, 1) := by decide +kernel
theorem dX8_cancel_17 : decode cX8_cancel 17 = .ok (.if_icmp .ne 10, 3) := by decide +kernel
theorem dX8_cancel_20 : decode cX8_cancel 20 = .ok (.aload_n 0, 1) := by decide +kernel
theorem dX8_cancel_21 : decode cX8_cancel 21 = .ok (.iload_n 2, 1) := by decide +kernel
theorem dX8_cancel_22 : decode cX8_cancel 22 = .ok (.invokevirtual 176, 3) := by decide +kernel
theorem dX8_cancel_25 : decode cX8_cancel 25 = .ok (.iconst 1, 1) := by decide +kernel
theorem dX8_cancel_26 : decode cX8_cancel 26 = .ok (.ireturn, 1) := by decide +kernel
theorem dX8_cancel_27 : decode cX8_cancel 27 = .ok (.iinc 2 1, 3) := by decide +kernel
theorem dX8_cancel_30 : decode cX8_cancel 30 = .ok (.goto (-28), 3) := by decide +kernel
theorem dX8_cancel_33 : decode cX8_cancel 33 = .ok (.iconst (-1), 1) := by decide +kernel
theorem dX8_cancel_34 : decode cX8_cancel 34 = .ok (.ireturn, 1) := by decide +kernel
set_option maxRecDepth 20000 in
theorem ggX8_close_X8_isStage : GoodIn wsX8_close wsX8_isStage := goodIn_r _ [6, 7, 8, 9, 10, 11, 12, 13, 14, 15, 16, 17, 18, 19, 20, 21, 22, 23, 24, 25, 26, 27, 28, 29, 30, 31, 32, 33, 34, 35, 36, 37, 38, 39, 40, 41, 42, 43, 44, 45, 46, 47, 48, 49, 50, 51, 52, 53, 54, 55] (by decide +kernel) (by decide +kernel)
set_option maxRecDepth 20000 in
theorem gX8_close_X8_isStage : GoodIn wsX8_close (wsV RX8 144 RX8 yX8_isStage wsX8_isStage) := goodIn_app (goodIn_of _ (by decide +kernel)) ggX8_close_X8_isStage
theorem dX8_close_0 : decode cX8_close 0 = .ok (.aload_n 0, 1) := by decide +kernel
theorem dX8_close_1 : decode cX8_close 1 = .ok (.iload_n 1, 1) := by decide +kernel
theorem dX8_close_2 : decode cX8_close 2 = .ok (.invokevirtual 144, 3) := by decide +kernel
theorem dX8_close_5 : decode cX8_close 5 = .ok (.ifCond .ne 5, 3) := by decide +kernel
theorem dX8_close_8 : decode cX8_close 8 = .ok (.iconst (-1), 1) := by decide +kernel
theorem dX8_close_9 : decode cX8_close 9 = .ok (.ireturn, 1) := by decide +kernel
theorem dX8_close_10 : decode cX8_close 10 = .ok (.aload_n 0, 1) := by decide +kernel
theorem dX8_close_11 : decode cX8_close 11 = .ok (.getfield 60, 3) := by decide +kernel
theorem dX8_close_14 : decode cX8_close 14 = .ok (.iload_n 1, 1) := by decide +kernel
theorem dX8_close_15 : decode cX8_close 15 = .ok (.baload, 1) := by decide +kernel
theorem dX8_close_16 : decode cX8_close 16 = .ok (.ifCond .eq 6, 3) := by decide +kernel
theorem dX8_close_19 : decode cX8_close 19 = .ok (.bipush (-3), 2) := by decide +kernel
theorem dX8_close_21 : decode cX8_close 21 = .ok (.ireturn, 1) := by decide +kernel
theorem dX8_close_22 : decode cX8_close 22 = .ok (.aload_n 0, 1) := by decide +kernel
theorem dX8_close_23 : decode cX8_close 23 = .ok (.getfield 60, 3) := by decide +kernel
theorem dX8_close_26 : decode cX8_close 26 = .ok (.iload_n 1, 1) := by decide +kernel
theorem dX8_close_27 : decode cX8_close 27 = .ok (.iconst 1, 1) := by decide +kernel
theorem dX8_close_28 : decode cX8_close 28 = .ok (.bastore, 1) := by decide +kernel
theorem dX8_close_29 : decode cX8_close 29 = .ok (.iconst 1, 1) := by decide +kernel
theorem dX8_close_30 : decode cX8_close 30 = .ok (.ireturn, 1) := by decide +kernel
set_option maxRecDepth 20000 in
theorem ggX8_ring_X8_make : GoodIn wsX8_ring wsX8_make := goodIn_r _ [11, 12, 13, 14, 39, 40, 41, 42, 43, 44, 45, 46, 47, 48, 49, 50, 51, 52, 53, 54, 55, 56, 57, 58, 59, 60, 61, 62, 63, 64, 65, 66, 67, 68, 69, 70, 71, 72, 73, 74, 75, 76, 77, 78, 79, 80, 81, 82, 83, 84, 85, 86] (by decide +kernel) (by decide +kernel)
set_option maxRecDepth 20000 in
theorem gX8_ring_X8_make : GoodIn wsX8_ring (wsV RX8 166 RX8 yX8_make wsX8_make) := goodIn_app (goodIn_of _ (by decide +kernel)) ggX8_ring_X8_make
set_option maxRecDepth 20000 in
theorem ggX8_ring_X8_forgetTimer : GoodIn wsX8_ring wsX8_forgetTimer := goodIn_r _ [18, 1, 19, 4, 5, 2, 39, 40, 41, 42, 43, 44, 45, 46, 47, 48, 49, 50, 51, 52, 53, 54, 55, 56, 57, 58, 59, 60, 61, 62, 63, 64, 65, 66, 67, 68, 69, 70, 71, 72, 73, 74, 75, 76, 77, 78, 79, 80, 81, 82, 83, 84, 85, 86] (by decide +kernel) (by decide +kernel)
set_option maxRecDepth 20000 in
theorem gX8_ring_X8_forgetTimer : GoodIn wsX8_ring (wsV RX8 176 RX8 yX8_forgetTimer wsX8_forgetTimer) := goodIn_app (goodIn_of _ (by decide +kernel)) ggX8_ring_X8_forgetTimer
set_option maxRecDepth 20000 in
theorem ggX8_ring_X8_offer : GoodIn wsX8_ring wsX8_offer := goodIn_r _ [23, 24, 25, 26, 27, 28, 10, 29, 30, 31, 32, 33, 34, 35, 36, 37, 38, 39, 40, 41, 42, 43, 44, 45, 46, 47, 48, 49, 50, 51, 52, 53, 54, 55, 56, 57, 58, 59, 60, 61, 62, 63, 64, 65, 66, 67, 68, 69, 70, 71, 72, 73, 74, 75, 76, 77, 78, 79, 80, 81, 82, 83, 84, 85, 86] (by decide +kernel) (by decide +kernel)
set_option maxRecDepth 20000 in
theorem gX8_ring_X8_offer : GoodIn wsX8_ring (wsV RX8 159 RX8 yX8_offer wsX8_offer) := goodIn_app (goodIn_of _ (by decide +kernel)) ggX8_ring_X8_offer
theorem dX8_ring_0 : decode cX8_ring 0 = .ok (.iconst 0, 1) := by decide +kernel
theorem dX8_ring_1 : decode cX8_ring 1 = .ok (.istore_n 1, 1) := by decide +kernel
theorem dX8_ring_2 : decode cX8_ring 2 = .ok (.iload_n 1, 1) := by decide +kernel
theorem dX8_ring_3 : decode cX8_ring 3 = .ok (.aload_n 0, 1) := by decide +kernel
theorem dX8_ring_4 : decode cX8_ring 4 = .ok (.getfield 170, 3) := by decide +kernel
theorem dX8_ring_7 : decode cX8_ring 7 = .ok (.if_icmp .ge 75, 3) := by decide +kernel
theorem dX8_ring_10 : decode cX8_ring 10 = .ok (.aload_n 0, 1) := by decide +kernel
theorem dX8_ring_11 : decode cX8_ring 11 = .ok (.getfield 133, 3) := by decide +kernel
theorem dX8_ring_14 : decode cX8_ring 14 = .ok (.iload_n 1, 1) := by decide +kernel
theorem dX8_ring_15 : decode cX8_ring 15 = .ok (.iaload, 1) := by decide +kernel
theorem dX8_ring_16 : decode cX8_ring 16 = .ok (.aload_n 0, 1) := by decide +kernel
theorem dX8_ring_17 : decode cX8_ring 17 = .ok (.getfield 163, 3) := by decide +kernel
theorem dX8_ring_20 : decode cX8_ring 20 = .ok (.if_icmp .ne 56, 3) := by decide +kernel
theorem dX8_ring_23 : decode cX8_ring 23 = .ok (.aload_n 0, 1) := by decide +kernel
theorem dX8_ring_24 : decode cX8_ring 24 = .ok (.getfield 127, 3) := by decide +kernel
theorem dX8_ring_27 : decode cX8_ring 27 = .ok (.iload_n 1, 1) := by decide +kernel
theorem dX8_ring_28 : decode cX8_ring 28 = .ok (.iaload, 1) := by decide +kernel
theorem dX8_ring_29 : decode cX8_ring 29 = .ok (.istore_n 2, 1) := by decide +kernel
theorem dX8_ring_30 : decode cX8_ring 30 = .ok (.aload_n 0, 1) := by decide +kernel
theorem dX8_ring_31 : decode cX8_ring 31 = .ok (.aload_n 0, 1) := by decide +kernel
theorem dX8_ring_32 : decode cX8_ring 32 = .ok (.getfield 130, 3) := by decide +kernel
theorem dX8_ring_35 : decode cX8_ring 35 = .ok (.iload_n 1, 1) := by decide +kernel
theorem dX8_ring_36 : decode cX8_ring 36 = .ok (.iaload, 1) := by decide +kernel
theorem dX8_ring_37 : decode cX8_ring 37 = .ok (.aload_n 0, 1) := by decide +kernel
theorem dX8_ring_38 : decode cX8_ring 38 = .ok (.getfield 163, 3) := by decide +kernel
theorem dX8_ring_41 : decode cX8_ring 41 = .ok (.invokevirtual 166, 3) := by decide +kernel
theorem dX8_ring_44 : decode cX8_ring 44 = .ok (.istore_n 3, 1) := by decide +kernel
theorem dX8_ring_45 : decode cX8_ring 45 = .ok (.aload_n 0, 1) := by decide +kernel
theorem dX8_ring_46 : decode cX8_ring 46 = .ok (.iload_n 1, 1) := by decide +kernel
theorem dX8_ring_47 : decode cX8_ring 47 = .ok (.invokevirtual 176, 3) := by decide +kernel
theorem dX8_ring_50 : decode cX8_ring 50 = .ok (.aload_n 0, 1) := by decide +kernel
theorem dX8_ring_51 : decode cX8_ring 51 = .ok (.dup, 1) := by decide +kernel
theorem dX8_ring_52 : decode cX8_ring 52 = .ok (.getfield 180, 3) := by decide +kernel
theorem dX8_ring_55 : decode cX8_ring 55 = .ok (.aload_n 0, 1) := by decide +kernel
theorem dX8_ring_56 : decode cX8_ring 56 = .ok (.iload_n 2, 1) := by decide +kernel
theorem dX8_ring_57 : decode cX8_ring 57 = .ok (.iload_n 3, 1) := by decide +kernel
theorem dX8_ring_58 : decode cX8_ring 58 = .ok (.invokevirtual 159, 3) := by decide +kernel
theorem dX8_ring_61 : decode cX8_ring 61 = .ok (.ifCond .eq 7, 3) := by decide +kernel
theorem dX8_ring_64 : decode cX8_ring 64 = .ok (.iconst 0, 1) := by decide +kernel
theorem dX8_ring_65 : decode cX8_ring 65 = .ok (.goto 4, 3) := by decide +kernel
theorem dX8_ring_68 : decode cX8_ring 68 = .ok (.iconst 1, 1) := by decide +kernel
theorem dX8_ring_69 : decode cX8_ring 69 = .ok (.iadd, 1) := by decide +kernel
theorem dX8_ring_70 : decode cX8_ring 70 = .ok (.putfield 180, 3) := by decide +kernel
theorem dX8_ring_73 : decode cX8_ring 73 = .ok (.goto (-71), 3) := by decide +kernel
theorem dX8_ring_76 : decode cX8_ring 76 = .ok (.iinc 1 1, 3) := by decide +kernel
theorem dX8_ring_79 : decode cX8_ring 79 = .ok (.goto (-77), 3) := by decide +kernel
theorem dX8_ring_82 : decode cX8_ring 82 = .ok (.return_, 1) := by decide +kernel
theorem dX8_gift_0 : decode cX8_gift 0 = .ok (.iload 4, 2) := by decide +kernel
theorem dX8_gift_2 : decode cX8_gift 2 = .ok (.iconst (-1), 1) := by decide +kernel
theorem dX8_gift_3 : decode cX8_gift 3 = .ok (.if_icmp .ne 4, 3) := by decide +kernel
theorem dX8_gift_6 : decode cX8_gift 6 = .ok (.return_, 1) := by decide +kernel
theorem dX8_gift_7 : decode cX8_gift 7 = .ok (.bipush 16, 2) := by decide +kernel
theorem dX8_gift_9 : decode cX8_gift 9 = .ok (.iload_n 1, 1) := by decide +kernel
theorem dX8_gift_10 : decode cX8_gift 10 = .ok (.imul, 1) := by decide +kernel
theorem dX8_gift_11 : decode cX8_gift 11 = .ok (.aload_n 0, 1) := by decide +kernel
theorem dX8_gift_12 : decode cX8_gift 12 = .ok (.getfield 100, 3) := by decide +kernel
theorem dX8_gift_15 : decode cX8_gift 15 = .ok (.iload_n 1, 1) := by decide +kernel
theorem dX8_gift_16 : decode cX8_gift 16 = .ok (.iaload, 1) := by decide +kernel
theorem dX8_gift_17 : decode cX8_gift 17 = .ok (.iadd, 1) := by decide +kernel
theorem dX8_gift_18 : decode cX8_gift 18 = .ok (.istore 5, 2) := by decide +kernel
theorem dX8_gift_20 : decode cX8_gift 20 = .ok (.aload_n 0, 1) := by decide +kernel
theorem dX8_gift_21 : decode cX8_gift 21 = .ok (.getfield 106, 3) := by decide +kernel
theorem dX8_gift_24 : decode cX8_gift 24 = .ok (.iload 5, 2) := by decide +kernel
theorem dX8_gift_26 : decode cX8_gift 26 = .ok (.iload_n 2, 1) := by decide +kernel
theorem dX8_gift_27 : decode cX8_gift 27 = .ok (.iastore, 1) := by decide +kernel
theorem dX8_gift_28 : decode cX8_gift 28 = .ok (.aload_n 0, 1) := by decide +kernel
theorem dX8_gift_29 : decode cX8_gift 29 = .ok (.getfield 109, 3) := by decide +kernel
theorem dX8_gift_32 : decode cX8_gift 32 = .ok (.iload 5, 2) := by decide +kernel
theorem dX8_gift_34 : decode cX8_gift 34 = .ok (.iload_n 3, 1) := by decide +kernel
theorem dX8_gift_35 : decode cX8_gift 35 = .ok (.iastore, 1) := by decide +kernel
theorem dX8_gift_36 : decode cX8_gift 36 = .ok (.aload_n 0, 1) := by decide +kernel
theorem dX8_gift_37 : decode cX8_gift 37 = .ok (.getfield 112, 3) := by decide +kernel
theorem dX8_gift_40 : decode cX8_gift 40 = .ok (.iload 5, 2) := by decide +kernel
theorem dX8_gift_42 : decode cX8_gift 42 = .ok (.iload 4, 2) := by decide +kernel
theorem dX8_gift_44 : decode cX8_gift 44 = .ok (.iastore, 1) := by decide +kernel
theorem dX8_gift_45 : decode cX8_gift 45 = .ok (.aload_n 0, 1) := by decide +kernel
theorem dX8_gift_46 : decode cX8_gift 46 = .ok (.getfield 115, 3) := by decide +kernel
theorem dX8_gift_49 : decode cX8_gift 49 = .ok (.iload 5, 2) := by decide +kernel
theorem dX8_gift_51 : decode cX8_gift 51 = .ok (.iconst (-1), 1) := by decide +kernel
theorem dX8_gift_52 : decode cX8_gift 52 = .ok (.iastore, 1) := by decide +kernel
theorem dX8_gift_53 : decode cX8_gift 53 = .ok (.aload_n 0, 1) := by decide +kernel
theorem dX8_gift_54 : decode cX8_gift 54 = .ok (.getfield 100, 3) := by decide +kernel
theorem dX8_gift_57 : decode cX8_gift 57 = .ok (.iload_n 1, 1) := by decide +kernel
theorem dX8_gift_58 : decode cX8_gift 58 = .ok (.dup2, 1) := by decide +kernel
theorem dX8_gift_59 : decode cX8_gift 59 = .ok (.iaload, 1) := by decide +kernel
theorem dX8_gift_60 : decode cX8_gift 60 = .ok (.iconst 1, 1) := by decide +kernel
theorem dX8_gift_61 : decode cX8_gift 61 = .ok (.iadd, 1) := by decide +kernel
theorem dX8_gift_62 : decode cX8_gift 62 = .ok (.iastore, 1) := by decide +kernel
theorem dX8_gift_63 : decode cX8_gift 63 = .ok (.return_, 1) := by decide +kernel
set_option maxRecDepth 20000 in
theorem ggX8_listGifts_X8_gift : GoodIn wsX8_listGifts wsX8_gift := goodIn_r _ [15, 2, 16, 17, 18, 19, 20, 21, 22, 23, 24, 25, 26, 27, 28, 29, 30, 31, 32, 33, 34, 35, 36, 37, 38, 39, 40, 41, 42, 43, 44, 45, 46, 47, 48, 49, 50, 51, 52, 53, 54, 55, 56, 57, 58, 59, 60, 61, 62, 63, 64, 65, 66, 67] (by decide +kernel) (by decide +kernel)
set_option maxRecDepth 20000 in
theorem gX8_listGifts_X8_gift : GoodIn wsX8_listGifts (wsV RX8 183 RX8 yX8_gift wsX8_gift) := goodIn_app (goodIn_of _ (by decide +kernel)) ggX8_listGifts_X8_gift
theorem dX8_listGifts_0 : decode cX8_listGifts 0 = .ok (.aload_n 0, 1) := by decide +kernel
theorem dX8_listGifts_1 : decode cX8_listGifts 1 = .ok (.getfield 97, 3) := by decide +kernel
theorem dX8_listGifts_4 : decode cX8_listGifts 4 = .ok (.iload_n 2, 1) := by decide +kernel
theorem dX8_listGifts_5 : decode cX8_listGifts 5 = .ok (.iconst 1, 1) := by decide +kernel
theorem dX8_listGifts_6 : decode cX8_listGifts 6 = .ok (.bastore, 1) := by decide +kernel
theorem dX8_listGifts_7 : decode cX8_listGifts 7 = .ok (.aload_n 0, 1) := by decide +kernel
theorem dX8_listGifts_8 : decode cX8_listGifts 8 = .ok (.getfield 100, 3) := by decide +kernel
theorem dX8_listGifts_11 : decode cX8_listGifts 11 = .ok (.iload_n 2, 1) := by decide +kernel
theorem dX8_listGifts_12 : decode cX8_listGifts 12 = .ok (.iconst 0, 1) := by decide +kernel
theorem dX8_listGifts_13 : decode cX8_listGifts 13 = .ok (.iastore, 1) := by decide +kernel
theorem dX8_listGifts_14 : decode cX8_listGifts 14 = .ok (.aload_n 0, 1) := by decide +kernel
theorem dX8_listGifts_15 : decode cX8_listGifts 15 = .ok (.getfield 103, 3) := by decide +kernel
theorem dX8_listGifts_18 : decode cX8_listGifts 18 = .ok (.iload_n 2, 1) := by decide +kernel
theorem dX8_listGifts_19 : decode cX8_listGifts 19 = .ok (.iconst 0, 1) := by decide +kernel
theorem dX8_listGifts_20 : decode cX8_listGifts 20 = .ok (.iastore, 1) := by decide +kernel
theorem dX8_listGifts_21 : decode cX8_listGifts 21 = .ok (.iconst 0, 1) := by decide +kernel
theorem dX8_listGifts_22 : decode cX8_listGifts 22 = .ok (.istore_n 3, 1) := by decide +kernel
theorem dX8_listGifts_23 : decode cX8_listGifts 23 = .ok (.iconst 0, 1) := by decide +kernel
theorem dX8_listGifts_24 : decode cX8_listGifts 24 = .ok (.istore 4, 2) := by decide +kernel
theorem dX8_listGifts_26 : decode cX8_listGifts 26 = .ok (.iload 4, 2) := by decide +kernel
theorem dX8_listGifts_28 : decode cX8_listGifts 28 = .ok (.aload_n 0, 1) := by decide +kernel
theorem dX8_listGifts_29 : decode cX8_listGifts 29 = .ok (.getfield 88, 3) := by decide +kernel
theorem dX8_listGifts_32 : decode cX8_listGifts 32 = .ok (.iload_n 2, 1) := by decide +kernel
theorem dX8_listGifts_33 : decode cX8_listGifts 33 = .ok (.iaload, 1) := by decide +kernel
theorem dX8_listGifts_34 : decode cX8_listGifts 34 = .ok (.if_icmp .ge 152, 3) := by decide +kernel
theorem dX8_listGifts_37 : decode cX8_listGifts 37 = .ok (.aload_n 0, 1) := by decide +kernel
theorem dX8_listGifts_38 : decode cX8_listGifts 38 = .ok (.getfield 91, 3) := by decide +kernel
theorem dX8_listGifts_41 : decode cX8_listGifts 41 = .ok (.bipush 8, 2) := by decide +kernel
theorem dX8_listGifts_43 : decode cX8_listGifts 43 = .ok (.iload_n 2, 1) := by decide +kernel
theorem dX8_listGifts_44 : decode cX8_listGifts 44 = .ok (.imul, 1) := by decide +kernel
theorem dX8_listGifts_45 : decode cX8_listGifts 45 = .ok (.iload 4, 2) := by decide +kernel
theorem dX8_listGifts_47 : decode cX8_listGifts 47 = .ok (.iadd, 1) := by decide +kernel
theorem dX8_listGifts_48 : decode cX8_listGifts 48 = .ok (.iaload, 1) := by decide +kernel
theorem dX8_listGifts_49 : decode cX8_listGifts 49 = .ok (.istore 5, 2) := by decide +kernel
theorem dX8_listGifts_51 : decode cX8_listGifts 51 = .ok (.aload_n 0, 1) := by decide +kernel
theorem dX8_listGifts_52 : decode cX8_listGifts 52 = .ok (.getfield 8, 3) := by decide +kernel
theorem dX8_listGifts_55 : decode cX8_listGifts 55 = .ok (.iload 5, 2) := by decide +kernel
theorem dX8_listGifts_57 : decode cX8_listGifts 57 = .ok (.iaload, 1) := by decide +kernel
theorem dX8_listGifts_58 : decode cX8_listGifts 58 = .ok (.istore 6, 2) := by decide +kernel
theorem dX8_listGifts_60 : decode cX8_listGifts 60 = .ok (.iload_n 3, 1) := by decide +kernel
theorem dX8_listGifts_61 : decode cX8_listGifts 61 = .ok (.iload 6, 2) := by decide +kernel
theorem dX8_listGifts_63 : decode cX8_listGifts 63 = .ok (.iadd, 1) := by decide +kernel
theorem dX8_listGifts_64 : decode cX8_listGifts 64 = .ok (.istore_n 3, 1) := by decide +kernel
theorem dX8_listGifts_65 : decode cX8_listGifts 65 = .ok (.aload_n 0, 1) := by decide +kernel
theorem dX8_listGifts_66 : decode cX8_listGifts 66 = .ok (.getfield 21, 3) := by decide +kernel
theorem dX8_listGifts_69 : decode cX8_listGifts 69 = .ok (.iload_n 1, 1) := by decide +kernel
theorem dX8_listGifts_70 : decode cX8_listGifts 70 = .ok (.iaload, 1) := by decide +kernel
theorem dX8_listGifts_71 : decode cX8_listGifts 71 = .ok (.ifCond .eq 13, 3) := by decide +kernel
theorem dX8_listGifts_74 : decode cX8_listGifts 74 = .ok (.aload_n 0, 1) := by decide +kernel
theorem dX8_listGifts_75 : decode cX8_listGifts 75 = .ok (.getfield 21, 3) := by decide +kernel
theorem dX8_listGifts_78 : decode cX8_listGifts 78 = .ok (.iload_n 1, 1) := by decide +kernel
theorem dX8_listGifts_79 : decode cX8_listGifts 79 = .ok (.iaload, 1) := by decide +kernel
theorem dX8_listGifts_80 : decode cX8_listGifts 80 = .ok (.iconst 1, 1) := by decide +kernel
theorem dX8_listGifts_81 : decode cX8_listGifts 81 = .ok (.if_icmp .ne 23, 3) := by decide +kernel
theorem dX8_listGifts_84 : decode cX8_listGifts 84 = .ok (.aload_n 0, 1) := by decide +kernel
theorem dX8_listGifts_85 : decode cX8_listGifts 85 = .ok (.iload_n 2, 1) := by decide +kernel
theorem dX8_listGifts_86 : decode cX8_listGifts 86 = .ok (.iload 6, 2) := by decide +kernel
theorem dX8_listGifts_88 : decode cX8_listGifts 88 = .ok (.aload_n 0, 1) := by decide +kernel
theorem dX8_listGifts_89 : decode cX8_listGifts 89 = .ok (.getfield 14, 3) := by decide +kernel
theorem dX8_listGifts_92 : decode cX8_listGifts 92 = .ok (.iload 5, 2) := by decide +kernel
theorem dX8_listGifts_94 : decode cX8_listGifts 94 = .ok (.iaload, 1) := by decide +kernel
theorem dX8_listGifts_95 : decode cX8_listGifts 95 = .ok (.aload_n 0, 1) := by decide +kernel
theorem dX8_listGifts_96 : decode cX8_listGifts 96 = .ok (.getfield 24, 3) := by decide +kernel
theorem dX8_listGifts_99 : decode cX8_listGifts 99 = .ok (.iload_n 1, 1) := by decide +kernel
theorem dX8_listGifts_100 : decode cX8_listGifts 100 = .ok (.iaload, 1) := by decide +kernel
theorem dX8_listGifts_101 : decode cX8_listGifts 101 = .ok (.invokevirtual 183, 3) := by decide +kernel
theorem dX8_listGifts_104 : decode cX8_listGifts 104 = .ok (.aload_n 0, 1) := by decide +kernel
theorem dX8_listGifts_105 : decode cX8_listGifts 105 = .ok (.getfield 21, 3) := by decide +kernel
theorem dX8_listGifts_108 : decode cX8_listGifts 108 = .ok (.iload_n 1, 1) := by decide +kernel
theorem dX8_listGifts_109 : decode cX8_listGifts 109 = .ok (.iaload, 1) := by decide +kernel
theorem dX8_listGifts_110 : decode cX8_listGifts 110 = .ok (.iconst 1, 1) := by decide +kernel
theorem dX8_listGifts_111 : decode cX8_listGifts 111 = .ok (.if_icmp .ne 23, 3) := by decide +kernel
theorem dX8_listGifts_114 : decode cX8_listGifts 114 = .ok (.aload_n 0, 1) := by decide +kernel
theorem dX8_listGifts_115 : decode cX8_listGifts 115 = .ok (.iload_n 2, 1) := by decide +kernel
theorem dX8_listGifts_116 : decode cX8_listGifts 116 = .ok (.iload 6, 2) := by decide +kernel
theorem dX8_listGifts_118 : decode cX8_listGifts 118 = .ok (.aload_n 0, 1) := by decide +kernel
theorem dX8_listGifts_119 : decode cX8_listGifts 119 = .ok (.getfield 14, 3) := by decide +kernel
theorem dX8_listGifts_122 : decode cX8_listGifts 122 = .ok (.iload 5, 2) := by decide +kernel
theorem dX8_listGifts_124 : decode cX8_listGifts 124 = .ok (.iaload, 1) := by decide +kernel
theorem dX8_listGifts_125 : decode cX8_listGifts 125 = .ok (.aload_n 0, 1) := by decide +kernel
theorem dX8_listGifts_126 : decode cX8_listGifts 126 = .ok (.getfield 27, 3) := by decide +kernel
theorem dX8_listGifts_129 : decode cX8_listGifts 129 = .ok (.iload_n 1, 1) := by decide +kernel
theorem dX8_listGifts_130 : decode cX8_listGifts 130 = .ok (.iaload, 1) := by decide +kernel
theorem dX8_listGifts_131 : decode cX8_listGifts 131 = .ok (.invokevirtual 183, 3) := by decide +kernel
theorem dX8_listGifts_134 : decode cX8_listGifts 134 = .ok (.aload_n 0, 1) := by decide +kernel
theorem dX8_listGifts_135 : decode cX8_listGifts 135 = .ok (.getfield 21, 3) := by decide +kernel
theorem dX8_listGifts_138 : decode cX8_listGifts 138 = .ok (.iload_n 1, 1) := by decide +kernel
theorem dX8_listGifts_139 : decode cX8_listGifts 139 = .ok (.iaload, 1) := by decide +kernel
theorem dX8_listGifts_140 : decode cX8_listGifts 140 = .ok (.iconst 2, 1) := by decide +kernel
theorem dX8_listGifts_141 : decode cX8_listGifts 141 = .ok (.if_icmp .ne 39, 3) := by decide +kernel
theorem dX8_listGifts_144 : decode cX8_listGifts 144 = .ok (.aload_n 0, 1) := by decide +kernel
theorem dX8_listGifts_145 : decode cX8_listGifts 145 = .ok (.iload_n 2, 1) := by decide +kernel
theorem dX8_listGifts_146 : decode cX8_listGifts 146 = .ok (.iload 6, 2) := by decide +kernel
theorem dX8_listGifts_148 : decode cX8_listGifts 148 = .ok (.aload_n 0, 1) := by decide +kernel
theorem dX8_listGifts_149 : decode cX8_listGifts 149 = .ok (.getfield 14, 3) := by decide +kernel
theorem dX8_listGifts_152 : decode cX8_listGifts 152 = .ok (.iload 5, 2) := by decide +kernel
theorem dX8_listGifts_154 : decode cX8_listGifts 154 = .ok (.iaload, 1) := by decide +kernel
theorem dX8_listGifts_155 : decode cX8_listGifts 155 = .ok (.iload 6, 2) := by decide +kernel
theorem dX8_listGifts_157 : decode cX8_listGifts 157 = .ok (.iconst 2, 1) := by decide +kernel
theorem dX8_listGifts_158 : decode cX8_listGifts 158 = .ok (.irem, 1) := by decide +kernel
theorem dX8_listGifts_159 : decode cX8_listGifts 159 = .ok (.ifCond .ne 12, 3) := by decide +kernel
theorem dX8_listGifts_162 : decode cX8_listGifts 162 = .ok (.aload_n 0, 1) := by decide +kernel
theorem dX8_listGifts_163 : decode cX8_listGifts 163 = .ok (.getfield 24, 3) := by decide +kernel
theorem dX8_listGifts_166 : decode cX8_listGifts 166 = .ok (.iload_n 1, 1) := by decide +kernel
theorem dX8_listGifts_167 : decode cX8_listGifts 167 = .ok (.iaload, 1) := by decide +kernel
theorem dX8_listGifts_168 : decode cX8_listGifts 168 = .ok (.goto 9, 3) := by decide +kernel
theorem dX8_listGifts_171 : decode cX8_listGifts 171 = .ok (.aload_n 0, 1) := by decide +kernel
theorem dX8_listGifts_172 : decode cX8_listGifts 172 = .ok (.getfield 27, 3) := by decide +kernel
theorem dX8_listGifts_175 : decode cX8_listGifts 175 = .ok (.iload_n 1, 1) := by decide +kernel
theorem dX8_listGifts_176 : decode cX8_listGifts 176 = .ok (.iaload, 1) := by decide +kernel
theorem dX8_listGifts_177 : decode cX8_listGifts 177 = .ok (.invokevirtual 183, 3) := by decide +kernel
theorem dX8_listGifts_180 : decode cX8_listGifts 180 = .ok (.iinc 4 1, 3) := by decide +kernel
theorem dX8_listGifts_183 : decode cX8_listGifts 183 = .ok (.goto (-157), 3) := by decide +kernel
theorem dX8_listGifts_186 : decode cX8_listGifts 186 = .ok (.aload_n 0, 1) := by decide +kernel
theorem dX8_listGifts_187 : decode cX8_listGifts 187 = .ok (.getfield 21, 3) := by decide +kernel
theorem dX8_listGifts_190 : decode cX8_listGifts 190 = .ok (.iload_n 1, 1) := by decide +kernel
theorem dX8_listGifts_191 : decode cX8_listGifts 191 = .ok (.iaload, 1) := by decide +kernel
theorem dX8_listGifts_192 : decode cX8_listGifts 192 = .ok (.iconst 3, 1) := by decide +kernel
theorem dX8_listGifts_193 : decode cX8_listGifts 193 = .ok (.if_icmp .ne 29, 3) := by decide +kernel
theorem dX8_listGifts_196 : decode cX8_listGifts 196 = .ok (.aload_n 0, 1) := by decide +kernel
theorem dX8_listGifts_197 : decode cX8_listGifts 197 = .ok (.iload_n 2, 1) := by decide +kernel
theorem dX8_listGifts_198 : decode cX8_listGifts 198 = .ok (.iload_n 3, 1) := by decide +kernel
theorem dX8_listGifts_199 : decode cX8_listGifts 199 = .ok (.aload_n 0, 1) := by decide +kernel
theorem dX8_listGifts_200 : decode cX8_listGifts 200 = .ok (.getfield 14, 3) := by decide +kernel
theorem dX8_listGifts_203 : decode cX8_listGifts 203 = .ok (.aload_n 0, 1) := by decide +kernel
theorem dX8_listGifts_204 : decode cX8_listGifts 204 = .ok (.getfield 91, 3) := by decide +kernel
theorem dX8_listGifts_207 : decode cX8_listGifts 207 = .ok (.bipush 8, 2) := by decide +kernel
theorem dX8_listGifts_209 : decode cX8_listGifts 209 = .ok (.iload_n 2, 1) := by decide +kernel
theorem dX8_listGifts_210 : decode cX8_listGifts 210 = .ok (.imul, 1) := by decide +kernel
theorem dX8_listGifts_211 : decode cX8_listGifts 211 = .ok (.iaload, 1) := by decide +kernel
theorem dX8_listGifts_212 : decode cX8_listGifts 212 = .ok (.iaload, 1) := by decide +kernel
theorem dX8_listGifts_213 : decode cX8_listGifts 213 = .ok (.aload_n 0, 1) := by decide +kernel
theorem dX8_listGifts_214 : decode cX8_listGifts 214 = .ok (.getfield 24, 3) := by decide +kernel
theorem dX8_listGifts_217 : decode cX8_listGifts 217 = .ok (.iload_n 1, 1) := by decide +kernel
theorem dX8_listGifts_218 : decode cX8_listGifts 218 = .ok (.iaload, 1) := by decide +kernel
theorem dX8_listGifts_219 : decode cX8_listGifts 219 = .ok (.invokevirtual 183, 3) := by decide +kernel
theorem dX8_listGifts_222 : decode cX8_listGifts 222 = .ok (.return_, 1) := by decide +kernel
theorem dX8_finish_0 : decode cX8_finish 0 = .ok (.aload_n 0, 1) := by decide +kernel
theorem dX8_finish_1 : decode cX8_finish 1 = .ok (.getfield 67, 3) := by decide +kernel
theorem dX8_finish_4 : decode cX8_finish 4 = .ok (.iload_n 1, 1) := by decide +kernel
theorem dX8_finish_5 : decode cX8_finish 5 = .ok (.dup2, 1) := by decide +kernel
theorem dX8_finish_6 : decode cX8_finish 6 = .ok (.iaload, 1) := by decide +kernel
theorem dX8_finish_7 : decode cX8_finish 7 = .ok (.iconst 1, 1) := by decide +kernel
theorem dX8_finish_8 : decode cX8_finish 8 = .ok (.iadd, 1) := by decide +kernel
theorem dX8_finish_9 : decode cX8_finish 9 = .ok (.iastore, 1) := by decide +kernel
theorem dX8_finish_10 : decode cX8_finish 10 = .ok (.aload_n 0, 1) := by decide +kernel
theorem dX8_finish_11 : decode cX8_finish 11 = .ok (.getfield 70, 3) := by decide +kernel
theorem dX8_finish_14 : decode cX8_finish 14 = .ok (.iload_n 1, 1) := by decide +kernel
theorem dX8_finish_15 : decode cX8_finish 15 = .ok (.dup2, 1) := by decide +kernel
theorem dX8_finish_16 : decode cX8_finish 16 = .ok (.iaload, 1) := by decide +kernel
theorem dX8_finish_17 : decode cX8_finish 17 = .ok (.aload_n 0, 1) := by decide +kernel
theorem dX8_finish_18 : decode cX8_finish 18 = .ok (.getfield 88, 3) := by decide +kernel
theorem dX8_finish_21 : decode cX8_finish 21 = .ok (.iload_n 2, 1) := by decide +kernel
theorem dX8_finish_22 : decode cX8_finish 22 = .ok (.iaload, 1) := by decide +kernel
theorem dX8_finish_23 : decode cX8_finish 23 = .ok (.iadd, 1) := by decide +kernel
theorem dX8_finish_24 : decode cX8_finish 24 = .ok (.iastore, 1) := by decide +kernel
theorem dX8_finish_25 : decode cX8_finish 25 = .ok (.iconst 0, 1) := by decide +kernel
theorem dX8_finish_26 : decode cX8_finish 26 = .ok (.istore_n 3, 1) := by decide +kernel
theorem dX8_finish_27 : decode cX8_finish 27 = .ok (.iload_n 3, 1) := by decide +kernel
theorem dX8_finish_28 : decode cX8_finish 28 = .ok (.aload_n 0, 1) := by decide +kernel
theorem dX8_finish_29 : decode cX8_finish 29 = .ok (.getfield 88, 3) := by decide +kernel
theorem dX8_finish_32 : decode cX8_finish 32 = .ok (.iload_n 2, 1) := by decide +kernel
theorem dX8_finish_33 : decode cX8_finish 33 = .ok (.iaload, 1) := by decide +kernel
theorem dX8_finish_34 : decode cX8_finish 34 = .ok (.if_icmp .ge 154, 3) := by decide +kernel
theorem dX8_finish_37 : decode cX8_finish 37 = .ok (.aload_n 0, 1) := by decide +kernel
theorem dX8_finish_38 : decode cX8_finish 38 = .ok (.getfield 21, 3) := by decide +kernel
theorem dX8_finish_41 : decode cX8_finish 41 = .ok (.iload_n 1, 1) := by decide +kernel
theorem dX8_finish_42 : decode cX8_finish 42 = .ok (.iaload, 1) := by decide +kernel
theorem dX8_finish_43 : decode cX8_finish 43 = .ok (.iconst 4, 1) := by decide +kernel
theorem dX8_finish_44 : decode cX8_finish 44 = .ok (.if_icmp .ne 144, 3) := by decide +kernel
theorem dX8_finish_47 : decode cX8_finish 47 = .ok (.aload_n 0, 1) := by decide +kernel
theorem dX8_finish_48 : decode cX8_finish 48 = .ok (.getfield 91, 3) := by decide +kernel
theorem dX8_finish_51 : decode cX8_finish 51 = .ok (.bipush 8, 2) := by decide +kernel
theorem dX8_finish_53 : decode cX8_finish 53 = .ok (.iload_n 2, 1) := by decide +kernel
theorem dX8_finish_54 : decode cX8_finish 54 = .ok (.imul, 1) := by decide +kernel
theorem dX8_finish_55 : decode cX8_finish 55 = .ok (.iload_n 3, 1) := by decide +kernel
theorem dX8_finish_56 : decode cX8_finish 56 = .ok (.iadd, 1) := by decide +kernel
theorem dX8_finish_57 : decode cX8_finish 57 = .ok (.iaload, 1) := by decide +kernel
theorem dX8_finish_58 : decode cX8_finish 58 = .ok (.istore 4, 2) := by decide +kernel
theorem dX8_finish_60 : decode cX8_finish 60 = .ok (.aload_n 0, 1) := by decide +kernel
theorem dX8_finish_61 : decode cX8_finish 61 = .ok (.getfield 18, 3) := by decide +kernel
theorem dX8_finish_64 : decode cX8_finish 64 = .ok (.aload_n 0, 1) := by decide +kernel
theorem dX8_finish_65 : decode cX8_finish 65 = .ok (.getfield 187, 3) := by decide +kernel
theorem dX8_finish_68 : decode cX8_finish 68 = .ok (.iload 4, 2) := by decide +kernel
theorem dX8_finish_70 : decode cX8_finish 70 = .ok (.iastore, 1) := by decide +kernel
theorem dX8_finish_71 : decode cX8_finish 71 = .ok (.aload_n 0, 1) := by decide +kernel
theorem dX8_finish_72 : decode cX8_finish 72 = .ok (.dup, 1) := by decide +kernel
theorem dX8_finish_73 : decode cX8_finish 73 = .ok (.getfield 187, 3) := by decide +kernel
theorem dX8_finish_76 : decode cX8_finish 76 = .ok (.iconst 1, 1) := by decide +kernel
theorem dX8_finish_77 : decode cX8_finish 77 = .ok (.iadd, 1) := by decide +kernel
theorem dX8_finish_78 : decode cX8_finish 78 = .ok (.putfield 187, 3) := by decide +kernel
theorem dX8_finish_81 : decode cX8_finish 81 = .ok (.aload_n 0, 1) := by decide +kernel
theorem dX8_finish_82 : decode cX8_finish 82 = .ok (.getfield 79, 3) := by decide +kernel
theorem dX8_finish_85 : decode cX8_finish 85 = .ok (.iload_n 1, 1) := by decide +kernel
theorem dX8_finish_86 : decode cX8_finish 86 = .ok (.iaload, 1) := by decide +kernel
theorem dX8_finish_87 : decode cX8_finish 87 = .ok (.bipush 20, 2) := by decide +kernel
theorem dX8_finish_89 : decode cX8_finish 89 = .ok (.if_icmp .ne 55, 3) := by decide +kernel
theorem dX8_finish_92 : decode cX8_finish 92 = .ok (.iconst 1, 1) := by decide +kernel
theorem dX8_finish_93 : decode cX8_finish 93 = .ok (.istore 5, 2) := by decide +kernel
theorem dX8_finish_95 : decode cX8_finish 95 = .ok (.iload 5, 2) := by decide +kernel
theorem dX8_finish_97 : decode cX8_finish 97 = .ok (.bipush 20, 2) := by decide +kernel
theorem dX8_finish_99 : decode cX8_finish 99 = .ok (.if_icmp .ge 35, 3) := by decide +kernel
theorem dX8_finish_102 : decode cX8_finish 102 = .ok (.aload_n 0, 1) := by decide +kernel
theorem dX8_finish_103 : decode cX8_finish 103 = .ok (.getfield 82, 3) := by decide +kernel
theorem dX8_finish_106 : decode cX8_finish 106 = .ok (.bipush 20, 2) := by decide +kernel
theorem dX8_finish_108 : decode cX8_finish 108 = .ok (.iload_n 1, 1) := by decide +kernel
theorem dX8_finish_109 : decode cX8_finish 109 = .ok (.imul, 1) := by decide +kernel
theorem dX8_finish_110 : decode cX8_finish 110 = .ok (.iload 5, 2) := by decide +kernel
theorem dX8_finish_112 : decode cX8_finish 112 = .ok (.iadd, 1) := by decide +kernel
theorem dX8_finish_113 : decode cX8_finish 113 = .ok (.iconst 1, 1) := by decide +kernel
theorem dX8_finish_114 : decode cX8_finish 114 = .ok (.isub, 1) := by decide +kernel
theorem dX8_finish_115 : decode cX8_finish 115 = .ok (.aload_n 0, 1) := by decide +kernel
theorem dX8_finish_116 : decode cX8_finish 116 = .ok (.getfield 82, 3) := by decide +kernel
theorem dX8_finish_119 : decode cX8_finish 119 = .ok (.bipush 20, 2) := by decide +kernel
theorem dX8_finish_121 : decode cX8_finish 121 = .ok (.iload_n 1, 1) := by decide +kernel
theorem dX8_finish_122 : decode cX8_finish 122 = .ok (.imul, 1) := by decide +kernel
theorem dX8_finish_123 : decode cX8_finish 123 = .ok (.iload 5, 2) := by decide +kernel
theorem dX8_finish_125 : decode cX8_finish 125 = .ok (.iadd, 1) := by decide +kernel
theorem dX8_finish_126 : decode cX8_finish 126 = .ok (.iaload, 1) := by decide +kernel
theorem dX8_finish_127 : decode cX8_finish 127 = .ok (.iastore, 1) := by decide +kernel
theorem dX8_finish_128 : decode cX8_finish 128 = .ok (.iinc 5 1, 3) := by decide +kernel
theorem dX8_finish_131 : decode cX8_finish 131 = .ok (.goto (-36), 3) := by decide +kernel
theorem dX8_finish_134 : decode cX8_finish 134 = .ok (.aload_n 0, 1) := by decide +kernel
theorem dX8_finish_135 : decode cX8_finish 135 = .ok (.getfield 79, 3) := by decide +kernel
theorem dX8_finish_138 : decode cX8_finish 138 = .ok (.iload_n 1, 1) := by decide +kernel
theorem dX8_finish_139 : decode cX8_finish 139 = .ok (.dup2, 1) := by decide +kernel
theorem dX8_finish_140 : decode cX8_finish 140 = .ok (.iaload, 1) := by decide +kernel
theorem dX8_finish_141 : decode cX8_finish 141 = .ok (.iconst 1, 1) := by decide +kernel
theorem dX8_finish_142 : decode cX8_finish 142 = .ok (.isub, 1) := by decide +kernel
theorem dX8_finish_143 : decode cX8_finish 143 = .ok (.iastore, 1) := by decide +kernel
theorem dX8_finish_144 : decode cX8_finish 144 = .ok (.aload_n 0, 1) := by decide +kernel
theorem dX8_finish_145 : decode cX8_finish 145 = .ok (.getfield 82, 3) := by decide +kernel
theorem dX8_finish_148 : decode cX8_finish 148 = .ok (.bipush 20, 2) := by decide +kernel
theorem dX8_finish_150 : decode cX8_finish 150 = .ok (.iload_n 1, 1) := by decide +kernel
theorem dX8_finish_151 : decode cX8_finish 151 = .ok (.imul, 1) := by decide +kernel
theorem dX8_finish_152 : decode cX8_finish 152 = .ok (.aload_n 0, 1) := by decide +kernel
theorem dX8_finish_153 : decode cX8_finish 153 = .ok (.getfield 79, 3) := by decide +kernel
theorem dX8_finish_156 : decode cX8_finish 156 = .ok (.iload_n 1, 1) := by decide +kernel
theorem dX8_finish_157 : decode cX8_finish 157 = .ok (.iaload, 1) := by decide +kernel
theorem dX8_finish_158 : decode cX8_finish 158 = .ok (.iadd, 1) := by decide +kernel
theorem dX8_finish_159 : decode cX8_finish 159 = .ok (.aload_n 0, 1) := by decide +kernel
theorem dX8_finish_160 : decode cX8_finish 160 = .ok (.getfield 163, 3) := by decide +kernel
theorem dX8_finish_163 : decode cX8_finish 163 = .ok (.aload_n 0, 1) := by decide +kernel
theorem dX8_finish_164 : decode cX8_finish 164 = .ok (.getfield 14, 3) := by decide +kernel
theorem dX8_finish_167 : decode cX8_finish 167 = .ok (.iload 4, 2) := by decide +kernel
theorem dX8_finish_169 : decode cX8_finish 169 = .ok (.iaload, 1) := by decide +kernel
theorem dX8_finish_170 : decode cX8_finish 170 = .ok (.isub, 1) := by decide +kernel
theorem dX8_finish_171 : decode cX8_finish 171 = .ok (.iastore, 1) := by decide +kernel
theorem dX8_finish_172 : decode cX8_finish 172 = .ok (.aload_n 0, 1) := by decide +kernel
theorem dX8_finish_173 : decode cX8_finish 173 = .ok (.getfield 79, 3) := by decide +kernel
theorem dX8_finish_176 : decode cX8_finish 176 = .ok (.iload_n 1, 1) := by decide +kernel
theorem dX8_finish_177 : decode cX8_finish 177 = .ok (.dup2, 1) := by decide +kernel
theorem dX8_finish_178 : decode cX8_finish 178 = .ok (.iaload, 1) := by decide +kernel
theorem dX8_finish_179 : decode cX8_finish 179 = .ok (.iconst 1, 1) := by decide +kernel
theorem dX8_finish_180 : decode cX8_finish 180 = .ok (.iadd, 1) := by decide +kernel
theorem dX8_finish_181 : decode cX8_finish 181 = .ok (.iastore, 1) := by decide +kernel
theorem dX8_finish_182 : decode cX8_finish 182 = .ok (.iinc 3 1, 3) := by decide +kernel
theorem dX8_finish_185 : decode cX8_finish 185 = .ok (.goto (-158), 3) := by decide +kernel
theorem dX8_finish_188 : decode cX8_finish 188 = .ok (.aload_n 0, 1) := by decide +kernel
theorem dX8_finish_189 : decode cX8_finish 189 = .ok (.getfield 88, 3) := by decide +kernel
theorem dX8_finish_192 : decode cX8_finish 192 = .ok (.iload_n 2, 1) := by decide +kernel
theorem dX8_finish_193 : decode cX8_finish 193 = .ok (.iconst 0, 1) := by decide +kernel
theorem dX8_finish_194 : decode cX8_finish 194 = .ok (.iastore, 1) := by decide +kernel
theorem dX8_finish_195 : decode cX8_finish 195 = .ok (.aload_n 0, 1) := by decide +kernel
theorem dX8_finish_196 : decode cX8_finish 196 = .ok (.getfield 97, 3) := by decide +kernel
theorem dX8_finish_199 : decode cX8_finish 199 = .ok (.iload_n 2, 1) := by decide +kernel
theorem dX8_finish_200 : decode cX8_finish 200 = .ok (.iconst 0, 1) := by decide +kernel
theorem dX8_finish_201 : decode cX8_finish 201 = .ok (.bastore, 1) := by decide +kernel
theorem dX8_finish_202 : decode cX8_finish 202 = .ok (.return_, 1) := by decide +kernel
set_option maxRecDepth 20000 in
theorem ggX8_work_X8_give : GoodIn wsX8_work wsX8_give := goodIn_r _ [14, 15, 16, 17, 18, 19, 20, 21, 22, 23, 24, 13, 25, 1, 5, 26, 27, 28, 29, 30, 31, 32, 33, 34, 35, 36, 37, 38, 39, 40, 41, 42, 43, 44, 45, 46, 47, 48, 49, 50, 3, 51, 52, 53, 54, 55, 56, 6, 57, 58, 59, 60, 61, 62, 63, 64, 65, 66, 67, 68, 69, 70, 71, 72, 73, 74, 75, 76, 77, 78, 79, 80, 81, 82, 83, 84, 85, 86, 87, 88, 89, 90, 91, 92, 93, 94, 95, 96, 97, 98, 99, 100, 101, 102, 103, 104, 105, 106, 107, 108, 109, 110, 111, 112, 113, 114, 115] (by decide +kernel) (by decide +kernel)
set_option maxRecDepth 20000 in
theorem gX8_work_X8_give : GoodIn wsX8_work (wsV RX8 190 RX8 yX8_give wsX8_give) := goodIn_app (goodIn_of _ (by decide +kernel)) ggX8_work_X8_give
theorem dX8_work_0 : decode cX8_work 0 = .ok (.aload_n 0, 1) := by decide +kernel
theorem dX8_work_1 : decode cX8_work 1 = .ok (.getfield 88, 3) := by decide +kernel
theorem dX8_work_4 : decode cX8_work 4 = .ok (.iload_n 2, 1) := by decide +kernel
theorem dX8_work_5 : decode cX8_work 5 = .ok (.iaload, 1) := by decide +kernel
theorem dX8_work_6 : decode cX8_work 6 = .ok (.ifCond .le 41, 3) := by decide +kernel
theorem dX8_work_9 : decode cX8_work 9 = .ok (.aload_n 0, 1) := by decide +kernel
theorem dX8_work_10 : decode cX8_work 10 = .ok (.getfield 94, 3) := by decide +kernel
theorem dX8_work_13 : decode cX8_work 13 = .ok (.iload_n 2, 1) := by decide +kernel
theorem dX8_work_14 : decode cX8_work 14 = .ok (.dup2, 1) := by decide +kernel
theorem dX8_work_15 : decode cX8_work 15 = .ok (.iaload, 1) := by decide +kernel
theorem dX8_work_16 : decode cX8_work 16 = .ok (.aload_n 0, 1) := by decide +kernel
theorem dX8_work_17 : decode cX8_work 17 = .ok (.getfield 94, 3) := by decide +kernel
theorem dX8_work_20 : decode cX8_work 20 = .ok (.iload_n 2, 1) := by decide +kernel
theorem dX8_work_21 : decode cX8_work 21 = .ok (.iaload, 1) := by decide +kernel
theorem dX8_work_22 : decode cX8_work 22 = .ok (.ifCond .le 7, 3) := by decide +kernel
theorem dX8_work_25 : decode cX8_work 25 = .ok (.iconst 1, 1) := by decide +kernel
theorem dX8_work_26 : decode cX8_work 26 = .ok (.goto 4, 3) := by decide +kernel
theorem dX8_work_29 : decode cX8_work 29 = .ok (.iconst 0, 1) := by decide +kernel
theorem dX8_work_30 : decode cX8_work 30 = .ok (.isub, 1) := by decide +kernel
theorem dX8_work_31 : decode cX8_work 31 = .ok (.iastore, 1) := by decide +kernel
theorem dX8_work_32 : decode cX8_work 32 = .ok (.aload_n 0, 1) := by decide +kernel
theorem dX8_work_33 : decode cX8_work 33 = .ok (.getfield 94, 3) := by decide +kernel
theorem dX8_work_36 : decode cX8_work 36 = .ok (.iload_n 2, 1) := by decide +kernel
theorem dX8_work_37 : decode cX8_work 37 = .ok (.iaload, 1) := by decide +kernel
theorem dX8_work_38 : decode cX8_work 38 = .ok (.ifCond .ne 9, 3) := by decide +kernel
theorem dX8_work_41 : decode cX8_work 41 = .ok (.aload_n 0, 1) := by decide +kernel
theorem dX8_work_42 : decode cX8_work 42 = .ok (.iload_n 1, 1) := by decide +kernel
theorem dX8_work_43 : decode cX8_work 43 = .ok (.iload_n 2, 1) := by decide +kernel
theorem dX8_work_44 : decode cX8_work 44 = .ok (.invokevirtual 190, 3) := by decide +kernel
theorem dX8_work_47 : decode cX8_work 47 = .ok (.aload_n 0, 1) := by decide +kernel
theorem dX8_work_48 : decode cX8_work 48 = .ok (.getfield 88, 3) := by decide +kernel
theorem dX8_work_51 : decode cX8_work 51 = .ok (.iload_n 2, 1) := by decide +kernel
theorem dX8_work_52 : decode cX8_work 52 = .ok (.iaload, 1) := by decide +kernel
theorem dX8_work_53 : decode cX8_work 53 = .ok (.ifCond .ne 150, 3) := by decide +kernel
theorem dX8_work_56 : decode cX8_work 56 = .ok (.aload_n 0, 1) := by decide +kernel
theorem dX8_work_57 : decode cX8_work 57 = .ok (.getfield 73, 3) := by decide +kernel
theorem dX8_work_60 : decode cX8_work 60 = .ok (.iload_n 1, 1) := by decide +kernel
theorem dX8_work_61 : decode cX8_work 61 = .ok (.iaload, 1) := by decide +kernel
theorem dX8_work_62 : decode cX8_work 62 = .ok (.aload_n 0, 1) := by decide +kernel
theorem dX8_work_63 : decode cX8_work 63 = .ok (.getfield 54, 3) := by decide +kernel
theorem dX8_work_66 : decode cX8_work 66 = .ok (.iload_n 1, 1) := by decide +kernel
theorem dX8_work_67 : decode cX8_work 67 = .ok (.iaload, 1) := by decide +kernel
theorem dX8_work_68 : decode cX8_work 68 = .ok (.if_icmp .ge 12, 3) := by decide +kernel
theorem dX8_work_71 : decode cX8_work 71 = .ok (.aload_n 0, 1) := by decide +kernel
theorem dX8_work_72 : decode cX8_work 72 = .ok (.getfield 73, 3) := by decide +kernel
theorem dX8_work_75 : decode cX8_work 75 = .ok (.iload_n 1, 1) := by decide +kernel
theorem dX8_work_76 : decode cX8_work 76 = .ok (.iaload, 1) := by decide +kernel
theorem dX8_work_77 : decode cX8_work 77 = .ok (.goto 9, 3) := by decide +kernel
theorem dX8_work_80 : decode cX8_work 80 = .ok (.aload_n 0, 1) := by decide +kernel
theorem dX8_work_81 : decode cX8_work 81 = .ok (.getfield 54, 3) := by decide +kernel
theorem dX8_work_84 : decode cX8_work 84 = .ok (.iload_n 1, 1) := by decide +kernel
theorem dX8_work_85 : decode cX8_work 85 = .ok (.iaload, 1) := by decide +kernel
theorem dX8_work_86 : decode cX8_work 86 = .ok (.istore_n 3, 1) := by decide +kernel
theorem dX8_work_87 : decode cX8_work 87 = .ok (.iconst 0, 1) := by decide +kernel
theorem dX8_work_88 : decode cX8_work 88 = .ok (.istore 4, 2) := by decide +kernel
theorem dX8_work_90 : decode cX8_work 90 = .ok (.iload 4, 2) := by decide +kernel
theorem dX8_work_92 : decode cX8_work 92 = .ok (.iload_n 3, 1) := by decide +kernel
theorem dX8_work_93 : decode cX8_work 93 = .ok (.if_icmp .ge 33, 3) := by decide +kernel
theorem dX8_work_96 : decode cX8_work 96 = .ok (.aload_n 0, 1) := by decide +kernel
theorem dX8_work_97 : decode cX8_work 97 = .ok (.getfield 91, 3) := by decide +kernel
theorem dX8_work_100 : decode cX8_work 100 = .ok (.bipush 8, 2) := by decide +kernel
theorem dX8_work_102 : decode cX8_work 102 = .ok (.iload_n 2, 1) := by decide +kernel
theorem dX8_work_103 : decode cX8_work 103 = .ok (.imul, 1) := by decide +kernel
theorem dX8_work_104 : decode cX8_work 104 = .ok (.iload 4, 2) := by decide +kernel
theorem dX8_work_106 : decode cX8_work 106 = .ok (.iadd, 1) := by decide +kernel
theorem dX8_work_107 : decode cX8_work 107 = .ok (.aload_n 0, 1) := by decide +kernel
theorem dX8_work_108 : decode cX8_work 108 = .ok (.getfield 76, 3) := by decide +kernel
theorem dX8_work_111 : decode cX8_work 111 = .ok (.bipush 32, 2) := by decide +kernel
theorem dX8_work_113 : decode cX8_work 113 = .ok (.iload_n 1, 1) := by decide +kernel
theorem dX8_work_114 : decode cX8_work 114 = .ok (.imul, 1) := by decide +kernel
theorem dX8_work_115 : decode cX8_work 115 = .ok (.iload 4, 2) := by decide +kernel
theorem dX8_work_117 : decode cX8_work 117 = .ok (.iadd, 1) := by decide +kernel
theorem dX8_work_118 : decode cX8_work 118 = .ok (.iaload, 1) := by decide +kernel
theorem dX8_work_119 : decode cX8_work 119 = .ok (.iastore, 1) := by decide +kernel
theorem dX8_work_120 : decode cX8_work 120 = .ok (.iinc 4 1, 3) := by decide +kernel
theorem dX8_work_123 : decode cX8_work 123 = .ok (.goto (-33), 3) := by decide +kernel
theorem dX8_work_126 : decode cX8_work 126 = .ok (.aload_n 0, 1) := by decide +kernel
theorem dX8_work_127 : decode cX8_work 127 = .ok (.getfield 73, 3) := by decide +kernel
theorem dX8_work_130 : decode cX8_work 130 = .ok (.iload_n 1, 1) := by decide +kernel
theorem dX8_work_131 : decode cX8_work 131 = .ok (.dup2, 1) := by decide +kernel
theorem dX8_work_132 : decode cX8_work 132 = .ok (.iaload, 1) := by decide +kernel
theorem dX8_work_133 : decode cX8_work 133 = .ok (.iload_n 3, 1) := by decide +kernel
theorem dX8_work_134 : decode cX8_work 134 = .ok (.isub, 1) := by decide +kernel
theorem dX8_work_135 : decode cX8_work 135 = .ok (.iastore, 1) := by decide +kernel
theorem dX8_work_136 : decode cX8_work 136 = .ok (.iconst 0, 1) := by decide +kernel
theorem dX8_work_137 : decode cX8_work 137 = .ok (.istore 4, 2) := by decide +kernel
theorem dX8_work_139 : decode cX8_work 139 = .ok (.iload 4, 2) := by decide +kernel
theorem dX8_work_141 : decode cX8_work 141 = .ok (.aload_n 0, 1) := by decide +kernel
theorem dX8_work_142 : decode cX8_work 142 = .ok (.getfield 73, 3) := by decide +kernel
theorem dX8_work_145 : decode cX8_work 145 = .ok (.iload_n 1, 1) := by decide +kernel
theorem dX8_work_146 : decode cX8_work 146 = .ok (.iaload, 1) := by decide +kernel
theorem dX8_work_147 : decode cX8_work 147 = .ok (.if_icmp .ge 35, 3) := by decide +kernel
theorem dX8_work_150 : decode cX8_work 150 = .ok (.aload_n 0, 1) := by decide +kernel
theorem dX8_work_151 : decode cX8_work 151 = .ok (.getfield 76, 3) := by decide +kernel
theorem dX8_work_154 : decode cX8_work 154 = .ok (.bipush 32, 2) := by decide +kernel
theorem dX8_work_156 : decode cX8_work 156 = .ok (.iload_n 1, 1) := by decide +kernel
theorem dX8_work_157 : decode cX8_work 157 = .ok (.imul, 1) := by decide +kernel
theorem dX8_work_158 : decode cX8_work 158 = .ok (.iload 4, 2) := by decide +kernel
theorem dX8_work_160 : decode cX8_work 160 = .ok (.iadd, 1) := by decide +kernel
theorem dX8_work_161 : decode cX8_work 161 = .ok (.aload_n 0, 1) := by decide +kernel
theorem dX8_work_162 : decode cX8_work 162 = .ok (.getfield 76, 3) := by decide +kernel
theorem dX8_work_165 : decode cX8_work 165 = .ok (.bipush 32, 2) := by decide +kernel
theorem dX8_work_167 : decode cX8_work 167 = .ok (.iload_n 1, 1) := by decide +kernel
theorem dX8_work_168 : decode cX8_work 168 = .ok (.imul, 1) := by decide +kernel
theorem dX8_work_169 : decode cX8_work 169 = .ok (.iload 4, 2) := by decide +kernel
theorem dX8_work_171 : decode cX8_work 171 = .ok (.iadd, 1) := by decide +kernel
theorem dX8_work_172 : decode cX8_work 172 = .ok (.iload_n 3, 1) := by decide +kernel
theorem dX8_work_173 : decode cX8_work 173 = .ok (.iadd, 1) := by decide +kernel
theorem dX8_work_174 : decode cX8_work 174 = .ok (.iaload, 1) := by decide +kernel
theorem dX8_work_175 : decode cX8_work 175 = .ok (.iastore, 1) := by decide +kernel
theorem dX8_work_176 : decode cX8_work 176 = .ok (.iinc 4 1, 3) := by decide +kernel
theorem dX8_work_179 : decode cX8_work 179 = .ok (.goto (-40), 3) := by decide +kernel
theorem dX8_work_182 : decode cX8_work 182 = .ok (.aload_n 0, 1) := by decide +kernel
theorem dX8_work_183 : decode cX8_work 183 = .ok (.getfield 88, 3) := by decide +kernel
theorem dX8_work_186 : decode cX8_work 186 = .ok (.iload_n 2, 1) := by decide +kernel
theorem dX8_work_187 : decode cX8_work 187 = .ok (.iload_n 3, 1) := by decide +kernel
theorem dX8_work_188 : decode cX8_work 188 = .ok (.iastore, 1) := by decide +kernel
theorem dX8_work_189 : decode cX8_work 189 = .ok (.aload_n 0, 1) := by decide +kernel
theorem dX8_work_190 : decode cX8_work 190 = .ok (.getfield 94, 3) := by decide +kernel
theorem dX8_work_193 : decode cX8_work 193 = .ok (.iload_n 2, 1) := by decide +kernel
theorem dX8_work_194 : decode cX8_work 194 = .ok (.aload_n 0, 1) := by decide +kernel
theorem dX8_work_195 : decode cX8_work 195 = .ok (.getfield 57, 3) := by decide +kernel
theorem dX8_work_198 : decode cX8_work 198 = .ok (.iload_n 1, 1) := by decide +kernel
theorem dX8_work_199 : decode cX8_work 199 = .ok (.iaload, 1) := by decide +kernel
theorem dX8_work_200 : decode cX8_work 200 = .ok (.iload_n 3, 1) := by decide +kernel
theorem dX8_work_201 : decode cX8_work 201 = .ok (.imul, 1) := by decide +kernel
theorem dX8_work_202 : decode cX8_work 202 = .ok (.iastore, 1) := by decide +kernel
theorem dX8_work_203 : decode cX8_work 203 = .ok (.aload_n 0, 1) := by decide +kernel
theorem dX8_work_204 : decode cX8_work 204 = .ok (.getfield 118, 3) := by decide +kernel
theorem dX8_work_207 : decode cX8_work 207 = .ok (.iload_n 2, 1) := by decide +kernel
theorem dX8_work_208 : decode cX8_work 208 = .ok (.aload_n 0, 1) := by decide +kernel
theorem dX8_work_209 : decode cX8_work 209 = .ok (.getfield 88, 3) := by decide +kernel
theorem dX8_work_212 : decode cX8_work 212 = .ok (.iload_n 2, 1) := by decide +kernel
theorem dX8_work_213 : decode cX8_work 213 = .ok (.iaload, 1) := by decide +kernel
theorem dX8_work_214 : decode cX8_work 214 = .ok (.ifCond .ne 14, 3) := by decide +kernel
theorem dX8_work_217 : decode cX8_work 217 = .ok (.aload_n 0, 1) := by decide +kernel
theorem dX8_work_218 : decode cX8_work 218 = .ok (.getfield 118, 3) := by decide +kernel
theorem dX8_work_221 : decode cX8_work 221 = .ok (.iload_n 2, 1) := by decide +kernel
theorem dX8_work_222 : decode cX8_work 222 = .ok (.iaload, 1) := by decide +kernel
theorem dX8_work_223 : decode cX8_work 223 = .ok (.iconst 1, 1) := by decide +kernel
theorem dX8_work_224 : decode cX8_work 224 = .ok (.iadd, 1) := by decide +kernel
theorem dX8_work_225 : decode cX8_work 225 = .ok (.goto 4, 3) := by decide +kernel
theorem dX8_work_228 : decode cX8_work 228 = .ok (.iconst 0, 1) := by decide +kernel
theorem dX8_work_229 : decode cX8_work 229 = .ok (.iastore, 1) := by decide +kernel
theorem dX8_work_230 : decode cX8_work 230 = .ok (.aload_n 0, 1) := by decide +kernel
theorem dX8_work_231 : decode cX8_work 231 = .ok (.getfield 121, 3) := by decide +kernel
theorem dX8_work_234 : decode cX8_work 234 = .ok (.iload_n 2, 1) := by decide +kernel
theorem dX8_work_235 : decode cX8_work 235 = .ok (.dup2, 1) := by decide +kernel
theorem dX8_work_236 : decode cX8_work 236 = .ok (.iaload, 1) := by decide +kernel
theorem dX8_work_237 : decode cX8_work 237 = .ok (.iconst 1, 1) := by decide +kernel
theorem dX8_work_238 : decode cX8_work 238 = .ok (.iadd, 1) := by decide +kernel
theorem dX8_work_239 : decode cX8_work 239 = .ok (.iastore, 1) := by decide +kernel
theorem dX8_work_240 : decode cX8_work 240 = .ok (.return_, 1) := by decide +kernel
set_option maxRecDepth 20000 in
theorem ggX8_give_X8_listGifts : GoodIn wsX8_give wsX8_listGifts := goodIn_r _ [12, 1, 3, 2, 13, 14, 15, 16, 17, 18, 19, 20, 21, 22, 11, 23, 5, 6, 7, 4, 59, 60, 61, 62, 63, 64, 65, 66, 67, 68, 69, 70, 71, 72, 73, 74, 75, 76, 77, 78, 79, 80, 81, 82, 83, 84, 85, 86, 87, 88, 89, 90, 91, 92, 93, 94, 95, 96, 97, 98, 99, 100, 101, 102, 103, 104, 105, 106] (by decide +kernel) (by decide +kernel)
set_option maxRecDepth 20000 in
theorem gX8_give_X8_listGifts : GoodIn wsX8_give (wsV RX8 193 RX8 yX8_listGifts wsX8_listGifts) := goodIn_app (goodIn_of _ (by decide +kernel)) ggX8_give_X8_listGifts
set_option maxRecDepth 20000 in
theorem ggX8_give_X8_make : GoodIn wsX8_give wsX8_make := goodIn_r _ [27, 15, 28, 17, 59, 60, 61, 62, 63, 64, 65, 66, 67, 68, 69, 70, 71, 72, 73, 74, 75, 76, 77, 78, 79, 80, 81, 82, 83, 84, 85, 86, 87, 88, 89, 90, 91, 92, 93, 94, 95, 96, 97, 98, 99, 100, 101, 102, 103, 104, 105, 106] (by decide +kernel) (by decide +kernel)
set_option maxRecDepth 20000 in
theorem gX8_give_X8_make : GoodIn wsX8_give (wsV RX8 166 RX8 yX8_make wsX8_make) := goodIn_app (goodIn_of _ (by decide +kernel)) ggX8_give_X8_make
set_option maxRecDepth 20000 in
theorem ggX8_give_X8_offer : GoodIn wsX8_give wsX8_offer := goodIn_r _ [32, 33, 34, 35, 36, 37, 11, 38, 39, 40, 41, 42, 43, 44, 45, 46, 47, 59, 60, 61, 62, 63, 64, 65, 66, 67, 68, 69, 70, 71, 72, 73, 74, 75, 76, 77, 78, 79, 80, 81, 82, 83, 84, 85, 86, 87, 88, 89, 90, 91, 92, 93, 94, 95, 96, 97, 98, 99, 100, 101, 102, 103, 104, 105, 106] (by decide +kernel) (by decide +kernel)
set_option maxRecDepth 20000 in
theorem gX8_give_X8_offer : GoodIn wsX8_give (wsV RX8 159 RX8 yX8_offer wsX8_offer) := goodIn_app (goodIn_of _ (by decide +kernel)) ggX8_give_X8_offer
set_option maxRecDepth 20000 in
theorem ggX8_give_X8_finish : GoodIn wsX8_give wsX8_finish := goodIn_r _ [51, 52, 53, 13, 16, 14, 54, 55, 56, 57, 58, 17, 1, 59, 60, 61, 62, 63, 64, 65, 66, 67, 68, 69, 70, 71, 72, 73, 74, 75, 76, 77, 78, 79, 80, 81, 82, 83, 84, 85, 86, 87, 88, 89, 90, 91, 92, 93, 94, 95, 96, 97, 98, 99, 100, 101, 102, 103, 104, 105, 106] (by decide +kernel) (by decide +kernel)
set_option maxRecDepth 20000 in
theorem gX8_give_X8_finish : GoodIn wsX8_give (wsV RX8 196 RX8 yX8_finish wsX8_finish) := goodIn_app (goodIn_of _ (by decide +kernel)) ggX8_give_X8_finish
theorem dX8_give_0 : decode cX8_give 0 = .ok (.aload_n 0, 1) := by decide +kernel
theorem dX8_give_1 : decode cX8_give 1 = .ok (.getfield 97, 3) := by decide +kernel
theorem dX8_give_4 : decode cX8_give 4 = .ok (.iload_n 2, 1) := by decide +kernel
theorem dX8_give_5 : decode cX8_give 5 = .ok (.baload, 1) := by decide +kernel
theorem dX8_give_6 : decode cX8_give 6 = .ok (.ifCond .ne 9, 3) := by decide +kernel
theorem dX8_give_9 : decode cX8_give 9 = .ok (.aload_n 0, 1) := by decide +kernel
theorem dX8_give_10 : decode cX8_give 10 = .ok (.iload_n 1, 1) := by decide +kernel
theorem dX8_give_11 : decode cX8_give 11 = .ok (.iload_n 2, 1) := by decide +kernel
theorem dX8_give_12 : decode cX8_give 12 = .ok (.invokevirtual 193, 3) := by decide +kernel
theorem dX8_give_15 : decode cX8_give 15 = .ok (.iconst 1, 1) := by decide +kernel
theorem dX8_give_16 : decode cX8_give 16 = .ok (.istore_n 3, 1) := by decide +kernel
theorem dX8_give_17 : decode cX8_give 17 = .ok (.iload_n 3, 1) := by decide +kernel
theorem dX8_give_18 : decode cX8_give 18 = .ok (.ifCond .eq 106, 3) := by decide +kernel
theorem dX8_give_21 : decode cX8_give 21 = .ok (.aload_n 0, 1) := by decide +kernel
theorem dX8_give_22 : decode cX8_give 22 = .ok (.getfield 103, 3) := by decide +kernel
theorem dX8_give_25 : decode cX8_give 25 = .ok (.iload_n 2, 1) := by decide +kernel
theorem dX8_give_26 : decode cX8_give 26 = .ok (.iaload, 1) := by decide +kernel
theorem dX8_give_27 : decode cX8_give 27 = .ok (.aload_n 0, 1) := by decide +kernel
theorem dX8_give_28 : decode cX8_give 28 = .ok (.getfield 100, 3) := by decide +kernel
theorem dX8_give_31 : decode cX8_give 31 = .ok (.iload_n 2, 1) := by decide +kernel
theorem dX8_give_32 : decode cX8_give 32 = .ok (.iaload, 1) := by decide +kernel
theorem dX8_give_33 : decode cX8_give 33 = .ok (.if_icmp .ge 91, 3) := by decide +kernel
theorem dX8_give_36 : decode cX8_give 36 = .ok (.bipush 16, 2) := by decide +kernel
theorem dX8_give_38 : decode cX8_give 38 = .ok (.iload_n 2, 1) := by decide +kernel
theorem dX8_give_39 : decode cX8_give 39 = .ok (.imul, 1) := by decide +kernel
theorem dX8_give_40 : decode cX8_give 40 = .ok (.aload_n 0, 1) := by decide +kernel
theorem dX8_give_41 : decode cX8_give 41 = .ok (.getfield 103, 3) := by decide +kernel
theorem dX8_give_44 : decode cX8_give 44 = .ok (.iload_n 2, 1) := by decide +kernel
theorem dX8_give_45 : decode cX8_give 45 = .ok (.iaload, 1) := by decide +kernel
theorem dX8_give_46 : decode cX8_give 46 = .ok (.iadd, 1) := by decide +kernel
theorem dX8_give_47 : decode cX8_give 47 = .ok (.istore 4, 2) := by decide +kernel
theorem dX8_give_49 : decode cX8_give 49 = .ok (.aload_n 0, 1) := by decide +kernel
theorem dX8_give_50 : decode cX8_give 50 = .ok (.getfield 115, 3) := by decide +kernel
theorem dX8_give_53 : decode cX8_give 53 = .ok (.iload 4, 2) := by decide +kernel
theorem dX8_give_55 : decode cX8_give 55 = .ok (.iaload, 1) := by decide +kernel
theorem dX8_give_56 : decode cX8_give 56 = .ok (.ifCond .ge 28, 3) := by decide +kernel
theorem dX8_give_59 : decode cX8_give 59 = .ok (.aload_n 0, 1) := by decide +kernel
theorem dX8_give_60 : decode cX8_give 60 = .ok (.getfield 115, 3) := by decide +kernel
theorem dX8_give_63 : decode cX8_give 63 = .ok (.iload 4, 2) := by decide +kernel
theorem dX8_give_65 : decode cX8_give 65 = .ok (.aload_n 0, 1) := by decide +kernel
theorem dX8_give_66 : decode cX8_give 66 = .ok (.aload_n 0, 1) := by decide +kernel
theorem dX8_give_67 : decode cX8_give 67 = .ok (.getfield 106, 3) := by decide +kernel
theorem dX8_give_70 : decode cX8_give 70 = .ok (.iload 4, 2) := by decide +kernel
theorem dX8_give_72 : decode cX8_give 72 = .ok (.iaload, 1) := by decide +kernel
theorem dX8_give_73 : decode cX8_give 73 = .ok (.aload_n 0, 1) := by decide +kernel
theorem dX8_give_74 : decode cX8_give 74 = .ok (.getfield 109, 3) := by decide +kernel
theorem dX8_give_77 : decode cX8_give 77 = .ok (.iload 4, 2) := by decide +kernel
theorem dX8_give_79 : decode cX8_give 79 = .ok (.iaload, 1) := by decide +kernel
theorem dX8_give_80 : decode cX8_give 80 = .ok (.invokevirtual 166, 3) := by decide +kernel
theorem dX8_give_83 : decode cX8_give 83 = .ok (.iastore, 1) := by decide +kernel
theorem dX8_give_84 : decode cX8_give 84 = .ok (.aload_n 0, 1) := by decide +kernel
theorem dX8_give_85 : decode cX8_give 85 = .ok (.aload_n 0, 1) := by decide +kernel
theorem dX8_give_86 : decode cX8_give 86 = .ok (.getfield 112, 3) := by decide +kernel
theorem dX8_give_89 : decode cX8_give 89 = .ok (.iload 4, 2) := by decide +kernel
theorem dX8_give_91 : decode cX8_give 91 = .ok (.iaload, 1) := by decide +kernel
theorem dX8_give_92 : decode cX8_give 92 = .ok (.aload_n 0, 1) := by decide +kernel
theorem dX8_give_93 : decode cX8_give 93 = .ok (.getfield 115, 3) := by decide +kernel
theorem dX8_give_96 : decode cX8_give 96 = .ok (.iload 4, 2) := by decide +kernel
theorem dX8_give_98 : decode cX8_give 98 = .ok (.iaload, 1) := by decide +kernel
theorem dX8_give_99 : decode cX8_give 99 = .ok (.invokevirtual 159, 3) := by decide +kernel
theorem dX8_give_102 : decode cX8_give 102 = .ok (.istore_n 3, 1) := by decide +kernel
theorem dX8_give_103 : decode cX8_give 103 = .ok (.aload_n 0, 1) := by decide +kernel
theorem dX8_give_104 : decode cX8_give 104 = .ok (.getfield 103, 3) := by decide +kernel
theorem dX8_give_107 : decode cX8_give 107 = .ok (.iload_n 2, 1) := by decide +kernel
theorem dX8_give_108 : decode cX8_give 108 = .ok (.dup2, 1) := by decide +kernel
theorem dX8_give_109 : decode cX8_give 109 = .ok (.iaload, 1) := by decide +kernel
theorem dX8_give_110 : decode cX8_give 110 = .ok (.iload_n 3, 1) := by decide +kernel
theorem dX8_give_111 : decode cX8_give 111 = .ok (.ifCond .eq 7, 3) := by decide +kernel
theorem dX8_give_114 : decode cX8_give 114 = .ok (.iconst 1, 1) := by decide +kernel
theorem dX8_give_115 : decode cX8_give 115 = .ok (.goto 4, 3) := by decide +kernel
theorem dX8_give_118 : decode cX8_give 118 = .ok (.iconst 0, 1) := by decide +kernel
theorem dX8_give_119 : decode cX8_give 119 = .ok (.iadd, 1) := by decide +kernel
theorem dX8_give_120 : decode cX8_give 120 = .ok (.iastore, 1) := by decide +kernel
theorem dX8_give_121 : decode cX8_give 121 = .ok (.goto (-104), 3) := by decide +kernel
theorem dX8_give_124 : decode cX8_give 124 = .ok (.aload_n 0, 1) := by decide +kernel
theorem dX8_give_125 : decode cX8_give 125 = .ok (.getfield 103, 3) := by decide +kernel
theorem dX8_give_128 : decode cX8_give 128 = .ok (.iload_n 2, 1) := by decide +kernel
theorem dX8_give_129 : decode cX8_give 129 = .ok (.iaload, 1) := by decide +kernel
theorem dX8_give_130 : decode cX8_give 130 = .ok (.aload_n 0, 1) := by decide +kernel
theorem dX8_give_131 : decode cX8_give 131 = .ok (.getfield 100, 3) := by decide +kernel
theorem dX8_give_134 : decode cX8_give 134 = .ok (.iload_n 2, 1) := by decide +kernel
theorem dX8_give_135 : decode cX8_give 135 = .ok (.iaload, 1) := by decide +kernel
theorem dX8_give_136 : decode cX8_give 136 = .ok (.if_icmp .ne 9, 3) := by decide +kernel
theorem dX8_give_139 : decode cX8_give 139 = .ok (.aload_n 0, 1) := by decide +kernel
theorem dX8_give_140 : decode cX8_give 140 = .ok (.iload_n 1, 1) := by decide +kernel
theorem dX8_give_141 : decode cX8_give 141 = .ok (.iload_n 2, 1) := by decide +kernel
theorem dX8_give_142 : decode cX8_give 142 = .ok (.invokevirtual 196, 3) := by decide +kernel
theorem dX8_give_145 : decode cX8_give 145 = .ok (.return_, 1) := by decide +kernel
theorem dX8_response_0 : decode cX8_response 0 = .ok (.aload_n 0, 1) := by decide +kernel
theorem dX8_response_1 : decode cX8_response 1 = .ok (.getfield 79, 3) := by decide +kernel
theorem dX8_response_4 : decode cX8_response 4 = .ok (.iload_n 1, 1) := by decide +kernel
theorem dX8_response_5 : decode cX8_response 5 = .ok (.iaload, 1) := by decide +kernel
theorem dX8_response_6 : decode cX8_response 6 = .ok (.istore_n 2, 1) := by decide +kernel
theorem dX8_response_7 : decode cX8_response 7 = .ok (.iload_n 2, 1) := by decide +kernel
theorem dX8_response_8 : decode cX8_response 8 = .ok (.ifCond .ne 5, 3) := by decide +kernel
theorem dX8_response_11 : decode cX8_response 11 = .ok (.iconst 0, 1) := by decide +kernel
theorem dX8_response_12 : decode cX8_response 12 = .ok (.ireturn, 1) := by decide +kernel
theorem dX8_response_13 : decode cX8_response 13 = .ok (.iconst 0, 1) := by decide +kernel
theorem dX8_response_14 : decode cX8_response 14 = .ok (.istore_n 3, 1) := by decide +kernel
theorem dX8_response_15 : decode cX8_response 15 = .ok (.iload_n 3, 1) := by decide +kernel
theorem dX8_response_16 : decode cX8_response 16 = .ok (.iload_n 2, 1) := by decide +kernel
theorem dX8_response_17 : decode cX8_response 17 = .ok (.if_icmp .ge 75, 3) := by decide +kernel
theorem dX8_response_20 : decode cX8_response 20 = .ok (.aload_n 0, 1) := by decide +kernel
theorem dX8_response_21 : decode cX8_response 21 = .ok (.getfield 82, 3) := by decide +kernel
theorem dX8_response_24 : decode cX8_response 24 = .ok (.bipush 20, 2) := by decide +kernel
theorem dX8_response_26 : decode cX8_response 26 = .ok (.iload_n 1, 1) := by decide +kernel
theorem dX8_response_27 : decode cX8_response 27 = .ok (.imul, 1) := by decide +kernel
theorem dX8_response_28 : decode cX8_response 28 = .ok (.iload_n 3, 1) := by decide +kernel
theorem dX8_response_29 : decode cX8_response 29 = .ok (.iadd, 1) := by decide +kernel
theorem dX8_response_30 : decode cX8_response 30 = .ok (.iaload, 1) := by decide +kernel
theorem dX8_response_31 : decode cX8_response 31 = .ok (.istore 4, 2) := by decide +kernel
theorem dX8_response_33 : decode cX8_response 33 = .ok (.iload_n 3, 1) := by decide +kernel
theorem dX8_response_34 : decode cX8_response 34 = .ok (.istore 5, 2) := by decide +kernel
theorem dX8_response_36 : decode cX8_response 36 = .ok (.iload 5, 2) := by decide +kernel
theorem dX8_response_38 : decode cX8_response 38 = .ok (.ifCond .le 39, 3) := by decide +kernel
theorem dX8_response_41 : decode cX8_response 41 = .ok (.aload_n 0, 1) := by decide +kernel
theorem dX8_response_42 : decode cX8_response 42 = .ok (.getfield 85, 3) := by decide +kernel
theorem dX8_response_45 : decode cX8_response 45 = .ok (.iload 5, 2) := by decide +kernel
theorem dX8_response_47 : decode cX8_response 47 = .ok (.iconst 1, 1) := by decide +kernel
theorem dX8_response_48 : decode cX8_response 48 = .ok (.isub, 1) := by decide +kernel
theorem dX8_response_49 : decode cX8_response 49 = .ok (.iaload, 1) := by decide +kernel
theorem dX8_response_50 : decode cX8_response 50 = .ok (.iload 4, 2) := by decide +kernel
theorem dX8_response_52 : decode cX8_response 52 = .ok (.if_icmp .le 25, 3) := by decide +kernel
theorem dX8_response_55 : decode cX8_response 55 = .ok (.aload_n 0, 1) := by decide +kernel
theorem dX8_response_56 : decode cX8_response 56 = .ok (.getfield 85, 3) := by decide +kernel
theorem dX8_response_59 : decode cX8_response 59 = .ok (.iload 5, 2) := by decide +kernel
theorem dX8_response_61 : decode cX8_response 61 = .ok (.aload_n 0, 1) := by decide +kernel
theorem dX8_response_62 : decode cX8_response 62 = .ok (.getfield 85, 3) := by decide +kernel
theorem dX8_response_65 : decode cX8_response 65 = .ok (.iload 5, 2) := by decide +kernel
theorem dX8_response_67 : decode cX8_response 67 = .ok (.iconst 1, 1) := by decide +kernel
theorem dX8_response_68 : decode cX8_response 68 = .ok (.isub, 1) := by decide +kernel
theorem dX8_response_69 : decode cX8_response 69 = .ok (.iaload, 1) := by decide +kernel
theorem dX8_response_70 : decode cX8_response 70 = .ok (.iastore, 1) := by decide +kernel
theorem dX8_response_71 : decode cX8_response 71 = .ok (.iinc 5 (-1), 3) := by decide +kernel
theorem dX8_response_74 : decode cX8_response 74 = .ok (.goto (-38), 3) := by decide +kernel
theorem dX8_response_77 : decode cX8_response 77 = .ok (.aload_n 0, 1) := by decide +kernel
theorem dX8_response_78 : decode cX8_response 78 = .ok (.getfield 85, 3) := by decide +kernel
theorem dX8_response_81 : decode cX8_response 81 = .ok (.iload 5, 2) := by decide +kernel
theorem dX8_response_83 : decode cX8_response 83 = .ok (.iload 4, 2) := by decide +kernel
theorem dX8_response_85 : decode cX8_response 85 = .ok (.iastore, 1) := by decide +kernel
theorem dX8_response_86 : decode cX8_response 86 = .ok (.iinc 3 1, 3) := by decide +kernel
theorem dX8_response_89 : decode cX8_response 89 = .ok (.goto (-74), 3) := by decide +kernel
theorem dX8_response_92 : decode cX8_response 92 = .ok (.aload_n 0, 1) := by decide +kernel
theorem dX8_response_93 : decode cX8_response 93 = .ok (.getfield 85, 3) := by decide +kernel
theorem dX8_response_96 : decode cX8_response 96 = .ok (.bipush 9, 2) := by decide +kernel
theorem dX8_response_98 : decode cX8_response 98 = .ok (.iload_n 2, 1) := by decide +kernel
theorem dX8_response_99 : decode cX8_response 99 = .ok (.imul, 1) := by decide +kernel
theorem dX8_response_100 : decode cX8_response 100 = .ok (.bipush 10, 2) := by decide +kernel
theorem dX8_response_102 : decode cX8_response 102 = .ok (.idiv, 1) := by decide +kernel
theorem dX8_response_103 : decode cX8_response 103 = .ok (.iaload, 1) := by decide +kernel
theorem dX8_response_104 : decode cX8_response 104 = .ok (.ireturn, 1) := by decide +kernel
set_option maxRecDepth 20000 in
theorem ggX8_control_X8_response : GoodIn wsX8_control wsX8_response := goodIn_r _ [19, 13, 20, 21, 22, 23, 24, 25, 26, 27, 28, 29, 30, 31, 32, 33, 34, 35, 36, 37, 38, 39, 40, 41, 42, 43, 44, 45, 46, 47, 48, 49, 50, 51, 52, 53, 54, 55, 56, 57, 58, 59, 60, 61, 62, 63, 64, 65, 66, 67, 68, 69] (by decide +kernel) (by decide +kernel)
set_option maxRecDepth 20000 in
theorem gX8_control_X8_response : GoodIn wsX8_control (wsV RX8 199 RX8 yX8_response wsX8_response) := goodIn_app (goodIn_of _ (by decide +kernel)) ggX8_control_X8_response
theorem dX8_control_0 : decode cX8_control 0 = .ok (.iconst 4, 1) := by decide +kernel
theorem dX8_control_1 : decode cX8_control 1 = .ok (.iload_n 1, 1) := by decide +kernel
theorem dX8_control_2 : decode cX8_control 2 = .ok (.imul, 1) := by decide +kernel
theorem dX8_control_3 : decode cX8_control 3 = .ok (.aload_n 0, 1) := by decide +kernel
theorem dX8_control_4 : decode cX8_control 4 = .ok (.getfield 48, 3) := by decide +kernel
theorem dX8_control_7 : decode cX8_control 7 = .ok (.iload_n 1, 1) := by decide +kernel
theorem dX8_control_8 : decode cX8_control 8 = .ok (.iaload, 1) := by decide +kernel
theorem dX8_control_9 : decode cX8_control 9 = .ok (.iadd, 1) := by decide +kernel
theorem dX8_control_10 : decode cX8_control 10 = .ok (.iconst 1, 1) := by decide +kernel
theorem dX8_control_11 : decode cX8_control 11 = .ok (.isub, 1) := by decide +kernel
theorem dX8_control_12 : decode cX8_control 12 = .ok (.istore_n 2, 1) := by decide +kernel
theorem dX8_control_13 : decode cX8_control 13 = .ok (.aload_n 0, 1) := by decide +kernel
theorem dX8_control_14 : decode cX8_control 14 = .ok (.getfield 73, 3) := by decide +kernel
theorem dX8_control_17 : decode cX8_control 17 = .ok (.iload_n 1, 1) := by decide +kernel
theorem dX8_control_18 : decode cX8_control 18 = .ok (.iaload, 1) := by decide +kernel
theorem dX8_control_19 : decode cX8_control 19 = .ok (.aload_n 0, 1) := by decide +kernel
theorem dX8_control_20 : decode cX8_control 20 = .ok (.getfield 30, 3) := by decide +kernel
theorem dX8_control_23 : decode cX8_control 23 = .ok (.iload_n 1, 1) := by decide +kernel
theorem dX8_control_24 : decode cX8_control 24 = .ok (.iaload, 1) := by decide +kernel
theorem dX8_control_25 : decode cX8_control 25 = .ok (.iconst 2, 1) := by decide +kernel
theorem dX8_control_26 : decode cX8_control 26 = .ok (.idiv, 1) := by decide +kernel
theorem dX8_control_27 : decode cX8_control 27 = .ok (.if_icmp .le 76, 3) := by decide +kernel
theorem dX8_control_30 : decode cX8_control 30 = .ok (.aload_n 0, 1) := by decide +kernel
theorem dX8_control_31 : decode cX8_control 31 = .ok (.getfield 48, 3) := by decide +kernel
theorem dX8_control_34 : decode cX8_control 34 = .ok (.iload_n 1, 1) := by decide +kernel
theorem dX8_control_35 : decode cX8_control 35 = .ok (.iaload, 1) := by decide +kernel
theorem dX8_control_36 : decode cX8_control 36 = .ok (.aload_n 0, 1) := by decide +kernel
theorem dX8_control_37 : decode cX8_control 37 = .ok (.getfield 51, 3) := by decide +kernel
theorem dX8_control_40 : decode cX8_control 40 = .ok (.iload_n 1, 1) := by decide +kernel
theorem dX8_control_41 : decode cX8_control 41 = .ok (.iaload, 1) := by decide +kernel
theorem dX8_control_42 : decode cX8_control 42 = .ok (.if_icmp .ge 61, 3) := by decide +kernel
theorem dX8_control_45 : decode cX8_control 45 = .ok (.aload_n 0, 1) := by decide +kernel
theorem dX8_control_46 : decode cX8_control 46 = .ok (.getfield 118, 3) := by decide +kernel
theorem dX8_control_49 : decode cX8_control 49 = .ok (.iload_n 2, 1) := by decide +kernel
theorem dX8_control_50 : decode cX8_control 50 = .ok (.iconst 1, 1) := by decide +kernel
theorem dX8_control_51 : decode cX8_control 51 = .ok (.iadd, 1) := by decide +kernel
theorem dX8_control_52 : decode cX8_control 52 = .ok (.iconst 0, 1) := by decide +kernel
theorem dX8_control_53 : decode cX8_control 53 = .ok (.iastore, 1) := by decide +kernel
theorem dX8_control_54 : decode cX8_control 54 = .ok (.aload_n 0, 1) := by decide +kernel
theorem dX8_control_55 : decode cX8_control 55 = .ok (.getfield 121, 3) := by decide +kernel
theorem dX8_control_58 : decode cX8_control 58 = .ok (.iload_n 2, 1) := by decide +kernel
theorem dX8_control_59 : decode cX8_control 59 = .ok (.iconst 1, 1) := by decide +kernel
theorem dX8_control_60 : decode cX8_control 60 = .ok (.iadd, 1) := by decide +kernel
theorem dX8_control_61 : decode cX8_control 61 = .ok (.iconst 0, 1) := by decide +kernel
theorem dX8_control_62 : decode cX8_control 62 = .ok (.iastore, 1) := by decide +kernel
theorem dX8_control_63 : decode cX8_control 63 = .ok (.aload_n 0, 1) := by decide +kernel
theorem dX8_control_64 : decode cX8_control 64 = .ok (.getfield 88, 3) := by decide +kernel
theorem dX8_control_67 : decode cX8_control 67 = .ok (.iload_n 2, 1) := by decide +kernel
theorem dX8_control_68 : decode cX8_control 68 = .ok (.iconst 1, 1) := by decide +kernel
theorem dX8_control_69 : decode cX8_control 69 = .ok (.iadd, 1) := by decide +kernel
theorem dX8_control_70 : decode cX8_control 70 = .ok (.iconst 0, 1) := by decide +kernel
theorem dX8_control_71 : decode cX8_control 71 = .ok (.iastore, 1) := by decide +kernel
theorem dX8_control_72 : decode cX8_control 72 = .ok (.aload_n 0, 1) := by decide +kernel
theorem dX8_control_73 : decode cX8_control 73 = .ok (.getfield 94, 3) := by decide +kernel
theorem dX8_control_76 : decode cX8_control 76 = .ok (.iload_n 2, 1) := by decide +kernel
theorem dX8_control_77 : decode cX8_control 77 = .ok (.iconst 1, 1) := by decide +kernel
theorem dX8_control_78 : decode cX8_control 78 = .ok (.iadd, 1) := by decide +kernel
theorem dX8_control_79 : decode cX8_control 79 = .ok (.iconst 0, 1) := by decide +kernel
theorem dX8_control_80 : decode cX8_control 80 = .ok (.iastore, 1) := by decide +kernel
theorem dX8_control_81 : decode cX8_control 81 = .ok (.aload_n 0, 1) := by decide +kernel
theorem dX8_control_82 : decode cX8_control 82 = .ok (.getfield 97, 3) := by decide +kernel
theorem dX8_control_85 : decode cX8_control 85 = .ok (.iload_n 2, 1) := by decide +kernel
theorem dX8_control_86 : decode cX8_control 86 = .ok (.iconst 1, 1) := by decide +kernel
theorem dX8_control_87 : decode cX8_control 87 = .ok (.iadd, 1) := by decide +kernel
theorem dX8_control_88 : decode cX8_control 88 = .ok (.iconst 0, 1) := by decide +kernel
theorem dX8_control_89 : decode cX8_control 89 = .ok (.bastore, 1) := by decide +kernel
theorem dX8_control_90 : decode cX8_control 90 = .ok (.aload_n 0, 1) := by decide +kernel
theorem dX8_control_91 : decode cX8_control 91 = .ok (.getfield 48, 3) := by decide +kernel
theorem dX8_control_94 : decode cX8_control 94 = .ok (.iload_n 1, 1) := by decide +kernel
theorem dX8_control_95 : decode cX8_control 95 = .ok (.dup2, 1) := by decide +kernel
theorem dX8_control_96 : decode cX8_control 96 = .ok (.iaload, 1) := by decide +kernel
theorem dX8_control_97 : decode cX8_control 97 = .ok (.iconst 1, 1) := by decide +kernel
theorem dX8_control_98 : decode cX8_control 98 = .ok (.iadd, 1) := by decide +kernel
theorem dX8_control_99 : decode cX8_control 99 = .ok (.iastore, 1) := by decide +kernel
theorem dX8_control_100 : decode cX8_control 100 = .ok (.goto 58, 3) := by decide +kernel
theorem dX8_control_103 : decode cX8_control 103 = .ok (.aload_n 0, 1) := by decide +kernel
theorem dX8_control_104 : decode cX8_control 104 = .ok (.getfield 48, 3) := by decide +kernel
theorem dX8_control_107 : decode cX8_control 107 = .ok (.iload_n 1, 1) := by decide +kernel
theorem dX8_control_108 : decode cX8_control 108 = .ok (.iaload, 1) := by decide +kernel
theorem dX8_control_109 : decode cX8_control 109 = .ok (.iconst 1, 1) := by decide +kernel
theorem dX8_control_110 : decode cX8_control 110 = .ok (.if_icmp .le 48, 3) := by decide +kernel
theorem dX8_control_113 : decode cX8_control 113 = .ok (.aload_n 0, 1) := by decide +kernel
theorem dX8_control_114 : decode cX8_control 114 = .ok (.getfield 88, 3) := by decide +kernel
theorem dX8_control_117 : decode cX8_control 117 = .ok (.iload_n 2, 1) := by decide +kernel
theorem dX8_control_118 : decode cX8_control 118 = .ok (.iaload, 1) := by decide +kernel
theorem dX8_control_119 : decode cX8_control 119 = .ok (.ifCond .ne 39, 3) := by decide +kernel
theorem dX8_control_122 : decode cX8_control 122 = .ok (.aload_n 0, 1) := by decide +kernel
theorem dX8_control_123 : decode cX8_control 123 = .ok (.getfield 118, 3) := by decide +kernel
theorem dX8_control_126 : decode cX8_control 126 = .ok (.iload_n 2, 1) := by decide +kernel
theorem dX8_control_127 : decode cX8_control 127 = .ok (.iaload, 1) := by decide +kernel
theorem dX8_control_128 : decode cX8_control 128 = .ok (.bipush 10, 2) := by decide +kernel
theorem dX8_control_130 : decode cX8_control 130 = .ok (.if_icmp .ge 18, 3) := by decide +kernel
theorem dX8_control_133 : decode cX8_control 133 = .ok (.aload_n 0, 1) := by decide +kernel
theorem dX8_control_134 : decode cX8_control 134 = .ok (.getfield 118, 3) := by decide +kernel
theorem dX8_control_137 : decode cX8_control 137 = .ok (.iload_n 2, 1) := by decide +kernel
theorem dX8_control_138 : decode cX8_control 138 = .ok (.iaload, 1) := by decide +kernel
theorem dX8_control_139 : decode cX8_control 139 = .ok (.aload_n 0, 1) := by decide +kernel
theorem dX8_control_140 : decode cX8_control 140 = .ok (.getfield 121, 3) := by decide +kernel
theorem dX8_control_143 : decode cX8_control 143 = .ok (.iload_n 2, 1) := by decide +kernel
theorem dX8_control_144 : decode cX8_control 144 = .ok (.iaload, 1) := by decide +kernel
theorem dX8_control_145 : decode cX8_control 145 = .ok (.if_icmp .lt 13, 3) := by decide +kernel
theorem dX8_control_148 : decode cX8_control 148 = .ok (.aload_n 0, 1) := by decide +kernel
theorem dX8_control_149 : decode cX8_control 149 = .ok (.getfield 48, 3) := by decide +kernel
theorem dX8_control_152 : decode cX8_control 152 = .ok (.iload_n 1, 1) := by decide +kernel
theorem dX8_control_153 : decode cX8_control 153 = .ok (.dup2, 1) := by decide +kernel
theorem dX8_control_154 : decode cX8_control 154 = .ok (.iaload, 1) := by decide +kernel
theorem dX8_control_155 : decode cX8_control 155 = .ok (.iconst 1, 1) := by decide +kernel
theorem dX8_control_156 : decode cX8_control 156 = .ok (.isub, 1) := by decide +kernel
theorem dX8_control_157 : decode cX8_control 157 = .ok (.iastore, 1) := by decide +kernel
theorem dX8_control_158 : decode cX8_control 158 = .ok (.aload_n 0, 1) := by decide +kernel
theorem dX8_control_159 : decode cX8_control 159 = .ok (.getfield 21, 3) := by decide +kernel
theorem dX8_control_162 : decode cX8_control 162 = .ok (.iload_n 1, 1) := by decide +kernel
theorem dX8_control_163 : decode cX8_control 163 = .ok (.iaload, 1) := by decide +kernel
theorem dX8_control_164 : decode cX8_control 164 = .ok (.iconst 4, 1) := by decide +kernel
theorem dX8_control_165 : decode cX8_control 165 = .ok (.if_icmp .eq 79, 3) := by decide +kernel
theorem dX8_control_168 : decode cX8_control 168 = .ok (.aload_n 0, 1) := by decide +kernel
theorem dX8_control_169 : decode cX8_control 169 = .ok (.getfield 73, 3) := by decide +kernel
theorem dX8_control_172 : decode cX8_control 172 = .ok (.iload_n 1, 1) := by decide +kernel
theorem dX8_control_173 : decode cX8_control 173 = .ok (.iaload, 1) := by decide +kernel
theorem dX8_control_174 : decode cX8_control 174 = .ok (.aload_n 0, 1) := by decide +kernel
theorem dX8_control_175 : decode cX8_control 175 = .ok (.getfield 54, 3) := by decide +kernel
theorem dX8_control_178 : decode cX8_control 178 = .ok (.iload_n 1, 1) := by decide +kernel
theorem dX8_control_179 : decode cX8_control 179 = .ok (.iaload, 1) := by decide +kernel
theorem dX8_control_180 : decode cX8_control 180 = .ok (.if_icmp .le 31, 3) := by decide +kernel
theorem dX8_control_183 : decode cX8_control 183 = .ok (.aload_n 0, 1) := by decide +kernel
theorem dX8_control_184 : decode cX8_control 184 = .ok (.getfield 54, 3) := by decide +kernel
theorem dX8_control_187 : decode cX8_control 187 = .ok (.iload_n 1, 1) := by decide +kernel
theorem dX8_control_188 : decode cX8_control 188 = .ok (.dup2, 1) := by decide +kernel
theorem dX8_control_189 : decode cX8_control 189 = .ok (.iaload, 1) := by decide +kernel
theorem dX8_control_190 : decode cX8_control 190 = .ok (.aload_n 0, 1) := by decide +kernel
theorem dX8_control_191 : decode cX8_control 191 = .ok (.getfield 54, 3) := by decide +kernel
theorem dX8_control_194 : decode cX8_control 194 = .ok (.iload_n 1, 1) := by decide +kernel
theorem dX8_control_195 : decode cX8_control 195 = .ok (.iaload, 1) := by decide +kernel
theorem dX8_control_196 : decode cX8_control 196 = .ok (.bipush 8, 2) := by decide +kernel
theorem dX8_control_198 : decode cX8_control 198 = .ok (.if_icmp .ge 7, 3) := by decide +kernel
theorem dX8_control_201 : decode cX8_control 201 = .ok (.iconst 1, 1) := by decide +kernel
theorem dX8_control_202 : decode cX8_control 202 = .ok (.goto 4, 3) := by decide +kernel
theorem dX8_control_205 : decode cX8_control 205 = .ok (.iconst 0, 1) := by decide +kernel
theorem dX8_control_206 : decode cX8_control 206 = .ok (.iadd, 1) := by decide +kernel
theorem dX8_control_207 : decode cX8_control 207 = .ok (.iastore, 1) := by decide +kernel
theorem dX8_control_208 : decode cX8_control 208 = .ok (.goto 36, 3) := by decide +kernel
theorem dX8_control_211 : decode cX8_control 211 = .ok (.aload_n 0, 1) := by decide +kernel
theorem dX8_control_212 : decode cX8_control 212 = .ok (.getfield 73, 3) := by decide +kernel
theorem dX8_control_215 : decode cX8_control 215 = .ok (.iload_n 1, 1) := by decide +kernel
theorem dX8_control_216 : decode cX8_control 216 = .ok (.iaload, 1) := by decide +kernel
theorem dX8_control_217 : decode cX8_control 217 = .ok (.ifCond .ne 27, 3) := by decide +kernel
theorem dX8_control_220 : decode cX8_control 220 = .ok (.aload_n 0, 1) := by decide +kernel
theorem dX8_control_221 : decode cX8_control 221 = .ok (.getfield 54, 3) := by decide +kernel
theorem dX8_control_224 : decode cX8_control 224 = .ok (.iload_n 1, 1) := by decide +kernel
theorem dX8_control_225 : decode cX8_control 225 = .ok (.dup2, 1) := by decide +kernel
theorem dX8_control_226 : decode cX8_control 226 = .ok (.iaload, 1) := by decide +kernel
theorem dX8_control_227 : decode cX8_control 227 = .ok (.aload_n 0, 1) := by decide +kernel
theorem dX8_control_228 : decode cX8_control 228 = .ok (.getfield 54, 3) := by decide +kernel
theorem dX8_control_231 : decode cX8_control 231 = .ok (.iload_n 1, 1) := by decide +kernel
theorem dX8_control_232 : decode cX8_control 232 = .ok (.iaload, 1) := by decide +kernel
theorem dX8_control_233 : decode cX8_control 233 = .ok (.iconst 1, 1) := by decide +kernel
theorem dX8_control_234 : decode cX8_control 234 = .ok (.if_icmp .le 7, 3) := by decide +kernel
theorem dX8_control_237 : decode cX8_control 237 = .ok (.iconst 1, 1) := by decide +kernel
theorem dX8_control_238 : decode cX8_control 238 = .ok (.goto 4, 3) := by decide +kernel
theorem dX8_control_241 : decode cX8_control 241 = .ok (.iconst 0, 1) := by decide +kernel
theorem dX8_control_242 : decode cX8_control 242 = .ok (.isub, 1) := by decide +kernel
theorem dX8_control_243 : decode cX8_control 243 = .ok (.iastore, 1) := by decide +kernel
theorem dX8_control_244 : decode cX8_control 244 = .ok (.aload_n 0, 1) := by decide +kernel
theorem dX8_control_245 : decode cX8_control 245 = .ok (.getfield 45, 3) := by decide +kernel
theorem dX8_control_248 : decode cX8_control 248 = .ok (.iload_n 1, 1) := by decide +kernel
theorem dX8_control_249 : decode cX8_control 249 = .ok (.iaload, 1) := by decide +kernel
theorem dX8_control_250 : decode cX8_control 250 = .ok (.ifCond .le 88, 3) := by decide +kernel
theorem dX8_control_253 : decode cX8_control 253 = .ok (.aload_n 0, 1) := by decide +kernel
theorem dX8_control_254 : decode cX8_control 254 = .ok (.getfield 79, 3) := by decide +kernel
theorem dX8_control_257 : decode cX8_control 257 = .ok (.iload_n 1, 1) := by decide +kernel
theorem dX8_control_258 : decode cX8_control 258 = .ok (.iaload, 1) := by decide +kernel
theorem dX8_control_259 : decode cX8_control 259 = .ok (.ifCond .le 79, 3) := by decide +kernel
theorem dX8_control_262 : decode cX8_control 262 = .ok (.aload_n 0, 1) := by decide +kernel
theorem dX8_control_263 : decode cX8_control 263 = .ok (.iload_n 1, 1) := by decide +kernel
theorem dX8_control_264 : decode cX8_control 264 = .ok (.invokevirtual 199, 3) := by decide +kernel
theorem dX8_control_267 : decode cX8_control 267 = .ok (.aload_n 0, 1) := by decide +kernel
theorem dX8_control_268 : decode cX8_control 268 = .ok (.getfield 45, 3) := by decide +kernel
theorem dX8_control_271 : decode cX8_control 271 = .ok (.iload_n 1, 1) := by decide +kernel
theorem dX8_control_272 : decode cX8_control 272 = .ok (.iaload, 1) := by decide +kernel
theorem dX8_control_273 : decode cX8_control 273 = .ok (.if_icmp .le 40, 3) := by decide +kernel
theorem dX8_control_276 : decode cX8_control 276 = .ok (.aload_n 0, 1) := by decide +kernel
theorem dX8_control_277 : decode cX8_control 277 = .ok (.getfield 42, 3) := by decide +kernel
theorem dX8_control_280 : decode cX8_control 280 = .ok (.iload_n 1, 1) := by decide +kernel
theorem dX8_control_281 : decode cX8_control 281 = .ok (.iconst 3, 1) := by decide +kernel
theorem dX8_control_282 : decode cX8_control 282 = .ok (.aload_n 0, 1) := by decide +kernel
theorem dX8_control_283 : decode cX8_control 283 = .ok (.getfield 42, 3) := by decide +kernel
theorem dX8_control_286 : decode cX8_control 286 = .ok (.iload_n 1, 1) := by decide +kernel
theorem dX8_control_287 : decode cX8_control 287 = .ok (.iaload, 1) := by decide +kernel
theorem dX8_control_288 : decode cX8_control 288 = .ok (.imul, 1) := by decide +kernel
theorem dX8_control_289 : decode cX8_control 289 = .ok (.iconst 4, 1) := by decide +kernel
theorem dX8_control_290 : decode cX8_control 290 = .ok (.idiv, 1) := by decide +kernel
theorem dX8_control_291 : decode cX8_control 291 = .ok (.iconst 1, 1) := by decide +kernel
theorem dX8_control_292 : decode cX8_control 292 = .ok (.if_icmp .ge 7, 3) := by decide +kernel
theorem dX8_control_295 : decode cX8_control 295 = .ok (.iconst 1, 1) := by decide +kernel
theorem dX8_control_296 : decode cX8_control 296 = .ok (.goto 13, 3) := by decide +kernel
theorem dX8_control_299 : decode cX8_control 299 = .ok (.iconst 3, 1) := by decide +kernel
theorem dX8_control_300 : decode cX8_control 300 = .ok (.aload_n 0, 1) := by decide +kernel
theorem dX8_control_301 : decode cX8_control 301 = .ok (.getfield 42, 3) := by decide +kernel
theorem dX8_control_304 : decode cX8_control 304 = .ok (.iload_n 1, 1) := by decide +kernel
theorem dX8_control_305 : decode cX8_control 305 = .ok (.iaload, 1) := by decide +kernel
theorem dX8_control_306 : decode cX8_control 306 = .ok (.imul, 1) := by decide +kernel
theorem dX8_control_307 : decode cX8_control 307 = .ok (.iconst 4, 1) := by decide +kernel
theorem dX8_control_308 : decode cX8_control 308 = .ok (.idiv, 1) := by decide +kernel
theorem dX8_control_309 : decode cX8_control 309 = .ok (.iastore, 1) := by decide +kernel
theorem dX8_control_310 : decode cX8_control 310 = .ok (.goto 28, 3) := by decide +kernel
theorem dX8_control_313 : decode cX8_control 313 = .ok (.aload_n 0, 1) := by decide +kernel
theorem dX8_control_314 : decode cX8_control 314 = .ok (.getfield 42, 3) := by decide +kernel
theorem dX8_control_317 : decode cX8_control 317 = .ok (.iload_n 1, 1) := by decide +kernel
theorem dX8_control_318 : decode cX8_control 318 = .ok (.dup2, 1) := by decide +kernel
theorem dX8_control_319 : decode cX8_control 319 = .ok (.iaload, 1) := by decide +kernel
theorem dX8_control_320 : decode cX8_control 320 = .ok (.aload_n 0, 1) := by decide +kernel
theorem dX8_control_321 : decode cX8_control 321 = .ok (.getfield 42, 3) := by decide +kernel
theorem dX8_control_324 : decode cX8_control 324 = .ok (.iload_n 1, 1) := by decide +kernel
theorem dX8_control_325 : decode cX8_control 325 = .ok (.iaload, 1) := by decide +kernel
theorem dX8_control_326 : decode cX8_control 326 = .ok (.bipush 100, 2) := by decide +kernel
theorem dX8_control_328 : decode cX8_control 328 = .ok (.if_icmp .ge 7, 3) := by decide +kernel
theorem dX8_control_331 : decode cX8_control 331 = .ok (.iconst 1, 1) := by decide +kernel
theorem dX8_control_332 : decode cX8_control 332 = .ok (.goto 4, 3) := by decide +kernel
theorem dX8_control_335 : decode cX8_control 335 = .ok (.iconst 0, 1) := by decide +kernel
theorem dX8_control_336 : decode cX8_control 336 = .ok (.iadd, 1) := by decide +kernel
theorem dX8_control_337 : decode cX8_control 337 = .ok (.iastore, 1) := by decide +kernel
theorem dX8_control_338 : decode cX8_control 338 = .ok (.return_, 1) := by decide +kernel
set_option maxRecDepth 20000 in
theorem ggX8_oneTick_X8_ring : GoodIn wsX8_oneTick wsX8_ring := goodIn_r _ [11, 12, 13, 1, 14, 15, 16, 17, 18, 19, 10, 20, 21, 22, 23, 24, 25, 26, 27, 28, 29, 30, 31, 32, 33, 3, 34, 35, 36, 37, 38, 39, 40, 41, 42, 43, 44, 45, 46, 101, 102, 103, 104, 105, 106, 107, 108, 109, 110, 111, 112, 113, 114, 115, 116, 117, 118, 119, 120, 121, 122, 123, 124, 125, 126, 127, 128, 129, 130, 131, 132, 133, 134, 135, 136, 137, 138, 139, 140, 141, 142, 143, 144, 145, 146, 147, 148] (by decide +kernel) (by decide +kernel)
set_option maxRecDepth 20000 in
theorem gX8_oneTick_X8_ring : GoodIn wsX8_oneTick (wsV RX8 202 RX8 yX8_ring wsX8_ring) := goodIn_app (goodIn_of _ (by decide +kernel)) ggX8_oneTick_X8_ring
set_option maxRecDepth 20000 in
theorem ggX8_oneTick_X8_work : GoodIn wsX8_oneTick wsX8_work := goodIn_r _ [50, 51, 52, 39, 53, 54, 46, 55, 56, 57, 58, 59, 60, 10, 61, 62, 63, 64, 65, 66, 67, 68, 69, 70, 71, 72, 21, 73, 23, 74, 75, 76, 77, 78, 79, 17, 18, 19, 20, 22, 29, 30, 31, 32, 33, 3, 34, 35, 36, 37, 38, 40, 41, 42, 43, 44, 45, 80, 81, 82, 83, 84, 85, 86, 87, 88, 89, 1, 101, 102, 103, 104, 105, 106, 107, 108, 109, 110, 111, 112, 113, 114, 115, 116, 117, 118, 119, 120, 121, 122, 123, 124, 125, 126, 127, 128, 129, 130, 131, 132, 133, 134, 135, 136, 137, 138, 139, 140, 141, 142, 143, 144, 145, 146, 147, 148] (by decide +kernel) (by decide +kernel)
set_option maxRecDepth 20000 in
theorem gX8_oneTick_X8_work : GoodIn wsX8_oneTick (wsV RX8 205 RX8 yX8_work wsX8_work) := goodIn_app (goodIn_of _ (by decide +kernel)) ggX8_oneTick_X8_work
set_option maxRecDepth 20000 in
theorem ggX8_oneTick_X8_control : GoodIn wsX8_oneTick wsX8_control := goodIn_r _ [93, 6, 39, 41, 94, 56, 57, 51, 52, 62, 73, 53, 95, 88, 4, 96, 97, 98, 10, 99, 89, 100, 101, 102, 103, 104, 105, 106, 107, 108, 109, 110, 111, 112, 113, 114, 115, 116, 117, 118, 119, 120, 121, 122, 123, 124, 125, 126, 127, 128, 129, 130, 131, 132, 133, 134, 135, 136, 137, 138, 139, 140, 141, 142, 143, 144, 145, 146, 147, 148] (by decide +kernel) (by decide +kernel)
set_option maxRecDepth 20000 in
theorem gX8_oneTick_X8_control : GoodIn wsX8_oneTick (wsV RX8 208 RX8 yX8_control wsX8_control) := goodIn_app (goodIn_of _ (by decide +kernel)) ggX8_oneTick_X8_control
theorem dX8_oneTick_0 : decode cX8_oneTick 0 = .ok (.aload_n 0, 1) := by decide +kernel
theorem dX8_oneTick_1 : decode cX8_oneTick 1 = .ok (.dup, 1) := by decide +kernel
theorem dX8_oneTick_2 : decode cX8_oneTick 2 = .ok (.getfield 163, 3) := by decide +kernel
theorem dX8_oneTick_5 : decode cX8_oneTick 5 = .ok (.iconst 1, 1) := by decide +kernel
theorem dX8_oneTick_6 : decode cX8_oneTick 6 = .ok (.iadd, 1) := by decide +kernel
theorem dX8_oneTick_7 : decode cX8_oneTick 7 = .ok (.putfield 163, 3) := by decide +kernel
theorem dX8_oneTick_10 : decode cX8_oneTick 10 = .ok (.iconst 0, 1) := by decide +kernel
theorem dX8_oneTick_11 : decode cX8_oneTick 11 = .ok (.istore_n 1, 1) := by decide +kernel
theorem dX8_oneTick_12 : decode cX8_oneTick 12 = .ok (.iload_n 1, 1) := by decide +kernel
theorem dX8_oneTick_13 : decode cX8_oneTick 13 = .ok (.aload_n 0, 1) := by decide +kernel
theorem dX8_oneTick_14 : decode cX8_oneTick 14 = .ok (.getfield 136, 3) := by decide +kernel
theorem dX8_oneTick_17 : decode cX8_oneTick 17 = .ok (.if_icmp .ge 59, 3) := by decide +kernel
theorem dX8_oneTick_20 : decode cX8_oneTick 20 = .ok (.aload_n 0, 1) := by decide +kernel
theorem dX8_oneTick_21 : decode cX8_oneTick 21 = .ok (.getfield 36, 3) := by decide +kernel
theorem dX8_oneTick_24 : decode cX8_oneTick 24 = .ok (.iload_n 1, 1) := by decide +kernel
theorem dX8_oneTick_25 : decode cX8_oneTick 25 = .ok (.aload_n 0, 1) := by decide +kernel
theorem dX8_oneTick_26 : decode cX8_oneTick 26 = .ok (.getfield 36, 3) := by decide +kernel
theorem dX8_oneTick_29 : decode cX8_oneTick 29 = .ok (.iload_n 1, 1) := by decide +kernel
theorem dX8_oneTick_30 : decode cX8_oneTick 30 = .ok (.iaload, 1) := by decide +kernel
theorem dX8_oneTick_31 : decode cX8_oneTick 31 = .ok (.aload_n 0, 1) := by decide +kernel
theorem dX8_oneTick_32 : decode cX8_oneTick 32 = .ok (.getfield 42, 3) := by decide +kernel
theorem dX8_oneTick_35 : decode cX8_oneTick 35 = .ok (.iload_n 1, 1) := by decide +kernel
theorem dX8_oneTick_36 : decode cX8_oneTick 36 = .ok (.iaload, 1) := by decide +kernel
theorem dX8_oneTick_37 : decode cX8_oneTick 37 = .ok (.iadd, 1) := by decide +kernel
theorem dX8_oneTick_38 : decode cX8_oneTick 38 = .ok (.aload_n 0, 1) := by decide +kernel
theorem dX8_oneTick_39 : decode cX8_oneTick 39 = .ok (.getfield 39, 3) := by decide +kernel
theorem dX8_oneTick_42 : decode cX8_oneTick 42 = .ok (.iload_n 1, 1) := by decide +kernel
theorem dX8_oneTick_43 : decode cX8_oneTick 43 = .ok (.iaload, 1) := by decide +kernel
theorem dX8_oneTick_44 : decode cX8_oneTick 44 = .ok (.if_icmp .le 12, 3) := by decide +kernel
theorem dX8_oneTick_47 : decode cX8_oneTick 47 = .ok (.aload_n 0, 1) := by decide +kernel
theorem dX8_oneTick_48 : decode cX8_oneTick 48 = .ok (.getfield 39, 3) := by decide +kernel
theorem dX8_oneTick_51 : decode cX8_oneTick 51 = .ok (.iload_n 1, 1) := by decide +kernel
theorem dX8_oneTick_52 : decode cX8_oneTick 52 = .ok (.iaload, 1) := by decide +kernel
theorem dX8_oneTick_53 : decode cX8_oneTick 53 = .ok (.goto 16, 3) := by decide +kernel
theorem dX8_oneTick_56 : decode cX8_oneTick 56 = .ok (.aload_n 0, 1) := by decide +kernel
theorem dX8_oneTick_57 : decode cX8_oneTick 57 = .ok (.getfield 36, 3) := by decide +kernel
theorem dX8_oneTick_60 : decode cX8_oneTick 60 = .ok (.iload_n 1, 1) := by decide +kernel
theorem dX8_oneTick_61 : decode cX8_oneTick 61 = .ok (.iaload, 1) := by decide +kernel
theorem dX8_oneTick_62 : decode cX8_oneTick 62 = .ok (.aload_n 0, 1) := by decide +kernel
theorem dX8_oneTick_63 : decode cX8_oneTick 63 = .ok (.getfield 42, 3) := by decide +kernel
theorem dX8_oneTick_66 : decode cX8_oneTick 66 = .ok (.iload_n 1, 1) := by decide +kernel
theorem dX8_oneTick_67 : decode cX8_oneTick 67 = .ok (.iaload, 1) := by decide +kernel
theorem dX8_oneTick_68 : decode cX8_oneTick 68 = .ok (.iadd, 1) := by decide +kernel
theorem dX8_oneTick_69 : decode cX8_oneTick 69 = .ok (.iastore, 1) := by decide +kernel
theorem dX8_oneTick_70 : decode cX8_oneTick 70 = .ok (.iinc 1 1, 3) := by decide +kernel
theorem dX8_oneTick_73 : decode cX8_oneTick 73 = .ok (.goto (-61), 3) := by decide +kernel
theorem dX8_oneTick_76 : decode cX8_oneTick 76 = .ok (.aload_n 0, 1) := by decide +kernel
theorem dX8_oneTick_77 : decode cX8_oneTick 77 = .ok (.invokevirtual 202, 3) := by decide +kernel
theorem dX8_oneTick_80 : decode cX8_oneTick 80 = .ok (.iconst 0, 1) := by decide +kernel
theorem dX8_oneTick_81 : decode cX8_oneTick 81 = .ok (.istore_n 1, 1) := by decide +kernel
theorem dX8_oneTick_82 : decode cX8_oneTick 82 = .ok (.iload_n 1, 1) := by decide +kernel
theorem dX8_oneTick_83 : decode cX8_oneTick 83 = .ok (.aload_n 0, 1) := by decide +kernel
theorem dX8_oneTick_84 : decode cX8_oneTick 84 = .ok (.getfield 136, 3) := by decide +kernel
theorem dX8_oneTick_87 : decode cX8_oneTick 87 = .ok (.if_icmp .ge 37, 3) := by decide +kernel
theorem dX8_oneTick_90 : decode cX8_oneTick 90 = .ok (.iconst 0, 1) := by decide +kernel
theorem dX8_oneTick_91 : decode cX8_oneTick 91 = .ok (.istore_n 2, 1) := by decide +kernel
theorem dX8_oneTick_92 : decode cX8_oneTick 92 = .ok (.iload_n 2, 1) := by decide +kernel
theorem dX8_oneTick_93 : decode cX8_oneTick 93 = .ok (.aload_n 0, 1) := by decide +kernel
theorem dX8_oneTick_94 : decode cX8_oneTick 94 = .ok (.getfield 48, 3) := by decide +kernel
theorem dX8_oneTick_97 : decode cX8_oneTick 97 = .ok (.iload_n 1, 1) := by decide +kernel
theorem dX8_oneTick_98 : decode cX8_oneTick 98 = .ok (.iaload, 1) := by decide +kernel
theorem dX8_oneTick_99 : decode cX8_oneTick 99 = .ok (.if_icmp .ge 19, 3) := by decide +kernel
theorem dX8_oneTick_102 : decode cX8_oneTick 102 = .ok (.aload_n 0, 1) := by decide +kernel
theorem dX8_oneTick_103 : decode cX8_oneTick 103 = .ok (.iload_n 1, 1) := by decide +kernel
theorem dX8_oneTick_104 : decode cX8_oneTick 104 = .ok (.iconst 4, 1) := by decide +kernel
theorem dX8_oneTick_105 : decode cX8_oneTick 105 = .ok (.iload_n 1, 1) := by decide +kernel
theorem dX8_oneTick_106 : decode cX8_oneTick 106 = .ok (.imul, 1) := by decide +kernel
theorem dX8_oneTick_107 : decode cX8_oneTick 107 = .ok (.iload_n 2, 1) := by decide +kernel
theorem dX8_oneTick_108 : decode cX8_oneTick 108 = .ok (.iadd, 1) := by decide +kernel
theorem dX8_oneTick_109 : decode cX8_oneTick 109 = .ok (.invokevirtual 205, 3) := by decide +kernel
theorem dX8_oneTick_112 : decode cX8_oneTick 112 = .ok (.iinc 2 1, 3) := by decide +kernel
theorem dX8_oneTick_115 : decode cX8_oneTick 115 = .ok (.goto (-23), 3) := by decide +kernel
theorem dX8_oneTick_118 : decode cX8_oneTick 118 = .ok (.iinc 1 1, 3) := by decide +kernel
theorem dX8_oneTick_121 : decode cX8_oneTick 121 = .ok (.goto (-39), 3) := by decide +kernel
theorem dX8_oneTick_124 : decode cX8_oneTick 124 = .ok (.iconst 0, 1) := by decide +kernel
theorem dX8_oneTick_125 : decode cX8_oneTick 125 = .ok (.istore_n 1, 1) := by decide +kernel
theorem dX8_oneTick_126 : decode cX8_oneTick 126 = .ok (.iload_n 1, 1) := by decide +kernel
theorem dX8_oneTick_127 : decode cX8_oneTick 127 = .ok (.aload_n 0, 1) := by decide +kernel
theorem dX8_oneTick_128 : decode cX8_oneTick 128 = .ok (.getfield 136, 3) := by decide +kernel
theorem dX8_oneTick_131 : decode cX8_oneTick 131 = .ok (.if_icmp .ge 24, 3) := by decide +kernel
theorem dX8_oneTick_134 : decode cX8_oneTick 134 = .ok (.aload_n 0, 1) := by decide +kernel
theorem dX8_oneTick_135 : decode cX8_oneTick 135 = .ok (.getfield 163, 3) := by decide +kernel
theorem dX8_oneTick_138 : decode cX8_oneTick 138 = .ok (.bipush 10, 2) := by decide +kernel
theorem dX8_oneTick_140 : decode cX8_oneTick 140 = .ok (.irem, 1) := by decide +kernel
theorem dX8_oneTick_141 : decode cX8_oneTick 141 = .ok (.ifCond .ne 14, 3) := by decide +kernel
theorem dX8_oneTick_144 : decode cX8_oneTick 144 = .ok (.aload_n 0, 1) := by decide +kernel
theorem dX8_oneTick_145 : decode cX8_oneTick 145 = .ok (.iload_n 1, 1) := by decide +kernel
theorem dX8_oneTick_146 : decode cX8_oneTick 146 = .ok (.invokevirtual 208, 3) := by decide +kernel
theorem dX8_oneTick_149 : decode cX8_oneTick 149 = .ok (.iinc 1 1, 3) := by decide +kernel
theorem dX8_oneTick_152 : decode cX8_oneTick 152 = .ok (.goto (-26), 3) := by decide +kernel
theorem dX8_oneTick_155 : decode cX8_oneTick 155 = .ok (.return_, 1) := by decide +kernel
set_option maxRecDepth 20000 in
theorem ggX8_tick_X8_in : GoodIn wsX8_tick wsX8_in := goodIn_r _ [5] (by decide +kernel) (by decide +kernel)
set_option maxRecDepth 20000 in
theorem gX8_tick_X8_in : GoodIn wsX8_tick (va_wsS RX8 140 yX8_in wsX8_in) := goodIn_app (goodIn_of _ (by decide +kernel)) ggX8_tick_X8_in
set_option maxRecDepth 20000 in
theorem ggX8_tick_X8_oneTick : GoodIn wsX8_tick wsX8_oneTick := goodIn_r _ [9, 1, 10, 11, 12, 13, 14, 15, 16, 17, 4, 18, 19, 20, 21, 22, 23, 24, 25, 26, 27, 28, 29, 30, 31, 32, 33, 34, 35, 36, 37, 38, 39, 40, 41, 42, 43, 44, 45, 46, 47, 48, 49, 50, 51, 52, 53, 54, 55, 56, 57, 58, 59, 60, 61, 62, 63, 64, 65, 66, 67, 68, 69, 70, 71, 72, 73, 74, 75, 76, 77, 78, 79, 80, 81, 82, 83, 84, 85, 86, 87, 88, 89, 90, 91, 92, 93, 94, 95, 96, 97, 98, 99, 100, 101, 102, 103, 104, 105, 106, 107, 108, 109, 110, 111, 112, 113, 114, 115, 116, 117, 118, 119, 120, 121, 122, 123, 124, 125, 126, 127, 128, 129, 130, 131, 132, 133, 134, 135, 136, 137, 138, 139, 140, 141, 142, 143, 144, 145, 146, 147, 148, 149, 150, 151, 152, 153, 154, 155] (by decide +kernel) (by decide +kernel)
set_option maxRecDepth 20000 in
theorem gX8_tick_X8_oneTick : GoodIn wsX8_tick (wsV RX8 211 RX8 yX8_oneTick wsX8_oneTick) := goodIn_app (goodIn_of _ (by decide +kernel)) ggX8_tick_X8_oneTick
theorem dX8_tick_0 : decode cX8_tick 0 = .ok (.iload_n 1, 1) := by decide +kernel
theorem dX8_tick_1 : decode cX8_tick 1 = .ok (.iconst 1, 1) := by decide +kernel
theorem dX8_tick_2 : decode cX8_tick 2 = .ok (.bipush 50, 2) := by decide +kernel
theorem dX8_tick_4 : decode cX8_tick 4 = .ok (.invokestatic 140, 3) := by decide +kernel
theorem dX8_tick_7 : decode cX8_tick 7 = .ok (.ifCond .ne 5, 3) := by decide +kernel
theorem dX8_tick_10 : decode cX8_tick 10 = .ok (.iconst (-1), 1) := by decide +kernel
theorem dX8_tick_11 : decode cX8_tick 11 = .ok (.ireturn, 1) := by decide +kernel
theorem dX8_tick_12 : decode cX8_tick 12 = .ok (.aload_n 0, 1) := by decide +kernel
theorem dX8_tick_13 : decode cX8_tick 13 = .ok (.getfield 163, 3) := by decide +kernel
theorem dX8_tick_16 : decode cX8_tick 16 = .ok (.iload_n 1, 1) := by decide +kernel
theorem dX8_tick_17 : decode cX8_tick 17 = .ok (.iadd, 1) := by decide +kernel
theorem dX8_tick_18 : decode cX8_tick 18 = .ok (.sipush 400, 3) := by decide +kernel
theorem dX8_tick_21 : decode cX8_tick 21 = .ok (.if_icmp .le 6, 3) := by decide +kernel
theorem dX8_tick_24 : decode cX8_tick 24 = .ok (.bipush (-2), 2) := by decide +kernel
theorem dX8_tick_26 : decode cX8_tick 26 = .ok (.ireturn, 1) := by decide +kernel
theorem dX8_tick_27 : decode cX8_tick 27 = .ok (.iconst 0, 1) := by decide +kernel
theorem dX8_tick_28 : decode cX8_tick 28 = .ok (.istore_n 2, 1) := by decide +kernel
theorem dX8_tick_29 : decode cX8_tick 29 = .ok (.iload_n 2, 1) := by decide +kernel
theorem dX8_tick_30 : decode cX8_tick 30 = .ok (.iload_n 1, 1) := by decide +kernel
theorem dX8_tick_31 : decode cX8_tick 31 = .ok (.if_icmp .ge 13, 3) := by decide +kernel
theorem dX8_tick_34 : decode cX8_tick 34 = .ok (.aload_n 0, 1) := by decide +kernel
theorem dX8_tick_35 : decode cX8_tick 35 = .ok (.invokevirtual 211, 3) := by decide +kernel
theorem dX8_tick_38 : decode cX8_tick 38 = .ok (.iinc 2 1, 3) := by decide +kernel
theorem dX8_tick_41 : decode cX8_tick 41 = .ok (.goto (-12), 3) := by decide +kernel
theorem dX8_tick_44 : decode cX8_tick 44 = .ok (.aload_n 0, 1) := by decide +kernel
theorem dX8_tick_45 : decode cX8_tick 45 = .ok (.getfield 163, 3) := by decide +kernel
theorem dX8_tick_48 : decode cX8_tick 48 = .ok (.ireturn, 1) := by decide +kernel
set_option maxRecDepth 20000 in
theorem ggX8_told_X8_isStage : GoodIn wsX8_told wsX8_isStage := goodIn_r _ [14, 15, 23, 24, 25, 26, 27, 28, 29, 30, 31, 32, 33, 34, 35, 36, 37, 38, 39, 40, 41, 42, 43, 44, 45, 46, 47, 48, 49, 50, 51, 52, 53, 54, 55, 56, 57, 58, 59, 60, 61, 62, 63, 64, 65, 66, 67, 68, 69, 70] (by decide +kernel) (by decide +kernel)
set_option maxRecDepth 20000 in
theorem gX8_told_X8_isStage : GoodIn wsX8_told (wsV RX8 144 RX8 yX8_isStage wsX8_isStage) := goodIn_app (goodIn_of _ (by decide +kernel)) ggX8_told_X8_isStage
set_option maxRecDepth 20000 in
theorem ggX8_told_X8_response : GoodIn wsX8_told wsX8_response := goodIn_r _ [19, 20, 21, 22, 23, 24, 25, 26, 27, 28, 29, 30, 31, 32, 33, 34, 35, 36, 37, 38, 39, 40, 41, 42, 43, 44, 45, 46, 47, 48, 49, 50, 51, 52, 53, 54, 55, 56, 57, 58, 59, 60, 61, 62, 63, 64, 65, 66, 67, 68, 69, 70] (by decide +kernel) (by decide +kernel)
set_option maxRecDepth 20000 in
theorem gX8_told_X8_response : GoodIn wsX8_told (wsV RX8 199 RX8 yX8_response wsX8_response) := goodIn_app (goodIn_of _ (by decide +kernel)) ggX8_told_X8_response
theorem dX8_told_0 : decode cX8_told 0 = .ok (.aload_n 0, 1) := by decide +kernel
theorem dX8_told_1 : decode cX8_told 1 = .ok (.iload_n 1, 1) := by decide +kernel
theorem dX8_told_2 : decode cX8_told 2 = .ok (.invokevirtual 144, 3) := by decide +kernel
theorem dX8_told_5 : decode cX8_told 5 = .ok (.ifCond .ne 5, 3) := by decide +kernel
theorem dX8_told_8 : decode cX8_told 8 = .ok (.iconst (-1), 1) := by decide +kernel
theorem dX8_told_9 : decode cX8_told 9 = .ok (.ireturn, 1) := by decide +kernel
theorem dX8_told_10 : decode cX8_told 10 = .ok (.iload_n 2, 1) := by decide +kernel
theorem dX8_told_11 : decode cX8_told 11 = .ok (.tableswitch 122 0 9 #[53, 60, 67, 74, 81, 88, 95, 102, 109, 116], 53) := by decide +kernel
theorem dX8_told_64 : decode cX8_told 64 = .ok (.aload_n 0, 1) := by decide +kernel
theorem dX8_told_65 : decode cX8_told 65 = .ok (.getfield 73, 3) := by decide +kernel
theorem dX8_told_68 : decode cX8_told 68 = .ok (.iload_n 1, 1) := by decide +kernel
theorem dX8_told_69 : decode cX8_told 69 = .ok (.iaload, 1) := by decide +kernel
theorem dX8_told_70 : decode cX8_told 70 = .ok (.ireturn, 1) := by decide +kernel
theorem dX8_told_71 : decode cX8_told 71 = .ok (.aload_n 0, 1) := by decide +kernel
theorem dX8_told_72 : decode cX8_told 72 = .ok (.getfield 33, 3) := by decide +kernel
theorem dX8_told_75 : decode cX8_told 75 = .ok (.iload_n 1, 1) := by decide +kernel
theorem dX8_told_76 : decode cX8_told 76 = .ok (.iaload, 1) := by decide +kernel
theorem dX8_told_77 : decode cX8_told 77 = .ok (.ireturn, 1) := by decide +kernel
theorem dX8_told_78 : decode cX8_told 78 = .ok (.aload_n 0, 1) := by decide +kernel
theorem dX8_told_79 : decode cX8_told 79 = .ok (.getfield 48, 3) := by decide +kernel
theorem dX8_told_82 : decode cX8_told 82 = .ok (.iload_n 1, 1) := by decide +kernel
theorem dX8_told_83 : decode cX8_told 83 = .ok (.iaload, 1) := by decide +kernel
theorem dX8_told_84 : decode cX8_told 84 = .ok (.ireturn, 1) := by decide +kernel
theorem dX8_told_85 : decode cX8_told 85 = .ok (.aload_n 0, 1) := by decide +kernel
theorem dX8_told_86 : decode cX8_told 86 = .ok (.getfield 54, 3) := by decide +kernel
theorem dX8_told_89 : decode cX8_told 89 = .ok (.iload_n 1, 1) := by decide +kernel
theorem dX8_told_90 : decode cX8_told 90 = .ok (.iaload, 1) := by decide +kernel
theorem dX8_told_91 : decode cX8_told 91 = .ok (.ireturn, 1) := by decide +kernel
theorem dX8_told_92 : decode cX8_told 92 = .ok (.aload_n 0, 1) := by decide +kernel
theorem dX8_told_93 : decode cX8_told 93 = .ok (.getfield 42, 3) := by decide +kernel
theorem dX8_told_96 : decode cX8_told 96 = .ok (.iload_n 1, 1) := by decide +kernel
theorem dX8_told_97 : decode cX8_told 97 = .ok (.iaload, 1) := by decide +kernel
theorem dX8_told_98 : decode cX8_told 98 = .ok (.ireturn, 1) := by decide +kernel
theorem dX8_told_99 : decode cX8_told 99 = .ok (.aload_n 0, 1) := by decide +kernel
theorem dX8_told_100 : decode cX8_told 100 = .ok (.getfield 36, 3) := by decide +kernel
theorem dX8_told_103 : decode cX8_told 103 = .ok (.iload_n 1, 1) := by decide +kernel
theorem dX8_told_104 : decode cX8_told 104 = .ok (.iaload, 1) := by decide +kernel
theorem dX8_told_105 : decode cX8_told 105 = .ok (.ireturn, 1) := by decide +kernel
theorem dX8_told_106 : decode cX8_told 106 = .ok (.aload_n 0, 1) := by decide +kernel
theorem dX8_told_107 : decode cX8_told 107 = .ok (.getfield 64, 3) := by decide +kernel
theorem dX8_told_110 : decode cX8_told 110 = .ok (.iload_n 1, 1) := by decide +kernel
theorem dX8_told_111 : decode cX8_told 111 = .ok (.iaload, 1) := by decide +kernel
theorem dX8_told_112 : decode cX8_told 112 = .ok (.ireturn, 1) := by decide +kernel
theorem dX8_told_113 : decode cX8_told 113 = .ok (.aload_n 0, 1) := by decide +kernel
theorem dX8_told_114 : decode cX8_told 114 = .ok (.getfield 67, 3) := by decide +kernel
theorem dX8_told_117 : decode cX8_told 117 = .ok (.iload_n 1, 1) := by decide +kernel
theorem dX8_told_118 : decode cX8_told 118 = .ok (.iaload, 1) := by decide +kernel
theorem dX8_told_119 : decode cX8_told 119 = .ok (.ireturn, 1) := by decide +kernel
theorem dX8_told_120 : decode cX8_told 120 = .ok (.aload_n 0, 1) := by decide +kernel
theorem dX8_told_121 : decode cX8_told 121 = .ok (.getfield 70, 3) := by decide +kernel
theorem dX8_told_124 : decode cX8_told 124 = .ok (.iload_n 1, 1) := by decide +kernel
theorem dX8_told_125 : decode cX8_told 125 = .ok (.iaload, 1) := by decide +kernel
theorem dX8_told_126 : decode cX8_told 126 = .ok (.ireturn, 1) := by decide +kernel
theorem dX8_told_127 : decode cX8_told 127 = .ok (.aload_n 0, 1) := by decide +kernel
theorem dX8_told_128 : decode cX8_told 128 = .ok (.iload_n 1, 1) := by decide +kernel
theorem dX8_told_129 : decode cX8_told 129 = .ok (.invokevirtual 199, 3) := by decide +kernel
theorem dX8_told_132 : decode cX8_told 132 = .ok (.ireturn, 1) := by decide +kernel
theorem dX8_told_133 : decode cX8_told 133 = .ok (.iconst (-1), 1) := by decide +kernel
theorem dX8_told_134 : decode cX8_told 134 = .ok (.ireturn, 1) := by decide +kernel
set_option maxRecDepth 20000 in
theorem ggX8_queued_X8_isStage : GoodIn wsX8_queued wsX8_isStage := goodIn_r _ [7, 8, 9, 10, 11, 12, 13, 14, 15, 16, 17, 18, 19, 20, 21, 22, 23, 24, 25, 26, 27, 28, 29, 30, 31, 32, 33, 34, 35, 36, 37, 38, 39, 40, 41, 42, 43, 44, 45, 46, 47, 48, 49, 50, 51, 52, 53, 54, 55, 56] (by decide +kernel) (by decide +kernel)
set_option maxRecDepth 20000 in
theorem gX8_queued_X8_isStage : GoodIn wsX8_queued (wsV RX8 144 RX8 yX8_isStage wsX8_isStage) := goodIn_app (goodIn_of _ (by decide +kernel)) ggX8_queued_X8_isStage
theorem dX8_queued_0 : decode cX8_queued 0 = .ok (.aload_n 0, 1) := by decide +kernel
theorem dX8_queued_1 : decode cX8_queued 1 = .ok (.iload_n 1, 1) := by decide +kernel
theorem dX8_queued_2 : decode cX8_queued 2 = .ok (.invokevirtual 144, 3) := by decide +kernel
theorem dX8_queued_5 : decode cX8_queued 5 = .ok (.ifCond .eq 17, 3) := by decide +kernel
theorem dX8_queued_8 : decode cX8_queued 8 = .ok (.iload_n 2, 1) := by decide +kernel
theorem dX8_queued_9 : decode cX8_queued 9 = .ok (.ifCond .lt 13, 3) := by decide +kernel
theorem dX8_queued_12 : decode cX8_queued 12 = .ok (.iload_n 2, 1) := by decide +kernel
theorem dX8_queued_13 : decode cX8_queued 13 = .ok (.aload_n 0, 1) := by decide +kernel
theorem dX8_queued_14 : decode cX8_queued 14 = .ok (.getfield 73, 3) := by decide +kernel
theorem dX8_queued_17 : decode cX8_queued 17 = .ok (.iload_n 1, 1) := by decide +kernel
theorem dX8_queued_18 : decode cX8_queued 18 = .ok (.iaload, 1) := by decide +kernel
theorem dX8_queued_19 : decode cX8_queued 19 = .ok (.if_icmp .lt 7, 3) := by decide +kernel
theorem dX8_queued_22 : decode cX8_queued 22 = .ok (.iconst (-1), 1) := by decide +kernel
theorem dX8_queued_23 : decode cX8_queued 23 = .ok (.goto 14, 3) := by decide +kernel
theorem dX8_queued_26 : decode cX8_queued 26 = .ok (.aload_n 0, 1) := by decide +kernel
theorem dX8_queued_27 : decode cX8_queued 27 = .ok (.getfield 76, 3) := by decide +kernel
theorem dX8_queued_30 : decode cX8_queued 30 = .ok (.bipush 32, 2) := by decide +kernel
theorem dX8_queued_32 : decode cX8_queued 32 = .ok (.iload_n 1, 1) := by decide +kernel
theorem dX8_queued_33 : decode cX8_queued 33 = .ok (.imul, 1) := by decide +kernel
theorem dX8_queued_34 : decode cX8_queued 34 = .ok (.iload_n 2, 1) := by decide +kernel
theorem dX8_queued_35 : decode cX8_queued 35 = .ok (.iadd, 1) := by decide +kernel
theorem dX8_queued_36 : decode cX8_queued 36 = .ok (.iaload, 1) := by decide +kernel
theorem dX8_queued_37 : decode cX8_queued 37 = .ok (.ireturn, 1) := by decide +kernel
set_option maxRecDepth 20000 in
theorem ggX8_worker_X8_isStage : GoodIn wsX8_worker wsX8_isStage := goodIn_r _ [11, 12, 13, 14, 15, 16, 17, 18, 19, 20, 21, 22, 23, 24, 25, 26, 27, 28, 29, 30, 31, 32, 33, 34, 35, 36, 37, 38, 39, 40, 41, 42, 43, 44, 45, 46, 47, 48, 49, 50, 51, 52, 53, 54, 55, 56, 57, 58, 59, 60] (by decide +kernel) (by decide +kernel)
set_option maxRecDepth 20000 in
theorem gX8_worker_X8_isStage : GoodIn wsX8_worker (wsV RX8 144 RX8 yX8_isStage wsX8_isStage) := goodIn_app (goodIn_of _ (by decide +kernel)) ggX8_worker_X8_isStage
theorem dX8_worker_0 : decode cX8_worker 0 = .ok (.aload_n 0, 1) := by decide +kernel
theorem dX8_worker_1 : decode cX8_worker 1 = .ok (.iload_n 1, 1) := by decide +kernel
theorem dX8_worker_2 : decode cX8_worker 2 = .ok (.invokevirtual 144, 3) := by decide +kernel
theorem dX8_worker_5 : decode cX8_worker 5 = .ok (.ifCond .eq 17, 3) := by decide +kernel
theorem dX8_worker_8 : decode cX8_worker 8 = .ok (.iload_n 2, 1) := by decide +kernel
theorem dX8_worker_9 : decode cX8_worker 9 = .ok (.ifCond .lt 13, 3) := by decide +kernel
theorem dX8_worker_12 : decode cX8_worker 12 = .ok (.iload_n 2, 1) := by decide +kernel
theorem dX8_worker_13 : decode cX8_worker 13 = .ok (.aload_n 0, 1) := by decide +kernel
theorem dX8_worker_14 : decode cX8_worker 14 = .ok (.getfield 48, 3) := by decide +kernel
theorem dX8_worker_17 : decode cX8_worker 17 = .ok (.iload_n 1, 1) := by decide +kernel
theorem dX8_worker_18 : decode cX8_worker 18 = .ok (.iaload, 1) := by decide +kernel
theorem dX8_worker_19 : decode cX8_worker 19 = .ok (.if_icmp .lt 5, 3) := by decide +kernel
theorem dX8_worker_22 : decode cX8_worker 22 = .ok (.iconst (-1), 1) := by decide +kernel
theorem dX8_worker_23 : decode cX8_worker 23 = .ok (.ireturn, 1) := by decide +kernel
theorem dX8_worker_24 : decode cX8_worker 24 = .ok (.iconst 4, 1) := by decide +kernel
theorem dX8_worker_25 : decode cX8_worker 25 = .ok (.iload_n 1, 1) := by decide +kernel
theorem dX8_worker_26 : decode cX8_worker 26 = .ok (.imul, 1) := by decide +kernel
theorem dX8_worker_27 : decode cX8_worker 27 = .ok (.iload_n 2, 1) := by decide +kernel
theorem dX8_worker_28 : decode cX8_worker 28 = .ok (.iadd, 1) := by decide +kernel
theorem dX8_worker_29 : decode cX8_worker 29 = .ok (.istore 4, 2) := by decide +kernel
theorem dX8_worker_31 : decode cX8_worker 31 = .ok (.iload_n 3, 1) := by decide +kernel
theorem dX8_worker_32 : decode cX8_worker 32 = .ok (.tableswitch 88 0 2 #[28, 36, 58], 28) := by decide +kernel
theorem dX8_worker_60 : decode cX8_worker 60 = .ok (.aload_n 0, 1) := by decide +kernel
theorem dX8_worker_61 : decode cX8_worker 61 = .ok (.getfield 88, 3) := by decide +kernel
theorem dX8_worker_64 : decode cX8_worker 64 = .ok (.iload 4, 2) := by decide +kernel
theorem dX8_worker_66 : decode cX8_worker 66 = .ok (.iaload, 1) := by decide +kernel
theorem dX8_worker_67 : decode cX8_worker 67 = .ok (.ireturn, 1) := by decide +kernel
theorem dX8_worker_68 : decode cX8_worker 68 = .ok (.aload_n 0, 1) := by decide +kernel
theorem dX8_worker_69 : decode cX8_worker 69 = .ok (.getfield 88, 3) := by decide +kernel
theorem dX8_worker_72 : decode cX8_worker 72 = .ok (.iload 4, 2) := by decide +kernel
theorem dX8_worker_74 : decode cX8_worker 74 = .ok (.iaload, 1) := by decide +kernel
theorem dX8_worker_75 : decode cX8_worker 75 = .ok (.ifCond .le 13, 3) := by decide +kernel
theorem dX8_worker_78 : decode cX8_worker 78 = .ok (.aload_n 0, 1) := by decide +kernel
theorem dX8_worker_79 : decode cX8_worker 79 = .ok (.getfield 94, 3) := by decide +kernel
theorem dX8_worker_82 : decode cX8_worker 82 = .ok (.iload 4, 2) := by decide +kernel
theorem dX8_worker_84 : decode cX8_worker 84 = .ok (.iaload, 1) := by decide +kernel
theorem dX8_worker_85 : decode cX8_worker 85 = .ok (.goto 4, 3) := by decide +kernel
theorem dX8_worker_88 : decode cX8_worker 88 = .ok (.iconst 0, 1) := by decide +kernel
theorem dX8_worker_89 : decode cX8_worker 89 = .ok (.ireturn, 1) := by decide +kernel
theorem dX8_worker_90 : decode cX8_worker 90 = .ok (.aload_n 0, 1) := by decide +kernel
theorem dX8_worker_91 : decode cX8_worker 91 = .ok (.getfield 97, 3) := by decide +kernel
theorem dX8_worker_94 : decode cX8_worker 94 = .ok (.iload 4, 2) := by decide +kernel
theorem dX8_worker_96 : decode cX8_worker 96 = .ok (.baload, 1) := by decide +kernel
theorem dX8_worker_97 : decode cX8_worker 97 = .ok (.ifCond .eq 21, 3) := by decide +kernel
theorem dX8_worker_100 : decode cX8_worker 100 = .ok (.aload_n 0, 1) := by decide +kernel
theorem dX8_worker_101 : decode cX8_worker 101 = .ok (.getfield 100, 3) := by decide +kernel
theorem dX8_worker_104 : decode cX8_worker 104 = .ok (.iload 4, 2) := by decide +kernel
theorem dX8_worker_106 : decode cX8_worker 106 = .ok (.iaload, 1) := by decide +kernel
theorem dX8_worker_107 : decode cX8_worker 107 = .ok (.aload_n 0, 1) := by decide +kernel
theorem dX8_worker_108 : decode cX8_worker 108 = .ok (.getfield 103, 3) := by decide +kernel
theorem dX8_worker_111 : decode cX8_worker 111 = .ok (.iload 4, 2) := by decide +kernel
theorem dX8_worker_113 : decode cX8_worker 113 = .ok (.iaload, 1) := by decide +kernel
theorem dX8_worker_114 : decode cX8_worker 114 = .ok (.isub, 1) := by decide +kernel
theorem dX8_worker_115 : decode cX8_worker 115 = .ok (.goto 4, 3) := by decide +kernel
theorem dX8_worker_118 : decode cX8_worker 118 = .ok (.iconst 0, 1) := by decide +kernel
theorem dX8_worker_119 : decode cX8_worker 119 = .ok (.ireturn, 1) := by decide +kernel
theorem dX8_worker_120 : decode cX8_worker 120 = .ok (.iconst (-1), 1) := by decide +kernel
theorem dX8_worker_121 : decode cX8_worker 121 = .ok (.ireturn, 1) := by decide +kernel
theorem dX8_done_0 : decode cX8_done 0 = .ok (.iload_n 1, 1) := by decide +kernel
theorem dX8_done_1 : decode cX8_done 1 = .ok (.ifCond .lt 11, 3) := by decide +kernel
theorem dX8_done_4 : decode cX8_done 4 = .ok (.iload_n 1, 1) := by decide +kernel
theorem dX8_done_5 : decode cX8_done 5 = .ok (.aload_n 0, 1) := by decide +kernel
theorem dX8_done_6 : decode cX8_done 6 = .ok (.getfield 187, 3) := by decide +kernel
theorem dX8_done_9 : decode cX8_done 9 = .ok (.if_icmp .lt 7, 3) := by decide +kernel
theorem dX8_done_12 : decode cX8_done 12 = .ok (.iconst (-1), 1) := by decide +kernel
theorem dX8_done_13 : decode cX8_done 13 = .ok (.goto 9, 3) := by decide +kernel
theorem dX8_done_16 : decode cX8_done 16 = .ok (.aload_n 0, 1) := by decide +kernel
theorem dX8_done_17 : decode cX8_done 17 = .ok (.getfield 18, 3) := by decide +kernel
theorem dX8_done_20 : decode cX8_done 20 = .ok (.iload_n 1, 1) := by decide +kernel
theorem dX8_done_21 : decode cX8_done 21 = .ok (.iaload, 1) := by decide +kernel
theorem dX8_done_22 : decode cX8_done 22 = .ok (.ireturn, 1) := by decide +kernel
theorem dX8_value_0 : decode cX8_value 0 = .ok (.iload_n 1, 1) := by decide +kernel
theorem dX8_value_1 : decode cX8_value 1 = .ok (.ifCond .lt 11, 3) := by decide +kernel
theorem dX8_value_4 : decode cX8_value 4 = .ok (.iload_n 1, 1) := by decide +kernel
theorem dX8_value_5 : decode cX8_value 5 = .ok (.aload_n 0, 1) := by decide +kernel
theorem dX8_value_6 : decode cX8_value 6 = .ok (.getfield 187, 3) := by decide +kernel
theorem dX8_value_9 : decode cX8_value 9 = .ok (.if_icmp .lt 7, 3) := by decide +kernel
theorem dX8_value_12 : decode cX8_value 12 = .ok (.iconst (-1), 1) := by decide +kernel
theorem dX8_value_13 : decode cX8_value 13 = .ok (.goto 14, 3) := by decide +kernel
theorem dX8_value_16 : decode cX8_value 16 = .ok (.aload_n 0, 1) := by decide +kernel
theorem dX8_value_17 : decode cX8_value 17 = .ok (.getfield 8, 3) := by decide +kernel
theorem dX8_value_20 : decode cX8_value 20 = .ok (.aload_n 0, 1) := by decide +kernel
theorem dX8_value_21 : decode cX8_value 21 = .ok (.getfield 18, 3) := by decide +kernel
theorem dX8_value_24 : decode cX8_value 24 = .ok (.iload_n 1, 1) := by decide +kernel
theorem dX8_value_25 : decode cX8_value 25 = .ok (.iaload, 1) := by decide +kernel
theorem dX8_value_26 : decode cX8_value 26 = .ok (.iaload, 1) := by decide +kernel
theorem dX8_value_27 : decode cX8_value 27 = .ok (.ireturn, 1) := by decide +kernel
theorem dX8_events_0 : decode cX8_events 0 = .ok (.aload_n 0, 1) := by decide +kernel
theorem dX8_events_1 : decode cX8_events 1 = .ok (.getfield 148, 3) := by decide +kernel
theorem dX8_events_4 : decode cX8_events 4 = .ok (.ireturn, 1) := by decide +kernel
theorem dX8_ended_0 : decode cX8_ended 0 = .ok (.aload_n 0, 1) := by decide +kernel
theorem dX8_ended_1 : decode cX8_ended 1 = .ok (.getfield 187, 3) := by decide +kernel
theorem dX8_ended_4 : decode cX8_ended 4 = .ok (.ireturn, 1) := by decide +kernel
theorem dX8_lost_0 : decode cX8_lost 0 = .ok (.aload_n 0, 1) := by decide +kernel
theorem dX8_lost_1 : decode cX8_lost 1 = .ok (.getfield 180, 3) := by decide +kernel
theorem dX8_lost_4 : decode cX8_lost 4 = .ok (.ireturn, 1) := by decide +kernel
theorem dX8_clock_0 : decode cX8_clock 0 = .ok (.aload_n 0, 1) := by decide +kernel
theorem dX8_clock_1 : decode cX8_clock 1 = .ok (.getfield 163, 3) := by decide +kernel
theorem dX8_clock_4 : decode cX8_clock 4 = .ok (.ireturn, 1) := by decide +kernel
