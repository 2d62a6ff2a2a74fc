set_option maxRecDepth 20000 in
theorem ggL_isSo_X8_moveOf : GoodIn wsL_isSo wsX8_moveOf := goodIn_r _ [37, 8, 38, 39, 40, 41, 42, 43, 44, 45, 46, 17, 6, 18, 59, 60, 61, 62, 63, 64, 65, 66, 67, 68, 69, 70, 71, 72, 73, 74, 75, 76, 77, 82, 83] (by decide +kernel) (by decide +kernel)
set_option maxRecDepth 20000 in
theorem gL_isSo_X8_moveOf : GoodIn wsL_isSo (wsV RL 97 RX8 yX8_moveOf wsX8_moveOf) := goodIn_app (goodIn_of _ (by decide +kernel)) ggL_isSo_X8_moveOf
set_option maxRecDepth 20000 in
theorem ggL_isSo_X8_loadAt : GoodIn wsL_isSo wsX8_loadAt := goodIn_r _ [50, 8, 9, 16, 17, 6, 18, 51, 52, 53, 26, 54, 29, 31, 32, 33, 59, 60, 61, 62, 63, 64, 65, 66, 67, 68, 69, 70, 71, 72, 73, 74, 75, 76, 77, 78, 79, 80, 81] (by decide +kernel) (by decide +kernel)
set_option maxRecDepth 20000 in
theorem gL_isSo_X8_loadAt : GoodIn wsL_isSo (wsV RL 100 RX8 yX8_loadAt wsX8_loadAt) := goodIn_app (goodIn_of _ (by decide +kernel)) ggL_isSo_X8_loadAt
set_option maxRecDepth 20000 in
theorem ggL_isSo_L_load : GoodIn wsL_isSo wsL_load := goodIn_r _ [58] (by decide +kernel) (by decide +kernel)
set_option maxRecDepth 20000 in
theorem gL_isSo_L_load : GoodIn wsL_isSo (va_wsS RL 9 yL_load wsL_load) := goodIn_app (goodIn_of _ (by decide +kernel)) ggL_isSo_L_load
theorem dL_isSo_0 : decode cL_isSo 0 = .ok (.aload_n 0, 1) := by decide +kernel
theorem dL_isSo_1 : decode cL_isSo 1 = .ok (.iconst 0, 1) := by decide +kernel
theorem dL_isSo_2 : decode cL_isSo 2 = .ok (.invokevirtual 87, 3) := by decide +kernel
theorem dL_isSo_5 : decode cL_isSo 5 = .ok (.aload_n 1, 1) := by decide +kernel
theorem dL_isSo_6 : decode cL_isSo 6 = .ok (.bipush 10, 2) := by decide +kernel
theorem dL_isSo_8 : decode cL_isSo 8 = .ok (.iaload, 1) := by decide +kernel
theorem dL_isSo_9 : decode cL_isSo 9 = .ok (.if_icmp .ne 140, 3) := by decide +kernel
theorem dL_isSo_12 : decode cL_isSo 12 = .ok (.aload_n 0, 1) := by decide +kernel
theorem dL_isSo_13 : decode cL_isSo 13 = .ok (.iconst 1, 1) := by decide +kernel
theorem dL_isSo_14 : decode cL_isSo 14 = .ok (.invokevirtual 87, 3) := by decide +kernel
theorem dL_isSo_17 : decode cL_isSo 17 = .ok (.aload_n 1, 1) := by decide +kernel
theorem dL_isSo_18 : decode cL_isSo 18 = .ok (.bipush 11, 2) := by decide +kernel
theorem dL_isSo_20 : decode cL_isSo 20 = .ok (.iaload, 1) := by decide +kernel
theorem dL_isSo_21 : decode cL_isSo 21 = .ok (.if_icmp .ne 128, 3) := by decide +kernel
theorem dL_isSo_24 : decode cL_isSo 24 = .ok (.aload_n 0, 1) := by decide +kernel
theorem dL_isSo_25 : decode cL_isSo 25 = .ok (.iconst 2, 1) := by decide +kernel
theorem dL_isSo_26 : decode cL_isSo 26 = .ok (.invokevirtual 87, 3) := by decide +kernel
theorem dL_isSo_29 : decode cL_isSo 29 = .ok (.aload_n 1, 1) := by decide +kernel
theorem dL_isSo_30 : decode cL_isSo 30 = .ok (.bipush 10, 2) := by decide +kernel
theorem dL_isSo_32 : decode cL_isSo 32 = .ok (.iaload, 1) := by decide +kernel
theorem dL_isSo_33 : decode cL_isSo 33 = .ok (.aload_n 1, 1) := by decide +kernel
theorem dL_isSo_34 : decode cL_isSo 34 = .ok (.bipush 11, 2) := by decide +kernel
theorem dL_isSo_36 : decode cL_isSo 36 = .ok (.iaload, 1) := by decide +kernel
theorem dL_isSo_37 : decode cL_isSo 37 = .ok (.isub, 1) := by decide +kernel
theorem dL_isSo_38 : decode cL_isSo 38 = .ok (.aload_n 1, 1) := by decide +kernel
theorem dL_isSo_39 : decode cL_isSo 39 = .ok (.bipush 12, 2) := by decide +kernel
theorem dL_isSo_41 : decode cL_isSo 41 = .ok (.iaload, 1) := by decide +kernel
theorem dL_isSo_42 : decode cL_isSo 42 = .ok (.isub, 1) := by decide +kernel
theorem dL_isSo_43 : decode cL_isSo 43 = .ok (.if_icmp .ne 106, 3) := by decide +kernel
theorem dL_isSo_46 : decode cL_isSo 46 = .ok (.aload_n 0, 1) := by decide +kernel
theorem dL_isSo_47 : decode cL_isSo 47 = .ok (.iconst 3, 1) := by decide +kernel
theorem dL_isSo_48 : decode cL_isSo 48 = .ok (.invokevirtual 87, 3) := by decide +kernel
theorem dL_isSo_51 : decode cL_isSo 51 = .ok (.aload_n 1, 1) := by decide +kernel
theorem dL_isSo_52 : decode cL_isSo 52 = .ok (.bipush 13, 2) := by decide +kernel
theorem dL_isSo_54 : decode cL_isSo 54 = .ok (.iaload, 1) := by decide +kernel
theorem dL_isSo_55 : decode cL_isSo 55 = .ok (.if_icmp .ne 94, 3) := by decide +kernel
theorem dL_isSo_58 : decode cL_isSo 58 = .ok (.aload_n 0, 1) := by decide +kernel
theorem dL_isSo_59 : decode cL_isSo 59 = .ok (.iconst 4, 1) := by decide +kernel
theorem dL_isSo_60 : decode cL_isSo 60 = .ok (.invokevirtual 87, 3) := by decide +kernel
theorem dL_isSo_63 : decode cL_isSo 63 = .ok (.aload_n 1, 1) := by decide +kernel
theorem dL_isSo_64 : decode cL_isSo 64 = .ok (.bipush 14, 2) := by decide +kernel
theorem dL_isSo_66 : decode cL_isSo 66 = .ok (.iaload, 1) := by decide +kernel
theorem dL_isSo_67 : decode cL_isSo 67 = .ok (.if_icmp .ne 82, 3) := by decide +kernel
theorem dL_isSo_70 : decode cL_isSo 70 = .ok (.aload_n 0, 1) := by decide +kernel
theorem dL_isSo_71 : decode cL_isSo 71 = .ok (.iconst 5, 1) := by decide +kernel
theorem dL_isSo_72 : decode cL_isSo 72 = .ok (.invokevirtual 87, 3) := by decide +kernel
theorem dL_isSo_75 : decode cL_isSo 75 = .ok (.aload_n 1, 1) := by decide +kernel
theorem dL_isSo_76 : decode cL_isSo 76 = .ok (.bipush 15, 2) := by decide +kernel
theorem dL_isSo_78 : decode cL_isSo 78 = .ok (.iaload, 1) := by decide +kernel
theorem dL_isSo_79 : decode cL_isSo 79 = .ok (.if_icmp .ne 70, 3) := by decide +kernel
theorem dL_isSo_82 : decode cL_isSo 82 = .ok (.aload_n 0, 1) := by decide +kernel
theorem dL_isSo_83 : decode cL_isSo 83 = .ok (.bipush 6, 2) := by decide +kernel
theorem dL_isSo_85 : decode cL_isSo 85 = .ok (.invokevirtual 87, 3) := by decide +kernel
theorem dL_isSo_88 : decode cL_isSo 88 = .ok (.aload_n 1, 1) := by decide +kernel
theorem dL_isSo_89 : decode cL_isSo 89 = .ok (.bipush 16, 2) := by decide +kernel
theorem dL_isSo_91 : decode cL_isSo 91 = .ok (.iaload, 1) := by decide +kernel
theorem dL_isSo_92 : decode cL_isSo 92 = .ok (.if_icmp .ne 57, 3) := by decide +kernel
theorem dL_isSo_95 : decode cL_isSo 95 = .ok (.aload_n 0, 1) := by decide +kernel
theorem dL_isSo_96 : decode cL_isSo 96 = .ok (.bipush 7, 2) := by decide +kernel
theorem dL_isSo_98 : decode cL_isSo 98 = .ok (.invokevirtual 87, 3) := by decide +kernel
theorem dL_isSo_101 : decode cL_isSo 101 = .ok (.aload_n 1, 1) := by decide +kernel
theorem dL_isSo_102 : decode cL_isSo 102 = .ok (.bipush 17, 2) := by decide +kernel
theorem dL_isSo_104 : decode cL_isSo 104 = .ok (.iaload, 1) := by decide +kernel
theorem dL_isSo_105 : decode cL_isSo 105 = .ok (.if_icmp .ne 44, 3) := by decide +kernel
theorem dL_isSo_108 : decode cL_isSo 108 = .ok (.aload_n 0, 1) := by decide +kernel
theorem dL_isSo_109 : decode cL_isSo 109 = .ok (.bipush 8, 2) := by decide +kernel
theorem dL_isSo_111 : decode cL_isSo 111 = .ok (.invokevirtual 87, 3) := by decide +kernel
theorem dL_isSo_114 : decode cL_isSo 114 = .ok (.aload_n 1, 1) := by decide +kernel
theorem dL_isSo_115 : decode cL_isSo 115 = .ok (.bipush 8, 2) := by decide +kernel
theorem dL_isSo_117 : decode cL_isSo 117 = .ok (.iaload, 1) := by decide +kernel
theorem dL_isSo_118 : decode cL_isSo 118 = .ok (.if_icmp .ne 31, 3) := by decide +kernel
theorem dL_isSo_121 : decode cL_isSo 121 = .ok (.aload_n 0, 1) := by decide +kernel
theorem dL_isSo_122 : decode cL_isSo 122 = .ok (.bipush 9, 2) := by decide +kernel
theorem dL_isSo_124 : decode cL_isSo 124 = .ok (.invokevirtual 87, 3) := by decide +kernel
theorem dL_isSo_127 : decode cL_isSo 127 = .ok (.aload_n 1, 1) := by decide +kernel
theorem dL_isSo_128 : decode cL_isSo 128 = .ok (.bipush 9, 2) := by decide +kernel
theorem dL_isSo_130 : decode cL_isSo 130 = .ok (.iaload, 1) := by decide +kernel
theorem dL_isSo_131 : decode cL_isSo 131 = .ok (.if_icmp .ne 18, 3) := by decide +kernel
theorem dL_isSo_134 : decode cL_isSo 134 = .ok (.aload_n 0, 1) := by decide +kernel
theorem dL_isSo_135 : decode cL_isSo 135 = .ok (.bipush 10, 2) := by decide +kernel
theorem dL_isSo_137 : decode cL_isSo 137 = .ok (.invokevirtual 87, 3) := by decide +kernel
theorem dL_isSo_140 : decode cL_isSo 140 = .ok (.ldc 90, 2) := by decide +kernel
theorem dL_isSo_142 : decode cL_isSo 142 = .ok (.if_icmp .ne 7, 3) := by decide +kernel
theorem dL_isSo_145 : decode cL_isSo 145 = .ok (.iconst 1, 1) := by decide +kernel
theorem dL_isSo_146 : decode cL_isSo 146 = .ok (.goto 4, 3) := by decide +kernel
theorem dL_isSo_149 : decode cL_isSo 149 = .ok (.iconst 0, 1) := by decide +kernel
theorem dL_isSo_150 : decode cL_isSo 150 = .ok (.istore 4, 2) := by decide +kernel
theorem dL_isSo_152 : decode cL_isSo 152 = .ok (.iconst 0, 1) := by decide +kernel
theorem dL_isSo_153 : decode cL_isSo 153 = .ok (.istore 5, 2) := by decide +kernel
theorem dL_isSo_155 : decode cL_isSo 155 = .ok (.iload 5, 2) := by decide +kernel
theorem dL_isSo_157 : decode cL_isSo 157 = .ok (.bipush 8, 2) := by decide +kernel
theorem dL_isSo_159 : decode cL_isSo 159 = .ok (.if_icmp .ge 37, 3) := by decide +kernel
theorem dL_isSo_162 : decode cL_isSo 162 = .ok (.iload 4, 2) := by decide +kernel
theorem dL_isSo_164 : decode cL_isSo 164 = .ok (.ifCond .eq 32, 3) := by decide +kernel
theorem dL_isSo_167 : decode cL_isSo 167 = .ok (.aload_n 0, 1) := by decide +kernel
theorem dL_isSo_168 : decode cL_isSo 168 = .ok (.bipush 10, 2) := by decide +kernel
theorem dL_isSo_170 : decode cL_isSo 170 = .ok (.iload 5, 2) := by decide +kernel
theorem dL_isSo_172 : decode cL_isSo 172 = .ok (.iadd, 1) := by decide +kernel
theorem dL_isSo_173 : decode cL_isSo 173 = .ok (.invokevirtual 91, 3) := by decide +kernel
theorem dL_isSo_176 : decode cL_isSo 176 = .ok (.aload_n 1, 1) := by decide +kernel
theorem dL_isSo_177 : decode cL_isSo 177 = .ok (.iload 5, 2) := by decide +kernel
theorem dL_isSo_179 : decode cL_isSo 179 = .ok (.iaload, 1) := by decide +kernel
theorem dL_isSo_180 : decode cL_isSo 180 = .ok (.if_icmp .ne 7, 3) := by decide +kernel
theorem dL_isSo_183 : decode cL_isSo 183 = .ok (.iconst 1, 1) := by decide +kernel
theorem dL_isSo_184 : decode cL_isSo 184 = .ok (.goto 4, 3) := by decide +kernel
theorem dL_isSo_187 : decode cL_isSo 187 = .ok (.iconst 0, 1) := by decide +kernel
theorem dL_isSo_188 : decode cL_isSo 188 = .ok (.istore 4, 2) := by decide +kernel
theorem dL_isSo_190 : decode cL_isSo 190 = .ok (.iinc 5 1, 3) := by decide +kernel
theorem dL_isSo_193 : decode cL_isSo 193 = .ok (.goto (-38), 3) := by decide +kernel
theorem dL_isSo_196 : decode cL_isSo 196 = .ok (.iconst 0, 1) := by decide +kernel
theorem dL_isSo_197 : decode cL_isSo 197 = .ok (.istore 5, 2) := by decide +kernel
theorem dL_isSo_199 : decode cL_isSo 199 = .ok (.iload 5, 2) := by decide +kernel
theorem dL_isSo_201 : decode cL_isSo 201 = .ok (.bipush 18, 2) := by decide +kernel
theorem dL_isSo_203 : decode cL_isSo 203 = .ok (.if_icmp .ge 56, 3) := by decide +kernel
theorem dL_isSo_206 : decode cL_isSo 206 = .ok (.iload 4, 2) := by decide +kernel
theorem dL_isSo_208 : decode cL_isSo 208 = .ok (.ifCond .eq 51, 3) := by decide +kernel
theorem dL_isSo_211 : decode cL_isSo 211 = .ok (.aload_n 0, 1) := by decide +kernel
theorem dL_isSo_212 : decode cL_isSo 212 = .ok (.iload 5, 2) := by decide +kernel
theorem dL_isSo_214 : decode cL_isSo 214 = .ok (.iconst 3, 1) := by decide +kernel
theorem dL_isSo_215 : decode cL_isSo 215 = .ok (.idiv, 1) := by decide +kernel
theorem dL_isSo_216 : decode cL_isSo 216 = .ok (.iload 5, 2) := by decide +kernel
theorem dL_isSo_218 : decode cL_isSo 218 = .ok (.iconst 3, 1) := by decide +kernel
theorem dL_isSo_219 : decode cL_isSo 219 = .ok (.irem, 1) := by decide +kernel
theorem dL_isSo_220 : decode cL_isSo 220 = .ok (.invokevirtual 94, 3) := by decide +kernel
theorem dL_isSo_223 : decode cL_isSo 223 = .ok (.iload 5, 2) := by decide +kernel
theorem dL_isSo_225 : decode cL_isSo 225 = .ok (.iconst 3, 1) := by decide +kernel
theorem dL_isSo_226 : decode cL_isSo 226 = .ok (.idiv, 1) := by decide +kernel
theorem dL_isSo_227 : decode cL_isSo 227 = .ok (.aload_n 1, 1) := by decide +kernel
theorem dL_isSo_228 : decode cL_isSo 228 = .ok (.bipush 18, 2) := by decide +kernel
theorem dL_isSo_230 : decode cL_isSo 230 = .ok (.iaload, 1) := by decide +kernel
theorem dL_isSo_231 : decode cL_isSo 231 = .ok (.if_icmp .ge 10, 3) := by decide +kernel
theorem dL_isSo_234 : decode cL_isSo 234 = .ok (.aload_n 2, 1) := by decide +kernel
theorem dL_isSo_235 : decode cL_isSo 235 = .ok (.iload 5, 2) := by decide +kernel
theorem dL_isSo_237 : decode cL_isSo 237 = .ok (.iaload, 1) := by decide +kernel
theorem dL_isSo_238 : decode cL_isSo 238 = .ok (.goto 5, 3) := by decide +kernel
theorem dL_isSo_241 : decode cL_isSo 241 = .ok (.ldc 24, 2) := by decide +kernel
theorem dL_isSo_243 : decode cL_isSo 243 = .ok (.if_icmp .ne 7, 3) := by decide +kernel
theorem dL_isSo_246 : decode cL_isSo 246 = .ok (.iconst 1, 1) := by decide +kernel
theorem dL_isSo_247 : decode cL_isSo 247 = .ok (.goto 4, 3) := by decide +kernel
theorem dL_isSo_250 : decode cL_isSo 250 = .ok (.iconst 0, 1) := by decide +kernel
theorem dL_isSo_251 : decode cL_isSo 251 = .ok (.istore 4, 2) := by decide +kernel
theorem dL_isSo_253 : decode cL_isSo 253 = .ok (.iinc 5 1, 3) := by decide +kernel
theorem dL_isSo_256 : decode cL_isSo 256 = .ok (.goto (-57), 3) := by decide +kernel
theorem dL_isSo_259 : decode cL_isSo 259 = .ok (.iconst 0, 1) := by decide +kernel
theorem dL_isSo_260 : decode cL_isSo 260 = .ok (.istore 5, 2) := by decide +kernel
theorem dL_isSo_262 : decode cL_isSo 262 = .ok (.iload 5, 2) := by decide +kernel
theorem dL_isSo_264 : decode cL_isSo 264 = .ok (.bipush 25, 2) := by decide +kernel
theorem dL_isSo_266 : decode cL_isSo 266 = .ok (.if_icmp .ge 57, 3) := by decide +kernel
theorem dL_isSo_269 : decode cL_isSo 269 = .ok (.iload 4, 2) := by decide +kernel
theorem dL_isSo_271 : decode cL_isSo 271 = .ok (.ifCond .eq 52, 3) := by decide +kernel
theorem dL_isSo_274 : decode cL_isSo 274 = .ok (.aload_n 0, 1) := by decide +kernel
theorem dL_isSo_275 : decode cL_isSo 275 = .ok (.iload 5, 2) := by decide +kernel
theorem dL_isSo_277 : decode cL_isSo 277 = .ok (.iconst 5, 1) := by decide +kernel
theorem dL_isSo_278 : decode cL_isSo 278 = .ok (.idiv, 1) := by decide +kernel
theorem dL_isSo_279 : decode cL_isSo 279 = .ok (.iload 5, 2) := by decide +kernel
theorem dL_isSo_281 : decode cL_isSo 281 = .ok (.iconst 5, 1) := by decide +kernel
theorem dL_isSo_282 : decode cL_isSo 282 = .ok (.irem, 1) := by decide +kernel
theorem dL_isSo_283 : decode cL_isSo 283 = .ok (.invokevirtual 97, 3) := by decide +kernel
theorem dL_isSo_286 : decode cL_isSo 286 = .ok (.iload 5, 2) := by decide +kernel
theorem dL_isSo_288 : decode cL_isSo 288 = .ok (.iconst 5, 1) := by decide +kernel
theorem dL_isSo_289 : decode cL_isSo 289 = .ok (.idiv, 1) := by decide +kernel
theorem dL_isSo_290 : decode cL_isSo 290 = .ok (.aload_n 3, 1) := by decide +kernel
theorem dL_isSo_291 : decode cL_isSo 291 = .ok (.iconst 0, 1) := by decide +kernel
theorem dL_isSo_292 : decode cL_isSo 292 = .ok (.iaload, 1) := by decide +kernel
theorem dL_isSo_293 : decode cL_isSo 293 = .ok (.if_icmp .ge 12, 3) := by decide +kernel
theorem dL_isSo_296 : decode cL_isSo 296 = .ok (.aload_n 3, 1) := by decide +kernel
theorem dL_isSo_297 : decode cL_isSo 297 = .ok (.iconst 1, 1) := by decide +kernel
theorem dL_isSo_298 : decode cL_isSo 298 = .ok (.iload 5, 2) := by decide +kernel
theorem dL_isSo_300 : decode cL_isSo 300 = .ok (.iadd, 1) := by decide +kernel
theorem dL_isSo_301 : decode cL_isSo 301 = .ok (.iaload, 1) := by decide +kernel
theorem dL_isSo_302 : decode cL_isSo 302 = .ok (.goto 5, 3) := by decide +kernel
theorem dL_isSo_305 : decode cL_isSo 305 = .ok (.ldc 24, 2) := by decide +kernel
theorem dL_isSo_307 : decode cL_isSo 307 = .ok (.if_icmp .ne 7, 3) := by decide +kernel
theorem dL_isSo_310 : decode cL_isSo 310 = .ok (.iconst 1, 1) := by decide +kernel
theorem dL_isSo_311 : decode cL_isSo 311 = .ok (.goto 4, 3) := by decide +kernel
theorem dL_isSo_314 : decode cL_isSo 314 = .ok (.iconst 0, 1) := by decide +kernel
theorem dL_isSo_315 : decode cL_isSo 315 = .ok (.istore 4, 2) := by decide +kernel
theorem dL_isSo_317 : decode cL_isSo 317 = .ok (.iinc 5 1, 3) := by decide +kernel
theorem dL_isSo_320 : decode cL_isSo 320 = .ok (.goto (-58), 3) := by decide +kernel
theorem dL_isSo_323 : decode cL_isSo 323 = .ok (.iload 4, 2) := by decide +kernel
theorem dL_isSo_325 : decode cL_isSo 325 = .ok (.ifCond .eq 81, 3) := by decide +kernel
theorem dL_isSo_328 : decode cL_isSo 328 = .ok (.aload_n 1, 1) := by decide +kernel
theorem dL_isSo_329 : decode cL_isSo 329 = .ok (.bipush 15, 2) := by decide +kernel
theorem dL_isSo_331 : decode cL_isSo 331 = .ok (.iaload, 1) := by decide +kernel
theorem dL_isSo_332 : decode cL_isSo 332 = .ok (.ifCond .eq 34, 3) := by decide +kernel
theorem dL_isSo_335 : decode cL_isSo 335 = .ok (.aload_n 1, 1) := by decide +kernel
theorem dL_isSo_336 : decode cL_isSo 336 = .ok (.bipush 11, 2) := by decide +kernel
theorem dL_isSo_338 : decode cL_isSo 338 = .ok (.iaload, 1) := by decide +kernel
theorem dL_isSo_339 : decode cL_isSo 339 = .ok (.aload_n 1, 1) := by decide +kernel
theorem dL_isSo_340 : decode cL_isSo 340 = .ok (.iconst 5, 1) := by decide +kernel
theorem dL_isSo_341 : decode cL_isSo 341 = .ok (.iaload, 1) := by decide +kernel
theorem dL_isSo_342 : decode cL_isSo 342 = .ok (.if_icmp .gt 24, 3) := by decide +kernel
theorem dL_isSo_345 : decode cL_isSo 345 = .ok (.aload_n 0, 1) := by decide +kernel
theorem dL_isSo_346 : decode cL_isSo 346 = .ok (.iconst 4, 1) := by decide +kernel
theorem dL_isSo_347 : decode cL_isSo 347 = .ok (.invokevirtual 87, 3) := by decide +kernel
theorem dL_isSo_350 : decode cL_isSo 350 = .ok (.iconst 1, 1) := by decide +kernel
theorem dL_isSo_351 : decode cL_isSo 351 = .ok (.if_icmp .eq 15, 3) := by decide +kernel
theorem dL_isSo_354 : decode cL_isSo 354 = .ok (.aload_n 0, 1) := by decide +kernel
theorem dL_isSo_355 : decode cL_isSo 355 = .ok (.iconst 4, 1) := by decide +kernel
theorem dL_isSo_356 : decode cL_isSo 356 = .ok (.invokevirtual 87, 3) := by decide +kernel
theorem dL_isSo_359 : decode cL_isSo 359 = .ok (.aload_n 1, 1) := by decide +kernel
theorem dL_isSo_360 : decode cL_isSo 360 = .ok (.bipush 14, 2) := by decide +kernel
theorem dL_isSo_362 : decode cL_isSo 362 = .ok (.iaload, 1) := by decide +kernel
theorem dL_isSo_363 : decode cL_isSo 363 = .ok (.if_icmp .ne 43, 3) := by decide +kernel
theorem dL_isSo_366 : decode cL_isSo 366 = .ok (.aload_n 0, 1) := by decide +kernel
theorem dL_isSo_367 : decode cL_isSo 367 = .ok (.bipush 6, 2) := by decide +kernel
theorem dL_isSo_369 : decode cL_isSo 369 = .ok (.invokevirtual 87, 3) := by decide +kernel
theorem dL_isSo_372 : decode cL_isSo 372 = .ok (.aload_n 0, 1) := by decide +kernel
theorem dL_isSo_373 : decode cL_isSo 373 = .ok (.iconst 5, 1) := by decide +kernel
theorem dL_isSo_374 : decode cL_isSo 374 = .ok (.invokevirtual 87, 3) := by decide +kernel
theorem dL_isSo_377 : decode cL_isSo 377 = .ok (.if_icmp .gt 29, 3) := by decide +kernel
theorem dL_isSo_380 : decode cL_isSo 380 = .ok (.aload_n 0, 1) := by decide +kernel
theorem dL_isSo_381 : decode cL_isSo 381 = .ok (.iconst 1, 1) := by decide +kernel
theorem dL_isSo_382 : decode cL_isSo 382 = .ok (.invokevirtual 87, 3) := by decide +kernel
theorem dL_isSo_385 : decode cL_isSo 385 = .ok (.sipush (-3000), 3) := by decide +kernel
theorem dL_isSo_388 : decode cL_isSo 388 = .ok (.if_icmp .lt 18, 3) := by decide +kernel
theorem dL_isSo_391 : decode cL_isSo 391 = .ok (.aload_n 0, 1) := by decide +kernel
theorem dL_isSo_392 : decode cL_isSo 392 = .ok (.iconst 1, 1) := by decide +kernel
theorem dL_isSo_393 : decode cL_isSo 393 = .ok (.invokevirtual 87, 3) := by decide +kernel
theorem dL_isSo_396 : decode cL_isSo 396 = .ok (.sipush 3000, 3) := by decide +kernel
theorem dL_isSo_399 : decode cL_isSo 399 = .ok (.if_icmp .gt 7, 3) := by decide +kernel
theorem dL_isSo_402 : decode cL_isSo 402 = .ok (.iconst 1, 1) := by decide +kernel
theorem dL_isSo_403 : decode cL_isSo 403 = .ok (.goto 4, 3) := by decide +kernel
theorem dL_isSo_406 : decode cL_isSo 406 = .ok (.iconst 0, 1) := by decide +kernel
theorem dL_isSo_407 : decode cL_isSo 407 = .ok (.istore 4, 2) := by decide +kernel
theorem dL_isSo_409 : decode cL_isSo 409 = .ok (.iload 4, 2) := by decide +kernel
theorem dL_isSo_411 : decode cL_isSo 411 = .ok (.ifCond .eq 72, 3) := by decide +kernel
theorem dL_isSo_414 : decode cL_isSo 414 = .ok (.aload_n 0, 1) := by decide +kernel
theorem dL_isSo_415 : decode cL_isSo 415 = .ok (.iconst 0, 1) := by decide +kernel
theorem dL_isSo_416 : decode cL_isSo 416 = .ok (.invokevirtual 91, 3) := by decide +kernel
theorem dL_isSo_419 : decode cL_isSo 419 = .ok (.aload_n 1, 1) := by decide +kernel
theorem dL_isSo_420 : decode cL_isSo 420 = .ok (.bipush 18, 2) := by decide +kernel
theorem dL_isSo_422 : decode cL_isSo 422 = .ok (.iaload, 1) := by decide +kernel
theorem dL_isSo_423 : decode cL_isSo 423 = .ok (.if_icmp .ne 60, 3) := by decide +kernel
theorem dL_isSo_426 : decode cL_isSo 426 = .ok (.aload_n 0, 1) := by decide +kernel
theorem dL_isSo_427 : decode cL_isSo 427 = .ok (.iconst 1, 1) := by decide +kernel
theorem dL_isSo_428 : decode cL_isSo 428 = .ok (.invokevirtual 91, 3) := by decide +kernel
theorem dL_isSo_431 : decode cL_isSo 431 = .ok (.aload_n 3, 1) := by decide +kernel
theorem dL_isSo_432 : decode cL_isSo 432 = .ok (.iconst 0, 1) := by decide +kernel
theorem dL_isSo_433 : decode cL_isSo 433 = .ok (.iaload, 1) := by decide +kernel
theorem dL_isSo_434 : decode cL_isSo 434 = .ok (.if_icmp .ne 49, 3) := by decide +kernel
theorem dL_isSo_437 : decode cL_isSo 437 = .ok (.aload_n 0, 1) := by decide +kernel
theorem dL_isSo_438 : decode cL_isSo 438 = .ok (.iconst 3, 1) := by decide +kernel
theorem dL_isSo_439 : decode cL_isSo 439 = .ok (.invokevirtual 91, 3) := by decide +kernel
theorem dL_isSo_442 : decode cL_isSo 442 = .ok (.ifCond .ne 41, 3) := by decide +kernel
theorem dL_isSo_445 : decode cL_isSo 445 = .ok (.aload_n 0, 1) := by decide +kernel
theorem dL_isSo_446 : decode cL_isSo 446 = .ok (.aload_n 1, 1) := by decide +kernel
theorem dL_isSo_447 : decode cL_isSo 447 = .ok (.bipush 11, 2) := by decide +kernel
theorem dL_isSo_449 : decode cL_isSo 449 = .ok (.iaload, 1) := by decide +kernel
theorem dL_isSo_450 : decode cL_isSo 450 = .ok (.invokevirtual 100, 3) := by decide +kernel
theorem dL_isSo_453 : decode cL_isSo 453 = .ok (.aload_n 1, 1) := by decide +kernel
theorem dL_isSo_454 : decode cL_isSo 454 = .ok (.aload_n 2, 1) := by decide +kernel
theorem dL_isSo_455 : decode cL_isSo 455 = .ok (.aload_n 1, 1) := by decide +kernel
theorem dL_isSo_456 : decode cL_isSo 456 = .ok (.bipush 11, 2) := by decide +kernel
theorem dL_isSo_458 : decode cL_isSo 458 = .ok (.iaload, 1) := by decide +kernel
theorem dL_isSo_459 : decode cL_isSo 459 = .ok (.invokestatic 9, 3) := by decide +kernel
theorem dL_isSo_462 : decode cL_isSo 462 = .ok (.if_icmp .ne 21, 3) := by decide +kernel
theorem dL_isSo_465 : decode cL_isSo 465 = .ok (.aload_n 0, 1) := by decide +kernel
theorem dL_isSo_466 : decode cL_isSo 466 = .ok (.iconst 0, 1) := by decide +kernel
theorem dL_isSo_467 : decode cL_isSo 467 = .ok (.invokevirtual 100, 3) := by decide +kernel
theorem dL_isSo_470 : decode cL_isSo 470 = .ok (.aload_n 1, 1) := by decide +kernel
theorem dL_isSo_471 : decode cL_isSo 471 = .ok (.aload_n 2, 1) := by decide +kernel
theorem dL_isSo_472 : decode cL_isSo 472 = .ok (.iconst 0, 1) := by decide +kernel
theorem dL_isSo_473 : decode cL_isSo 473 = .ok (.invokestatic 9, 3) := by decide +kernel
theorem dL_isSo_476 : decode cL_isSo 476 = .ok (.if_icmp .ne 7, 3) := by decide +kernel
theorem dL_isSo_479 : decode cL_isSo 479 = .ok (.iconst 1, 1) := by decide +kernel
theorem dL_isSo_480 : decode cL_isSo 480 = .ok (.goto 4, 3) := by decide +kernel
theorem dL_isSo_483 : decode cL_isSo 483 = .ok (.iconst 0, 1) := by decide +kernel
theorem dL_isSo_484 : decode cL_isSo 484 = .ok (.ireturn, 1) := by decide +kernel
abbrev vwCl : List vw_C := [(RX0, TX0, 1), (RX1, TX1, 2), (RX2, TX2, 4), (RX3, TX3, 2), (RX4, TX4, 5), (RX5, TX5, 4), (RX6, TX6, 6), (RX7, TX7, 13), (RX8, TX8, 6)]
