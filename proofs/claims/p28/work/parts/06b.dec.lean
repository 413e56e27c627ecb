set_option maxRecDepth 20000 in
theorem ggL_holds_X7_personOf : GoodIn wsL_holds wsX7_personOf := goodIn_r _ [59, 8, 60, 61, 62, 24, 63, 28, 30, 64, 65, 66, 34, 67, 36, 47, 4, 48, 68, 69, 70, 52, 71, 72, 73, 74, 75, 76, 77, 55, 42, 43, 44, 45, 46, 78, 79, 80, 81, 82, 83, 32, 33, 35, 41, 136, 137, 138, 139, 140, 141, 142, 153, 154, 155, 156, 157, 164, 165, 166, 167, 158, 159, 160, 161, 162, 163] (by decide +kernel) (by decide +kernel)
set_option maxRecDepth 20000 in
theorem gL_holds_X7_personOf : GoodIn wsL_holds (wsV RL 26 RX7 yX7_personOf wsX7_personOf) := goodIn_app (goodIn_of _ (by decide +kernel)) ggL_holds_X7_personOf
set_option maxRecDepth 20000 in
theorem ggL_holds_X7_mealOf : GoodIn wsL_holds wsX7_mealOf := goodIn_r _ [87, 8, 88, 89, 90, 24, 91, 27, 64, 65, 66, 34, 67, 36, 47, 4, 48, 41, 42, 43, 44, 45, 46, 92, 93, 94, 136, 137, 138, 139, 140, 141, 142, 153, 154, 155, 156, 157, 164, 165, 166, 167] (by decide +kernel) (by decide +kernel)
set_option maxRecDepth 20000 in
theorem gL_holds_X7_mealOf : GoodIn wsL_holds (wsV RL 23 RX7 yX7_mealOf wsX7_mealOf) := goodIn_app (goodIn_of _ (by decide +kernel)) ggL_holds_X7_mealOf
set_option maxRecDepth 20000 in
theorem ggL_holds_X7_lockerOf : GoodIn wsL_holds wsX7_lockerOf := goodIn_r _ [98, 8, 99, 100, 101, 24, 102, 26, 30, 64, 65, 66, 34, 67, 36, 47, 4, 48, 103, 104, 105, 52, 106, 82, 83, 32, 33, 35, 55, 42, 43, 44, 45, 46, 41, 136, 137, 138, 139, 140, 141, 142, 153, 154, 155, 156, 157, 164, 165, 166, 167, 158, 159, 160, 161, 162, 163] (by decide +kernel) (by decide +kernel)
set_option maxRecDepth 20000 in
theorem gL_holds_X7_lockerOf : GoodIn wsL_holds (wsV RL 19 RX7 yX7_lockerOf wsX7_lockerOf) := goodIn_app (goodIn_of _ (by decide +kernel)) ggL_holds_X7_lockerOf
set_option maxRecDepth 20000 in
theorem ggL_holds_X7_volunteerOf : GoodIn wsL_holds wsX7_volunteerOf := goodIn_r _ [110, 8, 111, 112, 113, 24, 114, 29, 30, 64, 65, 66, 34, 67, 36, 47, 4, 48, 115, 116, 117, 52, 118, 82, 83, 32, 33, 35, 55, 42, 43, 44, 45, 46, 119, 120, 121, 122, 123, 73, 74, 75, 76, 77, 41, 136, 137, 138, 139, 140, 141, 142, 153, 154, 155, 156, 157, 164, 165, 166, 167, 158, 159, 160, 161, 162, 163] (by decide +kernel) (by decide +kernel)
set_option maxRecDepth 20000 in
theorem gL_holds_X7_volunteerOf : GoodIn wsL_holds (wsV RL 29 RX7 yX7_volunteerOf wsX7_volunteerOf) := goodIn_app (goodIn_of _ (by decide +kernel)) ggL_holds_X7_volunteerOf
set_option maxRecDepth 20000 in
theorem ggL_holds_X7_shareBits : GoodIn wsL_holds wsX7_shareBits := goodIn_r _ [127, 8, 128, 129, 130, 24, 131, 37, 38, 39, 40, 27, 31, 32, 33, 34, 35, 36, 41, 42, 43, 44, 45, 46, 47, 4, 48, 132, 133, 134, 135, 136, 137, 138, 139, 140, 141, 142, 153, 154, 155, 156, 157, 164, 165, 166, 167] (by decide +kernel) (by decide +kernel)
set_option maxRecDepth 20000 in
theorem gL_holds_X7_shareBits : GoodIn wsL_holds (wsV RL 34 RX7 yX7_shareBits wsX7_shareBits) := goodIn_app (goodIn_of _ (by decide +kernel)) ggL_holds_X7_shareBits
theorem dL_holds_0 : decode cL_holds 0 = .ok (.iconst 0, 1) := by decide +kernel
theorem dL_holds_1 : decode cL_holds 1 = .ok (.istore_n 1, 1) := by decide +kernel
theorem dL_holds_2 : decode cL_holds 2 = .ok (.iconst 0, 1) := by decide +kernel
theorem dL_holds_3 : decode cL_holds 3 = .ok (.istore_n 2, 1) := by decide +kernel
theorem dL_holds_4 : decode cL_holds 4 = .ok (.iload_n 2, 1) := by decide +kernel
theorem dL_holds_5 : decode cL_holds 5 = .ok (.aload_n 0, 1) := by decide +kernel
theorem dL_holds_6 : decode cL_holds 6 = .ok (.iconst 2, 1) := by decide +kernel
theorem dL_holds_7 : decode cL_holds 7 = .ok (.invokevirtual 13, 3) := by decide +kernel
theorem dL_holds_10 : decode cL_holds 10 = .ok (.if_icmp .ge 145, 3) := by decide +kernel
theorem dL_holds_13 : decode cL_holds 13 = .ok (.aload_n 0, 1) := by decide +kernel
theorem dL_holds_14 : decode cL_holds 14 = .ok (.iload_n 2, 1) := by decide +kernel
theorem dL_holds_15 : decode cL_holds 15 = .ok (.iconst 3, 1) := by decide +kernel
theorem dL_holds_16 : decode cL_holds 16 = .ok (.invokevirtual 26, 3) := by decide +kernel
theorem dL_holds_19 : decode cL_holds 19 = .ok (.istore_n 3, 1) := by decide +kernel
theorem dL_holds_20 : decode cL_holds 20 = .ok (.iload_n 1, 1) := by decide +kernel
theorem dL_holds_21 : decode cL_holds 21 = .ok (.iload_n 3, 1) := by decide +kernel
theorem dL_holds_22 : decode cL_holds 22 = .ok (.ifCond .lt 7, 3) := by decide +kernel
theorem dL_holds_25 : decode cL_holds 25 = .ok (.iconst 1, 1) := by decide +kernel
theorem dL_holds_26 : decode cL_holds 26 = .ok (.goto 4, 3) := by decide +kernel
theorem dL_holds_29 : decode cL_holds 29 = .ok (.iconst 0, 1) := by decide +kernel
theorem dL_holds_30 : decode cL_holds 30 = .ok (.iadd, 1) := by decide +kernel
theorem dL_holds_31 : decode cL_holds 31 = .ok (.istore_n 1, 1) := by decide +kernel
theorem dL_holds_32 : decode cL_holds 32 = .ok (.iload_n 3, 1) := by decide +kernel
theorem dL_holds_33 : decode cL_holds 33 = .ok (.bipush (-4), 2) := by decide +kernel
theorem dL_holds_35 : decode cL_holds 35 = .ok (.if_icmp .eq 63, 3) := by decide +kernel
theorem dL_holds_38 : decode cL_holds 38 = .ok (.aload_n 0, 1) := by decide +kernel
theorem dL_holds_39 : decode cL_holds 39 = .ok (.iload_n 3, 1) := by decide +kernel
theorem dL_holds_40 : decode cL_holds 40 = .ok (.iconst 0, 1) := by decide +kernel
theorem dL_holds_41 : decode cL_holds 41 = .ok (.invokevirtual 23, 3) := by decide +kernel
theorem dL_holds_44 : decode cL_holds 44 = .ok (.iconst 1, 1) := by decide +kernel
theorem dL_holds_45 : decode cL_holds 45 = .ok (.if_icmp .ne 57, 3) := by decide +kernel
theorem dL_holds_48 : decode cL_holds 48 = .ok (.aload_n 0, 1) := by decide +kernel
theorem dL_holds_49 : decode cL_holds 49 = .ok (.iload_n 3, 1) := by decide +kernel
theorem dL_holds_50 : decode cL_holds 50 = .ok (.iconst 5, 1) := by decide +kernel
theorem dL_holds_51 : decode cL_holds 51 = .ok (.invokevirtual 23, 3) := by decide +kernel
theorem dL_holds_54 : decode cL_holds 54 = .ok (.iload_n 2, 1) := by decide +kernel
theorem dL_holds_55 : decode cL_holds 55 = .ok (.if_icmp .ne 47, 3) := by decide +kernel
theorem dL_holds_58 : decode cL_holds 58 = .ok (.aload_n 0, 1) := by decide +kernel
theorem dL_holds_59 : decode cL_holds 59 = .ok (.iload_n 3, 1) := by decide +kernel
theorem dL_holds_60 : decode cL_holds 60 = .ok (.iconst 3, 1) := by decide +kernel
theorem dL_holds_61 : decode cL_holds 61 = .ok (.invokevirtual 23, 3) := by decide +kernel
theorem dL_holds_64 : decode cL_holds 64 = .ok (.aload_n 0, 1) := by decide +kernel
theorem dL_holds_65 : decode cL_holds 65 = .ok (.iload_n 2, 1) := by decide +kernel
theorem dL_holds_66 : decode cL_holds 66 = .ok (.iconst 0, 1) := by decide +kernel
theorem dL_holds_67 : decode cL_holds 67 = .ok (.invokevirtual 26, 3) := by decide +kernel
theorem dL_holds_70 : decode cL_holds 70 = .ok (.iand, 1) := by decide +kernel
theorem dL_holds_71 : decode cL_holds 71 = .ok (.ifCond .ne 31, 3) := by decide +kernel
theorem dL_holds_74 : decode cL_holds 74 = .ok (.aload_n 0, 1) := by decide +kernel
theorem dL_holds_75 : decode cL_holds 75 = .ok (.iload_n 3, 1) := by decide +kernel
theorem dL_holds_76 : decode cL_holds 76 = .ok (.iconst 4, 1) := by decide +kernel
theorem dL_holds_77 : decode cL_holds 77 = .ok (.invokevirtual 23, 3) := by decide +kernel
theorem dL_holds_80 : decode cL_holds 80 = .ok (.sipush 1000, 3) := by decide +kernel
theorem dL_holds_83 : decode cL_holds 83 = .ok (.if_icmp .lt 19, 3) := by decide +kernel
theorem dL_holds_86 : decode cL_holds 86 = .ok (.aload_n 0, 1) := by decide +kernel
theorem dL_holds_87 : decode cL_holds 87 = .ok (.iload_n 3, 1) := by decide +kernel
theorem dL_holds_88 : decode cL_holds 88 = .ok (.iconst 4, 1) := by decide +kernel
theorem dL_holds_89 : decode cL_holds 89 = .ok (.invokevirtual 23, 3) := by decide +kernel
theorem dL_holds_92 : decode cL_holds 92 = .ok (.sipush 9999, 3) := by decide +kernel
theorem dL_holds_95 : decode cL_holds 95 = .ok (.if_icmp .gt 7, 3) := by decide +kernel
theorem dL_holds_98 : decode cL_holds 98 = .ok (.iconst 1, 1) := by decide +kernel
theorem dL_holds_99 : decode cL_holds 99 = .ok (.goto 4, 3) := by decide +kernel
theorem dL_holds_102 : decode cL_holds 102 = .ok (.iconst 0, 1) := by decide +kernel
theorem dL_holds_103 : decode cL_holds 103 = .ok (.istore 4, 2) := by decide +kernel
theorem dL_holds_105 : decode cL_holds 105 = .ok (.iload 4, 2) := by decide +kernel
theorem dL_holds_107 : decode cL_holds 107 = .ok (.ifCond .eq 40, 3) := by decide +kernel
theorem dL_holds_110 : decode cL_holds 110 = .ok (.aload_n 0, 1) := by decide +kernel
theorem dL_holds_111 : decode cL_holds 111 = .ok (.iload_n 2, 1) := by decide +kernel
theorem dL_holds_112 : decode cL_holds 112 = .ok (.iconst 2, 1) := by decide +kernel
theorem dL_holds_113 : decode cL_holds 113 = .ok (.invokevirtual 26, 3) := by decide +kernel
theorem dL_holds_116 : decode cL_holds 116 = .ok (.bipush 99, 2) := by decide +kernel
theorem dL_holds_118 : decode cL_holds 118 = .ok (.if_icmp .gt 29, 3) := by decide +kernel
theorem dL_holds_121 : decode cL_holds 121 = .ok (.aload_n 0, 1) := by decide +kernel
theorem dL_holds_122 : decode cL_holds 122 = .ok (.iload_n 2, 1) := by decide +kernel
theorem dL_holds_123 : decode cL_holds 123 = .ok (.iconst 1, 1) := by decide +kernel
theorem dL_holds_124 : decode cL_holds 124 = .ok (.invokevirtual 26, 3) := by decide +kernel
theorem dL_holds_127 : decode cL_holds 127 = .ok (.bipush 8, 2) := by decide +kernel
theorem dL_holds_129 : decode cL_holds 129 = .ok (.if_icmp .gt 18, 3) := by decide +kernel
theorem dL_holds_132 : decode cL_holds 132 = .ok (.aload_n 0, 1) := by decide +kernel
theorem dL_holds_133 : decode cL_holds 133 = .ok (.iload_n 2, 1) := by decide +kernel
theorem dL_holds_134 : decode cL_holds 134 = .ok (.iconst 1, 1) := by decide +kernel
theorem dL_holds_135 : decode cL_holds 135 = .ok (.invokevirtual 26, 3) := by decide +kernel
theorem dL_holds_138 : decode cL_holds 138 = .ok (.aload_n 0, 1) := by decide +kernel
theorem dL_holds_139 : decode cL_holds 139 = .ok (.iload_n 2, 1) := by decide +kernel
theorem dL_holds_140 : decode cL_holds 140 = .ok (.iconst 5, 1) := by decide +kernel
theorem dL_holds_141 : decode cL_holds 141 = .ok (.invokevirtual 26, 3) := by decide +kernel
theorem dL_holds_144 : decode cL_holds 144 = .ok (.if_icmp .le 5, 3) := by decide +kernel
theorem dL_holds_147 : decode cL_holds 147 = .ok (.iconst 0, 1) := by decide +kernel
theorem dL_holds_148 : decode cL_holds 148 = .ok (.ireturn, 1) := by decide +kernel
theorem dL_holds_149 : decode cL_holds 149 = .ok (.iinc 2 1, 3) := by decide +kernel
theorem dL_holds_152 : decode cL_holds 152 = .ok (.goto (-148), 3) := by decide +kernel
theorem dL_holds_155 : decode cL_holds 155 = .ok (.iconst 0, 1) := by decide +kernel
theorem dL_holds_156 : decode cL_holds 156 = .ok (.istore_n 2, 1) := by decide +kernel
theorem dL_holds_157 : decode cL_holds 157 = .ok (.iconst 0, 1) := by decide +kernel
theorem dL_holds_158 : decode cL_holds 158 = .ok (.istore_n 3, 1) := by decide +kernel
theorem dL_holds_159 : decode cL_holds 159 = .ok (.iconst 0, 1) := by decide +kernel
theorem dL_holds_160 : decode cL_holds 160 = .ok (.istore 4, 2) := by decide +kernel
theorem dL_holds_162 : decode cL_holds 162 = .ok (.iload 4, 2) := by decide +kernel
theorem dL_holds_164 : decode cL_holds 164 = .ok (.aload_n 0, 1) := by decide +kernel
theorem dL_holds_165 : decode cL_holds 165 = .ok (.iconst 0, 1) := by decide +kernel
theorem dL_holds_166 : decode cL_holds 166 = .ok (.invokevirtual 13, 3) := by decide +kernel
theorem dL_holds_169 : decode cL_holds 169 = .ok (.if_icmp .ge 29, 3) := by decide +kernel
theorem dL_holds_172 : decode cL_holds 172 = .ok (.iload_n 2, 1) := by decide +kernel
theorem dL_holds_173 : decode cL_holds 173 = .ok (.aload_n 0, 1) := by decide +kernel
theorem dL_holds_174 : decode cL_holds 174 = .ok (.iload 4, 2) := by decide +kernel
theorem dL_holds_176 : decode cL_holds 176 = .ok (.iconst 3, 1) := by decide +kernel
theorem dL_holds_177 : decode cL_holds 177 = .ok (.invokevirtual 19, 3) := by decide +kernel
theorem dL_holds_180 : decode cL_holds 180 = .ok (.iadd, 1) := by decide +kernel
theorem dL_holds_181 : decode cL_holds 181 = .ok (.istore_n 2, 1) := by decide +kernel
theorem dL_holds_182 : decode cL_holds 182 = .ok (.iload_n 3, 1) := by decide +kernel
theorem dL_holds_183 : decode cL_holds 183 = .ok (.aload_n 0, 1) := by decide +kernel
theorem dL_holds_184 : decode cL_holds 184 = .ok (.iload 4, 2) := by decide +kernel
theorem dL_holds_186 : decode cL_holds 186 = .ok (.iconst 5, 1) := by decide +kernel
theorem dL_holds_187 : decode cL_holds 187 = .ok (.invokevirtual 19, 3) := by decide +kernel
theorem dL_holds_190 : decode cL_holds 190 = .ok (.iadd, 1) := by decide +kernel
theorem dL_holds_191 : decode cL_holds 191 = .ok (.istore_n 3, 1) := by decide +kernel
theorem dL_holds_192 : decode cL_holds 192 = .ok (.iinc 4 1, 3) := by decide +kernel
theorem dL_holds_195 : decode cL_holds 195 = .ok (.goto (-33), 3) := by decide +kernel
theorem dL_holds_198 : decode cL_holds 198 = .ok (.iconst 0, 1) := by decide +kernel
theorem dL_holds_199 : decode cL_holds 199 = .ok (.istore 4, 2) := by decide +kernel
theorem dL_holds_201 : decode cL_holds 201 = .ok (.iload 4, 2) := by decide +kernel
theorem dL_holds_203 : decode cL_holds 203 = .ok (.aload_n 0, 1) := by decide +kernel
theorem dL_holds_204 : decode cL_holds 204 = .ok (.iconst 3, 1) := by decide +kernel
theorem dL_holds_205 : decode cL_holds 205 = .ok (.invokevirtual 13, 3) := by decide +kernel
theorem dL_holds_208 : decode cL_holds 208 = .ok (.if_icmp .ge 47, 3) := by decide +kernel
theorem dL_holds_211 : decode cL_holds 211 = .ok (.aload_n 0, 1) := by decide +kernel
theorem dL_holds_212 : decode cL_holds 212 = .ok (.iload 4, 2) := by decide +kernel
theorem dL_holds_214 : decode cL_holds 214 = .ok (.iconst 3, 1) := by decide +kernel
theorem dL_holds_215 : decode cL_holds 215 = .ok (.invokevirtual 29, 3) := by decide +kernel
theorem dL_holds_218 : decode cL_holds 218 = .ok (.istore 5, 2) := by decide +kernel
theorem dL_holds_220 : decode cL_holds 220 = .ok (.iload 5, 2) := by decide +kernel
theorem dL_holds_222 : decode cL_holds 222 = .ok (.ifCond .lt 25, 3) := by decide +kernel
theorem dL_holds_225 : decode cL_holds 225 = .ok (.iload 5, 2) := by decide +kernel
theorem dL_holds_227 : decode cL_holds 227 = .ok (.bipush 36, 2) := by decide +kernel
theorem dL_holds_229 : decode cL_holds 229 = .ok (.if_icmp .gt 18, 3) := by decide +kernel
theorem dL_holds_232 : decode cL_holds 232 = .ok (.aload_n 0, 1) := by decide +kernel
theorem dL_holds_233 : decode cL_holds 233 = .ok (.iload 4, 2) := by decide +kernel
theorem dL_holds_235 : decode cL_holds 235 = .ok (.iconst 4, 1) := by decide +kernel
theorem dL_holds_236 : decode cL_holds 236 = .ok (.invokevirtual 29, 3) := by decide +kernel
theorem dL_holds_239 : decode cL_holds 239 = .ok (.aload_n 0, 1) := by decide +kernel
theorem dL_holds_240 : decode cL_holds 240 = .ok (.iconst 4, 1) := by decide +kernel
theorem dL_holds_241 : decode cL_holds 241 = .ok (.invokevirtual 13, 3) := by decide +kernel
theorem dL_holds_244 : decode cL_holds 244 = .ok (.if_icmp .le 5, 3) := by decide +kernel
theorem dL_holds_247 : decode cL_holds 247 = .ok (.iconst 0, 1) := by decide +kernel
theorem dL_holds_248 : decode cL_holds 248 = .ok (.ireturn, 1) := by decide +kernel
theorem dL_holds_249 : decode cL_holds 249 = .ok (.iinc 4 1, 3) := by decide +kernel
theorem dL_holds_252 : decode cL_holds 252 = .ok (.goto (-51), 3) := by decide +kernel
theorem dL_holds_255 : decode cL_holds 255 = .ok (.iload_n 1, 1) := by decide +kernel
theorem dL_holds_256 : decode cL_holds 256 = .ok (.aload_n 0, 1) := by decide +kernel
theorem dL_holds_257 : decode cL_holds 257 = .ok (.bipush 10, 2) := by decide +kernel
theorem dL_holds_259 : decode cL_holds 259 = .ok (.invokevirtual 13, 3) := by decide +kernel
theorem dL_holds_262 : decode cL_holds 262 = .ok (.if_icmp .ne 101, 3) := by decide +kernel
theorem dL_holds_265 : decode cL_holds 265 = .ok (.iload_n 2, 1) := by decide +kernel
theorem dL_holds_266 : decode cL_holds 266 = .ok (.aload_n 0, 1) := by decide +kernel
theorem dL_holds_267 : decode cL_holds 267 = .ok (.iconst 1, 1) := by decide +kernel
theorem dL_holds_268 : decode cL_holds 268 = .ok (.invokevirtual 13, 3) := by decide +kernel
theorem dL_holds_271 : decode cL_holds 271 = .ok (.if_icmp .ne 92, 3) := by decide +kernel
theorem dL_holds_274 : decode cL_holds 274 = .ok (.iload_n 3, 1) := by decide +kernel
theorem dL_holds_275 : decode cL_holds 275 = .ok (.aload_n 0, 1) := by decide +kernel
theorem dL_holds_276 : decode cL_holds 276 = .ok (.bipush 7, 2) := by decide +kernel
theorem dL_holds_278 : decode cL_holds 278 = .ok (.invokevirtual 13, 3) := by decide +kernel
theorem dL_holds_281 : decode cL_holds 281 = .ok (.if_icmp .ne 82, 3) := by decide +kernel
theorem dL_holds_284 : decode cL_holds 284 = .ok (.aload_n 0, 1) := by decide +kernel
theorem dL_holds_285 : decode cL_holds 285 = .ok (.iconst 5, 1) := by decide +kernel
theorem dL_holds_286 : decode cL_holds 286 = .ok (.invokevirtual 13, 3) := by decide +kernel
theorem dL_holds_289 : decode cL_holds 289 = .ok (.aload_n 0, 1) := by decide +kernel
theorem dL_holds_290 : decode cL_holds 290 = .ok (.bipush 6, 2) := by decide +kernel
theorem dL_holds_292 : decode cL_holds 292 = .ok (.invokevirtual 13, 3) := by decide +kernel
theorem dL_holds_295 : decode cL_holds 295 = .ok (.iadd, 1) := by decide +kernel
theorem dL_holds_296 : decode cL_holds 296 = .ok (.aload_n 0, 1) := by decide +kernel
theorem dL_holds_297 : decode cL_holds 297 = .ok (.bipush 7, 2) := by decide +kernel
theorem dL_holds_299 : decode cL_holds 299 = .ok (.invokevirtual 13, 3) := by decide +kernel
theorem dL_holds_302 : decode cL_holds 302 = .ok (.iadd, 1) := by decide +kernel
theorem dL_holds_303 : decode cL_holds 303 = .ok (.aload_n 0, 1) := by decide +kernel
theorem dL_holds_304 : decode cL_holds 304 = .ok (.bipush 8, 2) := by decide +kernel
theorem dL_holds_306 : decode cL_holds 306 = .ok (.invokevirtual 13, 3) := by decide +kernel
theorem dL_holds_309 : decode cL_holds 309 = .ok (.iadd, 1) := by decide +kernel
theorem dL_holds_310 : decode cL_holds 310 = .ok (.aload_n 0, 1) := by decide +kernel
theorem dL_holds_311 : decode cL_holds 311 = .ok (.bipush 9, 2) := by decide +kernel
theorem dL_holds_313 : decode cL_holds 313 = .ok (.invokevirtual 13, 3) := by decide +kernel
theorem dL_holds_316 : decode cL_holds 316 = .ok (.iadd, 1) := by decide +kernel
theorem dL_holds_317 : decode cL_holds 317 = .ok (.iload_n 2, 1) := by decide +kernel
theorem dL_holds_318 : decode cL_holds 318 = .ok (.if_icmp .ne 45, 3) := by decide +kernel
theorem dL_holds_321 : decode cL_holds 321 = .ok (.aload_n 0, 1) := by decide +kernel
theorem dL_holds_322 : decode cL_holds 322 = .ok (.invokevirtual 34, 3) := by decide +kernel
theorem dL_holds_325 : decode cL_holds 325 = .ok (.bipush (-4), 2) := by decide +kernel
theorem dL_holds_327 : decode cL_holds 327 = .ok (.if_icmp .ne 7, 3) := by decide +kernel
theorem dL_holds_330 : decode cL_holds 330 = .ok (.iconst 1, 1) := by decide +kernel
theorem dL_holds_331 : decode cL_holds 331 = .ok (.goto 4, 3) := by decide +kernel
theorem dL_holds_334 : decode cL_holds 334 = .ok (.iconst 0, 1) := by decide +kernel
theorem dL_holds_335 : decode cL_holds 335 = .ok (.aload_n 0, 1) := by decide +kernel
theorem dL_holds_336 : decode cL_holds 336 = .ok (.iconst 5, 1) := by decide +kernel
theorem dL_holds_337 : decode cL_holds 337 = .ok (.invokevirtual 13, 3) := by decide +kernel
theorem dL_holds_340 : decode cL_holds 340 = .ok (.aload_n 0, 1) := by decide +kernel
theorem dL_holds_341 : decode cL_holds 341 = .ok (.bipush 6, 2) := by decide +kernel
theorem dL_holds_343 : decode cL_holds 343 = .ok (.invokevirtual 13, 3) := by decide +kernel
theorem dL_holds_346 : decode cL_holds 346 = .ok (.iadd, 1) := by decide +kernel
theorem dL_holds_347 : decode cL_holds 347 = .ok (.iload_n 2, 1) := by decide +kernel
theorem dL_holds_348 : decode cL_holds 348 = .ok (.if_icmp .ne 7, 3) := by decide +kernel
theorem dL_holds_351 : decode cL_holds 351 = .ok (.iconst 1, 1) := by decide +kernel
theorem dL_holds_352 : decode cL_holds 352 = .ok (.goto 4, 3) := by decide +kernel
theorem dL_holds_355 : decode cL_holds 355 = .ok (.iconst 0, 1) := by decide +kernel
theorem dL_holds_356 : decode cL_holds 356 = .ok (.if_icmp .ne 7, 3) := by decide +kernel
theorem dL_holds_359 : decode cL_holds 359 = .ok (.iconst 1, 1) := by decide +kernel
theorem dL_holds_360 : decode cL_holds 360 = .ok (.goto 4, 3) := by decide +kernel
theorem dL_holds_363 : decode cL_holds 363 = .ok (.iconst 0, 1) := by decide +kernel
theorem dL_holds_364 : decode cL_holds 364 = .ok (.ireturn, 1) := by decide +kernel
set_option maxRecDepth 20000 in
theorem ggL_digits_X7_type : GoodIn wsL_digits wsX7_type := goodIn_r _ [5, 6, 7, 8, 9, 10, 11, 12, 13, 14, 4, 15, 16, 17, 18, 19, 20, 21, 22, 23, 24, 25, 26, 27, 28, 29] (by decide +kernel) (by decide +kernel)
set_option maxRecDepth 20000 in
theorem gL_digits_X7_type : GoodIn wsL_digits (wsV RL 38 RX7 yX7_type wsX7_type) := goodIn_app (goodIn_of _ (by decide +kernel)) ggL_digits_X7_type
theorem dL_digits_0 : decode cL_digits 0 = .ok (.iload_n 1, 1) := by decide +kernel
theorem dL_digits_1 : decode cL_digits 1 = .ok (.sipush 1000, 3) := by decide +kernel
theorem dL_digits_4 : decode cL_digits 4 = .ok (.if_icmp .lt 18, 3) := by decide +kernel
theorem dL_digits_7 : decode cL_digits 7 = .ok (.aload_n 0, 1) := by decide +kernel
theorem dL_digits_8 : decode cL_digits 8 = .ok (.bipush 48, 2) := by decide +kernel
theorem dL_digits_10 : decode cL_digits 10 = .ok (.iload_n 1, 1) := by decide +kernel
theorem dL_digits_11 : decode cL_digits 11 = .ok (.sipush 1000, 3) := by decide +kernel
theorem dL_digits_14 : decode cL_digits 14 = .ok (.idiv, 1) := by decide +kernel
theorem dL_digits_15 : decode cL_digits 15 = .ok (.iadd, 1) := by decide +kernel
theorem dL_digits_16 : decode cL_digits 16 = .ok (.invokevirtual 38, 3) := by decide +kernel
theorem dL_digits_19 : decode cL_digits 19 = .ok (.ifCond .le 7, 3) := by decide +kernel
theorem dL_digits_22 : decode cL_digits 22 = .ok (.iconst 1, 1) := by decide +kernel
theorem dL_digits_23 : decode cL_digits 23 = .ok (.goto 4, 3) := by decide +kernel
theorem dL_digits_26 : decode cL_digits 26 = .ok (.iconst 0, 1) := by decide +kernel
theorem dL_digits_27 : decode cL_digits 27 = .ok (.istore_n 2, 1) := by decide +kernel
theorem dL_digits_28 : decode cL_digits 28 = .ok (.iload_n 2, 1) := by decide +kernel
theorem dL_digits_29 : decode cL_digits 29 = .ok (.ifCond .eq 53, 3) := by decide +kernel
theorem dL_digits_32 : decode cL_digits 32 = .ok (.iload_n 1, 1) := by decide +kernel
theorem dL_digits_33 : decode cL_digits 33 = .ok (.bipush 100, 2) := by decide +kernel
theorem dL_digits_35 : decode cL_digits 35 = .ok (.if_icmp .lt 20, 3) := by decide +kernel
theorem dL_digits_38 : decode cL_digits 38 = .ok (.aload_n 0, 1) := by decide +kernel
theorem dL_digits_39 : decode cL_digits 39 = .ok (.bipush 48, 2) := by decide +kernel
theorem dL_digits_41 : decode cL_digits 41 = .ok (.iload_n 1, 1) := by decide +kernel
theorem dL_digits_42 : decode cL_digits 42 = .ok (.bipush 100, 2) := by decide +kernel
theorem dL_digits_44 : decode cL_digits 44 = .ok (.idiv, 1) := by decide +kernel
theorem dL_digits_45 : decode cL_digits 45 = .ok (.bipush 10, 2) := by decide +kernel
theorem dL_digits_47 : decode cL_digits 47 = .ok (.irem, 1) := by decide +kernel
theorem dL_digits_48 : decode cL_digits 48 = .ok (.iadd, 1) := by decide +kernel
theorem dL_digits_49 : decode cL_digits 49 = .ok (.invokevirtual 38, 3) := by decide +kernel
theorem dL_digits_52 : decode cL_digits 52 = .ok (.ifCond .le 30, 3) := by decide +kernel
theorem dL_digits_55 : decode cL_digits 55 = .ok (.iload_n 1, 1) := by decide +kernel
theorem dL_digits_56 : decode cL_digits 56 = .ok (.bipush 10, 2) := by decide +kernel
theorem dL_digits_58 : decode cL_digits 58 = .ok (.if_icmp .lt 20, 3) := by decide +kernel
theorem dL_digits_61 : decode cL_digits 61 = .ok (.aload_n 0, 1) := by decide +kernel
theorem dL_digits_62 : decode cL_digits 62 = .ok (.bipush 48, 2) := by decide +kernel
theorem dL_digits_64 : decode cL_digits 64 = .ok (.iload_n 1, 1) := by decide +kernel
theorem dL_digits_65 : decode cL_digits 65 = .ok (.bipush 10, 2) := by decide +kernel
theorem dL_digits_67 : decode cL_digits 67 = .ok (.idiv, 1) := by decide +kernel
theorem dL_digits_68 : decode cL_digits 68 = .ok (.bipush 10, 2) := by decide +kernel
theorem dL_digits_70 : decode cL_digits 70 = .ok (.irem, 1) := by decide +kernel
theorem dL_digits_71 : decode cL_digits 71 = .ok (.iadd, 1) := by decide +kernel
theorem dL_digits_72 : decode cL_digits 72 = .ok (.invokevirtual 38, 3) := by decide +kernel
theorem dL_digits_75 : decode cL_digits 75 = .ok (.ifCond .le 7, 3) := by decide +kernel
theorem dL_digits_78 : decode cL_digits 78 = .ok (.iconst 1, 1) := by decide +kernel
theorem dL_digits_79 : decode cL_digits 79 = .ok (.goto 4, 3) := by decide +kernel
theorem dL_digits_82 : decode cL_digits 82 = .ok (.iconst 0, 1) := by decide +kernel
theorem dL_digits_83 : decode cL_digits 83 = .ok (.istore_n 2, 1) := by decide +kernel
theorem dL_digits_84 : decode cL_digits 84 = .ok (.iload_n 2, 1) := by decide +kernel
theorem dL_digits_85 : decode cL_digits 85 = .ok (.ifCond .eq 21, 3) := by decide +kernel
theorem dL_digits_88 : decode cL_digits 88 = .ok (.aload_n 0, 1) := by decide +kernel
theorem dL_digits_89 : decode cL_digits 89 = .ok (.bipush 48, 2) := by decide +kernel
theorem dL_digits_91 : decode cL_digits 91 = .ok (.iload_n 1, 1) := by decide +kernel
theorem dL_digits_92 : decode cL_digits 92 = .ok (.bipush 10, 2) := by decide +kernel
theorem dL_digits_94 : decode cL_digits 94 = .ok (.irem, 1) := by decide +kernel
theorem dL_digits_95 : decode cL_digits 95 = .ok (.iadd, 1) := by decide +kernel
theorem dL_digits_96 : decode cL_digits 96 = .ok (.invokevirtual 38, 3) := by decide +kernel
theorem dL_digits_99 : decode cL_digits 99 = .ok (.ifCond .le 7, 3) := by decide +kernel
theorem dL_digits_102 : decode cL_digits 102 = .ok (.iconst 1, 1) := by decide +kernel
theorem dL_digits_103 : decode cL_digits 103 = .ok (.goto 4, 3) := by decide +kernel
theorem dL_digits_106 : decode cL_digits 106 = .ok (.iconst 0, 1) := by decide +kernel
theorem dL_digits_107 : decode cL_digits 107 = .ok (.ireturn, 1) := by decide +kernel
set_option maxRecDepth 20000 in
theorem ggL_types_L_low : GoodIn wsL_types wsL_low := goodIn_r _ [4, 5] (by decide +kernel) (by decide +kernel)
set_option maxRecDepth 20000 in
theorem gL_types_L_low : GoodIn wsL_types (va_wsS RL 41 yL_low wsL_low) := goodIn_app (goodIn_of _ (by decide +kernel)) ggL_types_L_low
