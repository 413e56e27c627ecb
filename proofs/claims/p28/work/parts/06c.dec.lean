set_option maxRecDepth 20000 in
theorem ggL_types_X7_clearText : GoodIn wsL_types wsX7_clearText := goodIn_r _ [10, 11, 12, 13, 14, 15, 16, 17, 96, 97, 98, 99, 100, 101, 102, 103, 104, 105, 106, 107, 108, 109] (by decide +kernel) (by decide +kernel)
set_option maxRecDepth 20000 in
theorem gL_types_X7_clearText : GoodIn wsL_types (wsV RL 44 RX7 yX7_clearText wsX7_clearText) := goodIn_app (goodIn_of _ (by decide +kernel)) ggL_types_X7_clearText
set_option maxRecDepth 20000 in
theorem ggL_types_X7_count : GoodIn wsL_types wsX7_count := goodIn_r _ [21, 22, 11, 23, 24, 25, 26, 27, 28, 29, 30, 31, 32, 15, 33, 17, 34, 35, 36, 37, 38, 39, 40, 41, 42, 43, 44, 45, 46, 47, 48, 49, 50, 51, 52, 53, 54, 55, 56, 57, 58, 59, 60, 9, 61, 62, 63, 64, 65, 66, 67, 68, 96, 97, 98, 99, 100, 101, 102, 110, 111, 112, 103, 104, 105, 106, 107, 108, 109, 113, 114, 115, 116, 117, 118, 119, 120, 121, 122, 123, 124, 125, 126, 127] (by decide +kernel) (by decide +kernel)
set_option maxRecDepth 20000 in
theorem gL_types_X7_count : GoodIn wsL_types (wsV RL 13 RX7 yX7_count wsX7_count) := goodIn_app (goodIn_of _ (by decide +kernel)) ggL_types_X7_count
set_option maxRecDepth 20000 in
theorem ggL_types_X7_mealOf : GoodIn wsL_types wsX7_mealOf := goodIn_r _ [72, 23, 73, 74, 75, 37, 76, 40, 77, 78, 79, 47, 80, 49, 60, 9, 61, 54, 55, 56, 57, 58, 59, 81, 82, 83, 96, 97, 98, 99, 100, 101, 102, 113, 114, 115, 116, 117, 124, 125, 126, 127] (by decide +kernel) (by decide +kernel)
set_option maxRecDepth 20000 in
theorem gL_types_X7_mealOf : GoodIn wsL_types (wsV RL 23 RX7 yX7_mealOf wsX7_mealOf) := goodIn_app (goodIn_of _ (by decide +kernel)) ggL_types_X7_mealOf
set_option maxRecDepth 20000 in
theorem ggL_types_X7_type : GoodIn wsL_types wsX7_type := goodIn_r _ [87, 11, 88, 89, 90, 15, 91, 17, 92, 60, 9, 61, 96, 97, 98, 99, 100, 101, 102, 103, 104, 105, 106, 107, 108, 109] (by decide +kernel) (by decide +kernel)
set_option maxRecDepth 20000 in
theorem gL_types_X7_type : GoodIn wsL_types (wsV RL 38 RX7 yX7_type wsX7_type) := goodIn_app (goodIn_of _ (by decide +kernel)) ggL_types_X7_type
set_option maxRecDepth 20000 in
theorem ggL_types_L_digits : GoodIn wsL_types wsL_digits := goodIn_r _ [95, 84, 85, 86, 9, 87, 11, 88, 89, 90, 15, 91, 17, 92, 60, 61, 96, 97, 98, 99, 100, 101, 102, 103, 104, 105, 106, 107, 108, 109] (by decide +kernel) (by decide +kernel)
set_option maxRecDepth 20000 in
theorem gL_types_L_digits : GoodIn wsL_types (va_wsS RL 47 yL_digits wsL_digits) := goodIn_app (goodIn_of _ (by decide +kernel)) ggL_types_L_digits
theorem dL_types_0 : decode cL_types 0 = .ok (.iload_n 1, 1) := by decide +kernel
theorem dL_types_1 : decode cL_types 1 = .ok (.iconst 5, 1) := by decide +kernel
theorem dL_types_2 : decode cL_types 2 = .ok (.invokestatic 41, 3) := by decide +kernel
theorem dL_types_5 : decode cL_types 5 = .ok (.istore_n 2, 1) := by decide +kernel
theorem dL_types_6 : decode cL_types 6 = .ok (.aload_n 0, 1) := by decide +kernel
theorem dL_types_7 : decode cL_types 7 = .ok (.invokevirtual 44, 3) := by decide +kernel
theorem dL_types_10 : decode cL_types 10 = .ok (.ifCond .lt 7, 3) := by decide +kernel
theorem dL_types_13 : decode cL_types 13 = .ok (.iconst 1, 1) := by decide +kernel
theorem dL_types_14 : decode cL_types 14 = .ok (.goto 4, 3) := by decide +kernel
theorem dL_types_17 : decode cL_types 17 = .ok (.iconst 0, 1) := by decide +kernel
theorem dL_types_18 : decode cL_types 18 = .ok (.istore_n 3, 1) := by decide +kernel
theorem dL_types_19 : decode cL_types 19 = .ok (.iconst 0, 1) := by decide +kernel
theorem dL_types_20 : decode cL_types 20 = .ok (.istore 4, 2) := by decide +kernel
theorem dL_types_22 : decode cL_types 22 = .ok (.iload 4, 2) := by decide +kernel
theorem dL_types_24 : decode cL_types 24 = .ok (.iload_n 2, 1) := by decide +kernel
theorem dL_types_25 : decode cL_types 25 = .ok (.if_icmp .ge 290, 3) := by decide +kernel
theorem dL_types_28 : decode cL_types 28 = .ok (.iload_n 1, 1) := by decide +kernel
theorem dL_types_29 : decode cL_types 29 = .ok (.iconst 3, 1) := by decide +kernel
theorem dL_types_30 : decode cL_types 30 = .ok (.iconst 5, 1) := by decide +kernel
theorem dL_types_31 : decode cL_types 31 = .ok (.iload 4, 2) := by decide +kernel
theorem dL_types_33 : decode cL_types 33 = .ok (.imul, 1) := by decide +kernel
theorem dL_types_34 : decode cL_types 34 = .ok (.iadd, 1) := by decide +kernel
theorem dL_types_35 : decode cL_types 35 = .ok (.ishr, 1) := by decide +kernel
theorem dL_types_36 : decode cL_types 36 = .ok (.istore 5, 2) := by decide +kernel
theorem dL_types_38 : decode cL_types 38 = .ok (.iload 5, 2) := by decide +kernel
theorem dL_types_40 : decode cL_types 40 = .ok (.bipush 7, 2) := by decide +kernel
theorem dL_types_42 : decode cL_types 42 = .ok (.invokestatic 41, 3) := by decide +kernel
theorem dL_types_45 : decode cL_types 45 = .ok (.istore 6, 2) := by decide +kernel
theorem dL_types_47 : decode cL_types 47 = .ok (.iload 5, 2) := by decide +kernel
theorem dL_types_49 : decode cL_types 49 = .ok (.iconst 2, 1) := by decide +kernel
theorem dL_types_50 : decode cL_types 50 = .ok (.ishr, 1) := by decide +kernel
theorem dL_types_51 : decode cL_types 51 = .ok (.iload 6, 2) := by decide +kernel
theorem dL_types_53 : decode cL_types 53 = .ok (.bipush 6, 2) := by decide +kernel
theorem dL_types_55 : decode cL_types 55 = .ok (.if_icmp .ne 8, 3) := by decide +kernel
theorem dL_types_58 : decode cL_types 58 = .ok (.bipush 12, 2) := by decide +kernel
theorem dL_types_60 : decode cL_types 60 = .ok (.goto 4, 3) := by decide +kernel
theorem dL_types_63 : decode cL_types 63 = .ok (.iconst 3, 1) := by decide +kernel
theorem dL_types_64 : decode cL_types 64 = .ok (.invokestatic 41, 3) := by decide +kernel
theorem dL_types_67 : decode cL_types 67 = .ok (.istore 7, 2) := by decide +kernel
theorem dL_types_69 : decode cL_types 69 = .ok (.aload_n 0, 1) := by decide +kernel
theorem dL_types_70 : decode cL_types 70 = .ok (.iconst 1, 1) := by decide +kernel
theorem dL_types_71 : decode cL_types 71 = .ok (.invokevirtual 13, 3) := by decide +kernel
theorem dL_types_74 : decode cL_types 74 = .ok (.ifCond .ne 7, 3) := by decide +kernel
theorem dL_types_77 : decode cL_types 77 = .ok (.iconst 0, 1) := by decide +kernel
theorem dL_types_78 : decode cL_types 78 = .ok (.goto 15, 3) := by decide +kernel
theorem dL_types_81 : decode cL_types 81 = .ok (.iload 5, 2) := by decide +kernel
theorem dL_types_83 : decode cL_types 83 = .ok (.iconst 4, 1) := by decide +kernel
theorem dL_types_84 : decode cL_types 84 = .ok (.ishr, 1) := by decide +kernel
theorem dL_types_85 : decode cL_types 85 = .ok (.aload_n 0, 1) := by decide +kernel
theorem dL_types_86 : decode cL_types 86 = .ok (.iconst 1, 1) := by decide +kernel
theorem dL_types_87 : decode cL_types 87 = .ok (.invokevirtual 13, 3) := by decide +kernel
theorem dL_types_90 : decode cL_types 90 = .ok (.invokestatic 41, 3) := by decide +kernel
theorem dL_types_93 : decode cL_types 93 = .ok (.istore 8, 2) := by decide +kernel
theorem dL_types_95 : decode cL_types 95 = .ok (.iload 6, 2) := by decide +kernel
theorem dL_types_97 : decode cL_types 97 = .ok (.ifCond .eq 9, 3) := by decide +kernel
theorem dL_types_100 : decode cL_types 100 = .ok (.iload 6, 2) := by decide +kernel
theorem dL_types_102 : decode cL_types 102 = .ok (.iconst 3, 1) := by decide +kernel
theorem dL_types_103 : decode cL_types 103 = .ok (.if_icmp .ne 8, 3) := by decide +kernel
theorem dL_types_106 : decode cL_types 106 = .ok (.iload 8, 2) := by decide +kernel
theorem dL_types_108 : decode cL_types 108 = .ok (.goto 43, 3) := by decide +kernel
theorem dL_types_111 : decode cL_types 111 = .ok (.iload 6, 2) := by decide +kernel
theorem dL_types_113 : decode cL_types 113 = .ok (.iconst 4, 1) := by decide +kernel
theorem dL_types_114 : decode cL_types 114 = .ok (.if_icmp .ne 14, 3) := by decide +kernel
theorem dL_types_117 : decode cL_types 117 = .ok (.iload 5, 2) := by decide +kernel
theorem dL_types_119 : decode cL_types 119 = .ok (.iconst 4, 1) := by decide +kernel
theorem dL_types_120 : decode cL_types 120 = .ok (.ishr, 1) := by decide +kernel
theorem dL_types_121 : decode cL_types 121 = .ok (.iconst 4, 1) := by decide +kernel
theorem dL_types_122 : decode cL_types 122 = .ok (.invokestatic 41, 3) := by decide +kernel
theorem dL_types_125 : decode cL_types 125 = .ok (.goto 26, 3) := by decide +kernel
theorem dL_types_128 : decode cL_types 128 = .ok (.aload_n 0, 1) := by decide +kernel
theorem dL_types_129 : decode cL_types 129 = .ok (.iload 8, 2) := by decide +kernel
theorem dL_types_131 : decode cL_types 131 = .ok (.iconst 4, 1) := by decide +kernel
theorem dL_types_132 : decode cL_types 132 = .ok (.invokevirtual 23, 3) := by decide +kernel
theorem dL_types_135 : decode cL_types 135 = .ok (.ifCond .ge 9, 3) := by decide +kernel
theorem dL_types_138 : decode cL_types 138 = .ok (.sipush 1000, 3) := by decide +kernel
theorem dL_types_141 : decode cL_types 141 = .ok (.goto 10, 3) := by decide +kernel
theorem dL_types_144 : decode cL_types 144 = .ok (.aload_n 0, 1) := by decide +kernel
theorem dL_types_145 : decode cL_types 145 = .ok (.iload 8, 2) := by decide +kernel
theorem dL_types_147 : decode cL_types 147 = .ok (.iconst 4, 1) := by decide +kernel
theorem dL_types_148 : decode cL_types 148 = .ok (.invokevirtual 23, 3) := by decide +kernel
theorem dL_types_151 : decode cL_types 151 = .ok (.istore 9, 2) := by decide +kernel
theorem dL_types_153 : decode cL_types 153 = .ok (.iload_n 3, 1) := by decide +kernel
theorem dL_types_154 : decode cL_types 154 = .ok (.ifCond .eq 90, 3) := by decide +kernel
theorem dL_types_157 : decode cL_types 157 = .ok (.aload_n 0, 1) := by decide +kernel
theorem dL_types_158 : decode cL_types 158 = .ok (.iload 6, 2) := by decide +kernel
theorem dL_types_160 : decode cL_types 160 = .ok (.ifCond .ne 8, 3) := by decide +kernel
theorem dL_types_163 : decode cL_types 163 = .ok (.bipush 114, 2) := by decide +kernel
theorem dL_types_165 : decode cL_types 165 = .ok (.goto 60, 3) := by decide +kernel
theorem dL_types_168 : decode cL_types 168 = .ok (.iload 6, 2) := by decide +kernel
theorem dL_types_170 : decode cL_types 170 = .ok (.iconst 1, 1) := by decide +kernel
theorem dL_types_171 : decode cL_types 171 = .ok (.if_icmp .ne 8, 3) := by decide +kernel
theorem dL_types_174 : decode cL_types 174 = .ok (.bipush 102, 2) := by decide +kernel
theorem dL_types_176 : decode cL_types 176 = .ok (.goto 49, 3) := by decide +kernel
theorem dL_types_179 : decode cL_types 179 = .ok (.iload 6, 2) := by decide +kernel
theorem dL_types_181 : decode cL_types 181 = .ok (.iconst 2, 1) := by decide +kernel
theorem dL_types_182 : decode cL_types 182 = .ok (.if_icmp .ne 8, 3) := by decide +kernel
theorem dL_types_185 : decode cL_types 185 = .ok (.bipush 110, 2) := by decide +kernel
theorem dL_types_187 : decode cL_types 187 = .ok (.goto 38, 3) := by decide +kernel
theorem dL_types_190 : decode cL_types 190 = .ok (.iload 6, 2) := by decide +kernel
theorem dL_types_192 : decode cL_types 192 = .ok (.iconst 3, 1) := by decide +kernel
theorem dL_types_193 : decode cL_types 193 = .ok (.if_icmp .ne 8, 3) := by decide +kernel
theorem dL_types_196 : decode cL_types 196 = .ok (.bipush 116, 2) := by decide +kernel
theorem dL_types_198 : decode cL_types 198 = .ok (.goto 27, 3) := by decide +kernel
theorem dL_types_201 : decode cL_types 201 = .ok (.iload 6, 2) := by decide +kernel
theorem dL_types_203 : decode cL_types 203 = .ok (.iconst 4, 1) := by decide +kernel
theorem dL_types_204 : decode cL_types 204 = .ok (.if_icmp .ne 8, 3) := by decide +kernel
theorem dL_types_207 : decode cL_types 207 = .ok (.bipush 103, 2) := by decide +kernel
theorem dL_types_209 : decode cL_types 209 = .ok (.goto 16, 3) := by decide +kernel
theorem dL_types_212 : decode cL_types 212 = .ok (.iload 6, 2) := by decide +kernel
theorem dL_types_214 : decode cL_types 214 = .ok (.iconst 5, 1) := by decide +kernel
theorem dL_types_215 : decode cL_types 215 = .ok (.if_icmp .ne 8, 3) := by decide +kernel
theorem dL_types_218 : decode cL_types 218 = .ok (.bipush 112, 2) := by decide +kernel
theorem dL_types_220 : decode cL_types 220 = .ok (.goto 5, 3) := by decide +kernel
theorem dL_types_223 : decode cL_types 223 = .ok (.bipush 104, 2) := by decide +kernel
theorem dL_types_225 : decode cL_types 225 = .ok (.invokevirtual 38, 3) := by decide +kernel
theorem dL_types_228 : decode cL_types 228 = .ok (.ifCond .le 16, 3) := by decide +kernel
theorem dL_types_231 : decode cL_types 231 = .ok (.aload_n 0, 1) := by decide +kernel
theorem dL_types_232 : decode cL_types 232 = .ok (.iload 7, 2) := by decide +kernel
theorem dL_types_234 : decode cL_types 234 = .ok (.invokestatic 47, 3) := by decide +kernel
theorem dL_types_237 : decode cL_types 237 = .ok (.ifCond .eq 7, 3) := by decide +kernel
theorem dL_types_240 : decode cL_types 240 = .ok (.iconst 1, 1) := by decide +kernel
theorem dL_types_241 : decode cL_types 241 = .ok (.goto 4, 3) := by decide +kernel
theorem dL_types_244 : decode cL_types 244 = .ok (.iconst 0, 1) := by decide +kernel
theorem dL_types_245 : decode cL_types 245 = .ok (.istore_n 3, 1) := by decide +kernel
theorem dL_types_246 : decode cL_types 246 = .ok (.iload_n 3, 1) := by decide +kernel
theorem dL_types_247 : decode cL_types 247 = .ok (.ifCond .eq 60, 3) := by decide +kernel
theorem dL_types_250 : decode cL_types 250 = .ok (.iload 6, 2) := by decide +kernel
theorem dL_types_252 : decode cL_types 252 = .ok (.iconst 4, 1) := by decide +kernel
theorem dL_types_253 : decode cL_types 253 = .ok (.if_icmp .gt 21, 3) := by decide +kernel
theorem dL_types_256 : decode cL_types 256 = .ok (.aload_n 0, 1) := by decide +kernel
theorem dL_types_257 : decode cL_types 257 = .ok (.bipush 44, 2) := by decide +kernel
theorem dL_types_259 : decode cL_types 259 = .ok (.invokevirtual 38, 3) := by decide +kernel
theorem dL_types_262 : decode cL_types 262 = .ok (.ifCond .le 45, 3) := by decide +kernel
theorem dL_types_265 : decode cL_types 265 = .ok (.aload_n 0, 1) := by decide +kernel
theorem dL_types_266 : decode cL_types 266 = .ok (.iload 9, 2) := by decide +kernel
theorem dL_types_268 : decode cL_types 268 = .ok (.invokestatic 47, 3) := by decide +kernel
theorem dL_types_271 : decode cL_types 271 = .ok (.ifCond .eq 36, 3) := by decide +kernel
theorem dL_types_274 : decode cL_types 274 = .ok (.iload_n 1, 1) := by decide +kernel
theorem dL_types_275 : decode cL_types 275 = .ok (.bipush 24, 2) := by decide +kernel
theorem dL_types_277 : decode cL_types 277 = .ok (.ishr, 1) := by decide +kernel
theorem dL_types_278 : decode cL_types 278 = .ok (.bipush 6, 2) := by decide +kernel
theorem dL_types_280 : decode cL_types 280 = .ok (.invokestatic 41, 3) := by decide +kernel
theorem dL_types_283 : decode cL_types 283 = .ok (.ifCond .ne 11, 3) := by decide +kernel
theorem dL_types_286 : decode cL_types 286 = .ok (.iload 4, 2) := by decide +kernel
theorem dL_types_288 : decode cL_types 288 = .ok (.iload_n 2, 1) := by decide +kernel
theorem dL_types_289 : decode cL_types 289 = .ok (.iconst 1, 1) := by decide +kernel
theorem dL_types_290 : decode cL_types 290 = .ok (.isub, 1) := by decide +kernel
theorem dL_types_291 : decode cL_types 291 = .ok (.if_icmp .eq 12, 3) := by decide +kernel
theorem dL_types_294 : decode cL_types 294 = .ok (.aload_n 0, 1) := by decide +kernel
theorem dL_types_295 : decode cL_types 295 = .ok (.bipush 59, 2) := by decide +kernel
theorem dL_types_297 : decode cL_types 297 = .ok (.invokevirtual 38, 3) := by decide +kernel
theorem dL_types_300 : decode cL_types 300 = .ok (.ifCond .le 7, 3) := by decide +kernel
theorem dL_types_303 : decode cL_types 303 = .ok (.iconst 1, 1) := by decide +kernel
theorem dL_types_304 : decode cL_types 304 = .ok (.goto 4, 3) := by decide +kernel
theorem dL_types_307 : decode cL_types 307 = .ok (.iconst 0, 1) := by decide +kernel
theorem dL_types_308 : decode cL_types 308 = .ok (.istore_n 3, 1) := by decide +kernel
theorem dL_types_309 : decode cL_types 309 = .ok (.iinc 4 1, 3) := by decide +kernel
theorem dL_types_312 : decode cL_types 312 = .ok (.goto (-290), 3) := by decide +kernel
theorem dL_types_315 : decode cL_types 315 = .ok (.iload_n 3, 1) := by decide +kernel
theorem dL_types_316 : decode cL_types 316 = .ok (.ireturn, 1) := by decide +kernel
set_option maxRecDepth 20000 in
theorem ggL_reads_X7_fault : GoodIn wsL_reads wsX7_fault := goodIn_r _ [5, 6, 7, 8, 9, 4, 10, 11, 12, 13, 14, 15, 16, 17, 18, 19, 20, 21, 22, 23, 24, 25, 26, 27, 28, 29, 30, 31, 32, 33, 34, 35, 36, 37, 38, 39, 40, 41, 42, 43, 44, 45, 46, 47, 48, 49, 50, 51, 52, 53, 54, 55, 56, 57, 58, 59, 60, 61, 62, 63, 64, 65, 66, 67, 68, 69, 70, 71, 72, 73, 74, 75, 76, 77, 78, 79, 80, 81, 82, 83, 84, 85, 86, 87, 88, 89, 90, 91, 92, 93, 94, 95, 96, 97, 98, 99, 100, 101, 102, 103, 104, 105, 106, 107, 108, 109, 110, 111, 112, 113, 114, 115, 116, 117, 118, 119, 120, 121, 122, 123, 124, 125, 126, 127, 128, 129, 130, 131, 132, 133, 134, 135, 136, 137, 138, 139, 140, 141, 142, 143, 144, 145, 146, 147, 148, 149, 150, 151, 152, 153, 154, 155, 156, 157, 158, 159, 160, 161, 162, 163, 164, 165, 166, 167, 168, 169, 170, 171, 172, 173, 174, 175, 176, 177, 178, 179, 180, 181, 182, 183, 184, 185, 186, 187, 188, 189, 190, 191, 192, 193, 194, 195, 196, 197, 198, 199, 200, 201, 202, 203, 204, 205, 206, 207, 208, 209, 210, 211, 212, 213, 214, 215, 216, 217, 218, 219, 220, 221, 222, 223, 274, 275, 276, 277, 278, 279, 280, 281, 282, 283, 284, 285, 286, 287, 288, 289, 290, 291, 292, 293, 294, 295, 296, 297, 298, 299, 300, 301, 302, 303, 304, 305] (by decide +kernel) (by decide +kernel)
set_option maxRecDepth 20000 in
theorem gL_reads_X7_fault : GoodIn wsL_reads (wsV RL 51 RX7 yX7_fault wsX7_fault) := goodIn_app (goodIn_of _ (by decide +kernel)) ggL_reads_X7_fault
set_option maxRecDepth 20000 in
theorem ggL_reads_X7_count : GoodIn wsL_reads wsX7_count := goodIn_r _ [227, 228, 229, 230, 231, 232, 233, 234, 235, 236, 237, 41, 42, 43, 44, 45, 238, 239, 240, 241, 242, 243, 244, 245, 246, 247, 248, 111, 112, 28, 113, 30, 249, 250, 251, 252, 253, 94, 95, 96, 97, 31, 67, 4, 68, 254, 167, 168, 17, 169, 23, 93, 274, 275, 276, 277, 278, 279, 280, 306, 307, 308, 294, 295, 296, 297, 298, 299, 300, 309, 310, 311, 312, 313, 281, 282, 283, 284, 285, 286, 287, 288, 289, 290] (by decide +kernel) (by decide +kernel)
set_option maxRecDepth 20000 in
theorem gL_reads_X7_count : GoodIn wsL_reads (wsV RL 13 RX7 yX7_count wsX7_count) := goodIn_app (goodIn_of _ (by decide +kernel)) ggL_reads_X7_count
