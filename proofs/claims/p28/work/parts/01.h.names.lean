theorem dL_isSubmitted_68 : decode cL_isSubmitted 68 = .ok (.if_icmp .ge 15, 3) := by decide +kernel
theorem dL_isSubmitted_71 : decode cL_isSubmitted 71 = .ok (.iload 13, 2) := by decide +kernel
theorem dL_isSubmitted_73 : decode cL_isSubmitted 73 = .ok (.sipush 501, 3) := by decide +kernel
theorem dL_isSubmitted_76 : decode cL_isSubmitted 76 = .ok (.if_icmp .ge 7, 3) := by decide +kernel
theorem dL_isSubmitted_79 : decode cL_isSubmitted 79 = .ok (.iconst 1, 1) := by decide +kernel
theorem dL_isSubmitted_80 : decode cL_isSubmitted 80 = .ok (.goto 4, 3) := by decide +kernel
theorem dL_isSubmitted_83 : decode cL_isSubmitted 83 = .ok (.iconst 0, 1) := by decide +kernel
theorem dL_isSubmitted_84 : decode cL_isSubmitted 84 = .ok (.istore 15, 2) := by decide +kernel
theorem dL_isSubmitted_86 : decode cL_isSubmitted 86 = .ok (.aload_n 0, 1) := by decide +kernel
theorem dL_isSubmitted_87 : decode cL_isSubmitted 87 = .ok (.iconst 3, 1) := by decide +kernel
theorem dL_isSubmitted_88 : decode cL_isSubmitted 88 = .ok (.iload 10, 2) := by decide +kernel
theorem dL_isSubmitted_90 : decode cL_isSubmitted 90 = .ok (.iload 11, 2) := by decide +kernel
theorem dL_isSubmitted_92 : decode cL_isSubmitted 92 = .ok (.iload 12, 2) := by decide +kernel
theorem dL_isSubmitted_94 : decode cL_isSubmitted 94 = .ok (.iload 13, 2) := by decide +kernel
theorem dL_isSubmitted_96 : decode cL_isSubmitted 96 = .ok (.invokestatic 109, 3) := by decide +kernel
theorem dL_isSubmitted_99 : decode cL_isSubmitted 99 = .ok (.istore 16, 2) := by decide +kernel
theorem dL_isSubmitted_101 : decode cL_isSubmitted 101 = .ok (.iload 14, 2) := by decide +kernel
theorem dL_isSubmitted_103 : decode cL_isSubmitted 103 = .ok (.ifCond .eq 8, 3) := by decide +kernel
theorem dL_isSubmitted_106 : decode cL_isSubmitted 106 = .ok (.iload 15, 2) := by decide +kernel
theorem dL_isSubmitted_108 : decode cL_isSubmitted 108 = .ok (.ifCond .ne 26, 3) := by decide +kernel
theorem dL_isSubmitted_111 : decode cL_isSubmitted 111 = .ok (.iload 16, 2) := by decide +kernel
theorem dL_isSubmitted_113 : decode cL_isSubmitted 113 = .ok (.iload 14, 2) := by decide +kernel
theorem dL_isSubmitted_115 : decode cL_isSubmitted 115 = .ok (.ifCond .eq 8, 3) := by decide +kernel
theorem dL_isSubmitted_118 : decode cL_isSubmitted 118 = .ok (.bipush (-20), 2) := by decide +kernel
theorem dL_isSubmitted_120 : decode cL_isSubmitted 120 = .ok (.goto 5, 3) := by decide +kernel
theorem dL_isSubmitted_123 : decode cL_isSubmitted 123 = .ok (.bipush (-30), 2) := by decide +kernel
theorem dL_isSubmitted_125 : decode cL_isSubmitted 125 = .ok (.if_icmp .ne 7, 3) := by decide +kernel
theorem dL_isSubmitted_128 : decode cL_isSubmitted 128 = .ok (.iconst 1, 1) := by decide +kernel
theorem dL_isSubmitted_129 : decode cL_isSubmitted 129 = .ok (.goto 4, 3) := by decide +kernel
theorem dL_isSubmitted_132 : decode cL_isSubmitted 132 = .ok (.iconst 0, 1) := by decide +kernel
theorem dL_isSubmitted_133 : decode cL_isSubmitted 133 = .ok (.ireturn, 1) := by decide +kernel
theorem dL_isSubmitted_134 : decode cL_isSubmitted 134 = .ok (.iload 16, 2) := by decide +kernel
theorem dL_isSubmitted_136 : decode cL_isSubmitted 136 = .ok (.bipush (-10), 2) := by decide +kernel
theorem dL_isSubmitted_138 : decode cL_isSubmitted 138 = .ok (.if_icmp .ne 20, 3) := by decide +kernel
theorem dL_isSubmitted_141 : decode cL_isSubmitted 141 = .ok (.aload_n 0, 1) := by decide +kernel
theorem dL_isSubmitted_142 : decode cL_isSubmitted 142 = .ok (.invokevirtual 94, 3) := by decide +kernel
theorem dL_isSubmitted_145 : decode cL_isSubmitted 145 = .ok (.aload 6, 2) := by decide +kernel
theorem dL_isSubmitted_147 : decode cL_isSubmitted 147 = .ok (.iconst 0, 1) := by decide +kernel
theorem dL_isSubmitted_148 : decode cL_isSubmitted 148 = .ok (.iaload, 1) := by decide +kernel
theorem dL_isSubmitted_149 : decode cL_isSubmitted 149 = .ok (.if_icmp .ne 7, 3) := by decide +kernel
theorem dL_isSubmitted_152 : decode cL_isSubmitted 152 = .ok (.iconst 1, 1) := by decide +kernel
theorem dL_isSubmitted_153 : decode cL_isSubmitted 153 = .ok (.goto 4, 3) := by decide +kernel
theorem dL_isSubmitted_156 : decode cL_isSubmitted 156 = .ok (.iconst 0, 1) := by decide +kernel
theorem dL_isSubmitted_157 : decode cL_isSubmitted 157 = .ok (.ireturn, 1) := by decide +kernel
theorem dL_isSubmitted_158 : decode cL_isSubmitted 158 = .ok (.iload 16, 2) := by decide +kernel
theorem dL_isSubmitted_160 : decode cL_isSubmitted 160 = .ok (.aload 6, 2) := by decide +kernel
theorem dL_isSubmitted_162 : decode cL_isSubmitted 162 = .ok (.iconst 0, 1) := by decide +kernel
theorem dL_isSubmitted_163 : decode cL_isSubmitted 163 = .ok (.iaload, 1) := by decide +kernel
theorem dL_isSubmitted_164 : decode cL_isSubmitted 164 = .ok (.if_icmp .ge 46, 3) := by decide +kernel
theorem dL_isSubmitted_167 : decode cL_isSubmitted 167 = .ok (.iload 16, 2) := by decide +kernel
theorem dL_isSubmitted_169 : decode cL_isSubmitted 169 = .ok (.ifCond .lt 39, 3) := by decide +kernel
theorem dL_isSubmitted_172 : decode cL_isSubmitted 172 = .ok (.aload_n 1, 1) := by decide +kernel
theorem dL_isSubmitted_173 : decode cL_isSubmitted 173 = .ok (.iload 16, 2) := by decide +kernel
theorem dL_isSubmitted_175 : decode cL_isSubmitted 175 = .ok (.iaload, 1) := by decide +kernel
theorem dL_isSubmitted_176 : decode cL_isSubmitted 176 = .ok (.iload 10, 2) := by decide +kernel
theorem dL_isSubmitted_178 : decode cL_isSubmitted 178 = .ok (.if_icmp .ne 30, 3) := by decide +kernel
theorem dL_isSubmitted_181 : decode cL_isSubmitted 181 = .ok (.aload_n 1, 1) := by decide +kernel
theorem dL_isSubmitted_182 : decode cL_isSubmitted 182 = .ok (.bipush 24, 2) := by decide +kernel
theorem dL_isSubmitted_184 : decode cL_isSubmitted 184 = .ok (.iload 16, 2) := by decide +kernel
theorem dL_isSubmitted_186 : decode cL_isSubmitted 186 = .ok (.iadd, 1) := by decide +kernel
theorem dL_isSubmitted_187 : decode cL_isSubmitted 187 = .ok (.iaload, 1) := by decide +kernel
theorem dL_isSubmitted_188 : decode cL_isSubmitted 188 = .ok (.iload 11, 2) := by decide +kernel
theorem dL_isSubmitted_190 : decode cL_isSubmitted 190 = .ok (.if_icmp .ne 18, 3) := by decide +kernel
theorem dL_isSubmitted_193 : decode cL_isSubmitted 193 = .ok (.aload_n 0, 1) := by decide +kernel
theorem dL_isSubmitted_194 : decode cL_isSubmitted 194 = .ok (.invokevirtual 94, 3) := by decide +kernel
theorem dL_isSubmitted_197 : decode cL_isSubmitted 197 = .ok (.aload 6, 2) := by decide +kernel
theorem dL_isSubmitted_199 : decode cL_isSubmitted 199 = .ok (.iconst 0, 1) := by decide +kernel
theorem dL_isSubmitted_200 : decode cL_isSubmitted 200 = .ok (.iaload, 1) := by decide +kernel
theorem dL_isSubmitted_201 : decode cL_isSubmitted 201 = .ok (.if_icmp .ne 7, 3) := by decide +kernel
theorem dL_isSubmitted_204 : decode cL_isSubmitted 204 = .ok (.iconst 1, 1) := by decide +kernel
theorem dL_isSubmitted_205 : decode cL_isSubmitted 205 = .ok (.goto 4, 3) := by decide +kernel
theorem dL_isSubmitted_208 : decode cL_isSubmitted 208 = .ok (.iconst 0, 1) := by decide +kernel
theorem dL_isSubmitted_209 : decode cL_isSubmitted 209 = .ok (.ireturn, 1) := by decide +kernel
theorem dL_isSubmitted_210 : decode cL_isSubmitted 210 = .ok (.aload_n 1, 1) := by decide +kernel
theorem dL_isSubmitted_211 : decode cL_isSubmitted 211 = .ok (.iload 16, 2) := by decide +kernel
theorem dL_isSubmitted_213 : decode cL_isSubmitted 213 = .ok (.iload 10, 2) := by decide +kernel
theorem dL_isSubmitted_215 : decode cL_isSubmitted 215 = .ok (.iastore, 1) := by decide +kernel
theorem dL_isSubmitted_216 : decode cL_isSubmitted 216 = .ok (.aload_n 1, 1) := by decide +kernel
theorem dL_isSubmitted_217 : decode cL_isSubmitted 217 = .ok (.bipush 24, 2) := by decide +kernel
theorem dL_isSubmitted_219 : decode cL_isSubmitted 219 = .ok (.iload 16, 2) := by decide +kernel
theorem dL_isSubmitted_221 : decode cL_isSubmitted 221 = .ok (.iadd, 1) := by decide +kernel
theorem dL_isSubmitted_222 : decode cL_isSubmitted 222 = .ok (.iload 11, 2) := by decide +kernel
theorem dL_isSubmitted_224 : decode cL_isSubmitted 224 = .ok (.iastore, 1) := by decide +kernel
theorem dL_isSubmitted_225 : decode cL_isSubmitted 225 = .ok (.aload_n 2, 1) := by decide +kernel
theorem dL_isSubmitted_226 : decode cL_isSubmitted 226 = .ok (.iload 16, 2) := by decide +kernel
theorem dL_isSubmitted_228 : decode cL_isSubmitted 228 = .ok (.aload 5, 2) := by decide +kernel
theorem dL_isSubmitted_230 : decode cL_isSubmitted 230 = .ok (.iload 10, 2) := by decide +kernel
theorem dL_isSubmitted_232 : decode cL_isSubmitted 232 = .ok (.iaload, 1) := by decide +kernel
theorem dL_isSubmitted_233 : decode cL_isSubmitted 233 = .ok (.iastore, 1) := by decide +kernel
theorem dL_isSubmitted_234 : decode cL_isSubmitted 234 = .ok (.aload_n 3, 1) := by decide +kernel
theorem dL_isSubmitted_235 : decode cL_isSubmitted 235 = .ok (.iload 16, 2) := by decide +kernel
theorem dL_isSubmitted_237 : decode cL_isSubmitted 237 = .ok (.iconst 0, 1) := by decide +kernel
theorem dL_isSubmitted_238 : decode cL_isSubmitted 238 = .ok (.iastore, 1) := by decide +kernel
theorem dL_isSubmitted_239 : decode cL_isSubmitted 239 = .ok (.aload_n 3, 1) := by decide +kernel
theorem dL_isSubmitted_240 : decode cL_isSubmitted 240 = .ok (.bipush 24, 2) := by decide +kernel
theorem dL_isSubmitted_242 : decode cL_isSubmitted 242 = .ok (.iload 16, 2) := by decide +kernel
theorem dL_isSubmitted_244 : decode cL_isSubmitted 244 = .ok (.iadd, 1) := by decide +kernel
theorem dL_isSubmitted_245 : decode cL_isSubmitted 245 = .ok (.iconst 0, 1) := by decide +kernel
theorem dL_isSubmitted_246 : decode cL_isSubmitted 246 = .ok (.iastore, 1) := by decide +kernel
theorem dL_isSubmitted_247 : decode cL_isSubmitted 247 = .ok (.aload 4, 2) := by decide +kernel
theorem dL_isSubmitted_249 : decode cL_isSubmitted 249 = .ok (.iload 16, 2) := by decide +kernel
theorem dL_isSubmitted_251 : decode cL_isSubmitted 251 = .ok (.aload 5, 2) := by decide +kernel
theorem dL_isSubmitted_253 : decode cL_isSubmitted 253 = .ok (.bipush 8, 2) := by decide +kernel
theorem dL_isSubmitted_255 : decode cL_isSubmitted 255 = .ok (.iload 10, 2) := by decide +kernel
theorem dL_isSubmitted_257 : decode cL_isSubmitted 257 = .ok (.iadd, 1) := by decide +kernel
theorem dL_isSubmitted_258 : decode cL_isSubmitted 258 = .ok (.iaload, 1) := by decide +kernel
theorem dL_isSubmitted_259 : decode cL_isSubmitted 259 = .ok (.iastore, 1) := by decide +kernel
theorem dL_isSubmitted_260 : decode cL_isSubmitted 260 = .ok (.aload 6, 2) := by decide +kernel
theorem dL_isSubmitted_262 : decode cL_isSubmitted 262 = .ok (.iconst 0, 1) := by decide +kernel
theorem dL_isSubmitted_263 : decode cL_isSubmitted 263 = .ok (.dup2, 1) := by decide +kernel
theorem dL_isSubmitted_264 : decode cL_isSubmitted 264 = .ok (.iaload, 1) := by decide +kernel
theorem dL_isSubmitted_265 : decode cL_isSubmitted 265 = .ok (.iconst 1, 1) := by decide +kernel
theorem dL_isSubmitted_266 : decode cL_isSubmitted 266 = .ok (.iadd, 1) := by decide +kernel
theorem dL_isSubmitted_267 : decode cL_isSubmitted 267 = .ok (.iastore, 1) := by decide +kernel
theorem dL_isSubmitted_268 : decode cL_isSubmitted 268 = .ok (.iload 16, 2) := by decide +kernel
theorem dL_isSubmitted_270 : decode cL_isSubmitted 270 = .ok (.aload 6, 2) := by decide +kernel
theorem dL_isSubmitted_272 : decode cL_isSubmitted 272 = .ok (.iconst 0, 1) := by decide +kernel
theorem dL_isSubmitted_273 : decode cL_isSubmitted 273 = .ok (.iaload, 1) := by decide +kernel
theorem dL_isSubmitted_274 : decode cL_isSubmitted 274 = .ok (.iconst 1, 1) := by decide +kernel
theorem dL_isSubmitted_275 : decode cL_isSubmitted 275 = .ok (.isub, 1) := by decide +kernel
theorem dL_isSubmitted_276 : decode cL_isSubmitted 276 = .ok (.if_icmp .ne 38, 3) := by decide +kernel
theorem dL_isSubmitted_279 : decode cL_isSubmitted 279 = .ok (.aload_n 0, 1) := by decide +kernel
theorem dL_isSubmitted_280 : decode cL_isSubmitted 280 = .ok (.iload 16, 2) := by decide +kernel
theorem dL_isSubmitted_282 : decode cL_isSubmitted 282 = .ok (.invokevirtual 58, 3) := by decide +kernel
theorem dL_isSubmitted_285 : decode cL_isSubmitted 285 = .ok (.ifCond .ne 29, 3) := by decide +kernel
theorem dL_isSubmitted_288 : decode cL_isSubmitted 288 = .ok (.aload_n 0, 1) := by decide +kernel
theorem dL_isSubmitted_289 : decode cL_isSubmitted 289 = .ok (.iload 16, 2) := by decide +kernel
theorem dL_isSubmitted_291 : decode cL_isSubmitted 291 = .ok (.invokevirtual 76, 3) := by decide +kernel
theorem dL_isSubmitted_294 : decode cL_isSubmitted 294 = .ok (.aload 6, 2) := by decide +kernel
theorem dL_isSubmitted_296 : decode cL_isSubmitted 296 = .ok (.iconst 1, 1) := by decide +kernel
theorem dL_isSubmitted_297 : decode cL_isSubmitted 297 = .ok (.iaload, 1) := by decide +kernel
theorem dL_isSubmitted_298 : decode cL_isSubmitted 298 = .ok (.if_icmp .ne 16, 3) := by decide +kernel
theorem dL_isSubmitted_301 : decode cL_isSubmitted 301 = .ok (.aload_n 0, 1) := by decide +kernel
theorem dL_isSubmitted_302 : decode cL_isSubmitted 302 = .ok (.iload 16, 2) := by decide +kernel
theorem dL_isSubmitted_304 : decode cL_isSubmitted 304 = .ok (.invokevirtual 73, 3) := by decide +kernel
theorem dL_isSubmitted_307 : decode cL_isSubmitted 307 = .ok (.ifCond .ne 7, 3) := by decide +kernel
theorem dL_isSubmitted_310 : decode cL_isSubmitted 310 = .ok (.iconst 1, 1) := by decide +kernel
theorem dL_isSubmitted_311 : decode cL_isSubmitted 311 = .ok (.goto 4, 3) := by decide +kernel
theorem dL_isSubmitted_314 : decode cL_isSubmitted 314 = .ok (.iconst 0, 1) := by decide +kernel
theorem dL_isSubmitted_315 : decode cL_isSubmitted 315 = .ok (.ireturn, 1) := by decide +kernel
set_option maxRecDepth 20000 in
theorem ggL_isReceipt_L_does : GoodIn wsL_isReceipt wsL_does := goodIn_ca (goodIn_ca (goodIn_ca (goodIn_r _ [4, 5, 6, 7, 8, 9, 10, 11, 12, 13, 14, 15, 16, 17, 18, 19, 20, 21, 22, 23, 24, 25, 26, 27, 28, 29, 30, 31, 32, 33, 34, 35, 36, 37, 38, 39, 40, 41, 42, 43, 44, 45, 46, 47, 48, 49, 50, 51, 52, 53, 54, 55, 3, 56, 57, 58, 59, 60, 61, 62, 63, 64, 65, 66, 67, 68, 69, 70, 71, 72, 73, 74, 75, 76, 77, 78, 79, 80, 81, 82, 83, 84, 85, 86, 87, 88, 89, 90, 91, 92, 93, 94, 95, 96, 97, 98, 99, 100, 101, 102, 103, 104, 105, 106, 107, 108, 109, 110, 111, 112, 113, 114, 115, 116, 117, 118, 119, 120, 121, 122, 123, 124, 125, 126, 127, 128, 129, 130, 131, 132, 133, 134, 135, 136, 137, 138, 139, 140, 141, 142, 143, 144, 145, 146, 147, 148, 149, 150, 151, 152, 153, 154, 155, 156, 157, 158, 159, 160, 161, 162, 163, 164, 165, 166, 167, 168, 169, 170, 171, 172, 173, 174, 175, 176, 177, 178, 179, 180, 181, 182, 183, 184, 185, 186, 187, 188, 189, 190, 191, 192, 193, 194, 195, 196, 197, 198, 199, 200, 201, 202, 203, 204, 205, 206, 207, 208, 209, 210, 211, 212, 213, 214, 215, 216, 217, 218, 219, 220, 221, 222, 223, 224, 225, 226, 227, 228, 229, 230, 231, 232, 233, 234, 235, 236, 237, 238, 239, 240, 241, 242, 243, 244, 245, 246, 247, 248, 249, 250, 251, 252, 253, 254, 255, 256, 257, 258, 259, 260, 261, 262, 263, 264, 265, 266, 267, 268, 269, 270, 271, 272, 273, 274, 275, 276, 277, 278, 279, 280, 281, 282, 283, 284, 285, 286, 287, 288, 289, 290, 291, 292, 293, 294, 295, 296, 297, 298, 299, 300, 301, 302, 303, 304, 305, 306, 307, 308, 309, 310, 311, 312, 313, 314, 315, 316, 317, 318, 319, 320, 321, 322, 323, 324, 325, 326, 327, 328, 329, 330, 331, 332, 333, 334, 335, 336, 337, 338, 339, 340, 341, 342, 343, 344, 345, 346, 347, 348, 349, 350, 351, 352, 353, 354, 355, 356, 357, 358, 359, 360, 361, 362, 363, 364, 365, 366, 367, 368, 369, 370, 371, 372, 373, 374, 375, 376, 377, 378, 379, 380, 381, 382, 383, 384] (by decide +kernel) (by decide +kernel)) (goodIn_sub (fun _ h => List.mem_cons_of_mem _ (List.mem_append_left _ (List.mem_append_left _ (List.mem_append_right _ h)))) (by decide +kernel))) (goodIn_sub (fun _ h => List.mem_cons_of_mem _ (List.mem_append_left _ (List.mem_append_right _ h))) (by decide +kernel))) (goodIn_sub (fun _ h => List.mem_cons_of_mem _ (List.mem_append_right _ h)) (by decide +kernel))
set_option maxRecDepth 20000 in
theorem gL_isReceipt_L_does : GoodIn wsL_isReceipt (va_wsS RL 109 yL_does wsL_does) := goodIn_app (goodIn_of _ (by decide +kernel)) ggL_isReceipt_L_does
theorem dL_isReceipt_0 : decode cL_isReceipt 0 = .ok (.aload_n 0, 1) := by decide +kernel
theorem dL_isReceipt_1 : decode cL_isReceipt 1 = .ok (.bipush 9, 2) := by decide +kernel
theorem dL_isReceipt_3 : decode cL_isReceipt 3 = .ok (.iload 6, 2) := by decide +kernel
theorem dL_isReceipt_5 : decode cL_isReceipt 5 = .ok (.iconst 0, 1) := by decide +kernel
theorem dL_isReceipt_6 : decode cL_isReceipt 6 = .ok (.iconst 0, 1) := by decide +kernel
theorem dL_isReceipt_7 : decode cL_isReceipt 7 = .ok (.iconst 0, 1) := by decide +kernel
theorem dL_isReceipt_8 : decode cL_isReceipt 8 = .ok (.invokestatic 109, 3) := by decide +kernel
theorem dL_isReceipt_11 : decode cL_isReceipt 11 = .ok (.istore 7, 2) := by decide +kernel
theorem dL_isReceipt_13 : decode cL_isReceipt 13 = .ok (.iload 6, 2) := by decide +kernel
theorem dL_isReceipt_15 : decode cL_isReceipt 15 = .ok (.iconst 4, 1) := by decide +kernel
theorem dL_isReceipt_16 : decode cL_isReceipt 16 = .ok (.if_icmp .eq 14, 3) := by decide +kernel
theorem dL_isReceipt_19 : decode cL_isReceipt 19 = .ok (.aload 4, 2) := by decide +kernel
theorem dL_isReceipt_21 : decode cL_isReceipt 21 = .ok (.bipush 12, 2) := by decide +kernel
theorem dL_isReceipt_23 : decode cL_isReceipt 23 = .ok (.iload 6, 2) := by decide +kernel
theorem dL_isReceipt_25 : decode cL_isReceipt 25 = .ok (.iadd, 1) := by decide +kernel
theorem dL_isReceipt_26 : decode cL_isReceipt 26 = .ok (.iaload, 1) := by decide +kernel
theorem dL_isReceipt_27 : decode cL_isReceipt 27 = .ok (.ifCond .ne 27, 3) := by decide +kernel
theorem dL_isReceipt_30 : decode cL_isReceipt 30 = .ok (.iload 7, 2) := by decide +kernel
theorem dL_isReceipt_32 : decode cL_isReceipt 32 = .ok (.iload 6, 2) := by decide +kernel
theorem dL_isReceipt_34 : decode cL_isReceipt 34 = .ok (.iconst 4, 1) := by decide +kernel
theorem dL_isReceipt_35 : decode cL_isReceipt 35 = .ok (.if_icmp .ne 8, 3) := by decide +kernel
theorem dL_isReceipt_38 : decode cL_isReceipt 38 = .ok (.bipush (-30), 2) := by decide +kernel
theorem dL_isReceipt_40 : decode cL_isReceipt 40 = .ok (.goto 5, 3) := by decide +kernel
theorem dL_isReceipt_43 : decode cL_isReceipt 43 = .ok (.bipush (-10), 2) := by decide +kernel
theorem dL_isReceipt_45 : decode cL_isReceipt 45 = .ok (.if_icmp .ne 7, 3) := by decide +kernel
theorem dL_isReceipt_48 : decode cL_isReceipt 48 = .ok (.iconst 1, 1) := by decide +kernel
theorem dL_isReceipt_49 : decode cL_isReceipt 49 = .ok (.goto 4, 3) := by decide +kernel
theorem dL_isReceipt_52 : decode cL_isReceipt 52 = .ok (.iconst 0, 1) := by decide +kernel
theorem dL_isReceipt_53 : decode cL_isReceipt 53 = .ok (.ireturn, 1) := by decide +kernel
theorem dL_isReceipt_54 : decode cL_isReceipt 54 = .ok (.aload 4, 2) := by decide +kernel
theorem dL_isReceipt_56 : decode cL_isReceipt 56 = .ok (.bipush 12, 2) := by decide +kernel
theorem dL_isReceipt_58 : decode cL_isReceipt 58 = .ok (.iload 6, 2) := by decide +kernel
theorem dL_isReceipt_60 : decode cL_isReceipt 60 = .ok (.iadd, 1) := by decide +kernel
theorem dL_isReceipt_61 : decode cL_isReceipt 61 = .ok (.dup2, 1) := by decide +kernel
theorem dL_isReceipt_62 : decode cL_isReceipt 62 = .ok (.iaload, 1) := by decide +kernel
theorem dL_isReceipt_63 : decode cL_isReceipt 63 = .ok (.iconst 1, 1) := by decide +kernel
theorem dL_isReceipt_64 : decode cL_isReceipt 64 = .ok (.isub, 1) := by decide +kernel
theorem dL_isReceipt_65 : decode cL_isReceipt 65 = .ok (.iastore, 1) := by decide +kernel
theorem dL_isReceipt_66 : decode cL_isReceipt 66 = .ok (.iload 7, 2) := by decide +kernel
theorem dL_isReceipt_68 : decode cL_isReceipt 68 = .ok (.ifCond .lt 65, 3) := by decide +kernel
theorem dL_isReceipt_71 : decode cL_isReceipt 71 = .ok (.iload 7, 2) := by decide +kernel
theorem dL_isReceipt_73 : decode cL_isReceipt 73 = .ok (.bipush 10, 2) := by decide +kernel
theorem dL_isReceipt_75 : decode cL_isReceipt 75 = .ok (.idiv, 1) := by decide +kernel
theorem dL_isReceipt_76 : decode cL_isReceipt 76 = .ok (.aload 5, 2) := by decide +kernel
theorem dL_isReceipt_78 : decode cL_isReceipt 78 = .ok (.iconst 0, 1) := by decide +kernel
theorem dL_isReceipt_79 : decode cL_isReceipt 79 = .ok (.iaload, 1) := by decide +kernel
theorem dL_isReceipt_80 : decode cL_isReceipt 80 = .ok (.if_icmp .ge 53, 3) := by decide +kernel
theorem dL_isReceipt_83 : decode cL_isReceipt 83 = .ok (.aload_n 1, 1) := by decide +kernel
theorem dL_isReceipt_84 : decode cL_isReceipt 84 = .ok (.iload 7, 2) := by decide +kernel
theorem dL_isReceipt_86 : decode cL_isReceipt 86 = .ok (.bipush 10, 2) := by decide +kernel
theorem dL_isReceipt_88 : decode cL_isReceipt 88 = .ok (.idiv, 1) := by decide +kernel
theorem dL_isReceipt_89 : decode cL_isReceipt 89 = .ok (.iaload, 1) := by decide +kernel
theorem dL_isReceipt_90 : decode cL_isReceipt 90 = .ok (.iload 6, 2) := by decide +kernel
theorem dL_isReceipt_92 : decode cL_isReceipt 92 = .ok (.if_icmp .ne 41, 3) := by decide +kernel
theorem dL_isReceipt_95 : decode cL_isReceipt 95 = .ok (.aload_n 3, 1) := by decide +kernel
theorem dL_isReceipt_96 : decode cL_isReceipt 96 = .ok (.iload 7, 2) := by decide +kernel
theorem dL_isReceipt_98 : decode cL_isReceipt 98 = .ok (.bipush 10, 2) := by decide +kernel
theorem dL_isReceipt_100 : decode cL_isReceipt 100 = .ok (.idiv, 1) := by decide +kernel
theorem dL_isReceipt_101 : decode cL_isReceipt 101 = .ok (.iaload, 1) := by decide +kernel
theorem dL_isReceipt_102 : decode cL_isReceipt 102 = .ok (.iconst 1, 1) := by decide +kernel
theorem dL_isReceipt_103 : decode cL_isReceipt 103 = .ok (.if_icmp .ne 30, 3) := by decide +kernel
theorem dL_isReceipt_106 : decode cL_isReceipt 106 = .ok (.aload_n 2, 1) := by decide +kernel
theorem dL_isReceipt_107 : decode cL_isReceipt 107 = .ok (.iload 7, 2) := by decide +kernel
theorem dL_isReceipt_109 : decode cL_isReceipt 109 = .ok (.bipush 10, 2) := by decide +kernel
theorem dL_isReceipt_111 : decode cL_isReceipt 111 = .ok (.idiv, 1) := by decide +kernel
theorem dL_isReceipt_112 : decode cL_isReceipt 112 = .ok (.iaload, 1) := by decide +kernel
theorem dL_isReceipt_113 : decode cL_isReceipt 113 = .ok (.iload 7, 2) := by decide +kernel
theorem dL_isReceipt_115 : decode cL_isReceipt 115 = .ok (.bipush 10, 2) := by decide +kernel
theorem dL_isReceipt_117 : decode cL_isReceipt 117 = .ok (.irem, 1) := by decide +kernel
theorem dL_isReceipt_118 : decode cL_isReceipt 118 = .ok (.if_icmp .ne 15, 3) := by decide +kernel
theorem dL_isReceipt_121 : decode cL_isReceipt 121 = .ok (.iload 7, 2) := by decide +kernel
theorem dL_isReceipt_123 : decode cL_isReceipt 123 = .ok (.bipush 10, 2) := by decide +kernel
theorem dL_isReceipt_125 : decode cL_isReceipt 125 = .ok (.irem, 1) := by decide +kernel
theorem dL_isReceipt_126 : decode cL_isReceipt 126 = .ok (.ifCond .le 7, 3) := by decide +kernel
theorem dL_isReceipt_129 : decode cL_isReceipt 129 = .ok (.iconst 1, 1) := by decide +kernel
theorem dL_isReceipt_130 : decode cL_isReceipt 130 = .ok (.goto 4, 3) := by decide +kernel
theorem dL_isReceipt_133 : decode cL_isReceipt 133 = .ok (.iconst 0, 1) := by decide +kernel
theorem dL_isReceipt_134 : decode cL_isReceipt 134 = .ok (.ireturn, 1) := by decide +kernel
set_option maxRecDepth 20000 in
theorem ggL_isRecipient_L_does : GoodIn wsL_isRecipient wsL_does := goodIn_ca (goodIn_ca (goodIn_ca (goodIn_r _ [4, 5, 6, 7, 8, 9, 10, 11, 12, 13, 14, 15, 16, 17, 18, 19, 20, 21, 22, 23, 24, 25, 26, 27, 28, 29, 30, 31, 32, 33, 34, 35, 36, 37, 38, 39, 40, 41, 42, 43, 44, 45, 46, 47, 48, 49, 50, 51, 52, 53, 54, 55, 3, 56, 57, 58, 59, 60, 61, 62, 63, 64, 65, 66, 67, 68, 69, 70, 71, 72, 73, 74, 75, 76, 77, 78, 79, 80, 81, 82, 83, 84, 85, 86, 87, 88, 89, 90, 91, 92, 93, 94, 95, 96, 97, 98, 99, 100, 101, 102, 103, 104, 105, 106, 107, 108, 109, 110, 111, 112, 113, 114, 115, 116, 117, 118, 119, 120, 121, 122, 123, 124, 125, 126, 127, 128, 129, 130, 131, 132, 133, 134, 135, 136, 137, 138, 139, 140, 141, 142, 143, 144, 145, 146, 147, 148, 149, 150, 151, 152, 153, 154, 155, 156, 157, 158, 159, 160, 161, 162, 163, 164, 165, 166, 167, 168, 169, 170, 171, 172, 173, 174, 175, 176, 177, 178, 179, 180, 181, 182, 183, 184, 185, 186, 187, 188, 189, 190, 191, 192, 193, 194, 195, 196, 197, 198, 199, 200, 201, 202, 203, 204, 205, 206, 207, 208, 209, 210, 211, 212, 213, 214, 215, 216, 217, 218, 219, 220, 221, 222, 223, 224, 225, 226, 227, 228, 229, 230, 231, 232, 233, 234, 235, 236, 237, 238, 239, 240, 241, 242, 243, 244, 245, 246, 247, 248, 249, 250, 251, 252, 253, 254, 255, 256, 257, 258, 259, 260, 261, 262, 263, 264, 265, 266, 267, 268, 269, 270, 271, 272, 273, 274, 275, 276, 277, 278, 279, 280, 281, 282, 283, 284, 285, 286, 287, 288, 289, 290, 291, 292, 293, 294, 295, 296, 297, 298, 299, 300, 301, 302, 303, 304, 305, 306, 307, 308, 309, 310, 311, 312, 313, 314, 315, 316, 317, 318, 319, 320, 321, 322, 323, 324, 325, 326, 327, 328, 329, 330, 331, 332, 333, 334, 335, 336, 337, 338, 339, 340, 341, 342, 343, 344, 345, 346, 347, 352, 353, 354, 355, 356, 357, 358, 359, 360, 361, 362, 363, 364, 365, 366, 367, 368, 369, 370, 371, 372, 373, 374, 375, 376, 377, 378, 379, 380, 381, 382, 383, 384, 385, 386, 387, 388] (by decide +kernel) (by decide +kernel)) (goodIn_sub (fun _ h => List.mem_cons_of_mem _ (List.mem_append_left _ (List.mem_append_left _ (List.mem_append_right _ h)))) (by decide +kernel))) (goodIn_sub (fun _ h => List.mem_cons_of_mem _ (List.mem_append_left _ (List.mem_append_right _ h))) (by decide +kernel))) (goodIn_sub (fun _ h => List.mem_cons_of_mem _ (List.mem_append_right _ h)) (by decide +kernel))
set_option maxRecDepth 20000 in
theorem gL_isRecipient_L_does : GoodIn wsL_isRecipient (va_wsS RL 109 yL_does wsL_does) := goodIn_app (goodIn_of _ (by decide +kernel)) ggL_isRecipient_L_does
set_option maxRecDepth 20000 in
theorem ggL_isRecipient_X5_inRoom : GoodIn wsL_isRecipient wsX5_inRoom := goodIn_ca (goodIn_r _ [351, 276, 83, 84, 85, 11, 86, 18, 19, 87, 379, 380, 381, 382, 383, 359, 360, 361, 362] (by decide +kernel) (by decide +kernel)) (goodIn_sub (fun _ h => List.mem_cons_of_mem _ (List.mem_append_left _ (List.mem_append_left _ (List.mem_append_right _ h)))) (by decide +kernel))
set_option maxRecDepth 20000 in
theorem gL_isRecipient_X5_inRoom : GoodIn wsL_isRecipient (wsV RL 79 RX5 yX5_inRoom wsX5_inRoom) := goodIn_app (goodIn_of _ (by decide +kernel)) ggL_isRecipient_X5_inRoom
theorem dL_isRecipient_0 : decode cL_isRecipient 0 = .ok (.iload_n 2, 1) := by decide +kernel
theorem dL_isRecipient_1 : decode cL_isRecipient 1 = .ok (.ifCond .ne 67, 3) := by decide +kernel
theorem dL_isRecipient_4 : decode cL_isRecipient 4 = .ok (.iload 4, 2) := by decide +kernel
theorem dL_isRecipient_6 : decode cL_isRecipient 6 = .ok (.iconst 5, 1) := by decide +kernel
theorem dL_isRecipient_7 : decode cL_isRecipient 7 = .ok (.irem, 1) := by decide +kernel
theorem dL_isRecipient_8 : decode cL_isRecipient 8 = .ok (.istore 5, 2) := by decide +kernel
theorem dL_isRecipient_10 : decode cL_isRecipient 10 = .ok (.iload_n 3, 1) := by decide +kernel
theorem dL_isRecipient_11 : decode cL_isRecipient 11 = .ok (.bipush 6, 2) := by decide +kernel
theorem dL_isRecipient_13 : decode cL_isRecipient 13 = .ok (.if_icmp .ne 8, 3) := by decide +kernel
theorem dL_isRecipient_16 : decode cL_isRecipient 16 = .ok (.bipush (-30), 2) := by decide +kernel
theorem dL_isRecipient_18 : decode cL_isRecipient 18 = .ok (.goto 17, 3) := by decide +kernel
theorem dL_isRecipient_21 : decode cL_isRecipient 21 = .ok (.iload 5, 2) := by decide +kernel
theorem dL_isRecipient_23 : decode cL_isRecipient 23 = .ok (.iconst 4, 1) := by decide +kernel
theorem dL_isRecipient_24 : decode cL_isRecipient 24 = .ok (.if_icmp .ne 8, 3) := by decide +kernel
theorem dL_isRecipient_27 : decode cL_isRecipient 27 = .ok (.bipush (-20), 2) := by decide +kernel
theorem dL_isRecipient_29 : decode cL_isRecipient 29 = .ok (.goto 6, 3) := by decide +kernel
theorem dL_isRecipient_32 : decode cL_isRecipient 32 = .ok (.aload_n 1, 1) := by decide +kernel
theorem dL_isRecipient_33 : decode cL_isRecipient 33 = .ok (.iload_n 3, 1) := by decide +kernel
theorem dL_isRecipient_34 : decode cL_isRecipient 34 = .ok (.iaload, 1) := by decide +kernel
theorem dL_isRecipient_35 : decode cL_isRecipient 35 = .ok (.istore 6, 2) := by decide +kernel
theorem dL_isRecipient_37 : decode cL_isRecipient 37 = .ok (.iload 6, 2) := by decide +kernel
theorem dL_isRecipient_39 : decode cL_isRecipient 39 = .ok (.ifCond .lt 8, 3) := by decide +kernel
theorem dL_isRecipient_42 : decode cL_isRecipient 42 = .ok (.aload_n 1, 1) := by decide +kernel
theorem dL_isRecipient_43 : decode cL_isRecipient 43 = .ok (.iload_n 3, 1) := by decide +kernel
theorem dL_isRecipient_44 : decode cL_isRecipient 44 = .ok (.iload 5, 2) := by decide +kernel
theorem dL_isRecipient_46 : decode cL_isRecipient 46 = .ok (.iastore, 1) := by decide +kernel
theorem dL_isRecipient_47 : decode cL_isRecipient 47 = .ok (.aload_n 0, 1) := by decide +kernel
theorem dL_isRecipient_48 : decode cL_isRecipient 48 = .ok (.iconst 5, 1) := by decide +kernel
theorem dL_isRecipient_49 : decode cL_isRecipient 49 = .ok (.iload_n 3, 1) := by decide +kernel
theorem dL_isRecipient_50 : decode cL_isRecipient 50 = .ok (.iload 5, 2) := by decide +kernel
theorem dL_isRecipient_52 : decode cL_isRecipient 52 = .ok (.iconst 0, 1) := by decide +kernel
theorem dL_isRecipient_53 : decode cL_isRecipient 53 = .ok (.iconst 0, 1) := by decide +kernel
theorem dL_isRecipient_54 : decode cL_isRecipient 54 = .ok (.invokestatic 109, 3) := by decide +kernel
theorem dL_isRecipient_57 : decode cL_isRecipient 57 = .ok (.iload 6, 2) := by decide +kernel
theorem dL_isRecipient_59 : decode cL_isRecipient 59 = .ok (.if_icmp .ne 7, 3) := by decide +kernel
theorem dL_isRecipient_62 : decode cL_isRecipient 62 = .ok (.iconst 1, 1) := by decide +kernel
theorem dL_isRecipient_63 : decode cL_isRecipient 63 = .ok (.goto 4, 3) := by decide +kernel
theorem dL_isRecipient_66 : decode cL_isRecipient 66 = .ok (.iconst 0, 1) := by decide +kernel
theorem dL_isRecipient_67 : decode cL_isRecipient 67 = .ok (.ireturn, 1) := by decide +kernel
theorem dL_isRecipient_68 : decode cL_isRecipient 68 = .ok (.iload_n 2, 1) := by decide +kernel
theorem dL_isRecipient_69 : decode cL_isRecipient 69 = .ok (.iconst 1, 1) := by decide +kernel
theorem dL_isRecipient_70 : decode cL_isRecipient 70 = .ok (.if_icmp .ne 76, 3) := by decide +kernel
theorem dL_isRecipient_73 : decode cL_isRecipient 73 = .ok (.iload 4, 2) := by decide +kernel
theorem dL_isRecipient_75 : decode cL_isRecipient 75 = .ok (.bipush 52, 2) := by decide +kernel
theorem dL_isRecipient_77 : decode cL_isRecipient 77 = .ok (.irem, 1) := by decide +kernel
theorem dL_isRecipient_78 : decode cL_isRecipient 78 = .ok (.istore 5, 2) := by decide +kernel
theorem dL_isRecipient_80 : decode cL_isRecipient 80 = .ok (.iload_n 3, 1) := by decide +kernel
theorem dL_isRecipient_81 : decode cL_isRecipient 81 = .ok (.bipush 6, 2) := by decide +kernel
theorem dL_isRecipient_83 : decode cL_isRecipient 83 = .ok (.if_icmp .ne 8, 3) := by decide +kernel
theorem dL_isRecipient_86 : decode cL_isRecipient 86 = .ok (.bipush (-30), 2) := by decide +kernel
theorem dL_isRecipient_88 : decode cL_isRecipient 88 = .ok (.goto 21, 3) := by decide +kernel
theorem dL_isRecipient_91 : decode cL_isRecipient 91 = .ok (.iload 5, 2) := by decide +kernel
theorem dL_isRecipient_93 : decode cL_isRecipient 93 = .ok (.bipush 51, 2) := by decide +kernel
theorem dL_isRecipient_95 : decode cL_isRecipient 95 = .ok (.if_icmp .ne 8, 3) := by decide +kernel
theorem dL_isRecipient_98 : decode cL_isRecipient 98 = .ok (.bipush (-20), 2) := by decide +kernel
theorem dL_isRecipient_100 : decode cL_isRecipient 100 = .ok (.goto 9, 3) := by decide +kernel
theorem dL_isRecipient_103 : decode cL_isRecipient 103 = .ok (.aload_n 1, 1) := by decide +kernel
theorem dL_isRecipient_104 : decode cL_isRecipient 104 = .ok (.bipush 6, 2) := by decide +kernel
theorem dL_isRecipient_106 : decode cL_isRecipient 106 = .ok (.iload_n 3, 1) := by decide +kernel
theorem dL_isRecipient_107 : decode cL_isRecipient 107 = .ok (.iadd, 1) := by decide +kernel
theorem dL_isRecipient_108 : decode cL_isRecipient 108 = .ok (.iaload, 1) := by decide +kernel
theorem dL_isRecipient_109 : decode cL_isRecipient 109 = .ok (.istore 6, 2) := by decide +kernel
theorem dL_isRecipient_111 : decode cL_isRecipient 111 = .ok (.iload 6, 2) := by decide +kernel
theorem dL_isRecipient_113 : decode cL_isRecipient 113 = .ok (.ifCond .lt 11, 3) := by decide +kernel
theorem dL_isRecipient_116 : decode cL_isRecipient 116 = .ok (.aload_n 1, 1) := by decide +kernel
theorem dL_isRecipient_117 : decode cL_isRecipient 117 = .ok (.bipush 6, 2) := by decide +kernel
theorem dL_isRecipient_119 : decode cL_isRecipient 119 = .ok (.iload_n 3, 1) := by decide +kernel
theorem dL_isRecipient_120 : decode cL_isRecipient 120 = .ok (.iadd, 1) := by decide +kernel
theorem dL_isRecipient_121 : decode cL_isRecipient 121 = .ok (.iload 5, 2) := by decide +kernel
theorem dL_isRecipient_123 : decode cL_isRecipient 123 = .ok (.iastore, 1) := by decide +kernel
theorem dL_isRecipient_124 : decode cL_isRecipient 124 = .ok (.aload_n 0, 1) := by decide +kernel
theorem dL_isRecipient_125 : decode cL_isRecipient 125 = .ok (.bipush 6, 2) := by decide +kernel
theorem dL_isRecipient_127 : decode cL_isRecipient 127 = .ok (.iload_n 3, 1) := by decide +kernel
theorem dL_isRecipient_128 : decode cL_isRecipient 128 = .ok (.iload 5, 2) := by decide +kernel
theorem dL_isRecipient_130 : decode cL_isRecipient 130 = .ok (.iconst 0, 1) := by decide +kernel
theorem dL_isRecipient_131 : decode cL_isRecipient 131 = .ok (.iconst 0, 1) := by decide +kernel
theorem dL_isRecipient_132 : decode cL_isRecipient 132 = .ok (.invokestatic 109, 3) := by decide +kernel
theorem dL_isRecipient_135 : decode cL_isRecipient 135 = .ok (.iload 6, 2) := by decide +kernel
theorem dL_isRecipient_137 : decode cL_isRecipient 137 = .ok (.if_icmp .ne 7, 3) := by decide +kernel
theorem dL_isRecipient_140 : decode cL_isRecipient 140 = .ok (.iconst 1, 1) := by decide +kernel
theorem dL_isRecipient_141 : decode cL_isRecipient 141 = .ok (.goto 4, 3) := by decide +kernel
theorem dL_isRecipient_144 : decode cL_isRecipient 144 = .ok (.iconst 0, 1) := by decide +kernel
theorem dL_isRecipient_145 : decode cL_isRecipient 145 = .ok (.ireturn, 1) := by decide +kernel
theorem dL_isRecipient_146 : decode cL_isRecipient 146 = .ok (.iload 4, 2) := by decide +kernel
theorem dL_isRecipient_148 : decode cL_isRecipient 148 = .ok (.bipush 52, 2) := by decide +kernel
theorem dL_isRecipient_150 : decode cL_isRecipient 150 = .ok (.irem, 1) := by decide +kernel
theorem dL_isRecipient_151 : decode cL_isRecipient 151 = .ok (.istore 5, 2) := by decide +kernel
theorem dL_isRecipient_153 : decode cL_isRecipient 153 = .ok (.iload_n 3, 1) := by decide +kernel
theorem dL_isRecipient_154 : decode cL_isRecipient 154 = .ok (.bipush 6, 2) := by decide +kernel
theorem dL_isRecipient_156 : decode cL_isRecipient 156 = .ok (.if_icmp .ne 7, 3) := by decide +kernel
theorem dL_isRecipient_159 : decode cL_isRecipient 159 = .ok (.iconst 0, 1) := by decide +kernel
theorem dL_isRecipient_160 : decode cL_isRecipient 160 = .ok (.goto 8, 3) := by decide +kernel
theorem dL_isRecipient_163 : decode cL_isRecipient 163 = .ok (.aload_n 0, 1) := by decide +kernel
theorem dL_isRecipient_164 : decode cL_isRecipient 164 = .ok (.iload_n 3, 1) := by decide +kernel
theorem dL_isRecipient_165 : decode cL_isRecipient 165 = .ok (.invokevirtual 79, 3) := by decide +kernel
theorem dL_isRecipient_168 : decode cL_isRecipient 168 = .ok (.istore 6, 2) := by decide +kernel
theorem dL_isRecipient_170 : decode cL_isRecipient 170 = .ok (.aload_n 0, 1) := by decide +kernel
theorem dL_isRecipient_171 : decode cL_isRecipient 171 = .ok (.bipush 7, 2) := by decide +kernel
theorem dL_isRecipient_173 : decode cL_isRecipient 173 = .ok (.iload_n 3, 1) := by decide +kernel
theorem dL_isRecipient_174 : decode cL_isRecipient 174 = .ok (.iload 5, 2) := by decide +kernel
theorem dL_isRecipient_176 : decode cL_isRecipient 176 = .ok (.iconst 0, 1) := by decide +kernel
theorem dL_isRecipient_177 : decode cL_isRecipient 177 = .ok (.iconst 0, 1) := by decide +kernel
theorem dL_isRecipient_178 : decode cL_isRecipient 178 = .ok (.invokestatic 109, 3) := by decide +kernel
theorem dL_isRecipient_181 : decode cL_isRecipient 181 = .ok (.istore 7, 2) := by decide +kernel
theorem dL_isRecipient_183 : decode cL_isRecipient 183 = .ok (.iload_n 3, 1) := by decide +kernel
theorem dL_isRecipient_184 : decode cL_isRecipient 184 = .ok (.bipush 6, 2) := by decide +kernel
theorem dL_isRecipient_186 : decode cL_isRecipient 186 = .ok (.if_icmp .eq 15, 3) := by decide +kernel
theorem dL_isRecipient_189 : decode cL_isRecipient 189 = .ok (.iload 5, 2) := by decide +kernel
theorem dL_isRecipient_191 : decode cL_isRecipient 191 = .ok (.ifCond .eq 10, 3) := by decide +kernel
theorem dL_isRecipient_194 : decode cL_isRecipient 194 = .ok (.iload 5, 2) := by decide +kernel
theorem dL_isRecipient_196 : decode cL_isRecipient 196 = .ok (.bipush 51, 2) := by decide +kernel
theorem dL_isRecipient_198 : decode cL_isRecipient 198 = .ok (.if_icmp .ne 27, 3) := by decide +kernel
theorem dL_isRecipient_201 : decode cL_isRecipient 201 = .ok (.iload 7, 2) := by decide +kernel
theorem dL_isRecipient_203 : decode cL_isRecipient 203 = .ok (.iload_n 3, 1) := by decide +kernel
theorem dL_isRecipient_204 : decode cL_isRecipient 204 = .ok (.bipush 6, 2) := by decide +kernel
theorem dL_isRecipient_206 : decode cL_isRecipient 206 = .ok (.if_icmp .ne 8, 3) := by decide +kernel
theorem dL_isRecipient_209 : decode cL_isRecipient 209 = .ok (.bipush (-30), 2) := by decide +kernel
theorem dL_isRecipient_211 : decode cL_isRecipient 211 = .ok (.goto 5, 3) := by decide +kernel
theorem dL_isRecipient_214 : decode cL_isRecipient 214 = .ok (.bipush (-20), 2) := by decide +kernel
theorem dL_isRecipient_216 : decode cL_isRecipient 216 = .ok (.if_icmp .ne 7, 3) := by decide +kernel
theorem dL_isRecipient_219 : decode cL_isRecipient 219 = .ok (.iconst 1, 1) := by decide +kernel
theorem dL_isRecipient_220 : decode cL_isRecipient 220 = .ok (.goto 4, 3) := by decide +kernel
theorem dL_isRecipient_223 : decode cL_isRecipient 223 = .ok (.iconst 0, 1) := by decide +kernel
theorem dL_isRecipient_224 : decode cL_isRecipient 224 = .ok (.ireturn, 1) := by decide +kernel
theorem dL_isRecipient_225 : decode cL_isRecipient 225 = .ok (.aload_n 1, 1) := by decide +kernel
theorem dL_isRecipient_226 : decode cL_isRecipient 226 = .ok (.bipush 12, 2) := by decide +kernel
theorem dL_isRecipient_228 : decode cL_isRecipient 228 = .ok (.iload_n 3, 1) := by decide +kernel
theorem dL_isRecipient_229 : decode cL_isRecipient 229 = .ok (.iadd, 1) := by decide +kernel
theorem dL_isRecipient_230 : decode cL_isRecipient 230 = .ok (.dup2, 1) := by decide +kernel
theorem dL_isRecipient_231 : decode cL_isRecipient 231 = .ok (.iaload, 1) := by decide +kernel
theorem dL_isRecipient_232 : decode cL_isRecipient 232 = .ok (.iload 5, 2) := by decide +kernel
theorem dL_isRecipient_234 : decode cL_isRecipient 234 = .ok (.iload 6, 2) := by decide +kernel
theorem dL_isRecipient_236 : decode cL_isRecipient 236 = .ok (.if_icmp .ge 8, 3) := by decide +kernel
theorem dL_isRecipient_239 : decode cL_isRecipient 239 = .ok (.iload 5, 2) := by decide +kernel
theorem dL_isRecipient_241 : decode cL_isRecipient 241 = .ok (.goto 5, 3) := by decide +kernel
theorem dL_isRecipient_244 : decode cL_isRecipient 244 = .ok (.iload 6, 2) := by decide +kernel
theorem dL_isRecipient_246 : decode cL_isRecipient 246 = .ok (.iadd, 1) := by decide +kernel
theorem dL_isRecipient_247 : decode cL_isRecipient 247 = .ok (.iastore, 1) := by decide +kernel
theorem dL_isRecipient_248 : decode cL_isRecipient 248 = .ok (.iload 7, 2) := by decide +kernel
theorem dL_isRecipient_250 : decode cL_isRecipient 250 = .ok (.iload 5, 2) := by decide +kernel
theorem dL_isRecipient_252 : decode cL_isRecipient 252 = .ok (.iload 6, 2) := by decide +kernel
theorem dL_isRecipient_254 : decode cL_isRecipient 254 = .ok (.if_icmp .ge 11, 3) := by decide +kernel
theorem dL_isRecipient_257 : decode cL_isRecipient 257 = .ok (.iload 6, 2) := by decide +kernel
theorem dL_isRecipient_259 : decode cL_isRecipient 259 = .ok (.iload 5, 2) := by decide +kernel
theorem dL_isRecipient_261 : decode cL_isRecipient 261 = .ok (.isub, 1) := by decide +kernel
theorem dL_isRecipient_262 : decode cL_isRecipient 262 = .ok (.goto 4, 3) := by decide +kernel
theorem dL_isRecipient_265 : decode cL_isRecipient 265 = .ok (.iconst 0, 1) := by decide +kernel
theorem dL_isRecipient_266 : decode cL_isRecipient 266 = .ok (.if_icmp .ne 7, 3) := by decide +kernel
theorem dL_isRecipient_269 : decode cL_isRecipient 269 = .ok (.iconst 1, 1) := by decide +kernel
theorem dL_isRecipient_270 : decode cL_isRecipient 270 = .ok (.goto 4, 3) := by decide +kernel
theorem dL_isRecipient_273 : decode cL_isRecipient 273 = .ok (.iconst 0, 1) := by decide +kernel
theorem dL_isRecipient_274 : decode cL_isRecipient 274 = .ok (.ireturn, 1) := by decide +kernel
set_option maxRecDepth 20000 in
theorem ggL_isPassed_X5_delivered : GoodIn wsL_isPassed wsX5_delivered := goodIn_ca (goodIn_r _ [5, 6, 7, 8, 9, 4, 10, 11, 12, 13, 14, 15, 16, 17, 18, 19, 20, 21, 22, 23, 24, 25, 26, 27, 28, 29, 30, 31, 32, 33, 34, 35, 36, 37, 352, 353, 354, 355, 356, 357, 358, 359, 360, 361, 362, 363, 364, 365, 366, 367, 368, 369, 370, 371, 372, 373, 374] (by decide +kernel) (by decide +kernel)) (goodIn_sub (fun _ h => List.mem_cons_of_mem _ (List.mem_append_left _ (List.mem_append_left _ (List.mem_append_right _ h)))) (by decide +kernel))
set_option maxRecDepth 20000 in
theorem gL_isPassed_X5_delivered : GoodIn wsL_isPassed (wsV RL 70 RX5 yX5_delivered wsX5_delivered) := goodIn_app (goodIn_of _ (by decide +kernel)) ggL_isPassed_X5_delivered
set_option maxRecDepth 20000 in
theorem ggL_isPassed_L_does : GoodIn wsL_isPassed wsL_does := goodIn_ca (goodIn_ca (goodIn_ca (goodIn_r _ [41, 42, 43, 44, 45, 46, 47, 4, 48, 49, 50, 51, 52, 53, 11, 12, 54, 55, 56, 57, 58, 59, 60, 61, 62, 63, 64, 65, 66, 67, 68, 69, 70, 71, 72, 73, 74, 75, 76, 77, 78, 79, 80, 81, 82, 83, 84, 85, 86, 87, 88, 89, 40, 90, 91, 92, 93, 94, 95, 96, 97, 98, 99, 100, 101, 102, 103, 104, 105, 106, 107, 108, 109, 110, 13, 111, 112, 113, 114, 115, 116, 117, 118, 119, 120, 121, 122, 123, 124, 14, 125, 126, 15, 16, 17, 18, 19, 20, 21, 22, 23, 24, 25, 26, 27, 28, 29, 30, 31, 32, 33, 34, 35, 36, 37, 127, 128, 129, 130, 131, 132, 133, 134, 135, 136, 137, 138, 139, 140, 141, 142, 143, 144, 145, 146, 147, 148, 149, 150, 151, 152, 153, 154, 155, 156, 157, 158, 159, 160, 161, 162, 163, 164, 165, 166, 167, 168, 169, 170, 171, 172, 173, 174, 175, 176, 177, 178, 179, 180, 181, 182, 183, 184, 185, 186, 187, 188, 189, 190, 191, 192, 193, 194, 195, 196, 197, 198, 199, 200, 201, 202, 203, 204, 205, 206, 207, 208, 209, 210, 211, 212, 213, 214, 215, 216, 217, 218, 219, 220, 221, 222, 223, 224, 6, 225, 226, 227, 228, 229, 230, 231, 232, 233, 234, 235, 236, 237, 238, 239, 240, 241, 242, 243, 244, 245, 246, 247, 248, 249, 250, 251, 252, 253, 254, 255, 256, 257, 7, 8, 9, 10, 258, 259, 260, 261, 262, 263, 264, 265, 266, 267, 268, 269, 270, 271, 272, 273, 274, 275, 276, 277, 278, 279, 280, 281, 282, 283, 284, 285, 286, 287, 288, 289, 290, 291, 292, 293, 294, 295, 296, 297, 298, 299, 300, 301, 302, 303, 304, 305, 306, 307, 308, 309, 310, 311, 312, 313, 314, 315, 316, 317, 318, 319, 320, 321, 322, 323, 324, 325, 326, 327, 328, 329, 330, 331, 332, 333, 334, 335, 336, 337, 338, 339, 340, 341, 342, 343, 344, 345, 346, 347, 348, 349, 350, 351, 375, 376, 377, 378, 379, 380, 381, 368, 369, 370, 371, 352, 353, 354, 355, 356, 357, 358, 359, 360, 361, 362, 363, 364, 365, 366, 367, 382, 383, 384, 385, 386, 372, 373, 374, 387, 388] (by decide +kernel) (by decide +kernel)) (goodIn_sub (fun _ h => List.mem_cons_of_mem _ (List.mem_append_left _ (List.mem_append_left _ (List.mem_append_right _ h)))) (by decide +kernel))) (goodIn_sub (fun _ h => List.mem_cons_of_mem _ (List.mem_append_left _ (List.mem_append_right _ h))) (by decide +kernel))) (goodIn_sub (fun _ h => List.mem_cons_of_mem _ (List.mem_append_right _ h)) (by decide +kernel))
set_option maxRecDepth 20000 in
theorem gL_isPassed_L_does : GoodIn wsL_isPassed (va_wsS RL 109 yL_does wsL_does) := goodIn_app (goodIn_of _ (by decide +kernel)) ggL_isPassed_L_does
theorem dL_isPassed_0 : decode cL_isPassed 0 = .ok (.iload_n 3, 1) := by decide +kernel
theorem dL_isPassed_1 : decode cL_isPassed 1 = .ok (.ifCond .le 13, 3) := by decide +kernel
theorem dL_isPassed_4 : decode cL_isPassed 4 = .ok (.iload_n 3, 1) := by decide +kernel
theorem dL_isPassed_5 : decode cL_isPassed 5 = .ok (.bipush 101, 2) := by decide +kernel
theorem dL_isPassed_7 : decode cL_isPassed 7 = .ok (.if_icmp .ge 7, 3) := by decide +kernel
theorem dL_isPassed_10 : decode cL_isPassed 10 = .ok (.iconst 1, 1) := by decide +kernel
theorem dL_isPassed_11 : decode cL_isPassed 11 = .ok (.goto 4, 3) := by decide +kernel
theorem dL_isPassed_14 : decode cL_isPassed 14 = .ok (.iconst 0, 1) := by decide +kernel
theorem dL_isPassed_15 : decode cL_isPassed 15 = .ok (.istore 4, 2) := by decide +kernel
theorem dL_isPassed_17 : decode cL_isPassed 17 = .ok (.iconst 0, 1) := by decide +kernel
theorem dL_isPassed_18 : decode cL_isPassed 18 = .ok (.istore 5, 2) := by decide +kernel
theorem dL_isPassed_20 : decode cL_isPassed 20 = .ok (.iconst 0, 1) := by decide +kernel
theorem dL_isPassed_21 : decode cL_isPassed 21 = .ok (.istore 6, 2) := by decide +kernel
theorem dL_isPassed_23 : decode cL_isPassed 23 = .ok (.iload 6, 2) := by decide +kernel
theorem dL_isPassed_25 : decode cL_isPassed 25 = .ok (.aload_n 2, 1) := by decide +kernel
theorem dL_isPassed_26 : decode cL_isPassed 26 = .ok (.iconst 0, 1) := by decide +kernel
theorem dL_isPassed_27 : decode cL_isPassed 27 = .ok (.iaload, 1) := by decide +kernel
theorem dL_isPassed_28 : decode cL_isPassed 28 = .ok (.if_icmp .ge 20, 3) := by decide +kernel
theorem dL_isPassed_31 : decode cL_isPassed 31 = .ok (.iload 5, 2) := by decide +kernel
theorem dL_isPassed_33 : decode cL_isPassed 33 = .ok (.aload_n 0, 1) := by decide +kernel
theorem dL_isPassed_34 : decode cL_isPassed 34 = .ok (.iload 6, 2) := by decide +kernel
theorem dL_isPassed_36 : decode cL_isPassed 36 = .ok (.invokevirtual 70, 3) := by decide +kernel
theorem dL_isPassed_39 : decode cL_isPassed 39 = .ok (.isub, 1) := by decide +kernel
theorem dL_isPassed_40 : decode cL_isPassed 40 = .ok (.istore 5, 2) := by decide +kernel
theorem dL_isPassed_42 : decode cL_isPassed 42 = .ok (.iinc 6 1, 3) := by decide +kernel
theorem dL_isPassed_45 : decode cL_isPassed 45 = .ok (.goto (-22), 3) := by decide +kernel
theorem dL_isPassed_48 : decode cL_isPassed 48 = .ok (.aload_n 0, 1) := by decide +kernel
theorem dL_isPassed_49 : decode cL_isPassed 49 = .ok (.bipush 8, 2) := by decide +kernel
theorem dL_isPassed_51 : decode cL_isPassed 51 = .ok (.iload_n 3, 1) := by decide +kernel
theorem dL_isPassed_52 : decode cL_isPassed 52 = .ok (.iconst 0, 1) := by decide +kernel
theorem dL_isPassed_53 : decode cL_isPassed 53 = .ok (.iconst 0, 1) := by decide +kernel
theorem dL_isPassed_54 : decode cL_isPassed 54 = .ok (.iconst 0, 1) := by decide +kernel
theorem dL_isPassed_55 : decode cL_isPassed 55 = .ok (.invokestatic 109, 3) := by decide +kernel
theorem dL_isPassed_58 : decode cL_isPassed 58 = .ok (.istore 6, 2) := by decide +kernel
theorem dL_isPassed_60 : decode cL_isPassed 60 = .ok (.aload_n 2, 1) := by decide +kernel
theorem dL_isPassed_61 : decode cL_isPassed 61 = .ok (.iconst 1, 1) := by decide +kernel
theorem dL_isPassed_62 : decode cL_isPassed 62 = .ok (.dup2, 1) := by decide +kernel
theorem dL_isPassed_63 : decode cL_isPassed 63 = .ok (.iaload, 1) := by decide +kernel
theorem dL_isPassed_64 : decode cL_isPassed 64 = .ok (.iload 4, 2) := by decide +kernel
theorem dL_isPassed_66 : decode cL_isPassed 66 = .ok (.ifCond .eq 7, 3) := by decide +kernel
theorem dL_isPassed_69 : decode cL_isPassed 69 = .ok (.iload_n 3, 1) := by decide +kernel
theorem dL_isPassed_70 : decode cL_isPassed 70 = .ok (.goto 4, 3) := by decide +kernel
theorem dL_isPassed_73 : decode cL_isPassed 73 = .ok (.iconst 0, 1) := by decide +kernel
theorem dL_isPassed_74 : decode cL_isPassed 74 = .ok (.iadd, 1) := by decide +kernel
theorem dL_isPassed_75 : decode cL_isPassed 75 = .ok (.iastore, 1) := by decide +kernel
theorem dL_isPassed_76 : decode cL_isPassed 76 = .ok (.iconst 0, 1) := by decide +kernel
theorem dL_isPassed_77 : decode cL_isPassed 77 = .ok (.istore 7, 2) := by decide +kernel
theorem dL_isPassed_79 : decode cL_isPassed 79 = .ok (.iload 7, 2) := by decide +kernel
theorem dL_isPassed_81 : decode cL_isPassed 81 = .ok (.aload_n 2, 1) := by decide +kernel
theorem dL_isPassed_82 : decode cL_isPassed 82 = .ok (.iconst 0, 1) := by decide +kernel
theorem dL_isPassed_83 : decode cL_isPassed 83 = .ok (.iaload, 1) := by decide +kernel
theorem dL_isPassed_84 : decode cL_isPassed 84 = .ok (.if_icmp .ge 20, 3) := by decide +kernel
theorem dL_isPassed_87 : decode cL_isPassed 87 = .ok (.iload 5, 2) := by decide +kernel
theorem dL_isPassed_89 : decode cL_isPassed 89 = .ok (.aload_n 0, 1) := by decide +kernel
theorem dL_isPassed_90 : decode cL_isPassed 90 = .ok (.iload 7, 2) := by decide +kernel
theorem dL_isPassed_92 : decode cL_isPassed 92 = .ok (.invokevirtual 70, 3) := by decide +kernel
theorem dL_isPassed_95 : decode cL_isPassed 95 = .ok (.iadd, 1) := by decide +kernel
theorem dL_isPassed_96 : decode cL_isPassed 96 = .ok (.istore 5, 2) := by decide +kernel
theorem dL_isPassed_98 : decode cL_isPassed 98 = .ok (.iinc 7 1, 3) := by decide +kernel
theorem dL_isPassed_101 : decode cL_isPassed 101 = .ok (.goto (-22), 3) := by decide +kernel
theorem dL_isPassed_104 : decode cL_isPassed 104 = .ok (.iload 6, 2) := by decide +kernel
theorem dL_isPassed_106 : decode cL_isPassed 106 = .ok (.iload 4, 2) := by decide +kernel
theorem dL_isPassed_108 : decode cL_isPassed 108 = .ok (.ifCond .eq 8, 3) := by decide +kernel
theorem dL_isPassed_111 : decode cL_isPassed 111 = .ok (.iload 5, 2) := by decide +kernel
theorem dL_isPassed_113 : decode cL_isPassed 113 = .ok (.goto 5, 3) := by decide +kernel
theorem dL_isPassed_116 : decode cL_isPassed 116 = .ok (.bipush (-20), 2) := by decide +kernel
theorem dL_isPassed_118 : decode cL_isPassed 118 = .ok (.if_icmp .ne 21, 3) := by decide +kernel
theorem dL_isPassed_121 : decode cL_isPassed 121 = .ok (.iload 4, 2) := by decide +kernel
theorem dL_isPassed_123 : decode cL_isPassed 123 = .ok (.ifCond .eq 12, 3) := by decide +kernel
theorem dL_isPassed_126 : decode cL_isPassed 126 = .ok (.iload 6, 2) := by decide +kernel
theorem dL_isPassed_128 : decode cL_isPassed 128 = .ok (.bipush 6, 2) := by decide +kernel
theorem dL_isPassed_130 : decode cL_isPassed 130 = .ok (.iload_n 3, 1) := by decide +kernel
theorem dL_isPassed_131 : decode cL_isPassed 131 = .ok (.imul, 1) := by decide +kernel
theorem dL_isPassed_132 : decode cL_isPassed 132 = .ok (.if_icmp .gt 7, 3) := by decide +kernel
theorem dL_isPassed_135 : decode cL_isPassed 135 = .ok (.iconst 1, 1) := by decide +kernel
theorem dL_isPassed_136 : decode cL_isPassed 136 = .ok (.goto 4, 3) := by decide +kernel
theorem dL_isPassed_139 : decode cL_isPassed 139 = .ok (.iconst 0, 1) := by decide +kernel
theorem dL_isPassed_140 : decode cL_isPassed 140 = .ok (.ireturn, 1) := by decide +kernel
set_option maxRecDepth 20000 in
theorem ggL_isDone_L_part : GoodIn wsL_isDone wsL_part := goodIn_r _ [4, 5] (by decide +kernel) (by decide +kernel)
set_option maxRecDepth 20000 in
theorem gL_isDone_L_part : GoodIn wsL_isDone (va_wsS RL 113 yL_part wsL_part) := goodIn_app (goodIn_of _ (by decide +kernel)) ggL_isDone_L_part
set_option maxRecDepth 20000 in
theorem ggL_isDone_L_isDraft : GoodIn wsL_isDone wsL_isDraft := goodIn_ca (goodIn_ca (goodIn_ca (goodIn_r _ [8, 9, 10, 3, 11, 12, 13, 14, 15, 16, 17, 18, 19, 20, 21, 22, 23, 24, 25, 26, 27, 28, 29, 30, 31, 32, 33, 34, 35, 36, 37, 38, 39, 40, 41, 42, 43, 44, 45, 46, 47, 48, 49, 50, 51, 52, 53, 54, 55, 56, 57, 58, 59, 60, 61, 62, 63, 64, 65, 66, 67, 68, 69, 70, 71, 72, 73, 74, 75, 76, 77, 78, 79, 80, 81, 82, 83, 84, 85, 86, 87, 88, 89, 90, 91, 92, 93, 94, 95, 96, 97, 98, 99, 100, 101, 102, 103, 104, 105, 106, 107, 108, 109, 110, 111, 112, 113, 114, 115, 116, 117, 118, 119, 120, 121, 122, 123, 124, 125, 126, 127, 128, 129, 130, 131, 132, 133, 134, 135, 136, 137, 138, 139, 140, 141, 142, 143, 144, 145, 146, 147, 148, 149, 150, 151, 152, 153, 154, 155, 156, 157, 158, 159, 160, 161, 162, 163, 164, 165, 166, 167, 168, 169, 170, 171, 172, 173, 174, 175, 176, 177, 178, 179, 180, 181, 182, 183, 184, 185, 186, 187, 188, 189, 190, 191, 192, 193, 194, 195, 196, 197, 198, 199, 200, 201, 202, 203, 204, 205, 206, 207, 208, 209, 210, 211, 212, 213, 214, 215, 216, 217, 218, 219, 220, 221, 222, 223, 224, 225, 226, 227, 228, 229, 230, 231, 232, 233, 234, 235, 236, 237, 238, 239, 240, 241, 242, 243, 244, 245, 246, 247, 248, 249, 250, 251, 252, 253, 254, 255, 256, 257, 258, 259, 260, 261, 262, 263, 264, 265, 266, 267, 268, 269, 270, 271, 272, 273, 274, 275, 276, 277, 278, 279, 280, 281, 282, 283, 284, 285, 286, 287, 288, 289, 290, 291, 292, 293, 294, 295, 296, 297, 298, 299, 300, 301, 302, 303, 304, 305, 306, 307, 308, 309, 310, 311, 312, 313, 314, 315, 316, 317, 318, 319, 320, 321, 322, 323, 324, 325, 326, 327, 328, 329, 330, 331, 332, 333, 334, 335, 336, 337, 338, 339, 340, 341, 342, 343, 344, 345, 346, 347, 348, 349, 350, 351, 352, 353, 354, 392, 393, 394, 395, 396, 397, 398, 399, 400, 401, 402, 403, 404, 405, 406, 407, 408, 409, 410, 411, 412, 413, 414, 415, 416, 417, 418, 419, 420, 421, 422, 423, 424, 425, 426, 427, 428] (by decide +kernel) (by decide +kernel)) (goodIn_sub (fun _ h => List.mem_cons_of_mem _ (List.mem_append_left _ (List.mem_append_left _ (List.mem_append_right _ h)))) (by decide +kernel))) (goodIn_sub (fun _ h => List.mem_cons_of_mem _ (List.mem_append_left _ (List.mem_append_right _ h))) (by decide +kernel))) (goodIn_sub (fun _ h => List.mem_cons_of_mem _ (List.mem_append_right _ h)) (by decide +kernel))
set_option maxRecDepth 20000 in
theorem gL_isDone_L_isDraft : GoodIn wsL_isDone (va_wsS RL 117 yL_isDraft wsL_isDraft) := goodIn_app (goodIn_of _ (by decide +kernel)) ggL_isDone_L_isDraft
set_option maxRecDepth 20000 in
theorem ggL_isDone_L_does : GoodIn wsL_isDone wsL_does := goodIn_ca (goodIn_ca (goodIn_ca (goodIn_r _ [11, 12, 13, 14, 15, 16, 17, 18, 19, 20, 21, 22, 23, 24, 25, 26, 27, 28, 29, 30, 31, 32, 33, 34, 35, 36, 37, 38, 39, 40, 41, 42, 43, 44, 45, 46, 47, 48, 49, 50, 51, 52, 53, 54, 55, 56, 57, 58, 59, 60, 61, 62, 3, 63, 64, 65, 66, 67, 68, 69, 70, 71, 72, 73, 74, 75, 76, 77, 78, 79, 80, 81, 82, 83, 84, 85, 86, 87, 88, 89, 90, 91, 92, 93, 94, 95, 96, 97, 98, 99, 100, 101, 102, 103, 104, 105, 106, 107, 108, 109, 110, 111, 112, 113, 114, 115, 116, 117, 118, 119, 120, 121, 122, 123, 124, 125, 126, 127, 128, 129, 130, 131, 132, 133, 134, 135, 136, 137, 138, 139, 140, 141, 142, 143, 144, 145, 146, 147, 148, 149, 150, 151, 152, 153, 154, 155, 156, 157, 158, 159, 160, 161, 162, 163, 164, 165, 166, 167, 168, 169, 170, 171, 172, 173, 174, 175, 176, 177, 178, 179, 180, 181, 182, 183, 184, 185, 186, 187, 188, 189, 190, 191, 192, 193, 194, 195, 196, 197, 198, 199, 200, 201, 202, 203, 204, 205, 206, 207, 208, 209, 210, 211, 212, 213, 214, 215, 216, 217, 218, 219, 220, 221, 222, 223, 224, 225, 226, 227, 228, 229, 230, 231, 232, 233, 234, 235, 236, 237, 238, 239, 240, 241, 242, 243, 244, 245, 246, 247, 248, 249, 250, 251, 252, 253, 254, 255, 256, 257, 258, 259, 260, 261, 262, 263, 264, 265, 266, 267, 268, 269, 270, 271, 272, 273, 274, 275, 276, 277, 278, 279, 280, 281, 282, 283, 284, 285, 286, 287, 288, 289, 290, 291, 292, 293, 294, 295, 296, 297, 298, 299, 300, 301, 302, 303, 304, 305, 306, 307, 308, 309, 310, 311, 312, 313, 314, 315, 316, 317, 318, 319, 320, 321, 322, 323, 324, 325, 326, 327, 328, 329, 330, 331, 332, 333, 334, 335, 336, 337, 338, 339, 340, 341, 342, 343, 344, 345, 346, 347, 348, 349, 350, 351, 352, 353, 354, 392, 393, 394, 395, 396, 397, 398, 399, 400, 401, 402, 403, 404, 405, 406, 407, 408, 409, 410, 411, 412, 413, 414, 415, 416, 417, 418, 419, 420, 421, 422, 423, 424, 425, 426, 427, 428] (by decide +kernel) (by decide +kernel)) (goodIn_sub (fun _ h => List.mem_cons_of_mem _ (List.mem_append_left _ (List.mem_append_left _ (List.mem_append_right _ h)))) (by decide +kernel))) (goodIn_sub (fun _ h => List.mem_cons_of_mem _ (List.mem_append_left _ (List.mem_append_right _ h))) (by decide +kernel))) (goodIn_sub (fun _ h => List.mem_cons_of_mem _ (List.mem_append_right _ h)) (by decide +kernel))
set_option maxRecDepth 20000 in
theorem gL_isDone_L_does : GoodIn wsL_isDone (va_wsS RL 109 yL_does wsL_does) := goodIn_app (goodIn_of _ (by decide +kernel)) ggL_isDone_L_does
set_option maxRecDepth 20000 in
theorem ggL_isDone_L_isSubmitted : GoodIn wsL_isDone wsL_isSubmitted := goodIn_ca (goodIn_ca (goodIn_ca (goodIn_r _ [357, 9, 10, 3, 11, 12, 13, 14, 15, 16, 17, 18, 19, 20, 21, 22, 23, 24, 25, 26, 27, 28, 29, 30, 31, 32, 33, 34, 35, 36, 37, 38, 39, 40, 41, 42, 43, 44, 45, 46, 47, 48, 49, 50, 51, 52, 53, 54, 55, 56, 57, 58, 59, 60, 61, 62, 63, 64, 65, 66, 67, 68, 69, 70, 71, 72, 73, 74, 75, 76, 77, 78, 79, 80, 81, 82, 83, 84, 85, 86, 87, 88, 89, 90, 91, 92, 93, 94, 95, 96, 97, 98, 99, 100, 101, 102, 103, 104, 105, 106, 107, 108, 109, 110, 111, 112, 113, 114, 115, 116, 117, 118, 119, 120, 121, 122, 123, 124, 125, 126, 127, 128, 129, 130, 131, 132, 133, 134, 135, 136, 137, 138, 139, 140, 141, 142, 143, 144, 145, 146, 147, 148, 149, 150, 151, 152, 153, 154, 155, 156, 157, 158, 159, 160, 161, 162, 163, 164, 165, 166, 167, 168, 169, 170, 171, 172, 173, 174, 175, 176, 177, 178, 179, 180, 181, 182, 183, 184, 185, 186, 187, 188, 189, 190, 191, 192, 193, 194, 195, 196, 197, 198, 199, 200, 201, 202, 203, 204, 205, 206, 207, 208, 209, 210, 211, 212, 213, 214, 215, 216, 217, 218, 219, 220, 221, 222, 223, 224, 225, 226, 227, 228, 229, 230, 231, 232, 233, 234, 235, 236, 237, 238, 239, 240, 241, 242, 243, 244, 245, 246, 247, 248, 249, 250, 251, 252, 253, 254, 255, 256, 257, 258, 259, 260, 261, 262, 263, 264, 265, 266, 267, 268, 269, 270, 271, 272, 273, 274, 275, 276, 277, 278, 279, 280, 281, 282, 283, 284, 285, 286, 287, 288, 289, 290, 291, 292, 293, 294, 295, 296, 297, 298, 299, 300, 301, 302, 303, 304, 305, 306, 307, 308, 309, 310, 311, 312, 313, 314, 315, 316, 317, 318, 319, 320, 321, 322, 323, 324, 325, 326, 327, 328, 329, 330, 331, 332, 333, 334, 335, 336, 337, 338, 339, 340, 341, 342, 343, 344, 345, 346, 347, 348, 349, 350, 351, 352, 353, 354, 358, 359, 360, 361, 362, 363, 364, 365, 366, 367, 368, 369, 370, 371, 372, 373, 374, 392, 393, 394, 395, 396, 397, 398, 399, 400, 401, 402, 403, 404, 405, 406, 407, 408, 409, 410, 411, 412, 413, 414, 415, 416, 417, 418, 419, 420, 421, 422, 423, 424, 425, 426, 427, 428] (by decide +kernel) (by decide +kernel)) (goodIn_sub (fun _ h => List.mem_cons_of_mem _ (List.mem_append_left _ (List.mem_append_left _ (List.mem_append_right _ h)))) (by decide +kernel))) (goodIn_sub (fun _ h => List.mem_cons_of_mem _ (List.mem_append_left _ (List.mem_append_right _ h))) (by decide +kernel))) (goodIn_sub (fun _ h => List.mem_cons_of_mem _ (List.mem_append_right _ h)) (by decide +kernel))
set_option maxRecDepth 20000 in
theorem gL_isDone_L_isSubmitted : GoodIn wsL_isDone (va_wsS RL 121 yL_isSubmitted wsL_isSubmitted) := goodIn_app (goodIn_of _ (by decide +kernel)) ggL_isDone_L_isSubmitted
set_option maxRecDepth 20000 in
theorem ggL_isDone_X5_state : GoodIn wsL_isDone wsX5_state := goodIn_ca (goodIn_r _ [365, 222, 257, 258, 259, 18, 260, 25, 26, 84, 99, 102, 103, 104, 105, 106, 107, 108, 109, 110, 111, 112, 113, 114, 115, 116, 117, 118, 119, 120, 121, 122, 123, 124, 403, 404, 405, 406, 407, 408, 409, 410, 411, 412, 413, 414, 415, 416, 417, 418, 399, 400, 401, 402, 424, 425, 426] (by decide +kernel) (by decide +kernel)) (goodIn_sub (fun _ h => List.mem_cons_of_mem _ (List.mem_append_left _ (List.mem_append_left _ (List.mem_append_right _ h)))) (by decide +kernel))
set_option maxRecDepth 20000 in
theorem gL_isDone_X5_state : GoodIn wsL_isDone (wsV RL 58 RX5 yX5_state wsX5_state) := goodIn_app (goodIn_of _ (by decide +kernel)) ggL_isDone_X5_state
set_option maxRecDepth 20000 in
theorem ggL_isDone_L_isRecipient : GoodIn wsL_isDone wsL_isRecipient := goodIn_ca (goodIn_ca (goodIn_ca (goodIn_r _ [377, 9, 10, 3, 11, 12, 13, 14, 15, 16, 17, 18, 19, 20, 21, 22, 23, 24, 25, 26, 27, 28, 29, 30, 31, 32, 33, 34, 35, 36, 37, 38, 39, 40, 41, 42, 43, 44, 45, 46, 47, 48, 49, 50, 51, 52, 53, 54, 55, 56, 57, 58, 59, 60, 61, 62, 63, 64, 65, 66, 67, 68, 69, 70, 71, 72, 73, 74, 75, 76, 77, 78, 79, 80, 81, 82, 83, 84, 85, 86, 87, 88, 89, 90, 91, 92, 93, 94, 95, 96, 97, 98, 99, 100, 101, 102, 103, 104, 105, 106, 107, 108, 109, 110, 111, 112, 113, 114, 115, 116, 117, 118, 119, 120, 121, 122, 123, 124, 125, 126, 127, 128, 129, 130, 131, 132, 133, 134, 135, 136, 137, 138, 139, 140, 141, 142, 143, 144, 145, 146, 147, 148, 149, 150, 151, 152, 153, 154, 155, 156, 157, 158, 159, 160, 161, 162, 163, 164, 165, 166, 167, 168, 169, 170, 171, 172, 173, 174, 175, 176, 177, 178, 179, 180, 181, 182, 183, 184, 185, 186, 187, 188, 189, 190, 191, 192, 193, 194, 195, 196, 197, 198, 199, 200, 201, 202, 203, 204, 205, 206, 207, 208, 209, 210, 211, 212, 213, 214, 215, 216, 217, 218, 219, 220, 221, 222, 223, 224, 225, 226, 227, 228, 229, 230, 231, 232, 233, 234, 235, 236, 237, 238, 239, 240, 241, 242, 243, 244, 245, 246, 247, 248, 249, 250, 251, 252, 253, 254, 255, 256, 257, 258, 259, 260, 261, 262, 263, 264, 265, 266, 267, 268, 269, 270, 271, 272, 273, 274, 275, 276, 277, 278, 279, 280, 281, 282, 283, 284, 285, 286, 287, 288, 289, 290, 291, 292, 293, 294, 295, 296, 297, 298, 299, 300, 301, 302, 303, 304, 305, 306, 307, 308, 309, 310, 311, 312, 313, 314, 315, 316, 317, 318, 319, 320, 321, 322, 323, 324, 325, 326, 327, 328, 329, 330, 331, 332, 333, 334, 335, 336, 337, 338, 339, 340, 341, 342, 343, 344, 345, 346, 347, 348, 349, 350, 351, 352, 353, 354, 378, 379, 380, 381, 392, 393, 394, 395, 396, 397, 398, 399, 400, 401, 402, 403, 404, 405, 406, 407, 408, 409, 410, 411, 412, 413, 414, 415, 416, 417, 418, 419, 420, 421, 422, 423, 424, 425, 426, 427, 428] (by decide +kernel) (by decide +kernel)) (goodIn_sub (fun _ h => List.mem_cons_of_mem _ (List.mem_append_left _ (List.mem_append_left _ (List.mem_append_right _ h)))) (by decide +kernel))) (goodIn_sub (fun _ h => List.mem_cons_of_mem _ (List.mem_append_left _ (List.mem_append_right _ h))) (by decide +kernel))) (goodIn_sub (fun _ h => List.mem_cons_of_mem _ (List.mem_append_right _ h)) (by decide +kernel))
set_option maxRecDepth 20000 in
theorem gL_isDone_L_isRecipient : GoodIn wsL_isDone (va_wsS RL 125 yL_isRecipient wsL_isRecipient) := goodIn_app (goodIn_of _ (by decide +kernel)) ggL_isDone_L_isRecipient
set_option maxRecDepth 20000 in
theorem ggL_isDone_L_isPassed : GoodIn wsL_isDone wsL_isPassed := goodIn_ca (goodIn_ca (goodIn_ca (goodIn_r _ [384, 385, 386, 387, 18, 388, 223, 257, 258, 259, 260, 25, 26, 84, 99, 102, 103, 104, 105, 106, 107, 108, 109, 110, 111, 112, 113, 114, 115, 116, 117, 118, 119, 120, 121, 122, 123, 124, 9, 10, 3, 11, 12, 13, 14, 15, 16, 17, 19, 20, 21, 22, 23, 24, 27, 28, 29, 30, 31, 32, 33, 34, 35, 36, 37, 38, 39, 40, 41, 42, 43, 44, 45, 46, 47, 48, 49, 50, 51, 52, 53, 54, 55, 56, 57, 58, 59, 60, 61, 62, 63, 64, 65, 66, 67, 68, 69, 70, 71, 72, 73, 74, 75, 76, 77, 78, 79, 80, 81, 82, 83, 85, 86, 87, 88, 89, 90, 91, 92, 93, 94, 95, 96, 97, 98, 100, 101, 125, 126, 127, 128, 129, 130, 131, 132, 133, 134, 135, 136, 137, 138, 139, 140, 141, 142, 143, 144, 145, 146, 147, 148, 149, 150, 151, 152, 153, 154, 155, 156, 157, 158, 159, 160, 161, 162, 163, 164, 165, 166, 167, 168, 169, 170, 171, 172, 173, 174, 175, 176, 177, 178, 179, 180, 181, 182, 183, 184, 185, 186, 187, 188, 189, 190, 191, 192, 193, 194, 195, 196, 197, 198, 199, 200, 201, 202, 203, 204, 205, 206, 207, 208, 209, 210, 211, 212, 213, 214, 215, 216, 217, 218, 219, 220, 221, 222, 224, 225, 226, 227, 228, 229, 230, 231, 232, 233, 234, 235, 236, 237, 238, 239, 240, 241, 242, 243, 244, 245, 246, 247, 248, 249, 250, 251, 252, 253, 254, 255, 256, 261, 262, 263, 264, 265, 266, 267, 268, 269, 270, 271, 272, 273, 274, 275, 276, 277, 278, 279, 280, 281, 282, 283, 284, 285, 286, 287, 288, 289, 290, 291, 292, 293, 294, 295, 296, 297, 298, 299, 300, 301, 302, 303, 304, 305, 306, 307, 308, 309, 310, 311, 312, 313, 314, 315, 316, 317, 318, 319, 320, 321, 322, 323, 324, 325, 326, 327, 328, 329, 330, 331, 332, 333, 334, 335, 336, 337, 338, 339, 340, 341, 342, 343, 344, 345, 346, 347, 348, 349, 350, 351, 352, 353, 354, 403, 404, 405, 406, 407, 408, 409, 410, 411, 412, 413, 414, 415, 416, 417, 418, 399, 400, 401, 402, 424, 425, 426, 392, 393, 394, 395, 396, 397, 398, 419, 420, 421, 422, 423, 427, 428] (by decide +kernel) (by decide +kernel)) (goodIn_sub (fun _ h => List.mem_cons_of_mem _ (List.mem_append_left _ (List.mem_append_left _ (List.mem_append_right _ h)))) (by decide +kernel))) (goodIn_sub (fun _ h => List.mem_cons_of_mem _ (List.mem_append_left _ (List.mem_append_right _ h))) (by decide +kernel))) (goodIn_sub (fun _ h => List.mem_cons_of_mem _ (List.mem_append_right _ h)) (by decide +kernel))
set_option maxRecDepth 20000 in
theorem gL_isDone_L_isPassed : GoodIn wsL_isDone (va_wsS RL 128 yL_isPassed wsL_isPassed) := goodIn_app (goodIn_of _ (by decide +kernel)) ggL_isDone_L_isPassed
set_option maxRecDepth 20000 in
theorem ggL_isDone_L_isReceipt : GoodIn wsL_isDone wsL_isReceipt := goodIn_ca (goodIn_ca (goodIn_ca (goodIn_r _ [391, 9, 10, 3, 11, 12, 13, 14, 15, 16, 17, 18, 19, 20, 21, 22, 23, 24, 25, 26, 27, 28, 29, 30, 31, 32, 33, 34, 35, 36, 37, 38, 39, 40, 41, 42, 43, 44, 45, 46, 47, 48, 49, 50, 51, 52, 53, 54, 55, 56, 57, 58, 59, 60, 61, 62, 63, 64, 65, 66, 67, 68, 69, 70, 71, 72, 73, 74, 75, 76, 77, 78, 79, 80, 81, 82, 83, 84, 85, 86, 87, 88, 89, 90, 91, 92, 93, 94, 95, 96, 97, 98, 99, 100, 101, 102, 103, 104, 105, 106, 107, 108, 109, 110, 111, 112, 113, 114, 115, 116, 117, 118, 119, 120, 121, 122, 123, 124, 125, 126, 127, 128, 129, 130, 131, 132, 133, 134, 135, 136, 137, 138, 139, 140, 141, 142, 143, 144, 145, 146, 147, 148, 149, 150, 151, 152, 153, 154, 155, 156, 157, 158, 159, 160, 161, 162, 163, 164, 165, 166, 167, 168, 169, 170, 171, 172, 173, 174, 175, 176, 177, 178, 179, 180, 181, 182, 183, 184, 185, 186, 187, 188, 189, 190, 191, 192, 193, 194, 195, 196, 197, 198, 199, 200, 201, 202, 203, 204, 205, 206, 207, 208, 209, 210, 211, 212, 213, 214, 215, 216, 217, 218, 219, 220, 221, 222, 223, 224, 225, 226, 227, 228, 229, 230, 231, 232, 233, 234, 235, 236, 237, 238, 239, 240, 241, 242, 243, 244, 245, 246, 247, 248, 249, 250, 251, 252, 253, 254, 255, 256, 257, 258, 259, 260, 261, 262, 263, 264, 265, 266, 267, 268, 269, 270, 271, 272, 273, 274, 275, 276, 277, 278, 279, 280, 281, 282, 283, 284, 285, 286, 287, 288, 289, 290, 291, 292, 293, 294, 295, 296, 297, 298, 299, 300, 301, 302, 303, 304, 305, 306, 307, 308, 309, 310, 311, 312, 313, 314, 315, 316, 317, 318, 319, 320, 321, 322, 323, 324, 325, 326, 327, 328, 329, 330, 331, 332, 333, 334, 335, 336, 337, 338, 339, 340, 341, 342, 343, 344, 345, 346, 347, 348, 349, 350, 351, 352, 353, 354, 392, 393, 394, 395, 396, 397, 398, 399, 400, 401, 402, 403, 404, 405, 406, 407, 408, 409, 410, 411, 412, 413, 414, 415, 416, 417, 418, 419, 420, 421, 422, 423, 424, 425, 426, 427, 428] (by decide +kernel) (by decide +kernel)) (goodIn_sub (fun _ h => List.mem_cons_of_mem _ (List.mem_append_left _ (List.mem_append_left _ (List.mem_append_right _ h)))) (by decide +kernel))) (goodIn_sub (fun _ h => List.mem_cons_of_mem _ (List.mem_append_left _ (List.mem_append_right _ h))) (by decide +kernel))) (goodIn_sub (fun _ h => List.mem_cons_of_mem _ (List.mem_append_right _ h)) (by decide +kernel))
set_option maxRecDepth 20000 in
theorem gL_isDone_L_isReceipt : GoodIn wsL_isDone (va_wsS RL 132 yL_isReceipt wsL_isReceipt) := goodIn_app (goodIn_of _ (by decide +kernel)) ggL_isDone_L_isReceipt
theorem dL_isDone_0 : decode cL_isDone 0 = .ok (.aload_n 1, 1) := by decide +kernel
theorem dL_isDone_1 : decode cL_isDone 1 = .ok (.iload_n 2, 1) := by decide +kernel
theorem dL_isDone_2 : decode cL_isDone 2 = .ok (.bipush 40, 2) := by decide +kernel
theorem dL_isDone_4 : decode cL_isDone 4 = .ok (.invokestatic 113, 3) := by decide +kernel
theorem dL_isDone_7 : decode cL_isDone 7 = .ok (.istore 10, 2) := by decide +kernel
theorem dL_isDone_9 : decode cL_isDone 9 = .ok (.aload_n 1, 1) := by decide +kernel
theorem dL_isDone_10 : decode cL_isDone 10 = .ok (.iload_n 2, 1) := by decide +kernel
theorem dL_isDone_11 : decode cL_isDone 11 = .ok (.iconst 1, 1) := by decide +kernel
theorem dL_isDone_12 : decode cL_isDone 12 = .ok (.iadd, 1) := by decide +kernel
theorem dL_isDone_13 : decode cL_isDone 13 = .ok (.sipush 6000, 3) := by decide +kernel
theorem dL_isDone_16 : decode cL_isDone 16 = .ok (.invokestatic 113, 3) := by decide +kernel
theorem dL_isDone_19 : decode cL_isDone 19 = .ok (.istore 11, 2) := by decide +kernel
theorem dL_isDone_21 : decode cL_isDone 21 = .ok (.aload_n 1, 1) := by decide +kernel
theorem dL_isDone_22 : decode cL_isDone 22 = .ok (.iload_n 2, 1) := by decide +kernel
theorem dL_isDone_23 : decode cL_isDone 23 = .ok (.iconst 2, 1) := by decide +kernel
theorem dL_isDone_24 : decode cL_isDone 24 = .ok (.iadd, 1) := by decide +kernel
theorem dL_isDone_25 : decode cL_isDone 25 = .ok (.sipush 7000, 3) := by decide +kernel
theorem dL_isDone_28 : decode cL_isDone 28 = .ok (.invokestatic 113, 3) := by decide +kernel
theorem dL_isDone_31 : decode cL_isDone 31 = .ok (.istore 12, 2) := by decide +kernel
theorem dL_isDone_33 : decode cL_isDone 33 = .ok (.aload_n 1, 1) := by decide +kernel
theorem dL_isDone_34 : decode cL_isDone 34 = .ok (.iload_n 2, 1) := by decide +kernel
theorem dL_isDone_35 : decode cL_isDone 35 = .ok (.iconst 3, 1) := by decide +kernel
theorem dL_isDone_36 : decode cL_isDone 36 = .ok (.iadd, 1) := by decide +kernel
theorem dL_isDone_37 : decode cL_isDone 37 = .ok (.sipush 8000, 3) := by decide +kernel
theorem dL_isDone_40 : decode cL_isDone 40 = .ok (.invokestatic 113, 3) := by decide +kernel
theorem dL_isDone_43 : decode cL_isDone 43 = .ok (.istore 13, 2) := by decide +kernel
theorem dL_isDone_45 : decode cL_isDone 45 = .ok (.iload 10, 2) := by decide +kernel
theorem dL_isDone_47 : decode cL_isDone 47 = .ok (.iconst 4, 1) := by decide +kernel
theorem dL_isDone_48 : decode cL_isDone 48 = .ok (.if_icmp .ge 16, 3) := by decide +kernel
theorem dL_isDone_51 : decode cL_isDone 51 = .ok (.aload_n 0, 1) := by decide +kernel
theorem dL_isDone_52 : decode cL_isDone 52 = .ok (.aload 8, 2) := by decide +kernel
theorem dL_isDone_54 : decode cL_isDone 54 = .ok (.iload 11, 2) := by decide +kernel
theorem dL_isDone_56 : decode cL_isDone 56 = .ok (.iload 12, 2) := by decide +kernel
theorem dL_isDone_58 : decode cL_isDone 58 = .ok (.iload 13, 2) := by decide +kernel
theorem dL_isDone_60 : decode cL_isDone 60 = .ok (.invokestatic 117, 3) := by decide +kernel
theorem dL_isDone_63 : decode cL_isDone 63 = .ok (.ireturn, 1) := by decide +kernel
theorem dL_isDone_64 : decode cL_isDone 64 = .ok (.iload 10, 2) := by decide +kernel
theorem dL_isDone_66 : decode cL_isDone 66 = .ok (.bipush 7, 2) := by decide +kernel
theorem dL_isDone_68 : decode cL_isDone 68 = .ok (.if_icmp .ge 132, 3) := by decide +kernel
theorem dL_isDone_71 : decode cL_isDone 71 = .ok (.iload 11, 2) := by decide +kernel
theorem dL_isDone_73 : decode cL_isDone 73 = .ok (.iconst 5, 1) := by decide +kernel
theorem dL_isDone_74 : decode cL_isDone 74 = .ok (.irem, 1) := by decide +kernel
theorem dL_isDone_75 : decode cL_isDone 75 = .ok (.istore 14, 2) := by decide +kernel
theorem dL_isDone_77 : decode cL_isDone 77 = .ok (.iload 12, 2) := by decide +kernel
theorem dL_isDone_79 : decode cL_isDone 79 = .ok (.bipush 9, 2) := by decide +kernel
theorem dL_isDone_81 : decode cL_isDone 81 = .ok (.irem, 1) := by decide +kernel
theorem dL_isDone_82 : decode cL_isDone 82 = .ok (.istore 15, 2) := by decide +kernel
theorem dL_isDone_84 : decode cL_isDone 84 = .ok (.iload 13, 2) := by decide +kernel
theorem dL_isDone_86 : decode cL_isDone 86 = .ok (.iconst 4, 1) := by decide +kernel
theorem dL_isDone_87 : decode cL_isDone 87 = .ok (.irem, 1) := by decide +kernel
theorem dL_isDone_88 : decode cL_isDone 88 = .ok (.ifCond .ne 15, 3) := by decide +kernel
theorem dL_isDone_91 : decode cL_isDone 91 = .ok (.iload 13, 2) := by decide +kernel
theorem dL_isDone_93 : decode cL_isDone 93 = .ok (.iconst 4, 1) := by decide +kernel
theorem dL_isDone_94 : decode cL_isDone 94 = .ok (.idiv, 1) := by decide +kernel
theorem dL_isDone_95 : decode cL_isDone 95 = .ok (.bipush 102, 2) := by decide +kernel
theorem dL_isDone_97 : decode cL_isDone 97 = .ok (.irem, 1) := by decide +kernel
theorem dL_isDone_98 : decode cL_isDone 98 = .ok (.iconst 1, 1) := by decide +kernel
theorem dL_isDone_99 : decode cL_isDone 99 = .ok (.isub, 1) := by decide +kernel
theorem dL_isDone_100 : decode cL_isDone 100 = .ok (.goto 4, 3) := by decide +kernel
theorem dL_isDone_103 : decode cL_isDone 103 = .ok (.iconst (-1), 1) := by decide +kernel
theorem dL_isDone_104 : decode cL_isDone 104 = .ok (.istore 16, 2) := by decide +kernel
theorem dL_isDone_106 : decode cL_isDone 106 = .ok (.iload 15, 2) := by decide +kernel
theorem dL_isDone_108 : decode cL_isDone 108 = .ok (.bipush 8, 2) := by decide +kernel
theorem dL_isDone_110 : decode cL_isDone 110 = .ok (.if_icmp .ge 14, 3) := by decide +kernel
theorem dL_isDone_113 : decode cL_isDone 113 = .ok (.iload 16, 2) := by decide +kernel
theorem dL_isDone_115 : decode cL_isDone 115 = .ok (.bipush 100, 2) := by decide +kernel
theorem dL_isDone_117 : decode cL_isDone 117 = .ok (.if_icmp .ge 7, 3) := by decide +kernel
theorem dL_isDone_120 : decode cL_isDone 120 = .ok (.iconst 1, 1) := by decide +kernel
theorem dL_isDone_121 : decode cL_isDone 121 = .ok (.goto 4, 3) := by decide +kernel
theorem dL_isDone_124 : decode cL_isDone 124 = .ok (.iconst 0, 1) := by decide +kernel
theorem dL_isDone_125 : decode cL_isDone 125 = .ok (.istore 17, 2) := by decide +kernel
theorem dL_isDone_127 : decode cL_isDone 127 = .ok (.iload 14, 2) := by decide +kernel
theorem dL_isDone_129 : decode cL_isDone 129 = .ok (.iconst 4, 1) := by decide +kernel
theorem dL_isDone_130 : decode cL_isDone 130 = .ok (.if_icmp .ge 22, 3) := by decide +kernel
theorem dL_isDone_133 : decode cL_isDone 133 = .ok (.iload 17, 2) := by decide +kernel
theorem dL_isDone_135 : decode cL_isDone 135 = .ok (.ifCond .eq 17, 3) := by decide +kernel
theorem dL_isDone_138 : decode cL_isDone 138 = .ok (.aload 8, 2) := by decide +kernel
theorem dL_isDone_140 : decode cL_isDone 140 = .ok (.bipush 8, 2) := by decide +kernel
theorem dL_isDone_142 : decode cL_isDone 142 = .ok (.iload 14, 2) := by decide +kernel
theorem dL_isDone_144 : decode cL_isDone 144 = .ok (.iadd, 1) := by decide +kernel
theorem dL_isDone_145 : decode cL_isDone 145 = .ok (.iload 11, 2) := by decide +kernel
theorem dL_isDone_147 : decode cL_isDone 147 = .ok (.iconst 5, 1) := by decide +kernel
theorem dL_isDone_148 : decode cL_isDone 148 = .ok (.idiv, 1) := by decide +kernel
theorem dL_isDone_149 : decode cL_isDone 149 = .ok (.iconst 2, 1) := by decide +kernel
theorem dL_isDone_150 : decode cL_isDone 150 = .ok (.irem, 1) := by decide +kernel
theorem dL_isDone_151 : decode cL_isDone 151 = .ok (.iastore, 1) := by decide +kernel
theorem dL_isDone_152 : decode cL_isDone 152 = .ok (.aload_n 0, 1) := by decide +kernel
theorem dL_isDone_153 : decode cL_isDone 153 = .ok (.iconst 1, 1) := by decide +kernel
theorem dL_isDone_154 : decode cL_isDone 154 = .ok (.iload 14, 2) := by decide +kernel
theorem dL_isDone_156 : decode cL_isDone 156 = .ok (.iload 15, 2) := by decide +kernel
theorem dL_isDone_158 : decode cL_isDone 158 = .ok (.iload 16, 2) := by decide +kernel
theorem dL_isDone_160 : decode cL_isDone 160 = .ok (.iload 11, 2) := by decide +kernel
theorem dL_isDone_162 : decode cL_isDone 162 = .ok (.iconst 5, 1) := by decide +kernel
theorem dL_isDone_163 : decode cL_isDone 163 = .ok (.idiv, 1) := by decide +kernel
theorem dL_isDone_164 : decode cL_isDone 164 = .ok (.iconst 2, 1) := by decide +kernel
theorem dL_isDone_165 : decode cL_isDone 165 = .ok (.irem, 1) := by decide +kernel
theorem dL_isDone_166 : decode cL_isDone 166 = .ok (.invokestatic 109, 3) := by decide +kernel
theorem dL_isDone_169 : decode cL_isDone 169 = .ok (.iload 14, 2) := by decide +kernel
theorem dL_isDone_171 : decode cL_isDone 171 = .ok (.iconst 4, 1) := by decide +kernel
theorem dL_isDone_172 : decode cL_isDone 172 = .ok (.if_icmp .ne 8, 3) := by decide +kernel
theorem dL_isDone_175 : decode cL_isDone 175 = .ok (.bipush (-30), 2) := by decide +kernel
theorem dL_isDone_177 : decode cL_isDone 177 = .ok (.goto 14, 3) := by decide +kernel
theorem dL_isDone_180 : decode cL_isDone 180 = .ok (.iload 17, 2) := by decide +kernel
theorem dL_isDone_182 : decode cL_isDone 182 = .ok (.ifCond .eq 7, 3) := by decide +kernel
theorem dL_isDone_185 : decode cL_isDone 185 = .ok (.iconst 0, 1) := by decide +kernel
theorem dL_isDone_186 : decode cL_isDone 186 = .ok (.goto 5, 3) := by decide +kernel
theorem dL_isDone_189 : decode cL_isDone 189 = .ok (.bipush (-20), 2) := by decide +kernel
theorem dL_isDone_191 : decode cL_isDone 191 = .ok (.if_icmp .ne 7, 3) := by decide +kernel
theorem dL_isDone_194 : decode cL_isDone 194 = .ok (.iconst 1, 1) := by decide +kernel
theorem dL_isDone_195 : decode cL_isDone 195 = .ok (.goto 4, 3) := by decide +kernel
theorem dL_isDone_198 : decode cL_isDone 198 = .ok (.iconst 0, 1) := by decide +kernel
theorem dL_isDone_199 : decode cL_isDone 199 = .ok (.ireturn, 1) := by decide +kernel
theorem dL_isDone_200 : decode cL_isDone 200 = .ok (.iload 10, 2) := by decide +kernel
theorem dL_isDone_202 : decode cL_isDone 202 = .ok (.bipush 9, 2) := by decide +kernel
theorem dL_isDone_204 : decode cL_isDone 204 = .ok (.if_icmp .ge 107, 3) := by decide +kernel
theorem dL_isDone_207 : decode cL_isDone 207 = .ok (.iload 11, 2) := by decide +kernel
theorem dL_isDone_209 : decode cL_isDone 209 = .ok (.iconst 5, 1) := by decide +kernel
theorem dL_isDone_210 : decode cL_isDone 210 = .ok (.irem, 1) := by decide +kernel
theorem dL_isDone_211 : decode cL_isDone 211 = .ok (.istore 14, 2) := by decide +kernel
theorem dL_isDone_213 : decode cL_isDone 213 = .ok (.iload 12, 2) := by decide +kernel
theorem dL_isDone_215 : decode cL_isDone 215 = .ok (.bipush 42, 2) := by decide +kernel
theorem dL_isDone_217 : decode cL_isDone 217 = .ok (.irem, 1) := by decide +kernel
theorem dL_isDone_218 : decode cL_isDone 218 = .ok (.istore 15, 2) := by decide +kernel
theorem dL_isDone_220 : decode cL_isDone 220 = .ok (.iload 13, 2) := by decide +kernel
theorem dL_isDone_222 : decode cL_isDone 222 = .ok (.sipush 202, 3) := by decide +kernel
theorem dL_isDone_225 : decode cL_isDone 225 = .ok (.irem, 1) := by decide +kernel
theorem dL_isDone_226 : decode cL_isDone 226 = .ok (.istore 16, 2) := by decide +kernel
theorem dL_isDone_228 : decode cL_isDone 228 = .ok (.iload 14, 2) := by decide +kernel
theorem dL_isDone_230 : decode cL_isDone 230 = .ok (.iconst 4, 1) := by decide +kernel
theorem dL_isDone_231 : decode cL_isDone 231 = .ok (.if_icmp .ne 8, 3) := by decide +kernel
theorem dL_isDone_234 : decode cL_isDone 234 = .ok (.bipush (-30), 2) := by decide +kernel
theorem dL_isDone_236 : decode cL_isDone 236 = .ok (.goto 36, 3) := by decide +kernel
theorem dL_isDone_239 : decode cL_isDone 239 = .ok (.iload 15, 2) := by decide +kernel
theorem dL_isDone_241 : decode cL_isDone 241 = .ok (.bipush 40, 2) := by decide +kernel
theorem dL_isDone_243 : decode cL_isDone 243 = .ok (.if_icmp .gt 17, 3) := by decide +kernel
theorem dL_isDone_246 : decode cL_isDone 246 = .ok (.iload 16, 2) := by decide +kernel
theorem dL_isDone_248 : decode cL_isDone 248 = .ok (.iconst 1, 1) := by decide +kernel
theorem dL_isDone_249 : decode cL_isDone 249 = .ok (.if_icmp .lt 11, 3) := by decide +kernel
theorem dL_isDone_252 : decode cL_isDone 252 = .ok (.iload 16, 2) := by decide +kernel
theorem dL_isDone_254 : decode cL_isDone 254 = .ok (.sipush 200, 3) := by decide +kernel
theorem dL_isDone_257 : decode cL_isDone 257 = .ok (.if_icmp .le 8, 3) := by decide +kernel
theorem dL_isDone_260 : decode cL_isDone 260 = .ok (.bipush (-20), 2) := by decide +kernel
theorem dL_isDone_262 : decode cL_isDone 262 = .ok (.goto 10, 3) := by decide +kernel
theorem dL_isDone_265 : decode cL_isDone 265 = .ok (.aload 8, 2) := by decide +kernel
theorem dL_isDone_267 : decode cL_isDone 267 = .ok (.iconst 4, 1) := by decide +kernel
theorem dL_isDone_268 : decode cL_isDone 268 = .ok (.iload 14, 2) := by decide +kernel
theorem dL_isDone_270 : decode cL_isDone 270 = .ok (.iadd, 1) := by decide +kernel
theorem dL_isDone_271 : decode cL_isDone 271 = .ok (.iaload, 1) := by decide +kernel
theorem dL_isDone_272 : decode cL_isDone 272 = .ok (.istore 17, 2) := by decide +kernel
theorem dL_isDone_274 : decode cL_isDone 274 = .ok (.iload 17, 2) := by decide +kernel
theorem dL_isDone_276 : decode cL_isDone 276 = .ok (.ifCond .lt 12, 3) := by decide +kernel
theorem dL_isDone_279 : decode cL_isDone 279 = .ok (.aload 8, 2) := by decide +kernel
theorem dL_isDone_281 : decode cL_isDone 281 = .ok (.iconst 4, 1) := by decide +kernel
theorem dL_isDone_282 : decode cL_isDone 282 = .ok (.iload 14, 2) := by decide +kernel
theorem dL_isDone_284 : decode cL_isDone 284 = .ok (.iadd, 1) := by decide +kernel
theorem dL_isDone_285 : decode cL_isDone 285 = .ok (.iload 15, 2) := by decide +kernel
theorem dL_isDone_287 : decode cL_isDone 287 = .ok (.iastore, 1) := by decide +kernel
theorem dL_isDone_288 : decode cL_isDone 288 = .ok (.aload_n 0, 1) := by decide +kernel
theorem dL_isDone_289 : decode cL_isDone 289 = .ok (.iconst 2, 1) := by decide +kernel
theorem dL_isDone_290 : decode cL_isDone 290 = .ok (.iload 14, 2) := by decide +kernel
theorem dL_isDone_292 : decode cL_isDone 292 = .ok (.iload 15, 2) := by decide +kernel
theorem dL_isDone_294 : decode cL_isDone 294 = .ok (.iload 16, 2) := by decide +kernel
theorem dL_isDone_296 : decode cL_isDone 296 = .ok (.iconst 0, 1) := by decide +kernel
theorem dL_isDone_297 : decode cL_isDone 297 = .ok (.invokestatic 109, 3) := by decide +kernel
theorem dL_isDone_300 : decode cL_isDone 300 = .ok (.iload 17, 2) := by decide +kernel
theorem dL_isDone_302 : decode cL_isDone 302 = .ok (.if_icmp .ne 7, 3) := by decide +kernel
theorem dL_isDone_305 : decode cL_isDone 305 = .ok (.iconst 1, 1) := by decide +kernel
theorem dL_isDone_306 : decode cL_isDone 306 = .ok (.goto 4, 3) := by decide +kernel
theorem dL_isDone_309 : decode cL_isDone 309 = .ok (.iconst 0, 1) := by decide +kernel
theorem dL_isDone_310 : decode cL_isDone 310 = .ok (.ireturn, 1) := by decide +kernel
theorem dL_isDone_311 : decode cL_isDone 311 = .ok (.iload 10, 2) := by decide +kernel
theorem dL_isDone_313 : decode cL_isDone 313 = .ok (.bipush 20, 2) := by decide +kernel
theorem dL_isDone_315 : decode cL_isDone 315 = .ok (.if_icmp .ge 25, 3) := by decide +kernel
theorem dL_isDone_318 : decode cL_isDone 318 = .ok (.aload_n 0, 1) := by decide +kernel
theorem dL_isDone_319 : decode cL_isDone 319 = .ok (.aload_n 3, 1) := by decide +kernel
theorem dL_isDone_320 : decode cL_isDone 320 = .ok (.aload 4, 2) := by decide +kernel
theorem dL_isDone_322 : decode cL_isDone 322 = .ok (.aload 5, 2) := by decide +kernel
theorem dL_isDone_324 : decode cL_isDone 324 = .ok (.aload 6, 2) := by decide +kernel
theorem dL_isDone_326 : decode cL_isDone 326 = .ok (.aload 8, 2) := by decide +kernel
theorem dL_isDone_328 : decode cL_isDone 328 = .ok (.aload 9, 2) := by decide +kernel
theorem dL_isDone_330 : decode cL_isDone 330 = .ok (.iload 11, 2) := by decide +kernel
theorem dL_isDone_332 : decode cL_isDone 332 = .ok (.iload 12, 2) := by decide +kernel
theorem dL_isDone_334 : decode cL_isDone 334 = .ok (.iload 13, 2) := by decide +kernel
theorem dL_isDone_336 : decode cL_isDone 336 = .ok (.invokestatic 121, 3) := by decide +kernel
theorem dL_isDone_339 : decode cL_isDone 339 = .ok (.ireturn, 1) := by decide +kernel
theorem dL_isDone_340 : decode cL_isDone 340 = .ok (.iload 10, 2) := by decide +kernel
theorem dL_isDone_342 : decode cL_isDone 342 = .ok (.bipush 22, 2) := by decide +kernel
theorem dL_isDone_344 : decode cL_isDone 344 = .ok (.if_icmp .ge 87, 3) := by decide +kernel
theorem dL_isDone_347 : decode cL_isDone 347 = .ok (.iload 11, 2) := by decide +kernel
theorem dL_isDone_349 : decode cL_isDone 349 = .ok (.aload 9, 2) := by decide +kernel
theorem dL_isDone_351 : decode cL_isDone 351 = .ok (.iconst 0, 1) := by decide +kernel
theorem dL_isDone_352 : decode cL_isDone 352 = .ok (.iaload, 1) := by decide +kernel
theorem dL_isDone_353 : decode cL_isDone 353 = .ok (.iconst 1, 1) := by decide +kernel
theorem dL_isDone_354 : decode cL_isDone 354 = .ok (.iadd, 1) := by decide +kernel
theorem dL_isDone_355 : decode cL_isDone 355 = .ok (.irem, 1) := by decide +kernel
theorem dL_isDone_356 : decode cL_isDone 356 = .ok (.istore 14, 2) := by decide +kernel
theorem dL_isDone_358 : decode cL_isDone 358 = .ok (.iload 14, 2) := by decide +kernel
theorem dL_isDone_360 : decode cL_isDone 360 = .ok (.aload 9, 2) := by decide +kernel
theorem dL_isDone_362 : decode cL_isDone 362 = .ok (.iconst 0, 1) := by decide +kernel
theorem dL_isDone_363 : decode cL_isDone 363 = .ok (.iaload, 1) := by decide +kernel
theorem dL_isDone_364 : decode cL_isDone 364 = .ok (.if_icmp .ne 8, 3) := by decide +kernel
theorem dL_isDone_367 : decode cL_isDone 367 = .ok (.bipush (-30), 2) := by decide +kernel
theorem dL_isDone_369 : decode cL_isDone 369 = .ok (.goto 24, 3) := by decide +kernel
theorem dL_isDone_372 : decode cL_isDone 372 = .ok (.aload 5, 2) := by decide +kernel
theorem dL_isDone_374 : decode cL_isDone 374 = .ok (.iload 14, 2) := by decide +kernel
theorem dL_isDone_376 : decode cL_isDone 376 = .ok (.iaload, 1) := by decide +kernel
theorem dL_isDone_377 : decode cL_isDone 377 = .ok (.ifCond .le 8, 3) := by decide +kernel
theorem dL_isDone_380 : decode cL_isDone 380 = .ok (.bipush (-10), 2) := by decide +kernel
theorem dL_isDone_382 : decode cL_isDone 382 = .ok (.goto 11, 3) := by decide +kernel
theorem dL_isDone_385 : decode cL_isDone 385 = .ok (.aload 5, 2) := by decide +kernel
theorem dL_isDone_387 : decode cL_isDone 387 = .ok (.bipush 24, 2) := by decide +kernel
theorem dL_isDone_389 : decode cL_isDone 389 = .ok (.iload 14, 2) := by decide +kernel
theorem dL_isDone_391 : decode cL_isDone 391 = .ok (.iadd, 1) := by decide +kernel
theorem dL_isDone_392 : decode cL_isDone 392 = .ok (.iaload, 1) := by decide +kernel
theorem dL_isDone_393 : decode cL_isDone 393 = .ok (.istore 15, 2) := by decide +kernel
theorem dL_isDone_395 : decode cL_isDone 395 = .ok (.aload_n 0, 1) := by decide +kernel
theorem dL_isDone_396 : decode cL_isDone 396 = .ok (.iconst 4, 1) := by decide +kernel
theorem dL_isDone_397 : decode cL_isDone 397 = .ok (.iload 14, 2) := by decide +kernel
theorem dL_isDone_399 : decode cL_isDone 399 = .ok (.iconst 0, 1) := by decide +kernel
theorem dL_isDone_400 : decode cL_isDone 400 = .ok (.iconst 0, 1) := by decide +kernel
theorem dL_isDone_401 : decode cL_isDone 401 = .ok (.iconst 0, 1) := by decide +kernel
theorem dL_isDone_402 : decode cL_isDone 402 = .ok (.invokestatic 109, 3) := by decide +kernel
theorem dL_isDone_405 : decode cL_isDone 405 = .ok (.iload 15, 2) := by decide +kernel
theorem dL_isDone_407 : decode cL_isDone 407 = .ok (.if_icmp .ne 22, 3) := by decide +kernel
theorem dL_isDone_410 : decode cL_isDone 410 = .ok (.iload 15, 2) := by decide +kernel
theorem dL_isDone_412 : decode cL_isDone 412 = .ok (.ifCond .lt 13, 3) := by decide +kernel
theorem dL_isDone_415 : decode cL_isDone 415 = .ok (.aload_n 0, 1) := by decide +kernel
theorem dL_isDone_416 : decode cL_isDone 416 = .ok (.iload 14, 2) := by decide +kernel
theorem dL_isDone_418 : decode cL_isDone 418 = .ok (.invokevirtual 58, 3) := by decide +kernel
theorem dL_isDone_421 : decode cL_isDone 421 = .ok (.iconst 3, 1) := by decide +kernel
theorem dL_isDone_422 : decode cL_isDone 422 = .ok (.if_icmp .ne 7, 3) := by decide +kernel
theorem dL_isDone_425 : decode cL_isDone 425 = .ok (.iconst 1, 1) := by decide +kernel
theorem dL_isDone_426 : decode cL_isDone 426 = .ok (.goto 4, 3) := by decide +kernel
theorem dL_isDone_429 : decode cL_isDone 429 = .ok (.iconst 0, 1) := by decide +kernel
theorem dL_isDone_430 : decode cL_isDone 430 = .ok (.ireturn, 1) := by decide +kernel
theorem dL_isDone_431 : decode cL_isDone 431 = .ok (.iload 10, 2) := by decide +kernel
theorem dL_isDone_433 : decode cL_isDone 433 = .ok (.bipush 31, 2) := by decide +kernel
theorem dL_isDone_435 : decode cL_isDone 435 = .ok (.if_icmp .ge 40, 3) := by decide +kernel
theorem dL_isDone_438 : decode cL_isDone 438 = .ok (.aload_n 0, 1) := by decide +kernel
theorem dL_isDone_439 : decode cL_isDone 439 = .ok (.aload 7, 2) := by decide +kernel
theorem dL_isDone_441 : decode cL_isDone 441 = .ok (.iload 10, 2) := by decide +kernel
theorem dL_isDone_443 : decode cL_isDone 443 = .ok (.bipush 26, 2) := by decide +kernel
theorem dL_isDone_445 : decode cL_isDone 445 = .ok (.if_icmp .ge 7, 3) := by decide +kernel
theorem dL_isDone_448 : decode cL_isDone 448 = .ok (.iconst 0, 1) := by decide +kernel
theorem dL_isDone_449 : decode cL_isDone 449 = .ok (.goto 15, 3) := by decide +kernel
theorem dL_isDone_452 : decode cL_isDone 452 = .ok (.iload 10, 2) := by decide +kernel
theorem dL_isDone_454 : decode cL_isDone 454 = .ok (.bipush 28, 2) := by decide +kernel
theorem dL_isDone_456 : decode cL_isDone 456 = .ok (.if_icmp .ge 7, 3) := by decide +kernel
theorem dL_isDone_459 : decode cL_isDone 459 = .ok (.iconst 1, 1) := by decide +kernel
theorem dL_isDone_460 : decode cL_isDone 460 = .ok (.goto 4, 3) := by decide +kernel
theorem dL_isDone_463 : decode cL_isDone 463 = .ok (.iconst 2, 1) := by decide +kernel
theorem dL_isDone_464 : decode cL_isDone 464 = .ok (.iload 11, 2) := by decide +kernel
theorem dL_isDone_466 : decode cL_isDone 466 = .ok (.bipush 7, 2) := by decide +kernel
theorem dL_isDone_468 : decode cL_isDone 468 = .ok (.irem, 1) := by decide +kernel
theorem dL_isDone_469 : decode cL_isDone 469 = .ok (.iload 12, 2) := by decide +kernel
theorem dL_isDone_471 : decode cL_isDone 471 = .ok (.invokestatic 125, 3) := by decide +kernel
theorem dL_isDone_474 : decode cL_isDone 474 = .ok (.ireturn, 1) := by decide +kernel
theorem dL_isDone_475 : decode cL_isDone 475 = .ok (.iload 10, 2) := by decide +kernel
theorem dL_isDone_477 : decode cL_isDone 477 = .ok (.bipush 37, 2) := by decide +kernel
theorem dL_isDone_479 : decode cL_isDone 479 = .ok (.if_icmp .ge 35, 3) := by decide +kernel
theorem dL_isDone_482 : decode cL_isDone 482 = .ok (.aload_n 0, 1) := by decide +kernel
theorem dL_isDone_483 : decode cL_isDone 483 = .ok (.aload 5, 2) := by decide +kernel
theorem dL_isDone_485 : decode cL_isDone 485 = .ok (.aload 9, 2) := by decide +kernel
theorem dL_isDone_487 : decode cL_isDone 487 = .ok (.iload 12, 2) := by decide +kernel
theorem dL_isDone_489 : decode cL_isDone 489 = .ok (.bipush 12, 2) := by decide +kernel
theorem dL_isDone_491 : decode cL_isDone 491 = .ok (.irem, 1) := by decide +kernel
theorem dL_isDone_492 : decode cL_isDone 492 = .ok (.ifCond .ne 11, 3) := by decide +kernel
theorem dL_isDone_495 : decode cL_isDone 495 = .ok (.iload 11, 2) := by decide +kernel
theorem dL_isDone_497 : decode cL_isDone 497 = .ok (.bipush 103, 2) := by decide +kernel
theorem dL_isDone_499 : decode cL_isDone 499 = .ok (.irem, 1) := by decide +kernel
theorem dL_isDone_500 : decode cL_isDone 500 = .ok (.goto 10, 3) := by decide +kernel
theorem dL_isDone_503 : decode cL_isDone 503 = .ok (.iconst 1, 1) := by decide +kernel
theorem dL_isDone_504 : decode cL_isDone 504 = .ok (.iload 11, 2) := by decide +kernel
theorem dL_isDone_506 : decode cL_isDone 506 = .ok (.bipush 9, 2) := by decide +kernel
theorem dL_isDone_508 : decode cL_isDone 508 = .ok (.irem, 1) := by decide +kernel
theorem dL_isDone_509 : decode cL_isDone 509 = .ok (.iadd, 1) := by decide +kernel
theorem dL_isDone_510 : decode cL_isDone 510 = .ok (.invokestatic 128, 3) := by decide +kernel
theorem dL_isDone_513 : decode cL_isDone 513 = .ok (.ireturn, 1) := by decide +kernel
theorem dL_isDone_514 : decode cL_isDone 514 = .ok (.aload_n 0, 1) := by decide +kernel
theorem dL_isDone_515 : decode cL_isDone 515 = .ok (.aload_n 3, 1) := by decide +kernel
theorem dL_isDone_516 : decode cL_isDone 516 = .ok (.aload 5, 2) := by decide +kernel
theorem dL_isDone_518 : decode cL_isDone 518 = .ok (.aload 6, 2) := by decide +kernel
theorem dL_isDone_520 : decode cL_isDone 520 = .ok (.aload 8, 2) := by decide +kernel
theorem dL_isDone_522 : decode cL_isDone 522 = .ok (.aload 9, 2) := by decide +kernel
theorem dL_isDone_524 : decode cL_isDone 524 = .ok (.iload 11, 2) := by decide +kernel
theorem dL_isDone_526 : decode cL_isDone 526 = .ok (.iconst 5, 1) := by decide +kernel
theorem dL_isDone_527 : decode cL_isDone 527 = .ok (.irem, 1) := by decide +kernel
theorem dL_isDone_528 : decode cL_isDone 528 = .ok (.invokestatic 132, 3) := by decide +kernel
theorem dL_isDone_531 : decode cL_isDone 531 = .ok (.ireturn, 1) := by decide +kernel
set_option maxRecDepth 20000 in
theorem ggL_law_X5_init : GoodIn wsL_law wsX5_init := goodIn_r _ [6, 7, 8, 9, 10, 11, 12, 13, 14, 15, 16, 17, 18, 19, 20, 21, 22, 23, 24, 3, 25, 26, 27, 28, 29, 30, 31, 32, 33, 34, 35, 36, 37, 38, 39, 40, 41, 42, 43, 44, 45, 46, 47, 48, 49, 50, 51, 52, 53, 54, 55, 56, 57, 58, 492, 493, 494, 495, 496, 497, 498, 499, 500, 501, 502, 503, 504, 505, 506, 507, 508, 509, 510] (by decide +kernel) (by decide +kernel)
set_option maxRecDepth 20000 in
theorem gL_law_X5_init : GoodIn wsL_law (wsX5_init) := ggL_law_X5_init
set_option maxRecDepth 20000 in
theorem ggL_law_L_areMessages : GoodIn wsL_law wsL_areMessages := goodIn_ca (goodIn_ca (goodIn_r _ [62, 63, 64, 65, 2, 66, 21, 67, 68, 69, 20, 70, 71, 72, 73, 74, 75, 76, 77, 78, 61, 79, 80, 81, 82, 83, 84, 85, 86, 87, 88, 89, 90, 91, 92, 93, 94, 95, 96, 97, 98, 99, 100, 101, 102, 103, 104, 105, 106, 107, 108, 109, 37, 110, 111, 112, 113, 114, 115, 116, 117, 118, 119, 120, 121, 122, 123, 124, 125, 126, 127, 128, 129, 130, 131, 132, 133, 134, 135, 136, 137, 138, 139, 140, 141, 142, 143, 144, 145, 146, 147, 148, 149, 150, 151, 152, 153, 154, 155, 156, 157, 158, 159, 160, 15, 161, 162, 163, 164, 165, 166, 167, 168, 169, 170, 171, 172, 173, 174, 175, 176, 177, 178, 179, 17, 180, 56, 181, 182, 183, 184, 185, 186, 187, 188, 189, 190, 191, 192, 193, 194, 195, 196, 197, 198, 199, 200, 11, 201, 202, 203, 204, 492, 493, 494, 495, 508, 509, 510, 511, 512, 513, 514, 515, 516, 517, 518, 519, 520, 521, 522, 523, 524, 525, 526, 527, 528, 503, 504, 505, 506, 507, 496, 497, 498, 499, 500, 501, 502] (by decide +kernel) (by decide +kernel)) (goodIn_sub (fun _ h => List.mem_append_left _ (List.mem_append_left _ (List.mem_append_right _ h))) (by decide +kernel))) (goodIn_sub (fun _ h => List.mem_append_left _ (List.mem_append_right _ h)) (by decide +kernel))
set_option maxRecDepth 20000 in
theorem gL_law_L_areMessages : GoodIn wsL_law (va_wsS RL 137 yL_areMessages wsL_areMessages) := goodIn_app (goodIn_of _ (by decide +kernel)) ggL_law_L_areMessages
set_option maxRecDepth 20000 in
theorem ggL_law_L_areRecipients : GoodIn wsL_law wsL_areRecipients := goodIn_ca (goodIn_ca (goodIn_r _ [207, 77, 78, 61, 79, 80, 81, 82, 83, 84, 2, 85, 86, 87, 88, 89, 90, 91, 92, 21, 93, 67, 68, 69, 20, 70, 71, 94, 95, 96, 97, 98, 99, 100, 101, 102, 103, 104, 105, 106, 107, 108, 109, 37, 110, 111, 112, 113, 114, 115, 116, 117, 118, 119, 120, 121, 122, 123, 124, 125, 126, 127, 128, 129, 130, 131, 132, 133, 134, 135, 136, 137, 138, 139, 140, 141, 142, 143, 144, 145, 146, 147, 148, 149, 150, 151, 152, 153, 154, 155, 156, 157, 158, 159, 160, 15, 161, 162, 163, 164, 165, 166, 167, 168, 169, 170, 171, 172, 173, 174, 175, 176, 177, 178, 179, 17, 180, 56, 181, 182, 183, 184, 185, 186, 187, 188, 189, 190, 191, 192, 193, 194, 195, 196, 197, 198, 199, 200, 11, 511, 512, 513, 514, 515, 516, 517, 518, 519, 520, 521, 522, 523, 524, 525, 526, 492, 493, 494, 495, 508, 509, 510, 527, 528, 503, 504, 505, 506, 507, 496, 497, 498, 499, 500, 501, 502] (by decide +kernel) (by decide +kernel)) (goodIn_sub (fun _ h => List.mem_append_left _ (List.mem_append_left _ (List.mem_append_right _ h))) (by decide +kernel))) (goodIn_sub (fun _ h => List.mem_append_left _ (List.mem_append_right _ h)) (by decide +kernel))
set_option maxRecDepth 20000 in
theorem gL_law_L_areRecipients : GoodIn wsL_law (va_wsS RL 141 yL_areRecipients wsL_areRecipients) := goodIn_app (goodIn_of _ (by decide +kernel)) ggL_law_L_areRecipients
