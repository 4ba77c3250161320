theorem dJ8_hugeLength_7cf53_19 : decode cJ8_hugeLength_7cf53 19 = .ok (.ldc 206, 2) := by decide +kernel
theorem dJ8_hugeLength_7cf53_21 : decode cJ8_hugeLength_7cf53 21 = .ok (.invokevirtual 94, 3) := by decide +kernel
theorem dJ8_hugeLength_7cf53_24 : decode cJ8_hugeLength_7cf53 24 = .ok (.iload_n 0, 1) := by decide +kernel
theorem dJ8_hugeLength_7cf53_25 : decode cJ8_hugeLength_7cf53 25 = .ok (.invokevirtual 98, 3) := by decide +kernel
theorem dJ8_hugeLength_7cf53_28 : decode cJ8_hugeLength_7cf53 28 = .ok (.ldc 208, 2) := by decide +kernel
theorem dJ8_hugeLength_7cf53_30 : decode cJ8_hugeLength_7cf53 30 = .ok (.invokevirtual 94, 3) := by decide +kernel
theorem dJ8_hugeLength_7cf53_33 : decode cJ8_hugeLength_7cf53 33 = .ok (.iload_n 1, 1) := by decide +kernel
theorem dJ8_hugeLength_7cf53_34 : decode cJ8_hugeLength_7cf53 34 = .ok (.invokevirtual 98, 3) := by decide +kernel
theorem dJ8_hugeLength_7cf53_37 : decode cJ8_hugeLength_7cf53 37 = .ok (.ldc 210, 2) := by decide +kernel
theorem dJ8_hugeLength_7cf53_39 : decode cJ8_hugeLength_7cf53 39 = .ok (.invokevirtual 94, 3) := by decide +kernel
theorem dJ8_hugeLength_7cf53_42 : decode cJ8_hugeLength_7cf53 42 = .ok (.invokevirtual 101, 3) := by decide +kernel
theorem dJ8_hugeLength_7cf53_45 : decode cJ8_hugeLength_7cf53 45 = .ok (.invokespecial 212, 3) := by decide +kernel
theorem dJ8_hugeLength_7cf53_48 : decode cJ8_hugeLength_7cf53 48 = .ok (.athrow, 1) := by decide +kernel
theorem dJ8_hugeLength_7cf53_49 : decode cJ8_hugeLength_7cf53 49 = .ok (.iload_n 2, 1) := by decide +kernel
theorem dJ8_hugeLength_7cf53_50 : decode cJ8_hugeLength_7cf53 50 = .ok (.ldc 200, 2) := by decide +kernel
theorem dJ8_hugeLength_7cf53_52 : decode cJ8_hugeLength_7cf53 52 = .ok (.if_icmp .gt 6, 3) := by decide +kernel
theorem dJ8_hugeLength_7cf53_55 : decode cJ8_hugeLength_7cf53 55 = .ok (.ldc 200, 2) := by decide +kernel
theorem dJ8_hugeLength_7cf53_57 : decode cJ8_hugeLength_7cf53 57 = .ok (.ireturn, 1) := by decide +kernel
theorem dJ8_hugeLength_7cf53_58 : decode cJ8_hugeLength_7cf53 58 = .ok (.iload_n 2, 1) := by decide +kernel
theorem dJ8_hugeLength_7cf53_59 : decode cJ8_hugeLength_7cf53 59 = .ok (.ireturn, 1) := by decide +kernel
theorem dJ3_checkIndex_8e157_0 : decode cJ3_checkIndex_8e157 0 = .ok (.iload_n 0, 1) := by decide +kernel
theorem dJ3_checkIndex_8e157_1 : decode cJ3_checkIndex_8e157 1 = .ok (.ifCond .lt 8, 3) := by decide +kernel
theorem dJ3_checkIndex_8e157_4 : decode cJ3_checkIndex_8e157 4 = .ok (.iload_n 0, 1) := by decide +kernel
theorem dJ3_checkIndex_8e157_5 : decode cJ3_checkIndex_8e157 5 = .ok (.iload_n 1, 1) := by decide +kernel
theorem dJ3_checkIndex_8e157_6 : decode cJ3_checkIndex_8e157 6 = .ok (.if_icmp .lt 10, 3) := by decide +kernel
theorem dJ3_checkIndex_8e157_9 : decode cJ3_checkIndex_8e157 9 = .ok (.aload_n 2, 1) := by decide +kernel
theorem dJ3_checkIndex_8e157_10 : decode cJ3_checkIndex_8e157 10 = .ok (.iload_n 0, 1) := by decide +kernel
theorem dJ3_checkIndex_8e157_11 : decode cJ3_checkIndex_8e157 11 = .ok (.iload_n 1, 1) := by decide +kernel
theorem dJ3_checkIndex_8e157_12 : decode cJ3_checkIndex_8e157 12 = .ok (.invokestatic 95, 3) := by decide +kernel
theorem dJ3_checkIndex_8e157_15 : decode cJ3_checkIndex_8e157 15 = .ok (.athrow, 1) := by decide +kernel
theorem dJ3_checkIndex_8e157_16 : decode cJ3_checkIndex_8e157 16 = .ok (.iload_n 0, 1) := by decide +kernel
theorem dJ3_checkIndex_8e157_17 : decode cJ3_checkIndex_8e157 17 = .ok (.ireturn, 1) := by decide +kernel
theorem dL_part_0 : decode cL_part 0 = .ok (.iload_n 1, 1) := by decide +kernel
theorem dL_part_1 : decode cL_part 1 = .ok (.aload_n 0, 1) := by decide +kernel
theorem dL_part_2 : decode cL_part 2 = .ok (.arraylength, 1) := by decide +kernel
theorem dL_part_3 : decode cL_part 3 = .ok (.if_icmp .ge 9, 3) := by decide +kernel
theorem dL_part_6 : decode cL_part 6 = .ok (.aload_n 0, 1) := by decide +kernel
theorem dL_part_7 : decode cL_part 7 = .ok (.iload_n 1, 1) := by decide +kernel
theorem dL_part_8 : decode cL_part 8 = .ok (.iaload, 1) := by decide +kernel
theorem dL_part_9 : decode cL_part 9 = .ok (.goto 16, 3) := by decide +kernel
theorem dL_part_12 : decode cL_part 12 = .ok (.sipush 337, 3) := by decide +kernel
theorem dL_part_15 : decode cL_part 15 = .ok (.iload_n 1, 1) := by decide +kernel
theorem dL_part_16 : decode cL_part 16 = .ok (.imul, 1) := by decide +kernel
theorem dL_part_17 : decode cL_part 17 = .ok (.sipush 199, 3) := by decide +kernel
theorem dL_part_20 : decode cL_part 20 = .ok (.iload_n 1, 1) := by decide +kernel
theorem dL_part_21 : decode cL_part 21 = .ok (.imul, 1) := by decide +kernel
theorem dL_part_22 : decode cL_part 22 = .ok (.iload_n 1, 1) := by decide +kernel
theorem dL_part_23 : decode cL_part 23 = .ok (.imul, 1) := by decide +kernel
theorem dL_part_24 : decode cL_part 24 = .ok (.iadd, 1) := by decide +kernel
theorem dL_part_25 : decode cL_part 25 = .ok (.istore_n 3, 1) := by decide +kernel
theorem dL_part_26 : decode cL_part 26 = .ok (.iload_n 3, 1) := by decide +kernel
theorem dL_part_27 : decode cL_part 27 = .ok (.ldc 7, 2) := by decide +kernel
theorem dL_part_29 : decode cL_part 29 = .ok (.iand, 1) := by decide +kernel
theorem dL_part_30 : decode cL_part 30 = .ok (.iload_n 2, 1) := by decide +kernel
theorem dL_part_31 : decode cL_part 31 = .ok (.irem, 1) := by decide +kernel
theorem dL_part_32 : decode cL_part 32 = .ok (.ireturn, 1) := by decide +kernel
set_option maxRecDepth 20000 in
theorem ggL_options_X5_setOptions : GoodIn wsL_options wsX5_setOptions := goodIn_ca (goodIn_ca (goodIn_r _ [5, 6, 7, 8, 9, 10, 11, 4, 12, 13, 14, 15, 16, 17, 18, 19, 20, 21, 22, 23, 24, 25, 26, 27, 28, 29, 30, 31] (by decide +kernel) (by decide +kernel)) (goodIn_sub (fun _ h => List.mem_cons_of_mem _ (List.mem_append_left _ (List.mem_append_right _ h))) (by decide +kernel))) (goodIn_sub (fun _ h => List.mem_cons_of_mem _ (List.mem_append_right _ h)) (by decide +kernel))
set_option maxRecDepth 20000 in
theorem gL_options_X5_setOptions : GoodIn wsL_options (wsV RL 8 RX5 yX5_setOptions wsX5_setOptions) := goodIn_app (goodIn_of _ (by decide +kernel)) ggL_options_X5_setOptions
theorem dL_options_0 : decode cL_options 0 = .ok (.aload_n 0, 1) := by decide +kernel
theorem dL_options_1 : decode cL_options 1 = .ok (.iload_n 1, 1) := by decide +kernel
theorem dL_options_2 : decode cL_options 2 = .ok (.iload_n 2, 1) := by decide +kernel
theorem dL_options_3 : decode cL_options 3 = .ok (.iload_n 3, 1) := by decide +kernel
theorem dL_options_4 : decode cL_options 4 = .ok (.iload 4, 2) := by decide +kernel
theorem dL_options_6 : decode cL_options 6 = .ok (.invokevirtual 8, 3) := by decide +kernel
theorem dL_options_9 : decode cL_options 9 = .ok (.iconst 0, 1) := by decide +kernel
theorem dL_options_10 : decode cL_options 10 = .ok (.ireturn, 1) := by decide +kernel
set_option maxRecDepth 20000 in
theorem ggL_does_X5_draft : GoodIn wsL_does wsX5_draft := goodIn_ca (goodIn_ca (goodIn_r _ [8, 9, 10, 11, 12, 7, 13, 14, 15, 16, 17, 18, 19, 20, 21, 22, 23, 24, 25, 26, 27, 28, 29, 30, 31, 32, 33, 34, 35, 36, 37, 38, 39, 40, 41, 42, 43, 44, 45, 46, 47, 48, 49, 345, 346, 347, 348, 349, 350, 351, 352, 353, 354, 355] (by decide +kernel) (by decide +kernel)) (goodIn_sub (fun _ h => List.mem_cons_of_mem _ (List.mem_append_left _ (List.mem_append_left _ (List.mem_append_right _ h)))) (by decide +kernel))) (goodIn_sub (fun _ h => List.mem_cons_of_mem _ (List.mem_append_left _ (List.mem_append_right _ h))) (by decide +kernel))
set_option maxRecDepth 20000 in
theorem gL_does_X5_draft : GoodIn wsL_does (wsV RL 14 RX5 yX5_draft wsX5_draft) := goodIn_app (goodIn_of _ (by decide +kernel)) ggL_does_X5_draft
set_option maxRecDepth 20000 in
theorem ggL_does_L_options : GoodIn wsL_does wsL_options := goodIn_ca (goodIn_ca (goodIn_r _ [53, 54, 55, 56, 7, 57, 58, 59, 60, 10, 11, 12, 13, 14, 15, 16, 17, 18, 19, 20, 21, 345, 346, 347, 348, 349, 350, 351, 352, 353, 354, 355] (by decide +kernel) (by decide +kernel)) (goodIn_sub (fun _ h => List.mem_cons_of_mem _ (List.mem_append_left _ (List.mem_append_left _ (List.mem_append_right _ h)))) (by decide +kernel))) (goodIn_sub (fun _ h => List.mem_cons_of_mem _ (List.mem_append_left _ (List.mem_append_right _ h))) (by decide +kernel))
set_option maxRecDepth 20000 in
theorem gL_does_L_options : GoodIn wsL_does (va_wsS RL 18 yL_options wsL_options) := goodIn_app (goodIn_of _ (by decide +kernel)) ggL_does_L_options
set_option maxRecDepth 20000 in
theorem ggL_does_X5_setRate : GoodIn wsL_does wsX5_setRate := goodIn_ca (goodIn_ca (goodIn_r _ [64, 65, 66, 10, 11, 12, 7, 13, 14, 15, 16, 17, 18, 19, 20, 21, 345, 346, 347, 348, 349, 350, 351, 352, 353, 354, 355] (by decide +kernel) (by decide +kernel)) (goodIn_sub (fun _ h => List.mem_cons_of_mem _ (List.mem_append_left _ (List.mem_append_left _ (List.mem_append_right _ h)))) (by decide +kernel))) (goodIn_sub (fun _ h => List.mem_cons_of_mem _ (List.mem_append_left _ (List.mem_append_right _ h))) (by decide +kernel))
set_option maxRecDepth 20000 in
theorem gL_does_X5_setRate : GoodIn wsL_does (wsV RL 24 RX5 yX5_setRate wsX5_setRate) := goodIn_app (goodIn_of _ (by decide +kernel)) ggL_does_X5_setRate
set_option maxRecDepth 20000 in
theorem ggL_does_X5_submit : GoodIn wsL_does wsX5_submit := goodIn_ca (goodIn_ca (goodIn_ca (goodIn_r _ [70, 71, 72, 73, 74, 75, 76, 77, 78, 79, 10, 11, 12, 7, 13, 14, 15, 16, 80, 81, 82, 83, 84, 17, 18, 19, 20, 21, 85, 86, 87, 88, 59, 89, 90, 91, 92, 93, 94, 95, 96, 97, 98, 99, 100, 101, 102, 103, 104, 105, 106, 107, 108, 109, 110, 111, 112, 113, 114, 115, 116, 117, 118, 119, 120, 121, 122, 123, 124, 125, 66, 65, 126, 127, 128, 129, 130, 131, 132, 133, 134, 135, 136, 137, 138, 139, 140, 141, 142, 143, 144, 145, 146, 147, 25, 148, 149, 150, 151, 152, 153, 154, 155, 156, 157, 158, 159, 160, 161, 162, 163, 164, 165, 166, 167, 168, 169, 170, 171, 172, 173, 174, 175, 176, 177, 178, 179, 180, 181, 182, 183, 44, 184, 185, 186, 187, 188, 189, 190, 191, 192, 193, 194, 195, 196, 34, 197, 198, 199, 200, 201, 202, 203, 204, 205, 206, 42, 43, 45, 46, 47, 48, 49, 207, 208, 209, 210, 211, 212, 213, 214, 215, 216, 217, 218, 219, 220, 221, 222, 223, 224, 225, 226, 227, 228, 229, 230, 231, 232, 233, 234, 235, 236, 237, 238, 356, 357, 358, 359, 360, 361, 362, 363, 364, 365, 366, 367, 368, 369, 370, 371, 352, 353, 354, 355, 372, 373, 374, 375, 376, 345, 346, 347, 348, 349, 350, 351, 377, 378, 379, 380, 381] (by decide +kernel) (by decide +kernel)) (goodIn_sub (fun _ h => List.mem_cons_of_mem _ (List.mem_append_right _ h)) (by decide +kernel))) (goodIn_sub (fun _ h => List.mem_cons_of_mem _ (List.mem_append_left _ (List.mem_append_left _ (List.mem_append_right _ h)))) (by decide +kernel))) (goodIn_sub (fun _ h => List.mem_cons_of_mem _ (List.mem_append_left _ (List.mem_append_right _ h))) (by decide +kernel))
set_option maxRecDepth 20000 in
theorem gL_does_X5_submit : GoodIn wsL_does (wsV RL 28 RX5 yX5_submit wsX5_submit) := goodIn_app (goodIn_of _ (by decide +kernel)) ggL_does_X5_submit
set_option maxRecDepth 20000 in
theorem ggL_does_X5_delete : GoodIn wsL_does wsX5_delete := goodIn_ca (goodIn_ca (goodIn_r _ [242, 213, 243, 244, 245, 7, 246, 71, 72, 212, 247, 248, 249, 250, 14, 15, 74, 89, 92, 93, 94, 95, 96, 97, 98, 99, 100, 101, 102, 103, 104, 105, 106, 107, 108, 109, 110, 111, 112, 113, 114, 215, 216, 217, 77, 218, 132, 152, 120, 145, 119, 219, 220, 160, 161, 151, 162, 157, 158, 221, 222, 223, 224, 225, 226, 227, 228, 229, 230, 231, 232, 233, 234, 235, 236, 167, 168, 237, 47, 48, 49, 238, 164, 165, 166, 169, 170, 171, 172, 173, 174, 175, 176, 177, 178, 179, 180, 181, 182, 183, 44, 184, 185, 186, 187, 188, 189, 190, 191, 192, 193, 194, 195, 196, 34, 197, 198, 199, 200, 201, 202, 203, 204, 205, 206, 42, 43, 45, 46, 356, 357, 358, 359, 360, 361, 362, 363, 364, 365, 366, 367, 368, 369, 370, 371, 352, 353, 354, 355, 377, 378, 379, 345, 346, 347, 348, 349, 350, 351, 380, 381, 372, 373, 374, 375, 376] (by decide +kernel) (by decide +kernel)) (goodIn_sub (fun _ h => List.mem_cons_of_mem _ (List.mem_append_right _ h)) (by decide +kernel))) (goodIn_sub (fun _ h => List.mem_cons_of_mem _ (List.mem_append_left _ (List.mem_append_left _ (List.mem_append_right _ h)))) (by decide +kernel))
set_option maxRecDepth 20000 in
theorem gL_does_X5_delete : GoodIn wsL_does (wsV RL 32 RX5 yX5_delete wsX5_delete) := goodIn_app (goodIn_of _ (by decide +kernel)) ggL_does_X5_delete
set_option maxRecDepth 20000 in
theorem ggL_does_X5_setMode : GoodIn wsL_does wsX5_setMode := goodIn_ca (goodIn_ca (goodIn_r _ [254, 255, 78, 80, 81, 82, 7, 83, 14, 15, 84, 17, 18, 19, 20, 21, 256, 257, 258, 224, 259, 260, 226, 261, 262, 263, 43, 44, 45, 227, 93, 94, 95, 96, 97, 228, 99, 100, 101, 102, 103, 104, 105, 106, 107, 108, 109, 110, 111, 112, 113, 114, 372, 373, 374, 375, 376, 352, 353, 354, 355, 356, 357, 358, 359, 360, 361, 362, 363, 364, 365, 366, 367, 368, 369, 370, 371, 377, 378, 379] (by decide +kernel) (by decide +kernel)) (goodIn_sub (fun _ h => List.mem_cons_of_mem _ (List.mem_append_left _ (List.mem_append_left _ (List.mem_append_right _ h)))) (by decide +kernel))) (goodIn_sub (fun _ h => List.mem_cons_of_mem _ (List.mem_append_left _ (List.mem_append_right _ h))) (by decide +kernel))
set_option maxRecDepth 20000 in
theorem gL_does_X5_setMode : GoodIn wsL_does (wsV RL 36 RX5 yX5_setMode wsX5_setMode) := goodIn_app (goodIn_of _ (by decide +kernel)) ggL_does_X5_setMode
set_option maxRecDepth 20000 in
theorem ggL_does_X5_setRoom : GoodIn wsL_does wsX5_setRoom := goodIn_ca (goodIn_ca (goodIn_r _ [267, 268, 80, 81, 82, 7, 83, 14, 15, 84, 17, 18, 19, 20, 21, 269, 270, 271, 272, 273, 78, 256, 257, 258, 224, 259, 260, 226, 261, 262, 263, 43, 44, 45, 227, 93, 94, 95, 96, 97, 228, 99, 100, 101, 102, 103, 104, 105, 106, 107, 108, 109, 110, 111, 112, 113, 114, 372, 373, 374, 375, 376, 352, 353, 354, 355, 356, 357, 358, 359, 360, 361, 362, 363, 364, 365, 366, 367, 368, 369, 370, 371, 377, 378, 379] (by decide +kernel) (by decide +kernel)) (goodIn_sub (fun _ h => List.mem_cons_of_mem _ (List.mem_append_left _ (List.mem_append_left _ (List.mem_append_right _ h)))) (by decide +kernel))) (goodIn_sub (fun _ h => List.mem_cons_of_mem _ (List.mem_append_left _ (List.mem_append_right _ h))) (by decide +kernel))
set_option maxRecDepth 20000 in
theorem gL_does_X5_setRoom : GoodIn wsL_does (wsV RL 40 RX5 yX5_setRoom wsX5_setRoom) := goodIn_app (goodIn_of _ (by decide +kernel)) ggL_does_X5_setRoom
set_option maxRecDepth 20000 in
theorem ggL_does_X5_read : GoodIn wsL_does wsX5_read := goodIn_ca (goodIn_ca (goodIn_r _ [277, 273, 278, 183, 44, 184, 80, 81, 82, 7, 83, 14, 15, 84, 17, 18, 19, 20, 21, 269, 270, 271, 272, 268, 78, 256, 257, 258, 224, 259, 260, 226, 261, 262, 263, 43, 45, 227, 93, 94, 95, 96, 97, 228, 99, 100, 101, 102, 103, 104, 105, 106, 107, 108, 109, 110, 111, 112, 113, 114, 372, 373, 374, 375, 376, 352, 353, 354, 355, 356, 357, 358, 359, 360, 361, 362, 363, 364, 365, 366, 367, 368, 369, 370, 371, 377, 378, 379] (by decide +kernel) (by decide +kernel)) (goodIn_sub (fun _ h => List.mem_cons_of_mem _ (List.mem_append_left _ (List.mem_append_left _ (List.mem_append_right _ h)))) (by decide +kernel))) (goodIn_sub (fun _ h => List.mem_cons_of_mem _ (List.mem_append_left _ (List.mem_append_right _ h))) (by decide +kernel))
set_option maxRecDepth 20000 in
theorem gL_does_X5_read : GoodIn wsL_does (wsV RL 43 RX5 yX5_read wsX5_read) := goodIn_app (goodIn_of _ (by decide +kernel)) ggL_does_X5_read
set_option maxRecDepth 20000 in
theorem ggL_does_X5_pass : GoodIn wsL_does wsX5_pass := goodIn_ca (goodIn_r _ [282, 78, 84, 17, 18, 7, 19, 20, 21, 283, 284, 285, 286, 74, 89, 212, 91, 287, 92, 93, 94, 95, 96, 97, 98, 99, 100, 101, 102, 103, 104, 105, 106, 107, 108, 109, 110, 111, 112, 113, 114, 215, 216, 217, 77, 218, 132, 152, 120, 145, 119, 219, 220, 160, 161, 151, 162, 157, 158, 221, 222, 223, 224, 225, 226, 227, 228, 229, 230, 231, 232, 233, 234, 235, 236, 167, 168, 237, 47, 48, 49, 238, 164, 165, 166, 169, 170, 171, 172, 173, 174, 175, 176, 177, 178, 179, 180, 181, 182, 183, 44, 184, 185, 186, 187, 188, 189, 190, 191, 192, 193, 194, 195, 196, 34, 197, 198, 199, 200, 201, 202, 203, 204, 205, 206, 42, 43, 45, 46, 288, 289, 290, 291, 292, 255, 293, 294, 295, 296, 297, 298, 261, 262, 299, 300, 301, 302, 136, 147, 303, 304, 305, 306, 307, 308, 309, 310, 311, 312, 313, 314, 315, 316, 317, 134, 148, 139, 318, 319, 320, 321, 322, 323, 324, 325, 326, 327, 328, 329, 330, 331, 332, 333, 334, 352, 353, 354, 355, 356, 357, 358, 359, 360, 361, 362, 363, 364, 365, 366, 367, 368, 369, 370, 371, 377, 378, 379, 345, 346, 347, 348, 349, 350, 351, 380, 381, 372, 373, 374, 375, 376] (by decide +kernel) (by decide +kernel)) (goodIn_sub (fun _ h => List.mem_cons_of_mem _ (List.mem_append_left _ (List.mem_append_right _ h))) (by decide +kernel))
set_option maxRecDepth 20000 in
theorem gL_does_X5_pass : GoodIn wsL_does (wsV RL 46 RX5 yX5_pass wsX5_pass) := goodIn_app (goodIn_of _ (by decide +kernel)) ggL_does_X5_pass
set_option maxRecDepth 20000 in
theorem ggL_does_X5_takeReceipt : GoodIn wsL_does wsX5_takeReceipt := goodIn_ca (goodIn_ca (goodIn_r _ [338, 71, 72, 339, 89, 73, 212, 10, 11, 12, 7, 13, 14, 15, 16, 340, 341, 342, 95, 343, 97, 344, 230, 231, 232, 114, 102, 103, 104, 105, 106, 107, 108, 109, 233, 234, 235, 236, 167, 168, 237, 47, 48, 49, 345, 346, 347, 348, 349, 350, 351, 356, 357, 358, 359, 360, 361, 362, 363, 364, 365, 366, 367, 368, 369, 370, 371, 352, 353, 354, 355, 377, 378, 379] (by decide +kernel) (by decide +kernel)) (goodIn_sub (fun _ h => List.mem_cons_of_mem _ (List.mem_append_right _ h)) (by decide +kernel))) (goodIn_sub (fun _ h => List.mem_cons_of_mem _ (List.mem_append_left _ (List.mem_append_left _ (List.mem_append_right _ h)))) (by decide +kernel))
set_option maxRecDepth 20000 in
theorem gL_does_X5_takeReceipt : GoodIn wsL_does (wsV RL 49 RX5 yX5_takeReceipt wsX5_takeReceipt) := goodIn_app (goodIn_of _ (by decide +kernel)) ggL_does_X5_takeReceipt
theorem dL_does_0 : decode cL_does 0 = .ok (.iload_n 1, 1) := by decide +kernel
theorem dL_does_1 : decode cL_does 1 = .ok (.ifCond .ne 25, 3) := by decide +kernel
theorem dL_does_4 : decode cL_does 4 = .ok (.aload_n 0, 1) := by decide +kernel
theorem dL_does_5 : decode cL_does 5 = .ok (.iload_n 2, 1) := by decide +kernel
theorem dL_does_6 : decode cL_does 6 = .ok (.iload_n 3, 1) := by decide +kernel
theorem dL_does_7 : decode cL_does 7 = .ok (.iload 4, 2) := by decide +kernel
theorem dL_does_9 : decode cL_does 9 = .ok (.iload 5, 2) := by decide +kernel
theorem dL_does_11 : decode cL_does 11 = .ok (.iconst 1, 1) := by decide +kernel
theorem dL_does_12 : decode cL_does 12 = .ok (.if_icmp .ne 7, 3) := by decide +kernel
theorem dL_does_15 : decode cL_does 15 = .ok (.iconst 1, 1) := by decide +kernel
theorem dL_does_16 : decode cL_does 16 = .ok (.goto 4, 3) := by decide +kernel
theorem dL_does_19 : decode cL_does 19 = .ok (.iconst 0, 1) := by decide +kernel
theorem dL_does_20 : decode cL_does 20 = .ok (.invokevirtual 14, 3) := by decide +kernel
theorem dL_does_23 : decode cL_does 23 = .ok (.goto 140, 3) := by decide +kernel
theorem dL_does_26 : decode cL_does 26 = .ok (.iload_n 1, 1) := by decide +kernel
theorem dL_does_27 : decode cL_does 27 = .ok (.iconst 1, 1) := by decide +kernel
theorem dL_does_28 : decode cL_does 28 = .ok (.if_icmp .ne 25, 3) := by decide +kernel
theorem dL_does_31 : decode cL_does 31 = .ok (.aload_n 0, 1) := by decide +kernel
theorem dL_does_32 : decode cL_does 32 = .ok (.iload_n 2, 1) := by decide +kernel
theorem dL_does_33 : decode cL_does 33 = .ok (.iload_n 3, 1) := by decide +kernel
theorem dL_does_34 : decode cL_does 34 = .ok (.iload 4, 2) := by decide +kernel
theorem dL_does_36 : decode cL_does 36 = .ok (.iload 5, 2) := by decide +kernel
theorem dL_does_38 : decode cL_does 38 = .ok (.iconst 1, 1) := by decide +kernel
theorem dL_does_39 : decode cL_does 39 = .ok (.if_icmp .ne 7, 3) := by decide +kernel
theorem dL_does_42 : decode cL_does 42 = .ok (.iconst 1, 1) := by decide +kernel
theorem dL_does_43 : decode cL_does 43 = .ok (.goto 4, 3) := by decide +kernel
theorem dL_does_46 : decode cL_does 46 = .ok (.iconst 0, 1) := by decide +kernel
theorem dL_does_47 : decode cL_does 47 = .ok (.invokestatic 18, 3) := by decide +kernel
theorem dL_does_50 : decode cL_does 50 = .ok (.goto 113, 3) := by decide +kernel
theorem dL_does_53 : decode cL_does 53 = .ok (.iload_n 1, 1) := by decide +kernel
theorem dL_does_54 : decode cL_does 54 = .ok (.iconst 2, 1) := by decide +kernel
theorem dL_does_55 : decode cL_does 55 = .ok (.if_icmp .ne 14, 3) := by decide +kernel
theorem dL_does_58 : decode cL_does 58 = .ok (.aload_n 0, 1) := by decide +kernel
theorem dL_does_59 : decode cL_does 59 = .ok (.iload_n 2, 1) := by decide +kernel
theorem dL_does_60 : decode cL_does 60 = .ok (.iload_n 3, 1) := by decide +kernel
theorem dL_does_61 : decode cL_does 61 = .ok (.iload 4, 2) := by decide +kernel
theorem dL_does_63 : decode cL_does 63 = .ok (.invokevirtual 24, 3) := by decide +kernel
theorem dL_does_66 : decode cL_does 66 = .ok (.goto 97, 3) := by decide +kernel
theorem dL_does_69 : decode cL_does 69 = .ok (.iload_n 1, 1) := by decide +kernel
theorem dL_does_70 : decode cL_does 70 = .ok (.iconst 3, 1) := by decide +kernel
theorem dL_does_71 : decode cL_does 71 = .ok (.if_icmp .ne 16, 3) := by decide +kernel
theorem dL_does_74 : decode cL_does 74 = .ok (.aload_n 0, 1) := by decide +kernel
theorem dL_does_75 : decode cL_does 75 = .ok (.iload_n 2, 1) := by decide +kernel
theorem dL_does_76 : decode cL_does 76 = .ok (.iload_n 3, 1) := by decide +kernel
theorem dL_does_77 : decode cL_does 77 = .ok (.iload 4, 2) := by decide +kernel
theorem dL_does_79 : decode cL_does 79 = .ok (.iload 5, 2) := by decide +kernel
theorem dL_does_81 : decode cL_does 81 = .ok (.invokevirtual 28, 3) := by decide +kernel
theorem dL_does_84 : decode cL_does 84 = .ok (.goto 79, 3) := by decide +kernel
theorem dL_does_87 : decode cL_does 87 = .ok (.iload_n 1, 1) := by decide +kernel
theorem dL_does_88 : decode cL_does 88 = .ok (.iconst 4, 1) := by decide +kernel
theorem dL_does_89 : decode cL_does 89 = .ok (.if_icmp .ne 11, 3) := by decide +kernel
theorem dL_does_92 : decode cL_does 92 = .ok (.aload_n 0, 1) := by decide +kernel
theorem dL_does_93 : decode cL_does 93 = .ok (.iload_n 2, 1) := by decide +kernel
theorem dL_does_94 : decode cL_does 94 = .ok (.invokevirtual 32, 3) := by decide +kernel
theorem dL_does_97 : decode cL_does 97 = .ok (.goto 66, 3) := by decide +kernel
theorem dL_does_100 : decode cL_does 100 = .ok (.iload_n 1, 1) := by decide +kernel
theorem dL_does_101 : decode cL_does 101 = .ok (.iconst 5, 1) := by decide +kernel
theorem dL_does_102 : decode cL_does 102 = .ok (.if_icmp .ne 12, 3) := by decide +kernel
theorem dL_does_105 : decode cL_does 105 = .ok (.aload_n 0, 1) := by decide +kernel
theorem dL_does_106 : decode cL_does 106 = .ok (.iload_n 2, 1) := by decide +kernel
theorem dL_does_107 : decode cL_does 107 = .ok (.iload_n 3, 1) := by decide +kernel
theorem dL_does_108 : decode cL_does 108 = .ok (.invokevirtual 36, 3) := by decide +kernel
theorem dL_does_111 : decode cL_does 111 = .ok (.goto 52, 3) := by decide +kernel
theorem dL_does_114 : decode cL_does 114 = .ok (.iload_n 1, 1) := by decide +kernel
theorem dL_does_115 : decode cL_does 115 = .ok (.bipush 6, 2) := by decide +kernel
theorem dL_does_117 : decode cL_does 117 = .ok (.if_icmp .ne 12, 3) := by decide +kernel
theorem dL_does_120 : decode cL_does 120 = .ok (.aload_n 0, 1) := by decide +kernel
theorem dL_does_121 : decode cL_does 121 = .ok (.iload_n 2, 1) := by decide +kernel
theorem dL_does_122 : decode cL_does 122 = .ok (.iload_n 3, 1) := by decide +kernel
theorem dL_does_123 : decode cL_does 123 = .ok (.invokevirtual 40, 3) := by decide +kernel
theorem dL_does_126 : decode cL_does 126 = .ok (.goto 37, 3) := by decide +kernel
theorem dL_does_129 : decode cL_does 129 = .ok (.iload_n 1, 1) := by decide +kernel
theorem dL_does_130 : decode cL_does 130 = .ok (.bipush 7, 2) := by decide +kernel
theorem dL_does_132 : decode cL_does 132 = .ok (.if_icmp .ne 12, 3) := by decide +kernel
theorem dL_does_135 : decode cL_does 135 = .ok (.aload_n 0, 1) := by decide +kernel
theorem dL_does_136 : decode cL_does 136 = .ok (.iload_n 2, 1) := by decide +kernel
theorem dL_does_137 : decode cL_does 137 = .ok (.iload_n 3, 1) := by decide +kernel
theorem dL_does_138 : decode cL_does 138 = .ok (.invokevirtual 43, 3) := by decide +kernel
theorem dL_does_141 : decode cL_does 141 = .ok (.goto 22, 3) := by decide +kernel
theorem dL_does_144 : decode cL_does 144 = .ok (.iload_n 1, 1) := by decide +kernel
theorem dL_does_145 : decode cL_does 145 = .ok (.bipush 8, 2) := by decide +kernel
theorem dL_does_147 : decode cL_does 147 = .ok (.if_icmp .ne 11, 3) := by decide +kernel
theorem dL_does_150 : decode cL_does 150 = .ok (.aload_n 0, 1) := by decide +kernel
theorem dL_does_151 : decode cL_does 151 = .ok (.iload_n 2, 1) := by decide +kernel
theorem dL_does_152 : decode cL_does 152 = .ok (.invokevirtual 46, 3) := by decide +kernel
theorem dL_does_155 : decode cL_does 155 = .ok (.goto 8, 3) := by decide +kernel
theorem dL_does_158 : decode cL_does 158 = .ok (.aload_n 0, 1) := by decide +kernel
theorem dL_does_159 : decode cL_does 159 = .ok (.iload_n 2, 1) := by decide +kernel
theorem dL_does_160 : decode cL_does 160 = .ok (.invokevirtual 49, 3) := by decide +kernel
theorem dL_does_163 : decode cL_does 163 = .ok (.ireturn, 1) := by decide +kernel
theorem dL_does_164 : decode cL_does 164 = .ok (.astore 6, 2) := by decide +kernel
theorem dL_does_166 : decode cL_does 166 = .ok (.bipush (-30), 2) := by decide +kernel
theorem dL_does_168 : decode cL_does 168 = .ok (.ireturn, 1) := by decide +kernel
theorem dL_does_169 : decode cL_does 169 = .ok (.astore 6, 2) := by decide +kernel
theorem dL_does_171 : decode cL_does 171 = .ok (.bipush (-20), 2) := by decide +kernel
theorem dL_does_173 : decode cL_does 173 = .ok (.ireturn, 1) := by decide +kernel
theorem dL_does_174 : decode cL_does 174 = .ok (.astore 6, 2) := by decide +kernel
theorem dL_does_176 : decode cL_does 176 = .ok (.bipush (-10), 2) := by decide +kernel
theorem dL_does_178 : decode cL_does 178 = .ok (.ireturn, 1) := by decide +kernel
set_option maxRecDepth 20000 in
theorem ggL_asks_X5_state : GoodIn wsL_asks wsX5_state := goodIn_ca (goodIn_r _ [7, 8, 9, 10, 11, 6, 12, 13, 14, 15, 16, 17, 18, 19, 20, 21, 22, 23, 24, 25, 26, 27, 28, 29, 30, 31, 32, 33, 34, 35, 36, 37, 38, 39, 135, 136, 137, 138, 139, 140, 141, 142, 143, 144, 145, 146, 147, 148, 149, 150, 151, 152, 153, 154, 155, 156, 157] (by decide +kernel) (by decide +kernel)) (goodIn_sub (fun _ h => List.mem_cons_of_mem _ (List.mem_append_left _ (List.mem_append_right _ h))) (by decide +kernel))
set_option maxRecDepth 20000 in
theorem gL_asks_X5_state : GoodIn wsL_asks (wsV RL 58 RX5 yX5_state wsX5_state) := goodIn_app (goodIn_of _ (by decide +kernel)) ggL_asks_X5_state
set_option maxRecDepth 20000 in
theorem ggL_asks_X5_stateByLog : GoodIn wsL_asks wsX5_stateByLog := goodIn_ca (goodIn_r _ [43, 44, 45, 9, 10, 11, 6, 12, 13, 14, 15, 16, 17, 18, 19, 20, 21, 22, 23, 24, 25, 26, 27, 28, 29, 30, 31, 32, 33, 34, 35, 36, 37, 38, 39, 46, 47, 48, 49, 50, 51, 52, 135, 136, 137, 138, 139, 140, 141, 142, 143, 144, 145, 146, 147, 148, 149, 150, 151, 152, 153, 154, 155, 156, 157, 158, 159] (by decide +kernel) (by decide +kernel)) (goodIn_sub (fun _ h => List.mem_cons_of_mem _ (List.mem_append_left _ (List.mem_append_right _ h))) (by decide +kernel))
set_option maxRecDepth 20000 in
theorem gL_asks_X5_stateByLog : GoodIn wsL_asks (wsV RL 61 RX5 yX5_stateByLog wsX5_stateByLog) := goodIn_app (goodIn_of _ (by decide +kernel)) ggL_asks_X5_stateByLog
set_option maxRecDepth 20000 in
theorem ggL_asks_X5_parts : GoodIn wsL_asks wsX5_parts := goodIn_ca (goodIn_r _ [56, 45, 9, 10, 11, 6, 12, 13, 14, 15, 16, 17, 18, 19, 20, 21, 22, 23, 24, 25, 26, 27, 28, 29, 30, 31, 32, 33, 34, 35, 36, 37, 38, 39, 135, 136, 137, 138, 139, 140, 141, 142, 143, 144, 145, 146, 147, 148, 149, 150, 151, 152, 153, 154, 155, 156, 157] (by decide +kernel) (by decide +kernel)) (goodIn_sub (fun _ h => List.mem_cons_of_mem _ (List.mem_append_left _ (List.mem_append_right _ h))) (by decide +kernel))
set_option maxRecDepth 20000 in
theorem gL_asks_X5_parts : GoodIn wsL_asks (wsV RL 64 RX5 yX5_parts wsX5_parts) := goodIn_app (goodIn_of _ (by decide +kernel)) ggL_asks_X5_parts
set_option maxRecDepth 20000 in
theorem ggL_asks_X5_lettersIn : GoodIn wsL_asks wsX5_lettersIn := goodIn_ca (goodIn_r _ [60, 13, 14, 45, 9, 10, 11, 6, 12, 15, 16, 17, 18, 19, 20, 21, 22, 23, 24, 25, 26, 27, 28, 29, 30, 31, 32, 33, 34, 35, 36, 37, 38, 39, 135, 136, 137, 138, 139, 140, 141, 142, 143, 144, 145, 146, 147, 148, 149, 150, 151, 152, 153, 154, 155, 156, 157] (by decide +kernel) (by decide +kernel)) (goodIn_sub (fun _ h => List.mem_cons_of_mem _ (List.mem_append_left _ (List.mem_append_right _ h))) (by decide +kernel))
set_option maxRecDepth 20000 in
theorem gL_asks_X5_lettersIn : GoodIn wsL_asks (wsV RL 67 RX5 yX5_lettersIn wsX5_lettersIn) := goodIn_app (goodIn_of _ (by decide +kernel)) ggL_asks_X5_lettersIn
set_option maxRecDepth 20000 in
theorem ggL_asks_X5_delivered : GoodIn wsL_asks wsX5_delivered := goodIn_ca (goodIn_r _ [64, 65, 9, 10, 11, 6, 12, 13, 14, 15, 16, 17, 18, 19, 20, 21, 22, 23, 24, 25, 26, 27, 28, 29, 30, 31, 32, 33, 34, 35, 36, 37, 38, 39, 135, 136, 137, 138, 139, 140, 141, 142, 143, 144, 145, 146, 147, 148, 149, 150, 151, 152, 153, 154, 155, 156, 157] (by decide +kernel) (by decide +kernel)) (goodIn_sub (fun _ h => List.mem_cons_of_mem _ (List.mem_append_left _ (List.mem_append_right _ h))) (by decide +kernel))
set_option maxRecDepth 20000 in
theorem gL_asks_X5_delivered : GoodIn wsL_asks (wsV RL 70 RX5 yX5_delivered wsX5_delivered) := goodIn_app (goodIn_of _ (by decide +kernel)) ggL_asks_X5_delivered
set_option maxRecDepth 20000 in
theorem ggL_asks_X5_attempts : GoodIn wsL_asks wsX5_attempts := goodIn_ca (goodIn_r _ [69, 70, 9, 10, 11, 6, 12, 13, 14, 15, 16, 17, 18, 19, 20, 21, 22, 23, 24, 25, 26, 27, 28, 29, 30, 31, 32, 33, 34, 35, 36, 37, 38, 39, 135, 136, 137, 138, 139, 140, 141, 142, 143, 144, 145, 146, 147, 148, 149, 150, 151, 152, 153, 154, 155, 156, 157] (by decide +kernel) (by decide +kernel)) (goodIn_sub (fun _ h => List.mem_cons_of_mem _ (List.mem_append_left _ (List.mem_append_right _ h))) (by decide +kernel))
set_option maxRecDepth 20000 in
theorem gL_asks_X5_attempts : GoodIn wsL_asks (wsV RL 73 RX5 yX5_attempts wsX5_attempts) := goodIn_app (goodIn_of _ (by decide +kernel)) ggL_asks_X5_attempts
set_option maxRecDepth 20000 in
theorem ggL_asks_X5_due : GoodIn wsL_asks wsX5_due := goodIn_ca (goodIn_ca (goodIn_r _ [74, 75, 76, 77, 78, 6, 79, 80, 81, 8, 9, 10, 11, 12, 13, 14, 15, 16, 17, 18, 19, 20, 21, 22, 23, 24, 25, 26, 27, 28, 29, 30, 31, 32, 33, 34, 35, 36, 37, 38, 39, 135, 136, 137, 138, 139, 140, 141, 142, 143, 144, 145, 146, 147, 148, 149, 150, 151, 152, 153, 154, 155, 156, 157] (by decide +kernel) (by decide +kernel)) (goodIn_sub (fun _ h => List.mem_cons_of_mem _ (List.mem_append_right _ h)) (by decide +kernel))) (goodIn_sub (fun _ h => List.mem_cons_of_mem _ (List.mem_append_left _ (List.mem_append_right _ h))) (by decide +kernel))
set_option maxRecDepth 20000 in
theorem gL_asks_X5_due : GoodIn wsL_asks (wsV RL 76 RX5 yX5_due wsX5_due) := goodIn_app (goodIn_of _ (by decide +kernel)) ggL_asks_X5_due
set_option maxRecDepth 20000 in
theorem ggL_asks_X5_inRoom : GoodIn wsL_asks wsX5_inRoom := goodIn_ca (goodIn_r _ [85, 86, 87, 88, 89, 6, 90, 13, 14, 91, 160, 161, 162, 163, 164, 151, 152, 153, 154] (by decide +kernel) (by decide +kernel)) (goodIn_sub (fun _ h => List.mem_cons_of_mem _ (List.mem_append_left _ (List.mem_append_right _ h))) (by decide +kernel))
set_option maxRecDepth 20000 in
theorem gL_asks_X5_inRoom : GoodIn wsL_asks (wsV RL 79 RX5 yX5_inRoom wsX5_inRoom) := goodIn_app (goodIn_of _ (by decide +kernel)) ggL_asks_X5_inRoom
set_option maxRecDepth 20000 in
theorem ggL_asks_X5_marks : GoodIn wsL_asks wsX5_marks := goodIn_ca (goodIn_r _ [95, 96, 87, 88, 89, 6, 90, 13, 14, 91, 160, 161, 162, 163, 164, 151, 152, 153, 154] (by decide +kernel) (by decide +kernel)) (goodIn_sub (fun _ h => List.mem_cons_of_mem _ (List.mem_append_left _ (List.mem_append_right _ h))) (by decide +kernel))
set_option maxRecDepth 20000 in
theorem gL_asks_X5_marks : GoodIn wsL_asks (wsV RL 82 RX5 yX5_marks wsX5_marks) := goodIn_app (goodIn_of _ (by decide +kernel)) ggL_asks_X5_marks
set_option maxRecDepth 20000 in
theorem ggL_asks_X5_waiting : GoodIn wsL_asks wsX5_waiting := goodIn_ca (goodIn_r _ [100, 101, 87, 88, 89, 6, 90, 13, 14, 91, 17, 18, 19, 20, 21, 22, 160, 161, 162, 163, 164, 151, 152, 153, 154, 155, 156, 157] (by decide +kernel) (by decide +kernel)) (goodIn_sub (fun _ h => List.mem_cons_of_mem _ (List.mem_append_left _ (List.mem_append_right _ h))) (by decide +kernel))
set_option maxRecDepth 20000 in
theorem gL_asks_X5_waiting : GoodIn wsL_asks (wsV RL 85 RX5 yX5_waiting wsX5_waiting) := goodIn_app (goodIn_of _ (by decide +kernel)) ggL_asks_X5_waiting
set_option maxRecDepth 20000 in
theorem ggL_asks_X5_next : GoodIn wsL_asks wsX5_next := goodIn_ca (goodIn_r _ [105, 106, 107, 87, 88, 89, 6, 90, 13, 14, 91, 108, 109, 110, 111, 112, 113, 114, 115, 116, 18, 19, 20, 21, 22, 117, 24, 25, 26, 27, 28, 29, 30, 31, 32, 33, 34, 35, 36, 37, 38, 39, 118, 119, 120, 121, 122, 123, 124, 135, 136, 137, 138, 139, 140, 141, 142, 143, 144, 145, 146, 147, 148, 149, 150, 151, 152, 153, 154, 160, 161, 162, 163, 164, 155, 156, 157] (by decide +kernel) (by decide +kernel)) (goodIn_sub (fun _ h => List.mem_cons_of_mem _ (List.mem_append_left _ (List.mem_append_right _ h))) (by decide +kernel))
set_option maxRecDepth 20000 in
theorem gL_asks_X5_next : GoodIn wsL_asks (wsV RL 88 RX5 yX5_next wsX5_next) := goodIn_app (goodIn_of _ (by decide +kernel)) ggL_asks_X5_next
set_option maxRecDepth 20000 in
theorem ggL_asks_X5_receipts : GoodIn wsL_asks wsX5_receipts := goodIn_ca (goodIn_r _ [128, 129, 130, 131, 132, 6, 133, 13, 14, 134, 17, 18, 19, 20, 21, 22, 165, 166, 167, 168, 169, 170, 171, 151, 152, 153, 154, 155, 156, 157] (by decide +kernel) (by decide +kernel)) (goodIn_sub (fun _ h => List.mem_cons_of_mem _ (List.mem_append_left _ (List.mem_append_right _ h))) (by decide +kernel))
set_option maxRecDepth 20000 in
theorem gL_asks_X5_receipts : GoodIn wsL_asks (wsV RL 91 RX5 yX5_receipts wsX5_receipts) := goodIn_app (goodIn_of _ (by decide +kernel)) ggL_asks_X5_receipts
theorem dL_asks_0 : decode cL_asks 0 = .ok (.iload_n 1, 1) := by decide +kernel
theorem dL_asks_1 : decode cL_asks 1 = .ok (.ifCond .ne 11, 3) := by decide +kernel
theorem dL_asks_4 : decode cL_asks 4 = .ok (.aload_n 0, 1) := by decide +kernel
theorem dL_asks_5 : decode cL_asks 5 = .ok (.iload_n 2, 1) := by decide +kernel
theorem dL_asks_6 : decode cL_asks 6 = .ok (.invokevirtual 58, 3) := by decide +kernel
theorem dL_asks_9 : decode cL_asks 9 = .ok (.goto 144, 3) := by decide +kernel
theorem dL_asks_12 : decode cL_asks 12 = .ok (.iload_n 1, 1) := by decide +kernel
theorem dL_asks_13 : decode cL_asks 13 = .ok (.iconst 1, 1) := by decide +kernel
theorem dL_asks_14 : decode cL_asks 14 = .ok (.if_icmp .ne 11, 3) := by decide +kernel
theorem dL_asks_17 : decode cL_asks 17 = .ok (.aload_n 0, 1) := by decide +kernel
theorem dL_asks_18 : decode cL_asks 18 = .ok (.iload_n 2, 1) := by decide +kernel
theorem dL_asks_19 : decode cL_asks 19 = .ok (.invokevirtual 61, 3) := by decide +kernel
theorem dL_asks_22 : decode cL_asks 22 = .ok (.goto 131, 3) := by decide +kernel
theorem dL_asks_25 : decode cL_asks 25 = .ok (.iload_n 1, 1) := by decide +kernel
theorem dL_asks_26 : decode cL_asks 26 = .ok (.iconst 2, 1) := by decide +kernel
theorem dL_asks_27 : decode cL_asks 27 = .ok (.if_icmp .ne 11, 3) := by decide +kernel
theorem dL_asks_30 : decode cL_asks 30 = .ok (.aload_n 0, 1) := by decide +kernel
theorem dL_asks_31 : decode cL_asks 31 = .ok (.iload_n 2, 1) := by decide +kernel
theorem dL_asks_32 : decode cL_asks 32 = .ok (.invokevirtual 64, 3) := by decide +kernel
theorem dL_asks_35 : decode cL_asks 35 = .ok (.goto 118, 3) := by decide +kernel
theorem dL_asks_38 : decode cL_asks 38 = .ok (.iload_n 1, 1) := by decide +kernel
theorem dL_asks_39 : decode cL_asks 39 = .ok (.iconst 3, 1) := by decide +kernel
theorem dL_asks_40 : decode cL_asks 40 = .ok (.if_icmp .ne 12, 3) := by decide +kernel
theorem dL_asks_43 : decode cL_asks 43 = .ok (.aload_n 0, 1) := by decide +kernel
theorem dL_asks_44 : decode cL_asks 44 = .ok (.iload_n 2, 1) := by decide +kernel
theorem dL_asks_45 : decode cL_asks 45 = .ok (.iload_n 3, 1) := by decide +kernel
theorem dL_asks_46 : decode cL_asks 46 = .ok (.invokevirtual 67, 3) := by decide +kernel
theorem dL_asks_49 : decode cL_asks 49 = .ok (.goto 104, 3) := by decide +kernel
theorem dL_asks_52 : decode cL_asks 52 = .ok (.iload_n 1, 1) := by decide +kernel
theorem dL_asks_53 : decode cL_asks 53 = .ok (.iconst 4, 1) := by decide +kernel
theorem dL_asks_54 : decode cL_asks 54 = .ok (.if_icmp .ne 11, 3) := by decide +kernel
theorem dL_asks_57 : decode cL_asks 57 = .ok (.aload_n 0, 1) := by decide +kernel
theorem dL_asks_58 : decode cL_asks 58 = .ok (.iload_n 2, 1) := by decide +kernel
theorem dL_asks_59 : decode cL_asks 59 = .ok (.invokevirtual 70, 3) := by decide +kernel
theorem dL_asks_62 : decode cL_asks 62 = .ok (.goto 91, 3) := by decide +kernel
theorem dL_asks_65 : decode cL_asks 65 = .ok (.iload_n 1, 1) := by decide +kernel
theorem dL_asks_66 : decode cL_asks 66 = .ok (.iconst 5, 1) := by decide +kernel
theorem dL_asks_67 : decode cL_asks 67 = .ok (.if_icmp .ne 11, 3) := by decide +kernel
theorem dL_asks_70 : decode cL_asks 70 = .ok (.aload_n 0, 1) := by decide +kernel
theorem dL_asks_71 : decode cL_asks 71 = .ok (.iload_n 2, 1) := by decide +kernel
theorem dL_asks_72 : decode cL_asks 72 = .ok (.invokevirtual 73, 3) := by decide +kernel
theorem dL_asks_75 : decode cL_asks 75 = .ok (.goto 78, 3) := by decide +kernel
theorem dL_asks_78 : decode cL_asks 78 = .ok (.iload_n 1, 1) := by decide +kernel
theorem dL_asks_79 : decode cL_asks 79 = .ok (.bipush 6, 2) := by decide +kernel
theorem dL_asks_81 : decode cL_asks 81 = .ok (.if_icmp .ne 11, 3) := by decide +kernel
theorem dL_asks_84 : decode cL_asks 84 = .ok (.aload_n 0, 1) := by decide +kernel
theorem dL_asks_85 : decode cL_asks 85 = .ok (.iload_n 2, 1) := by decide +kernel
theorem dL_asks_86 : decode cL_asks 86 = .ok (.invokevirtual 76, 3) := by decide +kernel
theorem dL_asks_89 : decode cL_asks 89 = .ok (.goto 64, 3) := by decide +kernel
theorem dL_asks_92 : decode cL_asks 92 = .ok (.iload_n 1, 1) := by decide +kernel
theorem dL_asks_93 : decode cL_asks 93 = .ok (.bipush 7, 2) := by decide +kernel
theorem dL_asks_95 : decode cL_asks 95 = .ok (.if_icmp .ne 11, 3) := by decide +kernel
theorem dL_asks_98 : decode cL_asks 98 = .ok (.aload_n 0, 1) := by decide +kernel
theorem dL_asks_99 : decode cL_asks 99 = .ok (.iload_n 2, 1) := by decide +kernel
theorem dL_asks_100 : decode cL_asks 100 = .ok (.invokevirtual 79, 3) := by decide +kernel
theorem dL_asks_103 : decode cL_asks 103 = .ok (.goto 50, 3) := by decide +kernel
theorem dL_asks_106 : decode cL_asks 106 = .ok (.iload_n 1, 1) := by decide +kernel
theorem dL_asks_107 : decode cL_asks 107 = .ok (.bipush 8, 2) := by decide +kernel
theorem dL_asks_109 : decode cL_asks 109 = .ok (.if_icmp .ne 11, 3) := by decide +kernel
theorem dL_asks_112 : decode cL_asks 112 = .ok (.aload_n 0, 1) := by decide +kernel
theorem dL_asks_113 : decode cL_asks 113 = .ok (.iload_n 2, 1) := by decide +kernel
theorem dL_asks_114 : decode cL_asks 114 = .ok (.invokevirtual 82, 3) := by decide +kernel
theorem dL_asks_117 : decode cL_asks 117 = .ok (.goto 36, 3) := by decide +kernel
theorem dL_asks_120 : decode cL_asks 120 = .ok (.iload_n 1, 1) := by decide +kernel
theorem dL_asks_121 : decode cL_asks 121 = .ok (.bipush 9, 2) := by decide +kernel
theorem dL_asks_123 : decode cL_asks 123 = .ok (.if_icmp .ne 11, 3) := by decide +kernel
theorem dL_asks_126 : decode cL_asks 126 = .ok (.aload_n 0, 1) := by decide +kernel
theorem dL_asks_127 : decode cL_asks 127 = .ok (.iload_n 2, 1) := by decide +kernel
theorem dL_asks_128 : decode cL_asks 128 = .ok (.invokevirtual 85, 3) := by decide +kernel
theorem dL_asks_131 : decode cL_asks 131 = .ok (.goto 22, 3) := by decide +kernel
theorem dL_asks_134 : decode cL_asks 134 = .ok (.iload_n 1, 1) := by decide +kernel
theorem dL_asks_135 : decode cL_asks 135 = .ok (.bipush 10, 2) := by decide +kernel
theorem dL_asks_137 : decode cL_asks 137 = .ok (.if_icmp .ne 11, 3) := by decide +kernel
theorem dL_asks_140 : decode cL_asks 140 = .ok (.aload_n 0, 1) := by decide +kernel
theorem dL_asks_141 : decode cL_asks 141 = .ok (.iload_n 2, 1) := by decide +kernel
theorem dL_asks_142 : decode cL_asks 142 = .ok (.invokevirtual 88, 3) := by decide +kernel
theorem dL_asks_145 : decode cL_asks 145 = .ok (.goto 8, 3) := by decide +kernel
theorem dL_asks_148 : decode cL_asks 148 = .ok (.aload_n 0, 1) := by decide +kernel
theorem dL_asks_149 : decode cL_asks 149 = .ok (.iload_n 2, 1) := by decide +kernel
theorem dL_asks_150 : decode cL_asks 150 = .ok (.invokevirtual 91, 3) := by decide +kernel
theorem dL_asks_153 : decode cL_asks 153 = .ok (.ireturn, 1) := by decide +kernel
theorem dL_asks_154 : decode cL_asks 154 = .ok (.astore 4, 2) := by decide +kernel
theorem dL_asks_156 : decode cL_asks 156 = .ok (.bipush (-30), 2) := by decide +kernel
theorem dL_asks_158 : decode cL_asks 158 = .ok (.ireturn, 1) := by decide +kernel
theorem dL_asks_159 : decode cL_asks 159 = .ok (.astore 4, 2) := by decide +kernel
theorem dL_asks_161 : decode cL_asks 161 = .ok (.bipush (-10), 2) := by decide +kernel
theorem dL_asks_163 : decode cL_asks 163 = .ok (.ireturn, 1) := by decide +kernel
set_option maxRecDepth 20000 in
theorem ggL_areMessages_X5_messages : GoodIn wsL_areMessages wsX5_messages := goodIn_r _ [5, 6, 7, 8, 9, 10, 11, 12, 152, 153, 154, 155, 156, 157, 158] (by decide +kernel) (by decide +kernel)
set_option maxRecDepth 20000 in
theorem gL_areMessages_X5_messages : GoodIn wsL_areMessages (wsV RL 94 RX5 yX5_messages wsX5_messages) := goodIn_app (goodIn_of _ (by decide +kernel)) ggL_areMessages_X5_messages
set_option maxRecDepth 20000 in
theorem ggL_areMessages_X5_now : GoodIn wsL_areMessages wsX5_now := goodIn_r _ [16, 17, 152, 153, 154, 155] (by decide +kernel) (by decide +kernel)
set_option maxRecDepth 20000 in
theorem gL_areMessages_X5_now : GoodIn wsL_areMessages (wsV RL 98 RX5 yX5_now wsX5_now) := goodIn_app (goodIn_of _ (by decide +kernel)) ggL_areMessages_X5_now
set_option maxRecDepth 20000 in
theorem ggL_areMessages_L_asks : GoodIn wsL_areMessages wsL_asks := goodIn_ca (goodIn_ca (goodIn_r _ [21, 22, 23, 24, 25, 26, 4, 27, 28, 29, 30, 31, 32, 33, 34, 6, 35, 7, 8, 9, 10, 11, 12, 36, 37, 38, 39, 40, 41, 42, 43, 44, 45, 46, 47, 48, 49, 50, 51, 52, 53, 54, 55, 56, 57, 58, 59, 60, 61, 62, 63, 64, 65, 66, 67, 68, 69, 70, 71, 72, 73, 74, 75, 76, 77, 78, 79, 80, 81, 82, 83, 84, 85, 86, 87, 88, 89, 90, 91, 92, 93, 94, 95, 96, 97, 98, 99, 100, 101, 102, 103, 104, 105, 106, 107, 108, 109, 110, 111, 112, 113, 114, 115, 116, 117, 118, 119, 120, 121, 122, 123, 124, 125, 126, 127, 128, 129, 130, 131, 132, 133, 134, 135, 136, 137, 138, 139, 140, 141, 142, 143, 144, 145, 146, 147, 159, 160, 161, 162, 163, 164, 165, 166, 167, 168, 169, 170, 171, 172, 173, 174, 152, 153, 154, 155, 156, 157, 158, 175, 176, 177, 178, 179, 180, 181, 182, 183, 184, 185, 186, 187, 188] (by decide +kernel) (by decide +kernel)) (goodIn_sub (fun _ h => List.mem_cons_of_mem _ (List.mem_append_left _ (List.mem_append_right _ h))) (by decide +kernel))) (goodIn_sub (fun _ h => List.mem_cons_of_mem _ (List.mem_append_right _ h)) (by decide +kernel))
set_option maxRecDepth 20000 in
theorem gL_areMessages_L_asks : GoodIn wsL_areMessages (va_wsS RL 101 yL_asks wsL_asks) := goodIn_app (goodIn_of _ (by decide +kernel)) ggL_areMessages_L_asks
set_option maxRecDepth 20000 in
theorem ggL_areMessages_X5_state : GoodIn wsL_areMessages wsX5_state := goodIn_ca (goodIn_r _ [27, 28, 29, 30, 31, 4, 32, 33, 34, 6, 35, 7, 8, 9, 10, 11, 12, 36, 37, 38, 39, 40, 41, 42, 43, 44, 45, 46, 47, 48, 49, 50, 51, 52, 159, 160, 161, 162, 163, 164, 165, 166, 167, 168, 169, 170, 171, 172, 173, 174, 152, 153, 154, 155, 156, 157, 158] (by decide +kernel) (by decide +kernel)) (goodIn_sub (fun _ h => List.mem_cons_of_mem _ (List.mem_append_left _ (List.mem_append_right _ h))) (by decide +kernel))
set_option maxRecDepth 20000 in
theorem gL_areMessages_X5_state : GoodIn wsL_areMessages (wsV RL 58 RX5 yX5_state wsX5_state) := goodIn_app (goodIn_of _ (by decide +kernel)) ggL_areMessages_X5_state
set_option maxRecDepth 20000 in
theorem ggL_areMessages_X5_parts : GoodIn wsL_areMessages wsX5_parts := goodIn_ca (goodIn_r _ [69, 58, 29, 30, 31, 4, 32, 33, 34, 6, 35, 7, 8, 9, 10, 11, 12, 36, 37, 38, 39, 40, 41, 42, 43, 44, 45, 46, 47, 48, 49, 50, 51, 52, 159, 160, 161, 162, 163, 164, 165, 166, 167, 168, 169, 170, 171, 172, 173, 174, 152, 153, 154, 155, 156, 157, 158] (by decide +kernel) (by decide +kernel)) (goodIn_sub (fun _ h => List.mem_cons_of_mem _ (List.mem_append_left _ (List.mem_append_right _ h))) (by decide +kernel))
set_option maxRecDepth 20000 in
theorem gL_areMessages_X5_parts : GoodIn wsL_areMessages (wsV RL 64 RX5 yX5_parts wsX5_parts) := goodIn_app (goodIn_of _ (by decide +kernel)) ggL_areMessages_X5_parts
set_option maxRecDepth 20000 in
theorem ggL_areMessages_X5_delivered : GoodIn wsL_areMessages wsX5_delivered := goodIn_ca (goodIn_r _ [77, 78, 29, 30, 31, 4, 32, 33, 34, 6, 35, 7, 8, 9, 10, 11, 12, 36, 37, 38, 39, 40, 41, 42, 43, 44, 45, 46, 47, 48, 49, 50, 51, 52, 159, 160, 161, 162, 163, 164, 165, 166, 167, 168, 169, 170, 171, 172, 173, 174, 152, 153, 154, 155, 156, 157, 158] (by decide +kernel) (by decide +kernel)) (goodIn_sub (fun _ h => List.mem_cons_of_mem _ (List.mem_append_left _ (List.mem_append_right _ h))) (by decide +kernel))
set_option maxRecDepth 20000 in
theorem gL_areMessages_X5_delivered : GoodIn wsL_areMessages (wsV RL 70 RX5 yX5_delivered wsX5_delivered) := goodIn_app (goodIn_of _ (by decide +kernel)) ggL_areMessages_X5_delivered
set_option maxRecDepth 20000 in
theorem ggL_areMessages_X5_lettersIn : GoodIn wsL_areMessages wsX5_lettersIn := goodIn_ca (goodIn_r _ [73, 33, 34, 58, 29, 30, 31, 4, 32, 6, 35, 7, 8, 9, 10, 11, 12, 36, 37, 38, 39, 40, 41, 42, 43, 44, 45, 46, 47, 48, 49, 50, 51, 52, 159, 160, 161, 162, 163, 164, 165, 166, 167, 168, 169, 170, 171, 172, 173, 174, 152, 153, 154, 155, 156, 157, 158] (by decide +kernel) (by decide +kernel)) (goodIn_sub (fun _ h => List.mem_cons_of_mem _ (List.mem_append_left _ (List.mem_append_right _ h))) (by decide +kernel))
set_option maxRecDepth 20000 in
theorem gL_areMessages_X5_lettersIn : GoodIn wsL_areMessages (wsV RL 67 RX5 yX5_lettersIn wsX5_lettersIn) := goodIn_app (goodIn_of _ (by decide +kernel)) ggL_areMessages_X5_lettersIn
set_option maxRecDepth 20000 in
theorem ggL_areMessages_X5_stateByLog : GoodIn wsL_areMessages wsX5_stateByLog := goodIn_ca (goodIn_r _ [56, 57, 58, 29, 30, 31, 4, 32, 33, 34, 6, 35, 7, 8, 9, 10, 11, 12, 36, 37, 38, 39, 40, 41, 42, 43, 44, 45, 46, 47, 48, 49, 50, 51, 52, 59, 60, 61, 62, 63, 64, 65, 159, 160, 161, 162, 163, 164, 165, 166, 167, 168, 169, 170, 171, 172, 173, 174, 152, 153, 154, 155, 156, 157, 158, 175, 176] (by decide +kernel) (by decide +kernel)) (goodIn_sub (fun _ h => List.mem_cons_of_mem _ (List.mem_append_left _ (List.mem_append_right _ h))) (by decide +kernel))
set_option maxRecDepth 20000 in
theorem gL_areMessages_X5_stateByLog : GoodIn wsL_areMessages (wsV RL 61 RX5 yX5_stateByLog wsX5_stateByLog) := goodIn_app (goodIn_of _ (by decide +kernel)) ggL_areMessages_X5_stateByLog
set_option maxRecDepth 20000 in
theorem ggL_areMessages_X5_attempts : GoodIn wsL_areMessages wsX5_attempts := goodIn_ca (goodIn_r _ [82, 83, 29, 30, 31, 4, 32, 33, 34, 6, 35, 7, 8, 9, 10, 11, 12, 36, 37, 38, 39, 40, 41, 42, 43, 44, 45, 46, 47, 48, 49, 50, 51, 52, 159, 160, 161, 162, 163, 164, 165, 166, 167, 168, 169, 170, 171, 172, 173, 174, 152, 153, 154, 155, 156, 157, 158] (by decide +kernel) (by decide +kernel)) (goodIn_sub (fun _ h => List.mem_cons_of_mem _ (List.mem_append_left _ (List.mem_append_right _ h))) (by decide +kernel))
set_option maxRecDepth 20000 in
theorem gL_areMessages_X5_attempts : GoodIn wsL_areMessages (wsV RL 73 RX5 yX5_attempts wsX5_attempts) := goodIn_app (goodIn_of _ (by decide +kernel)) ggL_areMessages_X5_attempts
set_option maxRecDepth 20000 in
theorem ggL_areMessages_X5_due : GoodIn wsL_areMessages wsX5_due := goodIn_ca (goodIn_ca (goodIn_r _ [87, 88, 89, 90, 91, 4, 92, 93, 94, 28, 29, 30, 31, 32, 33, 34, 6, 35, 7, 8, 9, 10, 11, 12, 36, 37, 38, 39, 40, 41, 42, 43, 44, 45, 46, 47, 48, 49, 50, 51, 52, 159, 160, 161, 162, 163, 164, 165, 166, 167, 168, 169, 170, 171, 172, 173, 174, 152, 153, 154, 155, 156, 157, 158] (by decide +kernel) (by decide +kernel)) (goodIn_sub (fun _ h => List.mem_cons_of_mem _ (List.mem_append_right _ h)) (by decide +kernel))) (goodIn_sub (fun _ h => List.mem_cons_of_mem _ (List.mem_append_left _ (List.mem_append_right _ h))) (by decide +kernel))
set_option maxRecDepth 20000 in
theorem gL_areMessages_X5_due : GoodIn wsL_areMessages (wsV RL 76 RX5 yX5_due wsX5_due) := goodIn_app (goodIn_of _ (by decide +kernel)) ggL_areMessages_X5_due
set_option maxRecDepth 20000 in
theorem ggL_areMessages_X5_share : GoodIn wsL_areMessages wsX5_share := goodIn_r _ [151, 6, 35, 28, 7, 8, 9, 10, 11, 12, 36, 37, 38, 39, 40, 41, 42, 43, 44, 45, 46, 47, 48, 49, 50, 51, 52, 152, 153, 154, 155, 159, 160, 161, 162, 163, 164, 165, 166, 167, 168, 169, 170, 171, 172, 173, 174, 156, 157, 158] (by decide +kernel) (by decide +kernel)
set_option maxRecDepth 20000 in
theorem gL_areMessages_X5_share : GoodIn wsL_areMessages (wsV RL 105 RX5 yX5_share wsX5_share) := goodIn_app (goodIn_of _ (by decide +kernel)) ggL_areMessages_X5_share
theorem dL_areMessages_0 : decode cL_areMessages 0 = .ok (.iconst 0, 1) := by decide +kernel
theorem dL_areMessages_1 : decode cL_areMessages 1 = .ok (.istore 7, 2) := by decide +kernel
theorem dL_areMessages_3 : decode cL_areMessages 3 = .ok (.iconst 0, 1) := by decide +kernel
theorem dL_areMessages_4 : decode cL_areMessages 4 = .ok (.istore 8, 2) := by decide +kernel
theorem dL_areMessages_6 : decode cL_areMessages 6 = .ok (.aload_n 0, 1) := by decide +kernel
theorem dL_areMessages_7 : decode cL_areMessages 7 = .ok (.invokevirtual 94, 3) := by decide +kernel
theorem dL_areMessages_10 : decode cL_areMessages 10 = .ok (.aload 6, 2) := by decide +kernel
theorem dL_areMessages_12 : decode cL_areMessages 12 = .ok (.iconst 0, 1) := by decide +kernel
theorem dL_areMessages_13 : decode cL_areMessages 13 = .ok (.iaload, 1) := by decide +kernel
theorem dL_areMessages_14 : decode cL_areMessages 14 = .ok (.if_icmp .ne 103, 3) := by decide +kernel
theorem dL_areMessages_17 : decode cL_areMessages 17 = .ok (.aload_n 0, 1) := by decide +kernel
theorem dL_areMessages_18 : decode cL_areMessages 18 = .ok (.invokevirtual 98, 3) := by decide +kernel
theorem dL_areMessages_21 : decode cL_areMessages 21 = .ok (.aload 6, 2) := by decide +kernel
theorem dL_areMessages_23 : decode cL_areMessages 23 = .ok (.iconst 1, 1) := by decide +kernel
theorem dL_areMessages_24 : decode cL_areMessages 24 = .ok (.iaload, 1) := by decide +kernel
theorem dL_areMessages_25 : decode cL_areMessages 25 = .ok (.if_icmp .ne 92, 3) := by decide +kernel
theorem dL_areMessages_28 : decode cL_areMessages 28 = .ok (.aload_n 0, 1) := by decide +kernel
theorem dL_areMessages_29 : decode cL_areMessages 29 = .ok (.iconst 0, 1) := by decide +kernel
theorem dL_areMessages_30 : decode cL_areMessages 30 = .ok (.aload 6, 2) := by decide +kernel
theorem dL_areMessages_32 : decode cL_areMessages 32 = .ok (.iconst 0, 1) := by decide +kernel
theorem dL_areMessages_33 : decode cL_areMessages 33 = .ok (.iaload, 1) := by decide +kernel
theorem dL_areMessages_34 : decode cL_areMessages 34 = .ok (.iconst 0, 1) := by decide +kernel
theorem dL_areMessages_35 : decode cL_areMessages 35 = .ok (.invokestatic 101, 3) := by decide +kernel
theorem dL_areMessages_38 : decode cL_areMessages 38 = .ok (.bipush (-30), 2) := by decide +kernel
theorem dL_areMessages_40 : decode cL_areMessages 40 = .ok (.if_icmp .ne 77, 3) := by decide +kernel
theorem dL_areMessages_43 : decode cL_areMessages 43 = .ok (.aload_n 0, 1) := by decide +kernel
theorem dL_areMessages_44 : decode cL_areMessages 44 = .ok (.iconst 1, 1) := by decide +kernel
theorem dL_areMessages_45 : decode cL_areMessages 45 = .ok (.iconst (-1), 1) := by decide +kernel
theorem dL_areMessages_46 : decode cL_areMessages 46 = .ok (.iconst 0, 1) := by decide +kernel
theorem dL_areMessages_47 : decode cL_areMessages 47 = .ok (.invokestatic 101, 3) := by decide +kernel
theorem dL_areMessages_50 : decode cL_areMessages 50 = .ok (.bipush (-30), 2) := by decide +kernel
theorem dL_areMessages_52 : decode cL_areMessages 52 = .ok (.if_icmp .ne 65, 3) := by decide +kernel
theorem dL_areMessages_55 : decode cL_areMessages 55 = .ok (.aload_n 0, 1) := by decide +kernel
theorem dL_areMessages_56 : decode cL_areMessages 56 = .ok (.iconst 2, 1) := by decide +kernel
theorem dL_areMessages_57 : decode cL_areMessages 57 = .ok (.aload 6, 2) := by decide +kernel
theorem dL_areMessages_59 : decode cL_areMessages 59 = .ok (.iconst 0, 1) := by decide +kernel
theorem dL_areMessages_60 : decode cL_areMessages 60 = .ok (.iaload, 1) := by decide +kernel
theorem dL_areMessages_61 : decode cL_areMessages 61 = .ok (.iconst 0, 1) := by decide +kernel
theorem dL_areMessages_62 : decode cL_areMessages 62 = .ok (.invokestatic 101, 3) := by decide +kernel
theorem dL_areMessages_65 : decode cL_areMessages 65 = .ok (.bipush (-30), 2) := by decide +kernel
theorem dL_areMessages_67 : decode cL_areMessages 67 = .ok (.if_icmp .ne 50, 3) := by decide +kernel
theorem dL_areMessages_70 : decode cL_areMessages 70 = .ok (.aload_n 0, 1) := by decide +kernel
theorem dL_areMessages_71 : decode cL_areMessages 71 = .ok (.iconst 4, 1) := by decide +kernel
theorem dL_areMessages_72 : decode cL_areMessages 72 = .ok (.aload 6, 2) := by decide +kernel
theorem dL_areMessages_74 : decode cL_areMessages 74 = .ok (.iconst 0, 1) := by decide +kernel
theorem dL_areMessages_75 : decode cL_areMessages 75 = .ok (.iaload, 1) := by decide +kernel
theorem dL_areMessages_76 : decode cL_areMessages 76 = .ok (.iconst 0, 1) := by decide +kernel
theorem dL_areMessages_77 : decode cL_areMessages 77 = .ok (.invokestatic 101, 3) := by decide +kernel
theorem dL_areMessages_80 : decode cL_areMessages 80 = .ok (.bipush (-30), 2) := by decide +kernel
theorem dL_areMessages_82 : decode cL_areMessages 82 = .ok (.if_icmp .ne 35, 3) := by decide +kernel
theorem dL_areMessages_85 : decode cL_areMessages 85 = .ok (.aload_n 0, 1) := by decide +kernel
theorem dL_areMessages_86 : decode cL_areMessages 86 = .ok (.iconst 5, 1) := by decide +kernel
theorem dL_areMessages_87 : decode cL_areMessages 87 = .ok (.iconst (-1), 1) := by decide +kernel
theorem dL_areMessages_88 : decode cL_areMessages 88 = .ok (.iconst 0, 1) := by decide +kernel
theorem dL_areMessages_89 : decode cL_areMessages 89 = .ok (.invokestatic 101, 3) := by decide +kernel
theorem dL_areMessages_92 : decode cL_areMessages 92 = .ok (.bipush (-30), 2) := by decide +kernel
theorem dL_areMessages_94 : decode cL_areMessages 94 = .ok (.if_icmp .ne 23, 3) := by decide +kernel
theorem dL_areMessages_97 : decode cL_areMessages 97 = .ok (.aload_n 0, 1) := by decide +kernel
theorem dL_areMessages_98 : decode cL_areMessages 98 = .ok (.bipush 6, 2) := by decide +kernel
theorem dL_areMessages_100 : decode cL_areMessages 100 = .ok (.aload 6, 2) := by decide +kernel
theorem dL_areMessages_102 : decode cL_areMessages 102 = .ok (.iconst 0, 1) := by decide +kernel
theorem dL_areMessages_103 : decode cL_areMessages 103 = .ok (.iaload, 1) := by decide +kernel
theorem dL_areMessages_104 : decode cL_areMessages 104 = .ok (.iconst 0, 1) := by decide +kernel
theorem dL_areMessages_105 : decode cL_areMessages 105 = .ok (.invokestatic 101, 3) := by decide +kernel
theorem dL_areMessages_108 : decode cL_areMessages 108 = .ok (.bipush (-30), 2) := by decide +kernel
theorem dL_areMessages_110 : decode cL_areMessages 110 = .ok (.if_icmp .ne 7, 3) := by decide +kernel
theorem dL_areMessages_113 : decode cL_areMessages 113 = .ok (.iconst 1, 1) := by decide +kernel
theorem dL_areMessages_114 : decode cL_areMessages 114 = .ok (.goto 4, 3) := by decide +kernel
theorem dL_areMessages_117 : decode cL_areMessages 117 = .ok (.iconst 0, 1) := by decide +kernel
theorem dL_areMessages_118 : decode cL_areMessages 118 = .ok (.istore 9, 2) := by decide +kernel
theorem dL_areMessages_120 : decode cL_areMessages 120 = .ok (.iconst 0, 1) := by decide +kernel
theorem dL_areMessages_121 : decode cL_areMessages 121 = .ok (.istore 10, 2) := by decide +kernel
theorem dL_areMessages_123 : decode cL_areMessages 123 = .ok (.iload 10, 2) := by decide +kernel
theorem dL_areMessages_125 : decode cL_areMessages 125 = .ok (.aload 6, 2) := by decide +kernel
theorem dL_areMessages_127 : decode cL_areMessages 127 = .ok (.iconst 0, 1) := by decide +kernel
theorem dL_areMessages_128 : decode cL_areMessages 128 = .ok (.iaload, 1) := by decide +kernel
theorem dL_areMessages_129 : decode cL_areMessages 129 = .ok (.if_icmp .ge 363, 3) := by decide +kernel
theorem dL_areMessages_132 : decode cL_areMessages 132 = .ok (.iload 9, 2) := by decide +kernel
theorem dL_areMessages_134 : decode cL_areMessages 134 = .ok (.ifCond .eq 358, 3) := by decide +kernel
theorem dL_areMessages_137 : decode cL_areMessages 137 = .ok (.aload_n 0, 1) := by decide +kernel
theorem dL_areMessages_138 : decode cL_areMessages 138 = .ok (.iload 10, 2) := by decide +kernel
theorem dL_areMessages_140 : decode cL_areMessages 140 = .ok (.invokevirtual 58, 3) := by decide +kernel
theorem dL_areMessages_143 : decode cL_areMessages 143 = .ok (.istore 11, 2) := by decide +kernel
theorem dL_areMessages_145 : decode cL_areMessages 145 = .ok (.aload_n 0, 1) := by decide +kernel
theorem dL_areMessages_146 : decode cL_areMessages 146 = .ok (.iload 10, 2) := by decide +kernel
theorem dL_areMessages_148 : decode cL_areMessages 148 = .ok (.invokevirtual 64, 3) := by decide +kernel
theorem dL_areMessages_151 : decode cL_areMessages 151 = .ok (.istore 12, 2) := by decide +kernel
theorem dL_areMessages_153 : decode cL_areMessages 153 = .ok (.aload_n 0, 1) := by decide +kernel
theorem dL_areMessages_154 : decode cL_areMessages 154 = .ok (.iload 10, 2) := by decide +kernel
theorem dL_areMessages_156 : decode cL_areMessages 156 = .ok (.invokevirtual 70, 3) := by decide +kernel
theorem dL_areMessages_159 : decode cL_areMessages 159 = .ok (.istore 13, 2) := by decide +kernel
theorem dL_areMessages_161 : decode cL_areMessages 161 = .ok (.iconst 0, 1) := by decide +kernel
theorem dL_areMessages_162 : decode cL_areMessages 162 = .ok (.istore 14, 2) := by decide +kernel
theorem dL_areMessages_164 : decode cL_areMessages 164 = .ok (.iconst 0, 1) := by decide +kernel
theorem dL_areMessages_165 : decode cL_areMessages 165 = .ok (.istore 15, 2) := by decide +kernel
theorem dL_areMessages_167 : decode cL_areMessages 167 = .ok (.iload 15, 2) := by decide +kernel
theorem dL_areMessages_169 : decode cL_areMessages 169 = .ok (.iload 12, 2) := by decide +kernel
theorem dL_areMessages_171 : decode cL_areMessages 171 = .ok (.if_icmp .ge 45, 3) := by decide +kernel
theorem dL_areMessages_174 : decode cL_areMessages 174 = .ok (.iload 14, 2) := by decide +kernel
theorem dL_areMessages_176 : decode cL_areMessages 176 = .ok (.aload_n 0, 1) := by decide +kernel
theorem dL_areMessages_177 : decode cL_areMessages 177 = .ok (.iload 10, 2) := by decide +kernel
theorem dL_areMessages_179 : decode cL_areMessages 179 = .ok (.iload 15, 2) := by decide +kernel
theorem dL_areMessages_181 : decode cL_areMessages 181 = .ok (.invokevirtual 67, 3) := by decide +kernel
theorem dL_areMessages_184 : decode cL_areMessages 184 = .ok (.iadd, 1) := by decide +kernel
theorem dL_areMessages_185 : decode cL_areMessages 185 = .ok (.istore 14, 2) := by decide +kernel
theorem dL_areMessages_187 : decode cL_areMessages 187 = .ok (.iload 9, 2) := by decide +kernel
theorem dL_areMessages_189 : decode cL_areMessages 189 = .ok (.ifCond .eq 18, 3) := by decide +kernel
theorem dL_areMessages_192 : decode cL_areMessages 192 = .ok (.aload_n 0, 1) := by decide +kernel
theorem dL_areMessages_193 : decode cL_areMessages 193 = .ok (.iload 10, 2) := by decide +kernel
theorem dL_areMessages_195 : decode cL_areMessages 195 = .ok (.iload 15, 2) := by decide +kernel
theorem dL_areMessages_197 : decode cL_areMessages 197 = .ok (.invokevirtual 67, 3) := by decide +kernel
theorem dL_areMessages_200 : decode cL_areMessages 200 = .ok (.ifCond .le 7, 3) := by decide +kernel
theorem dL_areMessages_203 : decode cL_areMessages 203 = .ok (.iconst 1, 1) := by decide +kernel
theorem dL_areMessages_204 : decode cL_areMessages 204 = .ok (.goto 4, 3) := by decide +kernel
theorem dL_areMessages_207 : decode cL_areMessages 207 = .ok (.iconst 0, 1) := by decide +kernel
theorem dL_areMessages_208 : decode cL_areMessages 208 = .ok (.istore 9, 2) := by decide +kernel
theorem dL_areMessages_210 : decode cL_areMessages 210 = .ok (.iinc 15 1, 3) := by decide +kernel
theorem dL_areMessages_213 : decode cL_areMessages 213 = .ok (.goto (-46), 3) := by decide +kernel
theorem dL_areMessages_216 : decode cL_areMessages 216 = .ok (.iload 9, 2) := by decide +kernel
theorem dL_areMessages_218 : decode cL_areMessages 218 = .ok (.ifCond .eq 185, 3) := by decide +kernel
theorem dL_areMessages_221 : decode cL_areMessages 221 = .ok (.iload 11, 2) := by decide +kernel
theorem dL_areMessages_223 : decode cL_areMessages 223 = .ok (.ifCond .lt 180, 3) := by decide +kernel
theorem dL_areMessages_226 : decode cL_areMessages 226 = .ok (.iload 11, 2) := by decide +kernel
theorem dL_areMessages_228 : decode cL_areMessages 228 = .ok (.iconst 5, 1) := by decide +kernel
theorem dL_areMessages_229 : decode cL_areMessages 229 = .ok (.if_icmp .ge 174, 3) := by decide +kernel
theorem dL_areMessages_232 : decode cL_areMessages 232 = .ok (.aload_n 0, 1) := by decide +kernel
theorem dL_areMessages_233 : decode cL_areMessages 233 = .ok (.iload 10, 2) := by decide +kernel
theorem dL_areMessages_235 : decode cL_areMessages 235 = .ok (.invokevirtual 61, 3) := by decide +kernel
theorem dL_areMessages_238 : decode cL_areMessages 238 = .ok (.iload 11, 2) := by decide +kernel
theorem dL_areMessages_240 : decode cL_areMessages 240 = .ok (.if_icmp .ne 163, 3) := by decide +kernel
theorem dL_areMessages_243 : decode cL_areMessages 243 = .ok (.aload_n 3, 1) := by decide +kernel
theorem dL_areMessages_244 : decode cL_areMessages 244 = .ok (.iload 10, 2) := by decide +kernel
theorem dL_areMessages_246 : decode cL_areMessages 246 = .ok (.iaload, 1) := by decide +kernel
theorem dL_areMessages_247 : decode cL_areMessages 247 = .ok (.ifCond .eq 12, 3) := by decide +kernel
theorem dL_areMessages_250 : decode cL_areMessages 250 = .ok (.iload 11, 2) := by decide +kernel
theorem dL_areMessages_252 : decode cL_areMessages 252 = .ok (.aload_n 3, 1) := by decide +kernel
theorem dL_areMessages_253 : decode cL_areMessages 253 = .ok (.iload 10, 2) := by decide +kernel
theorem dL_areMessages_255 : decode cL_areMessages 255 = .ok (.iaload, 1) := by decide +kernel
theorem dL_areMessages_256 : decode cL_areMessages 256 = .ok (.if_icmp .ne 147, 3) := by decide +kernel
theorem dL_areMessages_259 : decode cL_areMessages 259 = .ok (.iload 14, 2) := by decide +kernel
theorem dL_areMessages_261 : decode cL_areMessages 261 = .ok (.aload_n 2, 1) := by decide +kernel
theorem dL_areMessages_262 : decode cL_areMessages 262 = .ok (.iload 10, 2) := by decide +kernel
theorem dL_areMessages_264 : decode cL_areMessages 264 = .ok (.iaload, 1) := by decide +kernel
theorem dL_areMessages_265 : decode cL_areMessages 265 = .ok (.if_icmp .ne 138, 3) := by decide +kernel
theorem dL_areMessages_268 : decode cL_areMessages 268 = .ok (.aload_n 0, 1) := by decide +kernel
theorem dL_areMessages_269 : decode cL_areMessages 269 = .ok (.iconst 3, 1) := by decide +kernel
theorem dL_areMessages_270 : decode cL_areMessages 270 = .ok (.iload 10, 2) := by decide +kernel
theorem dL_areMessages_272 : decode cL_areMessages 272 = .ok (.iload 12, 2) := by decide +kernel
theorem dL_areMessages_274 : decode cL_areMessages 274 = .ok (.invokestatic 101, 3) := by decide +kernel
theorem dL_areMessages_277 : decode cL_areMessages 277 = .ok (.bipush (-30), 2) := by decide +kernel
theorem dL_areMessages_279 : decode cL_areMessages 279 = .ok (.if_icmp .ne 124, 3) := by decide +kernel
theorem dL_areMessages_282 : decode cL_areMessages 282 = .ok (.aload_n 0, 1) := by decide +kernel
theorem dL_areMessages_283 : decode cL_areMessages 283 = .ok (.iconst 3, 1) := by decide +kernel
theorem dL_areMessages_284 : decode cL_areMessages 284 = .ok (.iload 10, 2) := by decide +kernel
theorem dL_areMessages_286 : decode cL_areMessages 286 = .ok (.iconst (-1), 1) := by decide +kernel
theorem dL_areMessages_287 : decode cL_areMessages 287 = .ok (.invokestatic 101, 3) := by decide +kernel
theorem dL_areMessages_290 : decode cL_areMessages 290 = .ok (.bipush (-30), 2) := by decide +kernel
theorem dL_areMessages_292 : decode cL_areMessages 292 = .ok (.if_icmp .ne 111, 3) := by decide +kernel
theorem dL_areMessages_295 : decode cL_areMessages 295 = .ok (.iload 13, 2) := by decide +kernel
theorem dL_areMessages_297 : decode cL_areMessages 297 = .ok (.aload_n 3, 1) := by decide +kernel
theorem dL_areMessages_298 : decode cL_areMessages 298 = .ok (.bipush 24, 2) := by decide +kernel
theorem dL_areMessages_300 : decode cL_areMessages 300 = .ok (.iload 10, 2) := by decide +kernel
theorem dL_areMessages_302 : decode cL_areMessages 302 = .ok (.iadd, 1) := by decide +kernel
theorem dL_areMessages_303 : decode cL_areMessages 303 = .ok (.iaload, 1) := by decide +kernel
theorem dL_areMessages_304 : decode cL_areMessages 304 = .ok (.if_icmp .lt 99, 3) := by decide +kernel
theorem dL_areMessages_307 : decode cL_areMessages 307 = .ok (.iload 13, 2) := by decide +kernel
theorem dL_areMessages_309 : decode cL_areMessages 309 = .ok (.iload 12, 2) := by decide +kernel
theorem dL_areMessages_311 : decode cL_areMessages 311 = .ok (.if_icmp .gt 92, 3) := by decide +kernel
theorem dL_areMessages_314 : decode cL_areMessages 314 = .ok (.iload 11, 2) := by decide +kernel
theorem dL_areMessages_316 : decode cL_areMessages 316 = .ok (.iconst 1, 1) := by decide +kernel
theorem dL_areMessages_317 : decode cL_areMessages 317 = .ok (.if_icmp .ne 7, 3) := by decide +kernel
theorem dL_areMessages_320 : decode cL_areMessages 320 = .ok (.iconst 1, 1) := by decide +kernel
theorem dL_areMessages_321 : decode cL_areMessages 321 = .ok (.goto 4, 3) := by decide +kernel
theorem dL_areMessages_324 : decode cL_areMessages 324 = .ok (.iconst 0, 1) := by decide +kernel
theorem dL_areMessages_325 : decode cL_areMessages 325 = .ok (.iload 13, 2) := by decide +kernel
theorem dL_areMessages_327 : decode cL_areMessages 327 = .ok (.iload 12, 2) := by decide +kernel
theorem dL_areMessages_329 : decode cL_areMessages 329 = .ok (.if_icmp .ne 7, 3) := by decide +kernel
theorem dL_areMessages_332 : decode cL_areMessages 332 = .ok (.iconst 1, 1) := by decide +kernel
theorem dL_areMessages_333 : decode cL_areMessages 333 = .ok (.goto 4, 3) := by decide +kernel
theorem dL_areMessages_336 : decode cL_areMessages 336 = .ok (.iconst 0, 1) := by decide +kernel
theorem dL_areMessages_337 : decode cL_areMessages 337 = .ok (.if_icmp .ne 66, 3) := by decide +kernel
theorem dL_areMessages_340 : decode cL_areMessages 340 = .ok (.aload_n 0, 1) := by decide +kernel
theorem dL_areMessages_341 : decode cL_areMessages 341 = .ok (.iload 10, 2) := by decide +kernel
theorem dL_areMessages_343 : decode cL_areMessages 343 = .ok (.invokevirtual 73, 3) := by decide +kernel
theorem dL_areMessages_346 : decode cL_areMessages 346 = .ok (.iload 13, 2) := by decide +kernel
theorem dL_areMessages_348 : decode cL_areMessages 348 = .ok (.if_icmp .lt 55, 3) := by decide +kernel
theorem dL_areMessages_351 : decode cL_areMessages 351 = .ok (.iload 11, 2) := by decide +kernel
theorem dL_areMessages_353 : decode cL_areMessages 353 = .ok (.iconst 4, 1) := by decide +kernel
theorem dL_areMessages_354 : decode cL_areMessages 354 = .ok (.if_icmp .ne 14, 3) := by decide +kernel
theorem dL_areMessages_357 : decode cL_areMessages 357 = .ok (.aload_n 0, 1) := by decide +kernel
theorem dL_areMessages_358 : decode cL_areMessages 358 = .ok (.iload 10, 2) := by decide +kernel
theorem dL_areMessages_360 : decode cL_areMessages 360 = .ok (.invokevirtual 73, 3) := by decide +kernel
theorem dL_areMessages_363 : decode cL_areMessages 363 = .ok (.iload 13, 2) := by decide +kernel
theorem dL_areMessages_365 : decode cL_areMessages 365 = .ok (.if_icmp .le 38, 3) := by decide +kernel
theorem dL_areMessages_368 : decode cL_areMessages 368 = .ok (.iload 11, 2) := by decide +kernel
theorem dL_areMessages_370 : decode cL_areMessages 370 = .ok (.ifCond .ne 15, 3) := by decide +kernel
theorem dL_areMessages_373 : decode cL_areMessages 373 = .ok (.aload_n 0, 1) := by decide +kernel
theorem dL_areMessages_374 : decode cL_areMessages 374 = .ok (.iload 10, 2) := by decide +kernel
theorem dL_areMessages_376 : decode cL_areMessages 376 = .ok (.invokevirtual 76, 3) := by decide +kernel
theorem dL_areMessages_379 : decode cL_areMessages 379 = .ok (.ifCond .lt 24, 3) := by decide +kernel
theorem dL_areMessages_382 : decode cL_areMessages 382 = .ok (.goto 17, 3) := by decide +kernel
theorem dL_areMessages_385 : decode cL_areMessages 385 = .ok (.aload_n 0, 1) := by decide +kernel
theorem dL_areMessages_386 : decode cL_areMessages 386 = .ok (.bipush 6, 2) := by decide +kernel
theorem dL_areMessages_388 : decode cL_areMessages 388 = .ok (.iload 10, 2) := by decide +kernel
theorem dL_areMessages_390 : decode cL_areMessages 390 = .ok (.iconst 0, 1) := by decide +kernel
theorem dL_areMessages_391 : decode cL_areMessages 391 = .ok (.invokestatic 101, 3) := by decide +kernel
theorem dL_areMessages_394 : decode cL_areMessages 394 = .ok (.bipush (-10), 2) := by decide +kernel
theorem dL_areMessages_396 : decode cL_areMessages 396 = .ok (.if_icmp .ne 7, 3) := by decide +kernel
theorem dL_areMessages_399 : decode cL_areMessages 399 = .ok (.iconst 1, 1) := by decide +kernel
theorem dL_areMessages_400 : decode cL_areMessages 400 = .ok (.goto 4, 3) := by decide +kernel
theorem dL_areMessages_403 : decode cL_areMessages 403 = .ok (.iconst 0, 1) := by decide +kernel
theorem dL_areMessages_404 : decode cL_areMessages 404 = .ok (.istore 9, 2) := by decide +kernel
theorem dL_areMessages_406 : decode cL_areMessages 406 = .ok (.aload 5, 2) := by decide +kernel
theorem dL_areMessages_408 : decode cL_areMessages 408 = .ok (.bipush 12, 2) := by decide +kernel
theorem dL_areMessages_410 : decode cL_areMessages 410 = .ok (.aload_n 1, 1) := by decide +kernel
theorem dL_areMessages_411 : decode cL_areMessages 411 = .ok (.iload 10, 2) := by decide +kernel
theorem dL_areMessages_413 : decode cL_areMessages 413 = .ok (.iaload, 1) := by decide +kernel
theorem dL_areMessages_414 : decode cL_areMessages 414 = .ok (.iadd, 1) := by decide +kernel
theorem dL_areMessages_415 : decode cL_areMessages 415 = .ok (.dup2, 1) := by decide +kernel
theorem dL_areMessages_416 : decode cL_areMessages 416 = .ok (.iaload, 1) := by decide +kernel
theorem dL_areMessages_417 : decode cL_areMessages 417 = .ok (.aload_n 3, 1) := by decide +kernel
theorem dL_areMessages_418 : decode cL_areMessages 418 = .ok (.iload 10, 2) := by decide +kernel
theorem dL_areMessages_420 : decode cL_areMessages 420 = .ok (.iaload, 1) := by decide +kernel
theorem dL_areMessages_421 : decode cL_areMessages 421 = .ok (.ifCond .ne 16, 3) := by decide +kernel
theorem dL_areMessages_424 : decode cL_areMessages 424 = .ok (.iload 11, 2) := by decide +kernel
theorem dL_areMessages_426 : decode cL_areMessages 426 = .ok (.ifCond .le 11, 3) := by decide +kernel
theorem dL_areMessages_429 : decode cL_areMessages 429 = .ok (.aload 4, 2) := by decide +kernel
theorem dL_areMessages_431 : decode cL_areMessages 431 = .ok (.iload 10, 2) := by decide +kernel
theorem dL_areMessages_433 : decode cL_areMessages 433 = .ok (.iaload, 1) := by decide +kernel
theorem dL_areMessages_434 : decode cL_areMessages 434 = .ok (.goto 4, 3) := by decide +kernel
theorem dL_areMessages_437 : decode cL_areMessages 437 = .ok (.iconst 0, 1) := by decide +kernel
theorem dL_areMessages_438 : decode cL_areMessages 438 = .ok (.iadd, 1) := by decide +kernel
theorem dL_areMessages_439 : decode cL_areMessages 439 = .ok (.iastore, 1) := by decide +kernel
theorem dL_areMessages_440 : decode cL_areMessages 440 = .ok (.aload_n 3, 1) := by decide +kernel
theorem dL_areMessages_441 : decode cL_areMessages 441 = .ok (.iload 10, 2) := by decide +kernel
theorem dL_areMessages_443 : decode cL_areMessages 443 = .ok (.iload 11, 2) := by decide +kernel
theorem dL_areMessages_445 : decode cL_areMessages 445 = .ok (.iastore, 1) := by decide +kernel
theorem dL_areMessages_446 : decode cL_areMessages 446 = .ok (.aload_n 3, 1) := by decide +kernel
theorem dL_areMessages_447 : decode cL_areMessages 447 = .ok (.bipush 24, 2) := by decide +kernel
theorem dL_areMessages_449 : decode cL_areMessages 449 = .ok (.iload 10, 2) := by decide +kernel
theorem dL_areMessages_451 : decode cL_areMessages 451 = .ok (.iadd, 1) := by decide +kernel
theorem dL_areMessages_452 : decode cL_areMessages 452 = .ok (.iload 13, 2) := by decide +kernel
theorem dL_areMessages_454 : decode cL_areMessages 454 = .ok (.iastore, 1) := by decide +kernel
theorem dL_areMessages_455 : decode cL_areMessages 455 = .ok (.iload 7, 2) := by decide +kernel
theorem dL_areMessages_457 : decode cL_areMessages 457 = .ok (.iload 11, 2) := by decide +kernel
theorem dL_areMessages_459 : decode cL_areMessages 459 = .ok (.iconst 1, 1) := by decide +kernel
theorem dL_areMessages_460 : decode cL_areMessages 460 = .ok (.if_icmp .ne 7, 3) := by decide +kernel
theorem dL_areMessages_463 : decode cL_areMessages 463 = .ok (.iconst 1, 1) := by decide +kernel
theorem dL_areMessages_464 : decode cL_areMessages 464 = .ok (.goto 4, 3) := by decide +kernel
theorem dL_areMessages_467 : decode cL_areMessages 467 = .ok (.iconst 0, 1) := by decide +kernel
theorem dL_areMessages_468 : decode cL_areMessages 468 = .ok (.iadd, 1) := by decide +kernel
theorem dL_areMessages_469 : decode cL_areMessages 469 = .ok (.istore 7, 2) := by decide +kernel
theorem dL_areMessages_471 : decode cL_areMessages 471 = .ok (.iload 8, 2) := by decide +kernel
theorem dL_areMessages_473 : decode cL_areMessages 473 = .ok (.iload 11, 2) := by decide +kernel
theorem dL_areMessages_475 : decode cL_areMessages 475 = .ok (.ifCond .ne 7, 3) := by decide +kernel
theorem dL_areMessages_478 : decode cL_areMessages 478 = .ok (.iconst 0, 1) := by decide +kernel
theorem dL_areMessages_479 : decode cL_areMessages 479 = .ok (.goto 4, 3) := by decide +kernel
theorem dL_areMessages_482 : decode cL_areMessages 482 = .ok (.iconst 1, 1) := by decide +kernel
theorem dL_areMessages_483 : decode cL_areMessages 483 = .ok (.iadd, 1) := by decide +kernel
theorem dL_areMessages_484 : decode cL_areMessages 484 = .ok (.istore 8, 2) := by decide +kernel
theorem dL_areMessages_486 : decode cL_areMessages 486 = .ok (.iinc 10 1, 3) := by decide +kernel
theorem dL_areMessages_489 : decode cL_areMessages 489 = .ok (.goto (-366), 3) := by decide +kernel
theorem dL_areMessages_492 : decode cL_areMessages 492 = .ok (.iload 9, 2) := by decide +kernel
theorem dL_areMessages_494 : decode cL_areMessages 494 = .ok (.ifCond .eq 31, 3) := by decide +kernel
theorem dL_areMessages_497 : decode cL_areMessages 497 = .ok (.aload_n 0, 1) := by decide +kernel
theorem dL_areMessages_498 : decode cL_areMessages 498 = .ok (.invokevirtual 105, 3) := by decide +kernel
theorem dL_areMessages_501 : decode cL_areMessages 501 = .ok (.iload 8, 2) := by decide +kernel
theorem dL_areMessages_503 : decode cL_areMessages 503 = .ok (.ifCond .ne 7, 3) := by decide +kernel
theorem dL_areMessages_506 : decode cL_areMessages 506 = .ok (.fconst 0, 1) := by decide +kernel
theorem dL_areMessages_507 : decode cL_areMessages 507 = .ok (.goto 10, 3) := by decide +kernel
theorem dL_areMessages_510 : decode cL_areMessages 510 = .ok (.iload 7, 2) := by decide +kernel
theorem dL_areMessages_512 : decode cL_areMessages 512 = .ok (.i2f, 1) := by decide +kernel
theorem dL_areMessages_513 : decode cL_areMessages 513 = .ok (.iload 8, 2) := by decide +kernel
theorem dL_areMessages_515 : decode cL_areMessages 515 = .ok (.i2f, 1) := by decide +kernel
theorem dL_areMessages_516 : decode cL_areMessages 516 = .ok (.fdiv, 1) := by decide +kernel
theorem dL_areMessages_517 : decode cL_areMessages 517 = .ok (.fcmp .l, 1) := by decide +kernel
theorem dL_areMessages_518 : decode cL_areMessages 518 = .ok (.ifCond .ne 7, 3) := by decide +kernel
theorem dL_areMessages_521 : decode cL_areMessages 521 = .ok (.iconst 1, 1) := by decide +kernel
theorem dL_areMessages_522 : decode cL_areMessages 522 = .ok (.goto 4, 3) := by decide +kernel
theorem dL_areMessages_525 : decode cL_areMessages 525 = .ok (.iconst 0, 1) := by decide +kernel
theorem dL_areMessages_526 : decode cL_areMessages 526 = .ok (.ireturn, 1) := by decide +kernel
set_option maxRecDepth 20000 in
theorem ggL_areRecipients_L_asks : GoodIn wsL_areRecipients wsL_asks := goodIn_ca (goodIn_ca (goodIn_r _ [4, 5, 6, 7, 8, 9, 10, 11, 12, 13, 14, 15, 16, 17, 18, 19, 20, 21, 22, 23, 24, 25, 26, 27, 28, 29, 30, 31, 32, 33, 34, 35, 36, 37, 38, 39, 40, 41, 42, 43, 44, 45, 46, 47, 48, 49, 50, 51, 52, 53, 54, 55, 56, 57, 58, 59, 60, 61, 62, 63, 64, 65, 66, 67, 68, 69, 70, 71, 72, 73, 74, 75, 76, 77, 78, 79, 80, 81, 82, 83, 84, 85, 86, 87, 88, 89, 90, 91, 92, 93, 94, 95, 96, 97, 98, 99, 100, 101, 102, 103, 104, 105, 106, 107, 108, 109, 110, 111, 112, 113, 114, 115, 116, 117, 118, 119, 120, 121, 122, 123, 124, 125, 126, 127, 128, 129, 130, 131, 132, 133, 134, 135, 136, 137, 138, 139, 140, 141, 142, 143, 144, 145, 146, 147, 148, 149, 150, 151, 152, 153, 154, 155, 156, 157, 158, 159, 160, 161, 162, 163, 164, 165, 166, 167, 168, 169, 170, 171, 172, 173, 174, 175] (by decide +kernel) (by decide +kernel)) (goodIn_sub (fun _ h => List.mem_cons_of_mem _ (List.mem_append_left _ (List.mem_append_right _ h))) (by decide +kernel))) (goodIn_sub (fun _ h => List.mem_cons_of_mem _ (List.mem_append_right _ h)) (by decide +kernel))
set_option maxRecDepth 20000 in
theorem gL_areRecipients_L_asks : GoodIn wsL_areRecipients (va_wsS RL 101 yL_asks wsL_asks) := goodIn_app (goodIn_of _ (by decide +kernel)) ggL_areRecipients_L_asks
set_option maxRecDepth 20000 in
theorem ggL_areRecipients_X5_marks : GoodIn wsL_areRecipients wsX5_marks := goodIn_ca (goodIn_r _ [99, 100, 91, 92, 93, 10, 94, 17, 18, 95, 164, 165, 166, 167, 168, 155, 156, 157, 158] (by decide +kernel) (by decide +kernel)) (goodIn_sub (fun _ h => List.mem_cons_of_mem _ (List.mem_append_left _ (List.mem_append_right _ h))) (by decide +kernel))
set_option maxRecDepth 20000 in
theorem gL_areRecipients_X5_marks : GoodIn wsL_areRecipients (wsV RL 82 RX5 yX5_marks wsX5_marks) := goodIn_app (goodIn_of _ (by decide +kernel)) ggL_areRecipients_X5_marks
set_option maxRecDepth 20000 in
theorem ggL_areRecipients_X5_next : GoodIn wsL_areRecipients wsX5_next := goodIn_ca (goodIn_r _ [109, 110, 111, 91, 92, 93, 10, 94, 17, 18, 95, 112, 113, 114, 115, 116, 117, 118, 119, 120, 22, 23, 24, 25, 26, 121, 28, 29, 30, 31, 32, 33, 34, 35, 36, 37, 38, 39, 40, 41, 42, 43, 122, 123, 124, 125, 126, 127, 128, 139, 140, 141, 142, 143, 144, 145, 146, 147, 148, 149, 150, 151, 152, 153, 154, 155, 156, 157, 158, 164, 165, 166, 167, 168, 159, 160, 161] (by decide +kernel) (by decide +kernel)) (goodIn_sub (fun _ h => List.mem_cons_of_mem _ (List.mem_append_left _ (List.mem_append_right _ h))) (by decide +kernel))
set_option maxRecDepth 20000 in
theorem gL_areRecipients_X5_next : GoodIn wsL_areRecipients (wsV RL 88 RX5 yX5_next wsX5_next) := goodIn_app (goodIn_of _ (by decide +kernel)) ggL_areRecipients_X5_next
set_option maxRecDepth 20000 in
theorem ggL_areRecipients_X5_waiting : GoodIn wsL_areRecipients wsX5_waiting := goodIn_ca (goodIn_r _ [104, 105, 91, 92, 93, 10, 94, 17, 18, 95, 21, 22, 23, 24, 25, 26, 164, 165, 166, 167, 168, 155, 156, 157, 158, 159, 160, 161] (by decide +kernel) (by decide +kernel)) (goodIn_sub (fun _ h => List.mem_cons_of_mem _ (List.mem_append_left _ (List.mem_append_right _ h))) (by decide +kernel))
set_option maxRecDepth 20000 in
theorem gL_areRecipients_X5_waiting : GoodIn wsL_areRecipients (wsV RL 85 RX5 yX5_waiting wsX5_waiting) := goodIn_app (goodIn_of _ (by decide +kernel)) ggL_areRecipients_X5_waiting
set_option maxRecDepth 20000 in
theorem ggL_areRecipients_X5_inRoom : GoodIn wsL_areRecipients wsX5_inRoom := goodIn_ca (goodIn_r _ [89, 90, 91, 92, 93, 10, 94, 17, 18, 95, 164, 165, 166, 167, 168, 155, 156, 157, 158] (by decide +kernel) (by decide +kernel)) (goodIn_sub (fun _ h => List.mem_cons_of_mem _ (List.mem_append_left _ (List.mem_append_right _ h))) (by decide +kernel))
set_option maxRecDepth 20000 in
theorem gL_areRecipients_X5_inRoom : GoodIn wsL_areRecipients (wsV RL 79 RX5 yX5_inRoom wsX5_inRoom) := goodIn_app (goodIn_of _ (by decide +kernel)) ggL_areRecipients_X5_inRoom
theorem dL_areRecipients_0 : decode cL_areRecipients 0 = .ok (.aload_n 0, 1) := by decide +kernel
theorem dL_areRecipients_1 : decode cL_areRecipients 1 = .ok (.bipush 7, 2) := by decide +kernel
theorem dL_areRecipients_3 : decode cL_areRecipients 3 = .ok (.bipush 6, 2) := by decide +kernel
theorem dL_areRecipients_5 : decode cL_areRecipients 5 = .ok (.iconst 0, 1) := by decide +kernel
theorem dL_areRecipients_6 : decode cL_areRecipients 6 = .ok (.invokestatic 101, 3) := by decide +kernel
theorem dL_areRecipients_9 : decode cL_areRecipients 9 = .ok (.bipush (-30), 2) := by decide +kernel
theorem dL_areRecipients_11 : decode cL_areRecipients 11 = .ok (.if_icmp .ne 48, 3) := by decide +kernel
theorem dL_areRecipients_14 : decode cL_areRecipients 14 = .ok (.aload_n 0, 1) := by decide +kernel
theorem dL_areRecipients_15 : decode cL_areRecipients 15 = .ok (.bipush 8, 2) := by decide +kernel
theorem dL_areRecipients_17 : decode cL_areRecipients 17 = .ok (.iconst (-1), 1) := by decide +kernel
theorem dL_areRecipients_18 : decode cL_areRecipients 18 = .ok (.iconst 0, 1) := by decide +kernel
theorem dL_areRecipients_19 : decode cL_areRecipients 19 = .ok (.invokestatic 101, 3) := by decide +kernel
theorem dL_areRecipients_22 : decode cL_areRecipients 22 = .ok (.bipush (-30), 2) := by decide +kernel
theorem dL_areRecipients_24 : decode cL_areRecipients 24 = .ok (.if_icmp .ne 35, 3) := by decide +kernel
theorem dL_areRecipients_27 : decode cL_areRecipients 27 = .ok (.aload_n 0, 1) := by decide +kernel
theorem dL_areRecipients_28 : decode cL_areRecipients 28 = .ok (.bipush 9, 2) := by decide +kernel
theorem dL_areRecipients_30 : decode cL_areRecipients 30 = .ok (.bipush 6, 2) := by decide +kernel
theorem dL_areRecipients_32 : decode cL_areRecipients 32 = .ok (.iconst 0, 1) := by decide +kernel
theorem dL_areRecipients_33 : decode cL_areRecipients 33 = .ok (.invokestatic 101, 3) := by decide +kernel
theorem dL_areRecipients_36 : decode cL_areRecipients 36 = .ok (.bipush (-30), 2) := by decide +kernel
theorem dL_areRecipients_38 : decode cL_areRecipients 38 = .ok (.if_icmp .ne 21, 3) := by decide +kernel
theorem dL_areRecipients_41 : decode cL_areRecipients 41 = .ok (.aload_n 0, 1) := by decide +kernel
theorem dL_areRecipients_42 : decode cL_areRecipients 42 = .ok (.bipush 10, 2) := by decide +kernel
theorem dL_areRecipients_44 : decode cL_areRecipients 44 = .ok (.bipush 6, 2) := by decide +kernel
theorem dL_areRecipients_46 : decode cL_areRecipients 46 = .ok (.iconst 0, 1) := by decide +kernel
theorem dL_areRecipients_47 : decode cL_areRecipients 47 = .ok (.invokestatic 101, 3) := by decide +kernel
theorem dL_areRecipients_50 : decode cL_areRecipients 50 = .ok (.bipush (-30), 2) := by decide +kernel
theorem dL_areRecipients_52 : decode cL_areRecipients 52 = .ok (.if_icmp .ne 7, 3) := by decide +kernel
theorem dL_areRecipients_55 : decode cL_areRecipients 55 = .ok (.iconst 1, 1) := by decide +kernel
theorem dL_areRecipients_56 : decode cL_areRecipients 56 = .ok (.goto 4, 3) := by decide +kernel
theorem dL_areRecipients_59 : decode cL_areRecipients 59 = .ok (.iconst 0, 1) := by decide +kernel
theorem dL_areRecipients_60 : decode cL_areRecipients 60 = .ok (.istore 5, 2) := by decide +kernel
theorem dL_areRecipients_62 : decode cL_areRecipients 62 = .ok (.iconst 0, 1) := by decide +kernel
theorem dL_areRecipients_63 : decode cL_areRecipients 63 = .ok (.istore 6, 2) := by decide +kernel
theorem dL_areRecipients_65 : decode cL_areRecipients 65 = .ok (.iload 6, 2) := by decide +kernel
theorem dL_areRecipients_67 : decode cL_areRecipients 67 = .ok (.bipush 6, 2) := by decide +kernel
theorem dL_areRecipients_69 : decode cL_areRecipients 69 = .ok (.if_icmp .ge 242, 3) := by decide +kernel
theorem dL_areRecipients_72 : decode cL_areRecipients 72 = .ok (.iload 5, 2) := by decide +kernel
theorem dL_areRecipients_74 : decode cL_areRecipients 74 = .ok (.ifCond .eq 237, 3) := by decide +kernel
theorem dL_areRecipients_77 : decode cL_areRecipients 77 = .ok (.iconst 0, 1) := by decide +kernel
theorem dL_areRecipients_78 : decode cL_areRecipients 78 = .ok (.istore 7, 2) := by decide +kernel
theorem dL_areRecipients_80 : decode cL_areRecipients 80 = .ok (.iconst 0, 1) := by decide +kernel
theorem dL_areRecipients_81 : decode cL_areRecipients 81 = .ok (.istore 8, 2) := by decide +kernel
theorem dL_areRecipients_83 : decode cL_areRecipients 83 = .ok (.iconst 0, 1) := by decide +kernel
theorem dL_areRecipients_84 : decode cL_areRecipients 84 = .ok (.istore 9, 2) := by decide +kernel
theorem dL_areRecipients_86 : decode cL_areRecipients 86 = .ok (.iload 9, 2) := by decide +kernel
theorem dL_areRecipients_88 : decode cL_areRecipients 88 = .ok (.aload 4, 2) := by decide +kernel
theorem dL_areRecipients_90 : decode cL_areRecipients 90 = .ok (.iconst 0, 1) := by decide +kernel
theorem dL_areRecipients_91 : decode cL_areRecipients 91 = .ok (.iaload, 1) := by decide +kernel
theorem dL_areRecipients_92 : decode cL_areRecipients 92 = .ok (.if_icmp .ge 66, 3) := by decide +kernel
theorem dL_areRecipients_95 : decode cL_areRecipients 95 = .ok (.iload 7, 2) := by decide +kernel
theorem dL_areRecipients_97 : decode cL_areRecipients 97 = .ok (.aload_n 1, 1) := by decide +kernel
theorem dL_areRecipients_98 : decode cL_areRecipients 98 = .ok (.bipush 24, 2) := by decide +kernel
theorem dL_areRecipients_100 : decode cL_areRecipients 100 = .ok (.iload 9, 2) := by decide +kernel
theorem dL_areRecipients_102 : decode cL_areRecipients 102 = .ok (.iadd, 1) := by decide +kernel
theorem dL_areRecipients_103 : decode cL_areRecipients 103 = .ok (.iaload, 1) := by decide +kernel
theorem dL_areRecipients_104 : decode cL_areRecipients 104 = .ok (.iload 6, 2) := by decide +kernel
theorem dL_areRecipients_106 : decode cL_areRecipients 106 = .ok (.if_icmp .ne 14, 3) := by decide +kernel
theorem dL_areRecipients_109 : decode cL_areRecipients 109 = .ok (.aload_n 2, 1) := by decide +kernel
theorem dL_areRecipients_110 : decode cL_areRecipients 110 = .ok (.iload 9, 2) := by decide +kernel
theorem dL_areRecipients_112 : decode cL_areRecipients 112 = .ok (.iaload, 1) := by decide +kernel
theorem dL_areRecipients_113 : decode cL_areRecipients 113 = .ok (.ifCond .ne 7, 3) := by decide +kernel
theorem dL_areRecipients_116 : decode cL_areRecipients 116 = .ok (.iconst 1, 1) := by decide +kernel
theorem dL_areRecipients_117 : decode cL_areRecipients 117 = .ok (.goto 4, 3) := by decide +kernel
theorem dL_areRecipients_120 : decode cL_areRecipients 120 = .ok (.iconst 0, 1) := by decide +kernel
theorem dL_areRecipients_121 : decode cL_areRecipients 121 = .ok (.iadd, 1) := by decide +kernel
theorem dL_areRecipients_122 : decode cL_areRecipients 122 = .ok (.istore 7, 2) := by decide +kernel
theorem dL_areRecipients_124 : decode cL_areRecipients 124 = .ok (.iload 8, 2) := by decide +kernel
theorem dL_areRecipients_126 : decode cL_areRecipients 126 = .ok (.aload_n 1, 1) := by decide +kernel
theorem dL_areRecipients_127 : decode cL_areRecipients 127 = .ok (.bipush 24, 2) := by decide +kernel
theorem dL_areRecipients_129 : decode cL_areRecipients 129 = .ok (.iload 9, 2) := by decide +kernel
theorem dL_areRecipients_131 : decode cL_areRecipients 131 = .ok (.iadd, 1) := by decide +kernel
theorem dL_areRecipients_132 : decode cL_areRecipients 132 = .ok (.iaload, 1) := by decide +kernel
theorem dL_areRecipients_133 : decode cL_areRecipients 133 = .ok (.iload 6, 2) := by decide +kernel
theorem dL_areRecipients_135 : decode cL_areRecipients 135 = .ok (.if_icmp .ne 13, 3) := by decide +kernel
theorem dL_areRecipients_138 : decode cL_areRecipients 138 = .ok (.aload_n 2, 1) := by decide +kernel
theorem dL_areRecipients_139 : decode cL_areRecipients 139 = .ok (.bipush 24, 2) := by decide +kernel
theorem dL_areRecipients_141 : decode cL_areRecipients 141 = .ok (.iload 9, 2) := by decide +kernel
theorem dL_areRecipients_143 : decode cL_areRecipients 143 = .ok (.iadd, 1) := by decide +kernel
theorem dL_areRecipients_144 : decode cL_areRecipients 144 = .ok (.iaload, 1) := by decide +kernel
theorem dL_areRecipients_145 : decode cL_areRecipients 145 = .ok (.goto 4, 3) := by decide +kernel
theorem dL_areRecipients_148 : decode cL_areRecipients 148 = .ok (.iconst 0, 1) := by decide +kernel
theorem dL_areRecipients_149 : decode cL_areRecipients 149 = .ok (.iadd, 1) := by decide +kernel
theorem dL_areRecipients_150 : decode cL_areRecipients 150 = .ok (.istore 8, 2) := by decide +kernel
theorem dL_areRecipients_152 : decode cL_areRecipients 152 = .ok (.iinc 9 1, 3) := by decide +kernel
theorem dL_areRecipients_155 : decode cL_areRecipients 155 = .ok (.goto (-69), 3) := by decide +kernel
theorem dL_areRecipients_158 : decode cL_areRecipients 158 = .ok (.aload_n 0, 1) := by decide +kernel
theorem dL_areRecipients_159 : decode cL_areRecipients 159 = .ok (.iload 6, 2) := by decide +kernel
theorem dL_areRecipients_161 : decode cL_areRecipients 161 = .ok (.invokevirtual 82, 3) := by decide +kernel
theorem dL_areRecipients_164 : decode cL_areRecipients 164 = .ok (.istore 9, 2) := by decide +kernel
theorem dL_areRecipients_166 : decode cL_areRecipients 166 = .ok (.aload_n 0, 1) := by decide +kernel
theorem dL_areRecipients_167 : decode cL_areRecipients 167 = .ok (.iload 6, 2) := by decide +kernel
theorem dL_areRecipients_169 : decode cL_areRecipients 169 = .ok (.invokevirtual 88, 3) := by decide +kernel
theorem dL_areRecipients_172 : decode cL_areRecipients 172 = .ok (.istore 10, 2) := by decide +kernel
theorem dL_areRecipients_174 : decode cL_areRecipients 174 = .ok (.aload_n 0, 1) := by decide +kernel
theorem dL_areRecipients_175 : decode cL_areRecipients 175 = .ok (.iload 6, 2) := by decide +kernel
theorem dL_areRecipients_177 : decode cL_areRecipients 177 = .ok (.invokevirtual 85, 3) := by decide +kernel
theorem dL_areRecipients_180 : decode cL_areRecipients 180 = .ok (.iload 7, 2) := by decide +kernel
theorem dL_areRecipients_182 : decode cL_areRecipients 182 = .ok (.if_icmp .ne 120, 3) := by decide +kernel
theorem dL_areRecipients_185 : decode cL_areRecipients 185 = .ok (.aload_n 0, 1) := by decide +kernel
theorem dL_areRecipients_186 : decode cL_areRecipients 186 = .ok (.iload 6, 2) := by decide +kernel
theorem dL_areRecipients_188 : decode cL_areRecipients 188 = .ok (.invokevirtual 79, 3) := by decide +kernel
theorem dL_areRecipients_191 : decode cL_areRecipients 191 = .ok (.iload 8, 2) := by decide +kernel
theorem dL_areRecipients_193 : decode cL_areRecipients 193 = .ok (.aload_n 3, 1) := by decide +kernel
theorem dL_areRecipients_194 : decode cL_areRecipients 194 = .ok (.bipush 12, 2) := by decide +kernel
theorem dL_areRecipients_196 : decode cL_areRecipients 196 = .ok (.iload 6, 2) := by decide +kernel
theorem dL_areRecipients_198 : decode cL_areRecipients 198 = .ok (.iadd, 1) := by decide +kernel
theorem dL_areRecipients_199 : decode cL_areRecipients 199 = .ok (.iaload, 1) := by decide +kernel
theorem dL_areRecipients_200 : decode cL_areRecipients 200 = .ok (.isub, 1) := by decide +kernel
theorem dL_areRecipients_201 : decode cL_areRecipients 201 = .ok (.if_icmp .ne 101, 3) := by decide +kernel
theorem dL_areRecipients_204 : decode cL_areRecipients 204 = .ok (.iload 9, 2) := by decide +kernel
theorem dL_areRecipients_206 : decode cL_areRecipients 206 = .ok (.ifCond .lt 96, 3) := by decide +kernel
theorem dL_areRecipients_209 : decode cL_areRecipients 209 = .ok (.iload 9, 2) := by decide +kernel
theorem dL_areRecipients_211 : decode cL_areRecipients 211 = .ok (.iconst 4, 1) := by decide +kernel
theorem dL_areRecipients_212 : decode cL_areRecipients 212 = .ok (.if_icmp .ge 90, 3) := by decide +kernel
theorem dL_areRecipients_215 : decode cL_areRecipients 215 = .ok (.iload 9, 2) := by decide +kernel
theorem dL_areRecipients_217 : decode cL_areRecipients 217 = .ok (.iconst 2, 1) := by decide +kernel
theorem dL_areRecipients_218 : decode cL_areRecipients 218 = .ok (.if_icmp .lt 19, 3) := by decide +kernel
theorem dL_areRecipients_221 : decode cL_areRecipients 221 = .ok (.aload_n 0, 1) := by decide +kernel
theorem dL_areRecipients_222 : decode cL_areRecipients 222 = .ok (.iload 6, 2) := by decide +kernel
theorem dL_areRecipients_224 : decode cL_areRecipients 224 = .ok (.invokevirtual 79, 3) := by decide +kernel
theorem dL_areRecipients_227 : decode cL_areRecipients 227 = .ok (.aload_n 3, 1) := by decide +kernel
theorem dL_areRecipients_228 : decode cL_areRecipients 228 = .ok (.bipush 6, 2) := by decide +kernel
theorem dL_areRecipients_230 : decode cL_areRecipients 230 = .ok (.iload 6, 2) := by decide +kernel
theorem dL_areRecipients_232 : decode cL_areRecipients 232 = .ok (.iadd, 1) := by decide +kernel
theorem dL_areRecipients_233 : decode cL_areRecipients 233 = .ok (.iaload, 1) := by decide +kernel
theorem dL_areRecipients_234 : decode cL_areRecipients 234 = .ok (.if_icmp .lt 68, 3) := by decide +kernel
theorem dL_areRecipients_237 : decode cL_areRecipients 237 = .ok (.iload 9, 2) := by decide +kernel
theorem dL_areRecipients_239 : decode cL_areRecipients 239 = .ok (.iconst 2, 1) := by decide +kernel
theorem dL_areRecipients_240 : decode cL_areRecipients 240 = .ok (.irem, 1) := by decide +kernel
theorem dL_areRecipients_241 : decode cL_areRecipients 241 = .ok (.ifCond .eq 10, 3) := by decide +kernel
theorem dL_areRecipients_244 : decode cL_areRecipients 244 = .ok (.aload_n 3, 1) := by decide +kernel
theorem dL_areRecipients_245 : decode cL_areRecipients 245 = .ok (.iload 6, 2) := by decide +kernel
theorem dL_areRecipients_247 : decode cL_areRecipients 247 = .ok (.iaload, 1) := by decide +kernel
theorem dL_areRecipients_248 : decode cL_areRecipients 248 = .ok (.ifCond .eq 54, 3) := by decide +kernel
theorem dL_areRecipients_251 : decode cL_areRecipients 251 = .ok (.iload 7, 2) := by decide +kernel
theorem dL_areRecipients_253 : decode cL_areRecipients 253 = .ok (.ifCond .ne 12, 3) := by decide +kernel
theorem dL_areRecipients_256 : decode cL_areRecipients 256 = .ok (.iload 10, 2) := by decide +kernel
theorem dL_areRecipients_258 : decode cL_areRecipients 258 = .ok (.iconst (-1), 1) := by decide +kernel
theorem dL_areRecipients_259 : decode cL_areRecipients 259 = .ok (.if_icmp .ne 43, 3) := by decide +kernel
theorem dL_areRecipients_262 : decode cL_areRecipients 262 = .ok (.goto 36, 3) := by decide +kernel
theorem dL_areRecipients_265 : decode cL_areRecipients 265 = .ok (.iload 10, 2) := by decide +kernel
theorem dL_areRecipients_267 : decode cL_areRecipients 267 = .ok (.ifCond .lt 35, 3) := by decide +kernel
theorem dL_areRecipients_270 : decode cL_areRecipients 270 = .ok (.iload 10, 2) := by decide +kernel
theorem dL_areRecipients_272 : decode cL_areRecipients 272 = .ok (.aload 4, 2) := by decide +kernel
theorem dL_areRecipients_274 : decode cL_areRecipients 274 = .ok (.iconst 0, 1) := by decide +kernel
theorem dL_areRecipients_275 : decode cL_areRecipients 275 = .ok (.iaload, 1) := by decide +kernel
theorem dL_areRecipients_276 : decode cL_areRecipients 276 = .ok (.if_icmp .ge 26, 3) := by decide +kernel
theorem dL_areRecipients_279 : decode cL_areRecipients 279 = .ok (.aload_n 2, 1) := by decide +kernel
theorem dL_areRecipients_280 : decode cL_areRecipients 280 = .ok (.iload 10, 2) := by decide +kernel
theorem dL_areRecipients_282 : decode cL_areRecipients 282 = .ok (.iaload, 1) := by decide +kernel
theorem dL_areRecipients_283 : decode cL_areRecipients 283 = .ok (.ifCond .ne 19, 3) := by decide +kernel
theorem dL_areRecipients_286 : decode cL_areRecipients 286 = .ok (.aload_n 1, 1) := by decide +kernel
theorem dL_areRecipients_287 : decode cL_areRecipients 287 = .ok (.bipush 24, 2) := by decide +kernel
theorem dL_areRecipients_289 : decode cL_areRecipients 289 = .ok (.iload 10, 2) := by decide +kernel
theorem dL_areRecipients_291 : decode cL_areRecipients 291 = .ok (.iadd, 1) := by decide +kernel
theorem dL_areRecipients_292 : decode cL_areRecipients 292 = .ok (.iaload, 1) := by decide +kernel
theorem dL_areRecipients_293 : decode cL_areRecipients 293 = .ok (.iload 6, 2) := by decide +kernel
theorem dL_areRecipients_295 : decode cL_areRecipients 295 = .ok (.if_icmp .ne 7, 3) := by decide +kernel
theorem dL_areRecipients_298 : decode cL_areRecipients 298 = .ok (.iconst 1, 1) := by decide +kernel
theorem dL_areRecipients_299 : decode cL_areRecipients 299 = .ok (.goto 4, 3) := by decide +kernel
theorem dL_areRecipients_302 : decode cL_areRecipients 302 = .ok (.iconst 0, 1) := by decide +kernel
theorem dL_areRecipients_303 : decode cL_areRecipients 303 = .ok (.istore 5, 2) := by decide +kernel
theorem dL_areRecipients_305 : decode cL_areRecipients 305 = .ok (.iinc 6 1, 3) := by decide +kernel
theorem dL_areRecipients_308 : decode cL_areRecipients 308 = .ok (.goto (-243), 3) := by decide +kernel
theorem dL_areRecipients_311 : decode cL_areRecipients 311 = .ok (.iload 5, 2) := by decide +kernel
theorem dL_areRecipients_313 : decode cL_areRecipients 313 = .ok (.ireturn, 1) := by decide +kernel
set_option maxRecDepth 20000 in
theorem ggL_areReceipts_L_asks : GoodIn wsL_areReceipts wsL_asks := goodIn_ca (goodIn_ca (goodIn_r _ [4, 5, 6, 7, 8, 9, 10, 11, 12, 13, 14, 15, 16, 17, 18, 19, 20, 21, 22, 23, 24, 25, 26, 27, 28, 29, 30, 31, 32, 33, 34, 35, 36, 37, 38, 39, 40, 41, 42, 43, 44, 45, 46, 47, 48, 49, 50, 51, 52, 53, 54, 55, 56, 57, 58, 59, 60, 61, 62, 63, 64, 65, 66, 67, 68, 69, 70, 71, 72, 73, 74, 75, 76, 77, 78, 79, 80, 81, 82, 83, 84, 85, 86, 87, 88, 89, 90, 91, 92, 93, 94, 95, 96, 97, 98, 99, 100, 101, 102, 103, 104, 105, 106, 107, 108, 109, 110, 111, 112, 113, 114, 115, 116, 117, 118, 119, 120, 121, 122, 123, 124, 125, 126, 127, 128, 129, 130, 131, 132, 133, 134, 135, 136, 137, 138, 139, 140, 141, 142, 143, 144, 145, 146, 147, 148, 149, 150, 151, 152, 153, 154, 155, 156, 157, 158, 159, 160, 161, 162, 163, 164, 165, 166, 167, 168, 169, 170, 171, 172, 173, 174, 175] (by decide +kernel) (by decide +kernel)) (goodIn_sub (fun _ h => List.mem_cons_of_mem _ (List.mem_append_left _ (List.mem_append_right _ h))) (by decide +kernel))) (goodIn_sub (fun _ h => List.mem_cons_of_mem _ (List.mem_append_right _ h)) (by decide +kernel))
set_option maxRecDepth 20000 in
theorem gL_areReceipts_L_asks : GoodIn wsL_areReceipts (va_wsS RL 101 yL_asks wsL_asks) := goodIn_app (goodIn_of _ (by decide +kernel)) ggL_areReceipts_L_asks
set_option maxRecDepth 20000 in
theorem ggL_areReceipts_X5_receipts : GoodIn wsL_areReceipts wsX5_receipts := goodIn_ca (goodIn_r _ [132, 133, 134, 135, 136, 10, 137, 17, 18, 138, 21, 22, 23, 24, 25, 26, 169, 170, 171, 172, 173, 174, 175, 155, 156, 157, 158, 159, 160, 161] (by decide +kernel) (by decide +kernel)) (goodIn_sub (fun _ h => List.mem_cons_of_mem _ (List.mem_append_left _ (List.mem_append_right _ h))) (by decide +kernel))
set_option maxRecDepth 20000 in
theorem gL_areReceipts_X5_receipts : GoodIn wsL_areReceipts (wsV RL 91 RX5 yX5_receipts wsX5_receipts) := goodIn_app (goodIn_of _ (by decide +kernel)) ggL_areReceipts_X5_receipts
theorem dL_areReceipts_0 : decode cL_areReceipts 0 = .ok (.aload_n 0, 1) := by decide +kernel
theorem dL_areReceipts_1 : decode cL_areReceipts 1 = .ok (.bipush 11, 2) := by decide +kernel
theorem dL_areReceipts_3 : decode cL_areReceipts 3 = .ok (.iconst 4, 1) := by decide +kernel
theorem dL_areReceipts_4 : decode cL_areReceipts 4 = .ok (.iconst 0, 1) := by decide +kernel
theorem dL_areReceipts_5 : decode cL_areReceipts 5 = .ok (.invokestatic 101, 3) := by decide +kernel
theorem dL_areReceipts_8 : decode cL_areReceipts 8 = .ok (.bipush (-30), 2) := by decide +kernel
theorem dL_areReceipts_10 : decode cL_areReceipts 10 = .ok (.if_icmp .ne 7, 3) := by decide +kernel
theorem dL_areReceipts_13 : decode cL_areReceipts 13 = .ok (.iconst 1, 1) := by decide +kernel
theorem dL_areReceipts_14 : decode cL_areReceipts 14 = .ok (.goto 4, 3) := by decide +kernel
theorem dL_areReceipts_17 : decode cL_areReceipts 17 = .ok (.iconst 0, 1) := by decide +kernel
theorem dL_areReceipts_18 : decode cL_areReceipts 18 = .ok (.istore_n 2, 1) := by decide +kernel
theorem dL_areReceipts_19 : decode cL_areReceipts 19 = .ok (.iconst 0, 1) := by decide +kernel
theorem dL_areReceipts_20 : decode cL_areReceipts 20 = .ok (.istore_n 3, 1) := by decide +kernel
theorem dL_areReceipts_21 : decode cL_areReceipts 21 = .ok (.iload_n 3, 1) := by decide +kernel
theorem dL_areReceipts_22 : decode cL_areReceipts 22 = .ok (.iconst 4, 1) := by decide +kernel
theorem dL_areReceipts_23 : decode cL_areReceipts 23 = .ok (.if_icmp .ge 33, 3) := by decide +kernel
theorem dL_areReceipts_26 : decode cL_areReceipts 26 = .ok (.iload_n 2, 1) := by decide +kernel
theorem dL_areReceipts_27 : decode cL_areReceipts 27 = .ok (.ifCond .eq 29, 3) := by decide +kernel
theorem dL_areReceipts_30 : decode cL_areReceipts 30 = .ok (.aload_n 0, 1) := by decide +kernel
theorem dL_areReceipts_31 : decode cL_areReceipts 31 = .ok (.iload_n 3, 1) := by decide +kernel
theorem dL_areReceipts_32 : decode cL_areReceipts 32 = .ok (.invokevirtual 91, 3) := by decide +kernel
theorem dL_areReceipts_35 : decode cL_areReceipts 35 = .ok (.aload_n 1, 1) := by decide +kernel
theorem dL_areReceipts_36 : decode cL_areReceipts 36 = .ok (.bipush 12, 2) := by decide +kernel
theorem dL_areReceipts_38 : decode cL_areReceipts 38 = .ok (.iload_n 3, 1) := by decide +kernel
theorem dL_areReceipts_39 : decode cL_areReceipts 39 = .ok (.iadd, 1) := by decide +kernel
theorem dL_areReceipts_40 : decode cL_areReceipts 40 = .ok (.iaload, 1) := by decide +kernel
theorem dL_areReceipts_41 : decode cL_areReceipts 41 = .ok (.if_icmp .ne 7, 3) := by decide +kernel
theorem dL_areReceipts_44 : decode cL_areReceipts 44 = .ok (.iconst 1, 1) := by decide +kernel
theorem dL_areReceipts_45 : decode cL_areReceipts 45 = .ok (.goto 4, 3) := by decide +kernel
theorem dL_areReceipts_48 : decode cL_areReceipts 48 = .ok (.iconst 0, 1) := by decide +kernel
theorem dL_areReceipts_49 : decode cL_areReceipts 49 = .ok (.istore_n 2, 1) := by decide +kernel
theorem dL_areReceipts_50 : decode cL_areReceipts 50 = .ok (.iinc 3 1, 3) := by decide +kernel
theorem dL_areReceipts_53 : decode cL_areReceipts 53 = .ok (.goto (-32), 3) := by decide +kernel
theorem dL_areReceipts_56 : decode cL_areReceipts 56 = .ok (.iload_n 2, 1) := by decide +kernel
theorem dL_areReceipts_57 : decode cL_areReceipts 57 = .ok (.ireturn, 1) := by decide +kernel
set_option maxRecDepth 20000 in
theorem ggL_isDraft_L_does : GoodIn wsL_isDraft wsL_does := goodIn_ca (goodIn_ca (goodIn_ca (goodIn_r _ [4, 5, 6, 7, 8, 9, 10, 11, 12, 13, 14, 15, 16, 17, 18, 19, 20, 21, 22, 23, 24, 25, 26, 27, 28, 29, 30, 31, 32, 33, 34, 35, 36, 37, 38, 39, 40, 41, 42, 43, 44, 45, 46, 47, 48, 49, 50, 51, 52, 53, 54, 55, 3, 56, 57, 58, 59, 60, 61, 62, 63, 64, 65, 66, 67, 68, 69, 70, 71, 72, 73, 74, 75, 76, 77, 78, 79, 80, 81, 82, 83, 84, 85, 86, 87, 88, 89, 90, 91, 92, 93, 94, 95, 96, 97, 98, 99, 100, 101, 102, 103, 104, 105, 106, 107, 108, 109, 110, 111, 112, 113, 114, 115, 116, 117, 118, 119, 120, 121, 122, 123, 124, 125, 126, 127, 128, 129, 130, 131, 132, 133, 134, 135, 136, 137, 138, 139, 140, 141, 142, 143, 144, 145, 146, 147, 148, 149, 150, 151, 152, 153, 154, 155, 156, 157, 158, 159, 160, 161, 162, 163, 164, 165, 166, 167, 168, 169, 170, 171, 172, 173, 174, 175, 176, 177, 178, 179, 180, 181, 182, 183, 184, 185, 186, 187, 188, 189, 190, 191, 192, 193, 194, 195, 196, 197, 198, 199, 200, 201, 202, 203, 204, 205, 206, 207, 208, 209, 210, 211, 212, 213, 214, 215, 216, 217, 218, 219, 220, 221, 222, 223, 224, 225, 226, 227, 228, 229, 230, 231, 232, 233, 234, 235, 236, 237, 238, 239, 240, 241, 242, 243, 244, 245, 246, 247, 248, 249, 250, 251, 252, 253, 254, 255, 256, 257, 258, 259, 260, 261, 262, 263, 264, 265, 266, 267, 268, 269, 270, 271, 272, 273, 274, 275, 276, 277, 278, 279, 280, 281, 282, 283, 284, 285, 286, 287, 288, 289, 290, 291, 292, 293, 294, 295, 296, 297, 298, 299, 300, 301, 302, 303, 304, 305, 306, 307, 308, 309, 310, 311, 312, 313, 314, 315, 316, 317, 318, 319, 320, 321, 322, 323, 324, 325, 326, 327, 328, 329, 330, 331, 332, 333, 334, 335, 336, 337, 338, 339, 340, 341, 342, 343, 344, 345, 346, 347, 348, 349, 350, 351, 352, 353, 354, 355, 356, 357, 358, 359, 360, 361, 362, 363, 364, 365, 366, 367, 368, 369, 370, 371, 372, 373, 374, 375, 376, 377, 378, 379, 380, 381, 382, 383, 384] (by decide +kernel) (by decide +kernel)) (goodIn_sub (fun _ h => List.mem_cons_of_mem _ (List.mem_append_left _ (List.mem_append_left _ (List.mem_append_right _ h)))) (by decide +kernel))) (goodIn_sub (fun _ h => List.mem_cons_of_mem _ (List.mem_append_left _ (List.mem_append_right _ h))) (by decide +kernel))) (goodIn_sub (fun _ h => List.mem_cons_of_mem _ (List.mem_append_right _ h)) (by decide +kernel))
set_option maxRecDepth 20000 in
theorem gL_isDraft_L_does : GoodIn wsL_isDraft (va_wsS RL 109 yL_does wsL_does) := goodIn_app (goodIn_of _ (by decide +kernel)) ggL_isDraft_L_does
theorem dL_isDraft_0 : decode cL_isDraft 0 = .ok (.iload_n 2, 1) := by decide +kernel
theorem dL_isDraft_1 : decode cL_isDraft 1 = .ok (.iconst 5, 1) := by decide +kernel
theorem dL_isDraft_2 : decode cL_isDraft 2 = .ok (.irem, 1) := by decide +kernel
theorem dL_isDraft_3 : decode cL_isDraft 3 = .ok (.istore 5, 2) := by decide +kernel
theorem dL_isDraft_5 : decode cL_isDraft 5 = .ok (.iload_n 3, 1) := by decide +kernel
theorem dL_isDraft_6 : decode cL_isDraft 6 = .ok (.sipush 502, 3) := by decide +kernel
theorem dL_isDraft_9 : decode cL_isDraft 9 = .ok (.irem, 1) := by decide +kernel
theorem dL_isDraft_10 : decode cL_isDraft 10 = .ok (.istore 6, 2) := by decide +kernel
theorem dL_isDraft_12 : decode cL_isDraft 12 = .ok (.iload 4, 2) := by decide +kernel
theorem dL_isDraft_14 : decode cL_isDraft 14 = .ok (.bipush 52, 2) := by decide +kernel
theorem dL_isDraft_16 : decode cL_isDraft 16 = .ok (.irem, 1) := by decide +kernel
theorem dL_isDraft_17 : decode cL_isDraft 17 = .ok (.istore 7, 2) := by decide +kernel
theorem dL_isDraft_19 : decode cL_isDraft 19 = .ok (.iload 6, 2) := by decide +kernel
theorem dL_isDraft_21 : decode cL_isDraft 21 = .ok (.ifCond .le 22, 3) := by decide +kernel
theorem dL_isDraft_24 : decode cL_isDraft 24 = .ok (.iload 6, 2) := by decide +kernel
theorem dL_isDraft_26 : decode cL_isDraft 26 = .ok (.sipush 501, 3) := by decide +kernel
theorem dL_isDraft_29 : decode cL_isDraft 29 = .ok (.if_icmp .ge 14, 3) := by decide +kernel
theorem dL_isDraft_32 : decode cL_isDraft 32 = .ok (.iload 7, 2) := by decide +kernel
theorem dL_isDraft_34 : decode cL_isDraft 34 = .ok (.bipush 51, 2) := by decide +kernel
theorem dL_isDraft_36 : decode cL_isDraft 36 = .ok (.if_icmp .ge 7, 3) := by decide +kernel
theorem dL_isDraft_39 : decode cL_isDraft 39 = .ok (.iconst 1, 1) := by decide +kernel
theorem dL_isDraft_40 : decode cL_isDraft 40 = .ok (.goto 4, 3) := by decide +kernel
theorem dL_isDraft_43 : decode cL_isDraft 43 = .ok (.iconst 0, 1) := by decide +kernel
theorem dL_isDraft_44 : decode cL_isDraft 44 = .ok (.istore 8, 2) := by decide +kernel
theorem dL_isDraft_46 : decode cL_isDraft 46 = .ok (.aload_n 0, 1) := by decide +kernel
theorem dL_isDraft_47 : decode cL_isDraft 47 = .ok (.iconst 0, 1) := by decide +kernel
theorem dL_isDraft_48 : decode cL_isDraft 48 = .ok (.iload 5, 2) := by decide +kernel
theorem dL_isDraft_50 : decode cL_isDraft 50 = .ok (.iload 6, 2) := by decide +kernel
theorem dL_isDraft_52 : decode cL_isDraft 52 = .ok (.iload 7, 2) := by decide +kernel
theorem dL_isDraft_54 : decode cL_isDraft 54 = .ok (.iload_n 2, 1) := by decide +kernel
theorem dL_isDraft_55 : decode cL_isDraft 55 = .ok (.iconst 5, 1) := by decide +kernel
theorem dL_isDraft_56 : decode cL_isDraft 56 = .ok (.idiv, 1) := by decide +kernel
theorem dL_isDraft_57 : decode cL_isDraft 57 = .ok (.iconst 2, 1) := by decide +kernel
theorem dL_isDraft_58 : decode cL_isDraft 58 = .ok (.irem, 1) := by decide +kernel
theorem dL_isDraft_59 : decode cL_isDraft 59 = .ok (.invokestatic 109, 3) := by decide +kernel
theorem dL_isDraft_62 : decode cL_isDraft 62 = .ok (.istore 9, 2) := by decide +kernel
theorem dL_isDraft_64 : decode cL_isDraft 64 = .ok (.iload 5, 2) := by decide +kernel
theorem dL_isDraft_66 : decode cL_isDraft 66 = .ok (.iconst 4, 1) := by decide +kernel
theorem dL_isDraft_67 : decode cL_isDraft 67 = .ok (.if_icmp .eq 8, 3) := by decide +kernel
theorem dL_isDraft_70 : decode cL_isDraft 70 = .ok (.iload 8, 2) := by decide +kernel
theorem dL_isDraft_72 : decode cL_isDraft 72 = .ok (.ifCond .ne 27, 3) := by decide +kernel
theorem dL_isDraft_75 : decode cL_isDraft 75 = .ok (.iload 9, 2) := by decide +kernel
theorem dL_isDraft_77 : decode cL_isDraft 77 = .ok (.iload 5, 2) := by decide +kernel
theorem dL_isDraft_79 : decode cL_isDraft 79 = .ok (.iconst 4, 1) := by decide +kernel
theorem dL_isDraft_80 : decode cL_isDraft 80 = .ok (.if_icmp .ne 8, 3) := by decide +kernel
theorem dL_isDraft_83 : decode cL_isDraft 83 = .ok (.bipush (-30), 2) := by decide +kernel
theorem dL_isDraft_85 : decode cL_isDraft 85 = .ok (.goto 5, 3) := by decide +kernel
theorem dL_isDraft_88 : decode cL_isDraft 88 = .ok (.bipush (-20), 2) := by decide +kernel
theorem dL_isDraft_90 : decode cL_isDraft 90 = .ok (.if_icmp .ne 7, 3) := by decide +kernel
theorem dL_isDraft_93 : decode cL_isDraft 93 = .ok (.iconst 1, 1) := by decide +kernel
theorem dL_isDraft_94 : decode cL_isDraft 94 = .ok (.goto 4, 3) := by decide +kernel
theorem dL_isDraft_97 : decode cL_isDraft 97 = .ok (.iconst 0, 1) := by decide +kernel
theorem dL_isDraft_98 : decode cL_isDraft 98 = .ok (.ireturn, 1) := by decide +kernel
theorem dL_isDraft_99 : decode cL_isDraft 99 = .ok (.aload_n 1, 1) := by decide +kernel
theorem dL_isDraft_100 : decode cL_isDraft 100 = .ok (.iload 5, 2) := by decide +kernel
theorem dL_isDraft_102 : decode cL_isDraft 102 = .ok (.iload 6, 2) := by decide +kernel
theorem dL_isDraft_104 : decode cL_isDraft 104 = .ok (.iastore, 1) := by decide +kernel
theorem dL_isDraft_105 : decode cL_isDraft 105 = .ok (.iload 9, 2) := by decide +kernel
theorem dL_isDraft_107 : decode cL_isDraft 107 = .ok (.ifCond .le 27, 3) := by decide +kernel
theorem dL_isDraft_110 : decode cL_isDraft 110 = .ok (.iload 9, 2) := by decide +kernel
theorem dL_isDraft_112 : decode cL_isDraft 112 = .ok (.bipush 9, 2) := by decide +kernel
theorem dL_isDraft_114 : decode cL_isDraft 114 = .ok (.if_icmp .ge 20, 3) := by decide +kernel
theorem dL_isDraft_117 : decode cL_isDraft 117 = .ok (.iload 6, 2) := by decide +kernel
theorem dL_isDraft_119 : decode cL_isDraft 119 = .ok (.bipush 70, 2) := by decide +kernel
theorem dL_isDraft_121 : decode cL_isDraft 121 = .ok (.if_icmp .gt 9, 3) := by decide +kernel
theorem dL_isDraft_124 : decode cL_isDraft 124 = .ok (.iload 9, 2) := by decide +kernel
theorem dL_isDraft_126 : decode cL_isDraft 126 = .ok (.iconst 1, 1) := by decide +kernel
theorem dL_isDraft_127 : decode cL_isDraft 127 = .ok (.if_icmp .ne 7, 3) := by decide +kernel
theorem dL_isDraft_130 : decode cL_isDraft 130 = .ok (.iconst 1, 1) := by decide +kernel
theorem dL_isDraft_131 : decode cL_isDraft 131 = .ok (.goto 4, 3) := by decide +kernel
theorem dL_isDraft_134 : decode cL_isDraft 134 = .ok (.iconst 0, 1) := by decide +kernel
theorem dL_isDraft_135 : decode cL_isDraft 135 = .ok (.ireturn, 1) := by decide +kernel
set_option maxRecDepth 20000 in
theorem ggL_isSubmitted_L_does : GoodIn wsL_isSubmitted wsL_does := goodIn_ca (goodIn_ca (goodIn_ca (goodIn_r _ [4, 5, 6, 7, 8, 9, 10, 11, 12, 13, 14, 15, 16, 17, 18, 19, 20, 21, 22, 23, 24, 25, 26, 27, 28, 29, 30, 31, 32, 33, 34, 35, 36, 37, 38, 39, 40, 41, 42, 43, 44, 45, 46, 47, 48, 49, 50, 51, 52, 53, 54, 55, 3, 56, 57, 58, 59, 60, 61, 62, 63, 64, 65, 66, 67, 68, 69, 70, 71, 72, 73, 74, 75, 76, 77, 78, 79, 80, 81, 82, 83, 84, 85, 86, 87, 88, 89, 90, 91, 92, 93, 94, 95, 96, 97, 98, 99, 100, 101, 102, 103, 104, 105, 106, 107, 108, 109, 110, 111, 112, 113, 114, 115, 116, 117, 118, 119, 120, 121, 122, 123, 124, 125, 126, 127, 128, 129, 130, 131, 132, 133, 134, 135, 136, 137, 138, 139, 140, 141, 142, 143, 144, 145, 146, 147, 148, 149, 150, 151, 152, 153, 154, 155, 156, 157, 158, 159, 160, 161, 162, 163, 164, 165, 166, 167, 168, 169, 170, 171, 172, 173, 174, 175, 176, 177, 178, 179, 180, 181, 182, 183, 184, 185, 186, 187, 188, 189, 190, 191, 192, 193, 194, 195, 196, 197, 198, 199, 200, 201, 202, 203, 204, 205, 206, 207, 208, 209, 210, 211, 212, 213, 214, 215, 216, 217, 218, 219, 220, 221, 222, 223, 224, 225, 226, 227, 228, 229, 230, 231, 232, 233, 234, 235, 236, 237, 238, 239, 240, 241, 242, 243, 244, 245, 246, 247, 248, 249, 250, 251, 252, 253, 254, 255, 256, 257, 258, 259, 260, 261, 262, 263, 264, 265, 266, 267, 268, 269, 270, 271, 272, 273, 274, 275, 276, 277, 278, 279, 280, 281, 282, 283, 284, 285, 286, 287, 288, 289, 290, 291, 292, 293, 294, 295, 296, 297, 298, 299, 300, 301, 302, 303, 304, 305, 306, 307, 308, 309, 310, 311, 312, 313, 314, 315, 316, 317, 318, 319, 320, 321, 322, 323, 324, 325, 326, 327, 328, 329, 330, 331, 332, 333, 334, 335, 336, 337, 338, 339, 340, 341, 342, 343, 344, 345, 346, 347, 365, 366, 367, 368, 369, 370, 371, 372, 373, 374, 375, 376, 377, 378, 379, 380, 381, 382, 383, 384, 385, 386, 387, 388, 389, 390, 391, 392, 393, 394, 395, 396, 397, 398, 399, 400, 401] (by decide +kernel) (by decide +kernel)) (goodIn_sub (fun _ h => List.mem_cons_of_mem _ (List.mem_append_left _ (List.mem_append_left _ (List.mem_append_right _ h)))) (by decide +kernel))) (goodIn_sub (fun _ h => List.mem_cons_of_mem _ (List.mem_append_left _ (List.mem_append_right _ h))) (by decide +kernel))) (goodIn_sub (fun _ h => List.mem_cons_of_mem _ (List.mem_append_right _ h)) (by decide +kernel))
set_option maxRecDepth 20000 in
theorem gL_isSubmitted_L_does : GoodIn wsL_isSubmitted (va_wsS RL 109 yL_does wsL_does) := goodIn_app (goodIn_of _ (by decide +kernel)) ggL_isSubmitted_L_does
set_option maxRecDepth 20000 in
theorem ggL_isSubmitted_X5_messages : GoodIn wsL_isSubmitted wsX5_messages := goodIn_r _ [351, 77, 95, 96, 97, 98, 99, 100, 372, 373, 374, 375, 397, 398, 399] (by decide +kernel) (by decide +kernel)
set_option maxRecDepth 20000 in
theorem gL_isSubmitted_X5_messages : GoodIn wsL_isSubmitted (wsV RL 94 RX5 yX5_messages wsX5_messages) := goodIn_app (goodIn_of _ (by decide +kernel)) ggL_isSubmitted_X5_messages
set_option maxRecDepth 20000 in
theorem ggL_isSubmitted_X5_state : GoodIn wsL_isSubmitted wsX5_state := goodIn_ca (goodIn_r _ [355, 215, 250, 251, 252, 11, 253, 18, 19, 77, 92, 95, 96, 97, 98, 99, 100, 101, 102, 103, 104, 105, 106, 107, 108, 109, 110, 111, 112, 113, 114, 115, 116, 117, 376, 377, 378, 379, 380, 381, 382, 383, 384, 385, 386, 387, 388, 389, 390, 391, 372, 373, 374, 375, 397, 398, 399] (by decide +kernel) (by decide +kernel)) (goodIn_sub (fun _ h => List.mem_cons_of_mem _ (List.mem_append_left _ (List.mem_append_left _ (List.mem_append_right _ h)))) (by decide +kernel))
set_option maxRecDepth 20000 in
theorem gL_isSubmitted_X5_state : GoodIn wsL_isSubmitted (wsV RL 58 RX5 yX5_state wsX5_state) := goodIn_app (goodIn_of _ (by decide +kernel)) ggL_isSubmitted_X5_state
set_option maxRecDepth 20000 in
theorem ggL_isSubmitted_X5_due : GoodIn wsL_isSubmitted wsX5_due := goodIn_ca (goodIn_ca (goodIn_r _ [359, 360, 246, 247, 248, 11, 249, 74, 75, 215, 250, 251, 252, 253, 18, 19, 77, 92, 95, 96, 97, 98, 99, 100, 101, 102, 103, 104, 105, 106, 107, 108, 109, 110, 111, 112, 113, 114, 115, 116, 117, 376, 377, 378, 379, 380, 381, 382, 383, 384, 385, 386, 387, 388, 389, 390, 391, 372, 373, 374, 375, 397, 398, 399] (by decide +kernel) (by decide +kernel)) (goodIn_sub (fun _ h => List.mem_cons_of_mem _ (List.mem_append_right _ h)) (by decide +kernel))) (goodIn_sub (fun _ h => List.mem_cons_of_mem _ (List.mem_append_left _ (List.mem_append_left _ (List.mem_append_right _ h)))) (by decide +kernel))
set_option maxRecDepth 20000 in
theorem gL_isSubmitted_X5_due : GoodIn wsL_isSubmitted (wsV RL 76 RX5 yX5_due wsX5_due) := goodIn_app (goodIn_of _ (by decide +kernel)) ggL_isSubmitted_X5_due
set_option maxRecDepth 20000 in
theorem ggL_isSubmitted_X5_attempts : GoodIn wsL_isSubmitted wsX5_attempts := goodIn_ca (goodIn_r _ [364, 295, 250, 251, 252, 11, 253, 18, 19, 77, 92, 95, 96, 97, 98, 99, 100, 101, 102, 103, 104, 105, 106, 107, 108, 109, 110, 111, 112, 113, 114, 115, 116, 117, 376, 377, 378, 379, 380, 381, 382, 383, 384, 385, 386, 387, 388, 389, 390, 391, 372, 373, 374, 375, 397, 398, 399] (by decide +kernel) (by decide +kernel)) (goodIn_sub (fun _ h => List.mem_cons_of_mem _ (List.mem_append_left _ (List.mem_append_left _ (List.mem_append_right _ h)))) (by decide +kernel))
set_option maxRecDepth 20000 in
theorem gL_isSubmitted_X5_attempts : GoodIn wsL_isSubmitted (wsV RL 73 RX5 yX5_attempts wsX5_attempts) := goodIn_app (goodIn_of _ (by decide +kernel)) ggL_isSubmitted_X5_attempts
theorem dL_isSubmitted_0 : decode cL_isSubmitted 0 = .ok (.iload 7, 2) := by decide +kernel
theorem dL_isSubmitted_2 : decode cL_isSubmitted 2 = .ok (.iconst 5, 1) := by decide +kernel
theorem dL_isSubmitted_3 : decode cL_isSubmitted 3 = .ok (.irem, 1) := by decide +kernel
theorem dL_isSubmitted_4 : decode cL_isSubmitted 4 = .ok (.istore 10, 2) := by decide +kernel
theorem dL_isSubmitted_6 : decode cL_isSubmitted 6 = .ok (.iload 8, 2) := by decide +kernel
theorem dL_isSubmitted_8 : decode cL_isSubmitted 8 = .ok (.bipush 7, 2) := by decide +kernel
theorem dL_isSubmitted_10 : decode cL_isSubmitted 10 = .ok (.irem, 1) := by decide +kernel
theorem dL_isSubmitted_11 : decode cL_isSubmitted 11 = .ok (.istore 11, 2) := by decide +kernel
theorem dL_isSubmitted_13 : decode cL_isSubmitted 13 = .ok (.iload 9, 2) := by decide +kernel
theorem dL_isSubmitted_15 : decode cL_isSubmitted 15 = .ok (.iconst 5, 1) := by decide +kernel
theorem dL_isSubmitted_16 : decode cL_isSubmitted 16 = .ok (.irem, 1) := by decide +kernel
theorem dL_isSubmitted_17 : decode cL_isSubmitted 17 = .ok (.istore 12, 2) := by decide +kernel
theorem dL_isSubmitted_19 : decode cL_isSubmitted 19 = .ok (.iload 7, 2) := by decide +kernel
theorem dL_isSubmitted_21 : decode cL_isSubmitted 21 = .ok (.bipush 40, 2) := by decide +kernel
theorem dL_isSubmitted_23 : decode cL_isSubmitted 23 = .ok (.irem, 1) := by decide +kernel
theorem dL_isSubmitted_24 : decode cL_isSubmitted 24 = .ok (.ifCond .ne 9, 3) := by decide +kernel
theorem dL_isSubmitted_27 : decode cL_isSubmitted 27 = .ok (.sipush 501, 3) := by decide +kernel
theorem dL_isSubmitted_30 : decode cL_isSubmitted 30 = .ok (.goto 13, 3) := by decide +kernel
theorem dL_isSubmitted_33 : decode cL_isSubmitted 33 = .ok (.iconst 1, 1) := by decide +kernel
theorem dL_isSubmitted_34 : decode cL_isSubmitted 34 = .ok (.iload 8, 2) := by decide +kernel
theorem dL_isSubmitted_36 : decode cL_isSubmitted 36 = .ok (.bipush 7, 2) := by decide +kernel
theorem dL_isSubmitted_38 : decode cL_isSubmitted 38 = .ok (.idiv, 1) := by decide +kernel
theorem dL_isSubmitted_39 : decode cL_isSubmitted 39 = .ok (.bipush 60, 2) := by decide +kernel
theorem dL_isSubmitted_41 : decode cL_isSubmitted 41 = .ok (.irem, 1) := by decide +kernel
theorem dL_isSubmitted_42 : decode cL_isSubmitted 42 = .ok (.iadd, 1) := by decide +kernel
theorem dL_isSubmitted_43 : decode cL_isSubmitted 43 = .ok (.istore 13, 2) := by decide +kernel
theorem dL_isSubmitted_45 : decode cL_isSubmitted 45 = .ok (.iload 10, 2) := by decide +kernel
theorem dL_isSubmitted_47 : decode cL_isSubmitted 47 = .ok (.iconst 4, 1) := by decide +kernel
theorem dL_isSubmitted_48 : decode cL_isSubmitted 48 = .ok (.if_icmp .ge 14, 3) := by decide +kernel
theorem dL_isSubmitted_51 : decode cL_isSubmitted 51 = .ok (.iload 11, 2) := by decide +kernel
theorem dL_isSubmitted_53 : decode cL_isSubmitted 53 = .ok (.bipush 6, 2) := by decide +kernel
theorem dL_isSubmitted_55 : decode cL_isSubmitted 55 = .ok (.if_icmp .ge 7, 3) := by decide +kernel
theorem dL_isSubmitted_58 : decode cL_isSubmitted 58 = .ok (.iconst 1, 1) := by decide +kernel
theorem dL_isSubmitted_59 : decode cL_isSubmitted 59 = .ok (.goto 4, 3) := by decide +kernel
theorem dL_isSubmitted_62 : decode cL_isSubmitted 62 = .ok (.iconst 0, 1) := by decide +kernel
theorem dL_isSubmitted_63 : decode cL_isSubmitted 63 = .ok (.istore 14, 2) := by decide +kernel
theorem dL_isSubmitted_65 : decode cL_isSubmitted 65 = .ok (.iload 12, 2) := by decide +kernel
theorem dL_isSubmitted_67 : decode cL_isSubmitted 67 = .ok (.iconst 4, 1) := by decide +kernel
