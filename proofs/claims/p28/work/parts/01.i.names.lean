set_option maxRecDepth 20000 in
theorem gq_isDone_0 : GoodIn wsL_law [.code yL_isDone cL_isDone 18 (some .boolean)] := goodIn_r _ [210] (by decide +kernel) (by decide +kernel)
set_option maxRecDepth 20000 in
theorem gq_isDone_1 : GoodIn wsL_law wsL_isDone_r1 := goodIn_r _ [211, 212, 61, 213, 214, 215, 216, 217, 218, 219, 220, 80, 221, 81, 222, 223, 224, 2, 225, 226, 197, 198, 199, 200] (by decide +kernel) (by decide +kernel)
set_option maxRecDepth 20000 in
theorem gq_isDone_2 : GoodIn wsL_law wsL_isDone_r2 := goodIn_r _ [91, 92, 11, 227, 228, 229, 230, 231, 232, 233, 234, 3, 235, 236, 237, 238, 239, 240, 241, 242, 243, 244, 245, 246] (by decide +kernel) (by decide +kernel)
set_option maxRecDepth 20000 in
theorem gq_isDone_3 : GoodIn wsL_law wsL_isDone_r3 := goodIn_r _ [247, 248, 249, 250, 251, 252, 253, 254, 255, 256, 257, 258, 259, 260, 261, 262, 263, 264, 265, 266, 267, 268, 269, 270] (by decide +kernel) (by decide +kernel)
set_option maxRecDepth 20000 in
theorem gq_isDone_4 : GoodIn wsL_law wsL_isDone_r4 := goodIn_r _ [271, 272, 273, 274, 275, 276, 277, 278, 150, 151, 176, 21, 279, 280, 188, 76, 170, 157, 158, 159, 160, 15, 281, 282] (by decide +kernel) (by decide +kernel)
set_option maxRecDepth 20000 in
theorem gq_isDone_5 : GoodIn wsL_law wsL_isDone_r5 := goodIn_r _ [283, 284, 93, 285, 286, 67, 68, 69, 20, 70, 71, 94, 95, 96, 97, 98, 99, 100, 101, 102, 103, 104, 105, 106] (by decide +kernel) (by decide +kernel)
set_option maxRecDepth 20000 in
theorem gq_isDone_6 : GoodIn wsL_law wsL_isDone_r6 := goodIn_r _ [107, 108, 109, 37, 287, 288, 289, 290, 291, 292, 293, 294, 295, 296, 297, 298, 299, 300, 301, 8, 9, 302, 303, 304] (by decide +kernel) (by decide +kernel)
set_option maxRecDepth 20000 in
theorem gq_isDone_7 : GoodIn wsL_law wsL_isDone_r7 := goodIn_r _ [305, 190, 306, 307, 308, 309, 310, 311, 312, 313, 314, 315, 191, 316, 317, 318, 119, 319, 320, 321, 322, 323, 121, 122] (by decide +kernel) (by decide +kernel)
set_option maxRecDepth 20000 in
theorem gq_isDone_8 : GoodIn wsL_law wsL_isDone_r8 := goodIn_r _ [324, 325, 326, 327, 328, 329, 330, 331, 332, 333, 334, 335, 336, 337, 338, 339, 340, 341, 342, 343, 344, 345, 36, 346] (by decide +kernel) (by decide +kernel)
set_option maxRecDepth 20000 in
theorem gq_isDone_9 : GoodIn wsL_law wsL_isDone_r9 := goodIn_r _ [347, 348, 349, 350, 351, 352, 353, 354, 355, 356, 357, 358, 359, 360, 361, 362, 363, 364, 365, 366, 367, 368, 369, 370] (by decide +kernel) (by decide +kernel)
set_option maxRecDepth 20000 in
theorem gq_isDone_10 : GoodIn wsL_law wsL_isDone_r10 := goodIn_r _ [371, 372, 373, 374, 375, 86, 135, 376, 377, 378, 379, 380, 381, 382, 383, 384, 385, 17, 386, 56, 183, 184, 387, 388] (by decide +kernel) (by decide +kernel)
set_option maxRecDepth 20000 in
theorem gq_isDone_11 : GoodIn wsL_law wsL_isDone_r11 := goodIn_r _ [389, 390, 391, 392, 393, 394, 395, 396, 397, 398, 399, 400, 146, 147, 148, 149, 87, 88, 89, 90, 401, 402, 403, 404] (by decide +kernel) (by decide +kernel)
set_option maxRecDepth 20000 in
theorem gq_isDone_12 : GoodIn wsL_law wsL_isDone_r12 := goodIn_r _ [405, 406, 407, 408, 409, 54, 181, 182, 410, 411, 412, 413, 414, 415, 416, 417, 418, 419, 156, 420, 421, 422, 423, 424] (by decide +kernel) (by decide +kernel)
set_option maxRecDepth 20000 in
theorem gq_isDone_13 : GoodIn wsL_law wsL_isDone_r13 := goodIn_r _ [425, 426, 427, 428, 429, 430, 431, 432, 433, 434, 435, 436, 437, 140, 165, 438, 177, 178, 179, 180, 185, 186, 187, 189] (by decide +kernel) (by decide +kernel)
set_option maxRecDepth 20000 in
theorem gq_isDone_14 : GoodIn wsL_law wsL_isDone_r14 := goodIn_r _ [439, 440, 441, 442, 51, 443, 444, 53, 52, 445, 446, 447, 448, 449, 450, 451, 452, 453, 454, 455, 456, 457, 458, 459] (by decide +kernel) (by decide +kernel)
set_option maxRecDepth 20000 in
theorem gq_isDone_15 : GoodIn wsL_law wsL_isDone_r15 := goodIn_r _ [460, 461, 462, 463, 464, 465, 466, 467, 468, 469, 470, 471, 196, 472, 473, 474, 475, 476, 477, 478, 479, 63, 64, 65] (by decide +kernel) (by decide +kernel)
set_option maxRecDepth 20000 in
theorem gq_isDone_16 : GoodIn wsL_law wsL_isDone_r16 := goodIn_r _ [66, 82, 83, 84, 85, 141, 142, 143, 144, 145, 136, 137, 138, 139, 480, 481, 482, 152, 153, 154, 155, 483, 484, 485] (by decide +kernel) (by decide +kernel)
set_option maxRecDepth 20000 in
theorem gq_isDone_17 : GoodIn wsL_law wsL_isDone_r17 := goodIn_r _ [131, 132, 133, 134, 486, 487, 488] (by decide +kernel) (by decide +kernel)
set_option maxRecDepth 20000 in
theorem gq_isDone_wsX00 : GoodIn wsL_law wsX00 := goodIn_r _ [496, 497, 498, 499, 500, 501, 502] (by decide +kernel) (by decide +kernel)
set_option maxRecDepth 20000 in
theorem gq_isDone_wsX50 : GoodIn wsL_law wsX50 := goodIn_r _ [492, 493, 494, 495] (by decide +kernel) (by decide +kernel)
set_option maxRecDepth 20000 in
theorem gq_isDone_wsX30 : GoodIn wsL_law wsX30 := goodIn_r _ [511, 512, 513, 514, 515, 516, 517, 518, 519, 520, 521, 522, 523, 524, 525, 526] (by decide +kernel) (by decide +kernel)
set_option maxRecDepth 20000 in
theorem gq_isDone_wsX40 : GoodIn wsL_law wsX40 := goodIn_r _ [503, 504, 505, 506, 507] (by decide +kernel) (by decide +kernel)
set_option maxRecDepth 20000 in
theorem gq_isDone_wsJx4a65c0 : GoodIn wsL_law wsJx4a65c0 := goodIn_r _ [508, 509, 510] (by decide +kernel) (by decide +kernel)
set_option maxRecDepth 20000 in
theorem gq_isDone_wsX20 : GoodIn wsL_law wsX20 := goodIn_r _ [527, 528] (by decide +kernel) (by decide +kernel)
set_option maxRecDepth 20000 in
theorem ggL_law_L_isDone : GoodIn wsL_law wsL_isDone := goodIn_ca (goodIn_ca (goodIn_ca (goodIn_app (a := [.code yL_isDone cL_isDone 18 (some .boolean)]) gq_isDone_0 (goodIn_app (goodIn_app (goodIn_app (goodIn_app (goodIn_app (goodIn_app (goodIn_app gq_isDone_1 (goodIn_app gq_isDone_2 (goodIn_app gq_isDone_3 (goodIn_app gq_isDone_4 (goodIn_app gq_isDone_5 (goodIn_app gq_isDone_6 (goodIn_app gq_isDone_7 (goodIn_app gq_isDone_8 (goodIn_app gq_isDone_9 (goodIn_app gq_isDone_10 (goodIn_app gq_isDone_11 (goodIn_app gq_isDone_12 (goodIn_app gq_isDone_13 (goodIn_app gq_isDone_14 (goodIn_app gq_isDone_15 (goodIn_app gq_isDone_16 gq_isDone_17)))))))))))))))) gq_isDone_wsX00) gq_isDone_wsX50) gq_isDone_wsX30) gq_isDone_wsX40) gq_isDone_wsJx4a65c0) gq_isDone_wsX20)) (goodIn_sub (fun _ h => List.mem_append_left _ (List.mem_append_left _ (List.mem_append_right _ h))) (by decide +kernel))) (goodIn_sub (fun _ h => List.mem_append_right _ h) (by decide +kernel))) (goodIn_sub (fun _ h => List.mem_append_left _ (List.mem_append_right _ h)) (by decide +kernel))
