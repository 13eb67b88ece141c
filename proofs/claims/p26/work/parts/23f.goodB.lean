set_option maxRecDepth 20000 in
theorem ggc_law_scans_h : GoodIn wsL_law [.code yL_scans cL_scans 4 (some .boolean)] := goodIn_r _ [489] rfl (by decide +kernel)
set_option maxRecDepth 20000 in
theorem ggc_law_scans_0 : GoodIn wsL_law (wsL_scans_r1) := goodIn_r _ [0, 1, 2, 490, 491, 492, 493, 494, 10, 11, 12, 13, 14, 15, 16, 17, 18, 19, 20, 21, 22, 23, 24, 25] rfl (by decide +kernel)
set_option maxRecDepth 20000 in
theorem ggc_law_scans_1 : GoodIn wsL_law (wsL_scans_r2) := goodIn_r _ [26, 27, 28, 29, 30, 31, 32, 33, 34, 35, 36, 37, 38, 39, 40, 41, 42, 43, 44, 45, 46, 47, 48, 49] rfl (by decide +kernel)
set_option maxRecDepth 20000 in
theorem ggc_law_scans_2 : GoodIn wsL_law (wsL_scans_r3) := goodIn_r _ [50, 51, 52, 53, 54, 55, 56, 57, 58, 59, 60, 61, 62, 63, 64, 65, 66, 67, 68, 69, 70, 71, 72, 73] rfl (by decide +kernel)
set_option maxRecDepth 20000 in
theorem ggc_law_scans_3 : GoodIn wsL_law (wsL_scans_r4) := goodIn_r _ [74, 75, 76, 77, 78, 79, 80, 81, 82, 83, 84, 85, 86, 87, 88, 89, 90, 91, 92, 93, 94, 95, 96, 97] rfl (by decide +kernel)
set_option maxRecDepth 20000 in
theorem ggc_law_scans_4 : GoodIn wsL_law (wsL_scans_r5) := goodIn_r _ [98, 99, 100, 101, 102, 103, 104, 105, 106, 107, 108, 109, 110, 111, 112, 113, 441, 442, 443, 444, 157, 158, 159, 160] rfl (by decide +kernel)
set_option maxRecDepth 20000 in
theorem ggc_law_scans_5 : GoodIn wsL_law (wsL_scans_r6) := goodIn_r _ [161, 162, 163, 164, 122, 123, 124, 125, 126, 127, 128, 129, 130, 131, 132, 133, 134, 135, 136, 137, 138, 139, 140, 141] rfl (by decide +kernel)
set_option maxRecDepth 20000 in
theorem ggc_law_scans_6 : GoodIn wsL_law (wsL_scans_r7) := goodIn_r _ [142, 143, 144, 145, 146, 147, 148, 149, 150, 151, 152, 358, 359, 360, 361, 445, 446, 447, 448, 449, 342, 343, 344, 345] rfl (by decide +kernel)
set_option maxRecDepth 20000 in
theorem ggc_law_scans_7 : GoodIn wsL_law (wsL_scans_r8) := goodIn_r _ [450, 351, 352, 353, 289, 264, 265, 266, 363, 364, 365, 366, 367, 211, 212, 213, 368, 186, 187, 369, 370, 371, 372, 373] rfl (by decide +kernel)
set_option maxRecDepth 20000 in
theorem ggc_law_scans_8 : GoodIn wsL_law (wsL_scans_r9) := goodIn_r _ [286, 287, 288, 257, 258, 259, 260, 261, 262, 263, 267, 268, 269, 270, 271, 272, 273, 274, 275, 276, 277, 278, 279, 280] rfl (by decide +kernel)
set_option maxRecDepth 20000 in
theorem ggc_law_scans_9 : GoodIn wsL_law (wsL_scans_r10) := goodIn_r _ [281, 282, 283, 284, 285, 290, 291, 292, 293, 294, 374, 375, 376, 377, 378, 379, 380, 381, 382, 205, 206, 207, 208, 209] rfl (by decide +kernel)
set_option maxRecDepth 20000 in
theorem ggc_law_scans_10 : GoodIn wsL_law (wsL_scans_r11) := goodIn_r _ [210, 219, 220, 221, 222, 170, 171, 172, 173, 165, 223, 224, 225, 226, 192, 193, 194, 195, 227, 175, 176, 177, 178, 179] rfl (by decide +kernel)
set_option maxRecDepth 20000 in
theorem ggc_law_scans_11 : GoodIn wsL_law (wsL_scans_r12) := goodIn_r _ [180, 181, 182, 183, 184, 185, 188, 189, 190, 191, 228, 197, 198, 199, 200, 201, 202, 203, 204, 214, 215, 216, 217, 218] rfl (by decide +kernel)
set_option maxRecDepth 20000 in
theorem ggc_law_scans_12 : GoodIn wsL_law (wsL_scans_r13) := goodIn_r _ [229, 230, 231, 232, 233, 234, 235, 236, 237, 238, 239, 240, 241, 242, 412, 413, 414, 415, 416, 417, 418, 419, 420, 421] rfl (by decide +kernel)
set_option maxRecDepth 20000 in
theorem ggc_law_scans_13 : GoodIn wsL_law (wsL_scans_r14) := goodIn_r _ [422, 423, 424, 425, 426, 427, 428, 429, 430, 431, 432, 433, 400, 401, 402, 434, 435, 436, 437, 404, 405, 6, 406, 407] rfl (by decide +kernel)
set_option maxRecDepth 20000 in
theorem ggc_law_scans_14 : GoodIn wsL_law (wsL_scans_r15) := goodIn_r _ [408, 409, 410, 411, 390, 391, 392, 393, 394, 395, 396, 397, 398, 399, 403, 247, 248, 249, 250, 251, 252, 438, 439, 440] rfl (by decide +kernel)
set_option maxRecDepth 20000 in
theorem ggc_law_scans_15 : GoodIn wsL_law (wsL_scans_r16) := goodIn_r _ [451, 452, 453, 454, 455, 456, 457, 458, 459, 460, 461, 462, 463, 464, 465, 466, 467, 468, 469, 470, 471, 472, 387, 388] rfl (by decide +kernel)
set_option maxRecDepth 20000 in
theorem ggc_law_scans_16 : GoodIn wsL_law (wsL_scans_r17) := goodIn_r _ [389, 473, 474, 475, 476, 477, 299, 300, 301, 302, 303, 304, 383, 384, 385, 386, 253, 254, 255, 256, 295, 296, 297, 298] rfl (by decide +kernel)
set_option maxRecDepth 20000 in
theorem ggc_law_scans_17 : GoodIn wsL_law (wsL_scans_r18) := goodIn_r _ [305, 306, 307, 308, 309, 310, 311, 312, 313, 314, 315, 316, 317, 318, 319, 320, 321, 322, 323, 324, 325, 326, 327, 328] rfl (by decide +kernel)
set_option maxRecDepth 20000 in
theorem ggc_law_scans_18 : GoodIn wsL_law (wsL_scans_r19) := goodIn_r _ [329, 330, 331, 332, 333, 334, 335, 336, 337, 338, 339, 340, 341, 346, 347, 348, 349, 350, 354, 355, 356, 357, 362, 478] rfl (by decide +kernel)
set_option maxRecDepth 20000 in
theorem ggc_law_scans_19 : GoodIn wsL_law (wsL_scans_r20) := goodIn_r _ [479, 480, 481, 482, 495, 496, 497, 498, 166, 167, 168, 169, 174, 196] rfl (by decide +kernel)
set_option maxRecDepth 20000 in
theorem ggc_law_scans_20 : GoodIn wsL_law (wsX70) := goodIn_r _ [527, 528, 529, 530, 531, 532, 533] rfl (by decide +kernel)
set_option maxRecDepth 20000 in
theorem ggc_law_scans_21 : GoodIn wsL_law (wsX60) := goodIn_r _ [534, 535, 536, 537, 538, 539, 540, 541, 542, 543] rfl (by decide +kernel)
set_option maxRecDepth 20000 in
theorem ggc_law_scans_22 : GoodIn wsL_law (wsX20) := goodIn_r _ [544, 545] rfl (by decide +kernel)
set_option maxRecDepth 20000 in
theorem ggc_law_scans_23 : GoodIn wsL_law (wsX10) := goodIn_r _ [546, 547] rfl (by decide +kernel)
set_option maxRecDepth 20000 in
theorem ggc_law_scans_24 : GoodIn wsL_law (wsX40) := goodIn_r _ [548, 549, 550, 551] rfl (by decide +kernel)
set_option maxRecDepth 20000 in
theorem ggc_law_scans_25 : GoodIn wsL_law (wsX00) := goodIn_r _ [552, 553, 554, 555] rfl (by decide +kernel)
set_option maxRecDepth 20000 in
theorem ggc_law_scans_26 : GoodIn wsL_law (wsX50) := goodIn_r _ [556, 557, 558, 559, 560] rfl (by decide +kernel)
set_option maxRecDepth 20000 in
theorem ggc_law_scans_27 : GoodIn wsL_law (wsX30) := goodIn_r _ [561] rfl (by decide +kernel)
theorem ggL_law_L_scans : GoodIn wsL_law wsL_scans := goodIn_app (a := [.code yL_scans cL_scans 4 (some .boolean)]) ggc_law_scans_h (goodIn_app (goodIn_app (goodIn_app (goodIn_app (goodIn_app (goodIn_app (goodIn_app (goodIn_app (goodIn_app ggc_law_scans_0 (goodIn_app ggc_law_scans_1 (goodIn_app ggc_law_scans_2 (goodIn_app ggc_law_scans_3 (goodIn_app ggc_law_scans_4 (goodIn_app ggc_law_scans_5 (goodIn_app ggc_law_scans_6 (goodIn_app ggc_law_scans_7 (goodIn_app ggc_law_scans_8 (goodIn_app ggc_law_scans_9 (goodIn_app ggc_law_scans_10 (goodIn_app ggc_law_scans_11 (goodIn_app ggc_law_scans_12 (goodIn_app ggc_law_scans_13 (goodIn_app ggc_law_scans_14 (goodIn_app ggc_law_scans_15 (goodIn_app ggc_law_scans_16 (goodIn_app ggc_law_scans_17 (goodIn_app ggc_law_scans_18 ggc_law_scans_19))))))))))))))))))) ggc_law_scans_20) ggc_law_scans_21) ggc_law_scans_22) ggc_law_scans_23) ggc_law_scans_24) ggc_law_scans_25) ggc_law_scans_26) ggc_law_scans_27)
set_option maxRecDepth 20000 in
theorem gL_law_L_scans : GoodIn wsL_law (va_wsS RL 159 yL_scans wsL_scans) := goodIn_app (goodIn_of _ (by decide +kernel)) ggL_law_L_scans
set_option maxRecDepth 20000 in
theorem ggc_law_texts_h : GoodIn wsL_law [.code yL_texts cL_texts 2 (some .boolean)] := goodIn_r _ [501] rfl (by decide +kernel)
set_option maxRecDepth 20000 in
theorem ggc_law_texts_0 : GoodIn wsL_law (wsL_texts_r1) := goodIn_r _ [502, 503, 504, 505, 506, 507, 508, 509, 510, 511, 512, 513, 514, 515, 0, 1, 2, 516, 517, 6, 518, 10, 11, 12] rfl (by decide +kernel)
set_option maxRecDepth 20000 in
theorem ggc_law_texts_1 : GoodIn wsL_law (wsL_texts_r2) := goodIn_r _ [13, 14, 15, 16, 17, 18, 19, 20, 21, 22, 23, 24, 25, 26, 27, 28, 29, 30, 31, 32, 33, 34, 35, 36] rfl (by decide +kernel)
set_option maxRecDepth 20000 in
theorem ggc_law_texts_2 : GoodIn wsL_law (wsL_texts_r3) := goodIn_r _ [37, 38, 39, 40, 41, 42, 43, 44, 45, 46, 47, 48, 49, 50, 51, 52, 53, 54, 55, 56, 57, 58, 59, 60] rfl (by decide +kernel)
set_option maxRecDepth 20000 in
theorem ggc_law_texts_3 : GoodIn wsL_law (wsL_texts_r4) := goodIn_r _ [61, 62, 63, 64, 65, 66, 67, 68, 69, 70, 71, 72, 73, 74, 75, 76, 77, 78, 79, 80, 81, 82, 83, 84] rfl (by decide +kernel)
set_option maxRecDepth 20000 in
theorem ggc_law_texts_4 : GoodIn wsL_law (wsL_texts_r5) := goodIn_r _ [85, 86, 87, 88, 89, 90, 91, 92, 93, 94, 95, 96, 97, 98, 99, 100, 101, 102, 103, 104, 105, 106, 107, 108] rfl (by decide +kernel)
set_option maxRecDepth 20000 in
theorem ggc_law_texts_5 : GoodIn wsL_law (wsL_texts_r6) := goodIn_r _ [109, 110, 111, 112, 113, 305, 306, 307, 308, 309, 310, 311, 312, 313, 314, 315, 316, 317, 318, 319, 320, 321, 322, 323] rfl (by decide +kernel)
set_option maxRecDepth 20000 in
theorem ggc_law_texts_6 : GoodIn wsL_law (wsL_texts_r7) := goodIn_r _ [324, 325, 326, 327, 328, 329, 330, 331, 332, 333, 334, 335, 336, 337, 338, 339, 340, 341, 342, 343, 344, 345, 346, 347] rfl (by decide +kernel)
set_option maxRecDepth 20000 in
theorem ggc_law_texts_7 : GoodIn wsL_law (wsL_texts_r8) := goodIn_r _ [348, 349, 350, 351, 352, 353, 289, 264, 265, 266, 354, 355, 356, 357, 157, 158, 159, 160, 161, 162, 163, 164, 122, 123] rfl (by decide +kernel)
set_option maxRecDepth 20000 in
theorem ggc_law_texts_8 : GoodIn wsL_law (wsL_texts_r9) := goodIn_r _ [124, 125, 126, 127, 128, 129, 130, 131, 132, 133, 134, 135, 136, 137, 138, 139, 140, 141, 142, 143, 144, 145, 146, 147] rfl (by decide +kernel)
set_option maxRecDepth 20000 in
theorem ggc_law_texts_9 : GoodIn wsL_law (wsL_texts_r10) := goodIn_r _ [148, 149, 150, 151, 152, 358, 359, 360, 361, 362, 412, 413, 414, 415, 416, 417, 418, 419, 257, 258, 259, 260, 261, 262] rfl (by decide +kernel)
set_option maxRecDepth 20000 in
theorem ggc_law_texts_10 : GoodIn wsL_law (wsL_texts_r11) := goodIn_r _ [263, 267, 268, 269, 270, 271, 272, 273, 274, 275, 276, 277, 278, 279, 211, 212, 213, 280, 281, 282, 283, 284, 285, 286] rfl (by decide +kernel)
set_option maxRecDepth 20000 in
theorem ggc_law_texts_11 : GoodIn wsL_law (wsL_texts_r12) := goodIn_r _ [287, 288, 290, 291, 292, 293, 294, 420, 421, 422, 423, 424, 425, 426, 427, 428, 379, 380, 381, 429, 430, 431, 432, 433] rfl (by decide +kernel)
set_option maxRecDepth 20000 in
theorem ggc_law_texts_12 : GoodIn wsL_law (wsL_texts_r13) := goodIn_r _ [400, 401, 402, 434, 435, 436, 437, 367, 495, 496, 497, 498] rfl (by decide +kernel)
set_option maxRecDepth 20000 in
theorem ggc_law_texts_13 : GoodIn wsL_law (wsX70) := goodIn_r _ [527, 528, 529, 530, 531, 532, 533] rfl (by decide +kernel)
set_option maxRecDepth 20000 in
theorem ggc_law_texts_14 : GoodIn wsL_law (wsX60) := goodIn_r _ [534, 535, 536, 537, 538, 539, 540, 541, 542, 543] rfl (by decide +kernel)
set_option maxRecDepth 20000 in
theorem ggc_law_texts_15 : GoodIn wsL_law (wsX20) := goodIn_r _ [544, 545] rfl (by decide +kernel)
set_option maxRecDepth 20000 in
theorem ggc_law_texts_16 : GoodIn wsL_law (wsX10) := goodIn_r _ [546, 547] rfl (by decide +kernel)
set_option maxRecDepth 20000 in
theorem ggc_law_texts_17 : GoodIn wsL_law (wsX40) := goodIn_r _ [548, 549, 550, 551] rfl (by decide +kernel)
set_option maxRecDepth 20000 in
theorem ggc_law_texts_18 : GoodIn wsL_law (wsX00) := goodIn_r _ [552, 553, 554, 555] rfl (by decide +kernel)
set_option maxRecDepth 20000 in
theorem ggc_law_texts_19 : GoodIn wsL_law (wsX50) := goodIn_r _ [556, 557, 558, 559, 560] rfl (by decide +kernel)
set_option maxRecDepth 20000 in
theorem ggc_law_texts_20 : GoodIn wsL_law (wsX30) := goodIn_r _ [561] rfl (by decide +kernel)
theorem ggL_law_L_texts : GoodIn wsL_law wsL_texts := goodIn_app (a := [.code yL_texts cL_texts 2 (some .boolean)]) ggc_law_texts_h (goodIn_app (goodIn_app (goodIn_app (goodIn_app (goodIn_app (goodIn_app (goodIn_app (goodIn_app (goodIn_app ggc_law_texts_0 (goodIn_app ggc_law_texts_1 (goodIn_app ggc_law_texts_2 (goodIn_app ggc_law_texts_3 (goodIn_app ggc_law_texts_4 (goodIn_app ggc_law_texts_5 (goodIn_app ggc_law_texts_6 (goodIn_app ggc_law_texts_7 (goodIn_app ggc_law_texts_8 (goodIn_app ggc_law_texts_9 (goodIn_app ggc_law_texts_10 (goodIn_app ggc_law_texts_11 ggc_law_texts_12)))))))))))) ggc_law_texts_13) ggc_law_texts_14) ggc_law_texts_15) ggc_law_texts_16) ggc_law_texts_17) ggc_law_texts_18) ggc_law_texts_19) ggc_law_texts_20)
set_option maxRecDepth 20000 in
theorem gL_law_L_texts : GoodIn wsL_law (va_wsS RL 162 yL_texts wsL_texts) := goodIn_app (goodIn_of _ (by decide +kernel)) ggL_law_L_texts
set_option maxRecDepth 20000 in
theorem ggc_law_drawn_h : GoodIn wsL_law [.code yL_drawn cL_drawn 2 (some .int)] := goodIn_r _ [521] rfl (by decide +kernel)
set_option maxRecDepth 20000 in
theorem ggc_law_drawn_0 : GoodIn wsL_law ([.constant RL 8 (2654435)]) := goodIn_r _ [522] rfl (by decide +kernel)
theorem ggL_law_L_drawn : GoodIn wsL_law wsL_drawn := goodIn_app (a := [.code yL_drawn cL_drawn 2 (some .int)]) ggc_law_drawn_h ggc_law_drawn_0
set_option maxRecDepth 20000 in
theorem gL_law_L_drawn : GoodIn wsL_law (va_wsS RL 165 yL_drawn wsL_drawn) := goodIn_app (goodIn_of _ (by decide +kernel)) ggL_law_L_drawn
set_option maxRecDepth 20000 in
theorem ggc_law_part_h : GoodIn wsL_law [.code yL_part cL_part 2 (some .int)] := goodIn_r _ [525] rfl (by decide +kernel)
set_option maxRecDepth 20000 in
theorem ggc_law_part_0 : GoodIn wsL_law ([.constant RL 7 (2147483647)]) := goodIn_r _ [526] rfl (by decide +kernel)
theorem ggL_law_L_part : GoodIn wsL_law wsL_part := goodIn_app (a := [.code yL_part cL_part 2 (some .int)]) ggc_law_part_h ggc_law_part_0
set_option maxRecDepth 20000 in
theorem gL_law_L_part : GoodIn wsL_law (va_wsS RL 169 yL_part wsL_part) := goodIn_app (goodIn_of _ (by decide +kernel)) ggL_law_L_part
set_option maxRecDepth 20000 in
theorem ggc_law_seen_h : GoodIn wsL_law [.code yL_seen cL_seen 4 (some .long)] := goodIn_r _ [409] rfl (by decide +kernel)
set_option maxRecDepth 20000 in
theorem ggc_law_seen_0 : GoodIn wsL_law (wsL_seen_r1) := goodIn_r _ [410, 411, 412, 413, 414, 2, 415, 19, 25, 29, 416, 417, 418, 419, 33, 257, 258, 259, 32, 260, 261, 262, 112, 111] rfl (by decide +kernel)
set_option maxRecDepth 20000 in
theorem ggc_law_seen_1 : GoodIn wsL_law (wsL_seen_r2) := goodIn_r _ [263, 264, 265, 41, 266, 60, 267, 268, 269, 49, 270, 70, 271, 272, 273, 274, 275, 276, 277, 278, 279, 211, 212, 213] rfl (by decide +kernel)
set_option maxRecDepth 20000 in
theorem ggc_law_seen_2 : GoodIn wsL_law (wsL_seen_r3) := goodIn_r _ [87, 88, 89, 90, 280, 281, 282, 45, 283, 78, 284, 285, 286, 287, 288, 289, 290, 84, 85, 86, 291, 292, 293, 294] rfl (by decide +kernel)
set_option maxRecDepth 20000 in
theorem ggc_law_seen_3 : GoodIn wsL_law (wsL_seen_r4) := goodIn_r _ [420, 421, 422, 423, 424, 425, 426, 427, 428, 379, 380, 381, 429, 430, 431, 432, 433, 400, 401, 402, 434, 435, 436, 437] rfl (by decide +kernel)
set_option maxRecDepth 20000 in
theorem ggc_law_seen_4 : GoodIn wsL_law (wsL_seen_r5) := goodIn_r _ [367, 363, 364, 365, 366, 368, 186, 187, 369, 370, 371, 372, 373, 374, 375, 376, 377, 80, 76, 378, 382, 205, 206, 18] rfl (by decide +kernel)
set_option maxRecDepth 20000 in
theorem ggc_law_seen_5 : GoodIn wsL_law (wsL_seen_r6) := goodIn_r _ [207, 42, 50, 208, 209, 210, 390, 391, 392, 393, 394, 395, 396, 397, 398, 399, 403, 247, 248, 249, 250, 251, 193, 194] rfl (by decide +kernel)
set_option maxRecDepth 20000 in
theorem ggc_law_seen_6 : GoodIn wsL_law (wsL_seen_r7) := goodIn_r _ [195, 126, 252, 234, 235, 236] rfl (by decide +kernel)
set_option maxRecDepth 20000 in
theorem ggc_law_seen_7 : GoodIn wsL_law (wsX70) := goodIn_r _ [527, 528, 529, 530, 531, 532, 533] rfl (by decide +kernel)
set_option maxRecDepth 20000 in
theorem ggc_law_seen_8 : GoodIn wsL_law (wsX60) := goodIn_r _ [534, 535, 536, 537, 538, 539, 540, 541, 542, 543] rfl (by decide +kernel)
set_option maxRecDepth 20000 in
theorem ggc_law_seen_9 : GoodIn wsL_law (wsX00) := goodIn_r _ [552, 553, 554, 555] rfl (by decide +kernel)
set_option maxRecDepth 20000 in
theorem ggc_law_seen_10 : GoodIn wsL_law (wsX50) := goodIn_r _ [556, 557, 558, 559, 560] rfl (by decide +kernel)
set_option maxRecDepth 20000 in
theorem ggc_law_seen_11 : GoodIn wsL_law (wsX20) := goodIn_r _ [544, 545] rfl (by decide +kernel)
set_option maxRecDepth 20000 in
theorem ggc_law_seen_12 : GoodIn wsL_law (wsX10) := goodIn_r _ [546, 547] rfl (by decide +kernel)
set_option maxRecDepth 20000 in
theorem ggc_law_seen_13 : GoodIn wsL_law (wsX40) := goodIn_r _ [548, 549, 550, 551] rfl (by decide +kernel)
set_option maxRecDepth 20000 in
theorem ggc_law_seen_14 : GoodIn wsL_law (wsX30) := goodIn_r _ [561] rfl (by decide +kernel)
theorem ggL_law_L_seen : GoodIn wsL_law wsL_seen := goodIn_app (a := [.code yL_seen cL_seen 4 (some .long)]) ggc_law_seen_h (goodIn_app (goodIn_app (goodIn_app (goodIn_app (goodIn_app (goodIn_app (goodIn_app (goodIn_app (goodIn_app ggc_law_seen_0 (goodIn_app ggc_law_seen_1 (goodIn_app ggc_law_seen_2 (goodIn_app ggc_law_seen_3 (goodIn_app ggc_law_seen_4 (goodIn_app ggc_law_seen_5 ggc_law_seen_6)))))) ggc_law_seen_7) ggc_law_seen_8) ggc_law_seen_9) ggc_law_seen_10) ggc_law_seen_11) ggc_law_seen_12) ggc_law_seen_13) ggc_law_seen_14)
set_option maxRecDepth 20000 in
theorem gL_law_L_seen : GoodIn wsL_law (va_wsS RL 62 yL_seen wsL_seen) := goodIn_app (goodIn_of _ (by decide +kernel)) ggL_law_L_seen
set_option maxRecDepth 20000 in
theorem ggc_law_refused_h : GoodIn wsL_law [.code yL_refused cL_refused 4 (some .boolean)] := goodIn_r _ [406] rfl (by decide +kernel)
set_option maxRecDepth 20000 in
theorem ggc_law_refused_0 : GoodIn wsL_law (wsL_refused_r1) := goodIn_r _ [407, 408, 6, 409, 410, 411, 412, 413, 414, 2, 415, 19, 25, 29, 416, 417, 418, 419, 33, 257, 258, 259, 32, 260] rfl (by decide +kernel)
set_option maxRecDepth 20000 in
theorem ggc_law_refused_1 : GoodIn wsL_law (wsL_refused_r2) := goodIn_r _ [261, 262, 112, 111, 263, 264, 265, 41, 266, 60, 267, 268, 269, 49, 270, 70, 271, 272, 273, 274, 275, 276, 277, 278] rfl (by decide +kernel)
set_option maxRecDepth 20000 in
theorem ggc_law_refused_2 : GoodIn wsL_law (wsL_refused_r3) := goodIn_r _ [279, 211, 212, 213, 87, 88, 89, 90, 280, 281, 282, 45, 283, 78, 284, 285, 286, 287, 288, 289, 290, 84, 85, 86] rfl (by decide +kernel)
set_option maxRecDepth 20000 in
theorem ggc_law_refused_3 : GoodIn wsL_law (wsL_refused_r4) := goodIn_r _ [291, 292, 293, 294, 420, 421, 422, 423, 424, 425, 426, 427, 428, 379, 380, 381, 429, 430, 431, 432, 433, 400, 401, 402] rfl (by decide +kernel)
set_option maxRecDepth 20000 in
theorem ggc_law_refused_4 : GoodIn wsL_law (wsL_refused_r5) := goodIn_r _ [434, 435, 436, 437, 367, 363, 364, 365, 366, 368, 186, 187, 369, 370, 371, 372, 373, 374, 375, 376, 377, 80, 76, 378] rfl (by decide +kernel)
set_option maxRecDepth 20000 in
theorem ggc_law_refused_5 : GoodIn wsL_law (wsL_refused_r6) := goodIn_r _ [382, 205, 206, 18, 207, 42, 50, 208, 209, 210, 390, 391, 392, 393, 394, 395, 396, 397, 398, 399, 403, 247, 248, 249] rfl (by decide +kernel)
set_option maxRecDepth 20000 in
theorem ggc_law_refused_6 : GoodIn wsL_law (wsL_refused_r7) := goodIn_r _ [250, 251, 193, 194, 195, 126, 252, 234, 235, 236, 438, 439, 440, 441, 442, 443, 444, 157, 158, 159, 24, 160, 97, 96] rfl (by decide +kernel)
set_option maxRecDepth 20000 in
theorem ggc_law_refused_7 : GoodIn wsL_law (wsL_refused_r8) := goodIn_r _ [161, 162, 163, 164, 122, 123, 124, 125, 46, 51, 127, 128, 129, 130, 131, 132, 133, 134, 135, 57, 58, 59, 136, 137] rfl (by decide +kernel)
set_option maxRecDepth 20000 in
theorem ggc_law_refused_8 : GoodIn wsL_law (wsL_refused_r9) := goodIn_r _ [138, 139, 140, 141, 67, 142, 143, 144, 145, 146, 147, 148, 149, 150, 77, 79, 151, 152, 358, 359, 360, 361, 445, 446] rfl (by decide +kernel)
set_option maxRecDepth 20000 in
theorem ggc_law_refused_9 : GoodIn wsL_law (wsL_refused_r10) := goodIn_r _ [447, 448, 449, 342, 343, 344, 345, 450, 351, 352, 353, 451, 452, 453, 454, 455, 219, 220, 221, 222, 20, 170, 171, 172] rfl (by decide +kernel)
set_option maxRecDepth 20000 in
theorem ggc_law_refused_10 : GoodIn wsL_law (wsL_refused_r11) := goodIn_r _ [173, 165, 223, 224, 225, 226, 192, 227, 175, 176, 177, 178, 179, 180, 181, 182, 183, 184, 185, 188, 189, 190, 191, 228] rfl (by decide +kernel)
set_option maxRecDepth 20000 in
theorem ggc_law_refused_11 : GoodIn wsL_law (wsL_refused_r12) := goodIn_r _ [197, 198, 199, 200, 201, 202, 203, 204, 214, 215, 216, 217, 218, 229, 230, 231, 232, 233, 237, 238, 239, 240, 241, 242] rfl (by decide +kernel)
set_option maxRecDepth 20000 in
theorem ggc_law_refused_12 : GoodIn wsL_law (wsL_refused_r13) := goodIn_r _ [66, 68, 456, 457, 458, 459, 460, 461, 462, 463, 464, 465, 466, 467, 468, 469, 470, 471, 472, 387, 388, 389, 473, 474] rfl (by decide +kernel)
set_option maxRecDepth 20000 in
theorem ggc_law_refused_13 : GoodIn wsL_law (wsL_refused_r14) := goodIn_r _ [475, 476, 477, 299, 300, 301, 302, 303, 304, 383, 384, 385, 386, 253, 254, 255, 256, 295, 296, 297, 298] rfl (by decide +kernel)
set_option maxRecDepth 20000 in
theorem ggc_law_refused_14 : GoodIn wsL_law (wsX70) := goodIn_r _ [527, 528, 529, 530, 531, 532, 533] rfl (by decide +kernel)
set_option maxRecDepth 20000 in
theorem ggc_law_refused_15 : GoodIn wsL_law (wsX60) := goodIn_r _ [534, 535, 536, 537, 538, 539, 540, 541, 542, 543] rfl (by decide +kernel)
set_option maxRecDepth 20000 in
theorem ggc_law_refused_16 : GoodIn wsL_law (wsX00) := goodIn_r _ [552, 553, 554, 555] rfl (by decide +kernel)
set_option maxRecDepth 20000 in
theorem ggc_law_refused_17 : GoodIn wsL_law (wsX50) := goodIn_r _ [556, 557, 558, 559, 560] rfl (by decide +kernel)
set_option maxRecDepth 20000 in
theorem ggc_law_refused_18 : GoodIn wsL_law (wsX20) := goodIn_r _ [544, 545] rfl (by decide +kernel)
set_option maxRecDepth 20000 in
theorem ggc_law_refused_19 : GoodIn wsL_law (wsX10) := goodIn_r _ [546, 547] rfl (by decide +kernel)
set_option maxRecDepth 20000 in
theorem ggc_law_refused_20 : GoodIn wsL_law (wsX40) := goodIn_r _ [548, 549, 550, 551] rfl (by decide +kernel)
set_option maxRecDepth 20000 in
theorem ggc_law_refused_21 : GoodIn wsL_law (wsX30) := goodIn_r _ [561] rfl (by decide +kernel)
theorem ggL_law_L_refused : GoodIn wsL_law wsL_refused := goodIn_app (a := [.code yL_refused cL_refused 4 (some .boolean)]) ggc_law_refused_h (goodIn_app (goodIn_app (goodIn_app (goodIn_app (goodIn_app (goodIn_app (goodIn_app (goodIn_app (goodIn_app ggc_law_refused_0 (goodIn_app ggc_law_refused_1 (goodIn_app ggc_law_refused_2 (goodIn_app ggc_law_refused_3 (goodIn_app ggc_law_refused_4 (goodIn_app ggc_law_refused_5 (goodIn_app ggc_law_refused_6 (goodIn_app ggc_law_refused_7 (goodIn_app ggc_law_refused_8 (goodIn_app ggc_law_refused_9 (goodIn_app ggc_law_refused_10 (goodIn_app ggc_law_refused_11 (goodIn_app ggc_law_refused_12 ggc_law_refused_13))))))))))))) ggc_law_refused_14) ggc_law_refused_15) ggc_law_refused_16) ggc_law_refused_17) ggc_law_refused_18) ggc_law_refused_19) ggc_law_refused_20) ggc_law_refused_21)
set_option maxRecDepth 20000 in
theorem gL_law_L_refused : GoodIn wsL_law (va_wsS RL 100 yL_refused wsL_refused) := goodIn_app (goodIn_of _ (by decide +kernel)) ggL_law_L_refused
