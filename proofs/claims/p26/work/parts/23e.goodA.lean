set_option maxRecDepth 20000 in
theorem ggc_refused_seen_h : GoodIn wsL_refused [.code yL_seen cL_seen 4 (some .long)] := goodIn_r _ [4] rfl (by decide +kernel)
set_option maxRecDepth 20000 in
theorem ggc_refused_seen_0 : GoodIn wsL_refused (wsL_seen_r1) := goodIn_r _ [5, 6, 7, 8, 9, 10, 11, 12, 13, 14, 15, 16, 17, 18, 19, 20, 21, 22, 23, 24, 25, 26, 27, 28] rfl (by decide +kernel)
set_option maxRecDepth 20000 in
theorem ggc_refused_seen_1 : GoodIn wsL_refused (wsL_seen_r2) := goodIn_r _ [29, 30, 31, 32, 33, 34, 35, 36, 37, 38, 39, 40, 41, 42, 43, 44, 45, 46, 47, 48, 49, 50, 51, 52] rfl (by decide +kernel)
set_option maxRecDepth 20000 in
theorem ggc_refused_seen_2 : GoodIn wsL_refused (wsL_seen_r3) := goodIn_r _ [53, 54, 55, 56, 57, 58, 59, 60, 61, 62, 63, 64, 65, 66, 67, 68, 69, 70, 71, 72, 73, 74, 75, 76] rfl (by decide +kernel)
set_option maxRecDepth 20000 in
theorem ggc_refused_seen_3 : GoodIn wsL_refused (wsL_seen_r4) := goodIn_r _ [77, 78, 79, 80, 81, 82, 83, 84, 85, 86, 87, 88, 89, 90, 91, 92, 93, 94, 95, 96, 97, 98, 99, 100] rfl (by decide +kernel)
set_option maxRecDepth 20000 in
theorem ggc_refused_seen_4 : GoodIn wsL_refused (wsL_seen_r5) := goodIn_r _ [101, 102, 103, 104, 105, 106, 107, 108, 109, 110, 111, 112, 113, 114, 115, 116, 117, 118, 119, 120, 121, 122, 123, 124] rfl (by decide +kernel)
set_option maxRecDepth 20000 in
theorem ggc_refused_seen_5 : GoodIn wsL_refused (wsL_seen_r6) := goodIn_r _ [125, 126, 127, 128, 129, 130, 131, 132, 133, 134, 135, 136, 137, 138, 139, 140, 141, 142, 143, 144, 145, 146, 147, 148] rfl (by decide +kernel)
set_option maxRecDepth 20000 in
theorem ggc_refused_seen_6 : GoodIn wsL_refused (wsL_seen_r7) := goodIn_r _ [149, 150, 151, 152, 153, 154] rfl (by decide +kernel)
set_option maxRecDepth 20000 in
theorem ggc_refused_seen_7 : GoodIn wsL_refused (wsX70) := goodIn_r _ [334, 335, 336, 337, 338, 339, 340] rfl (by decide +kernel)
set_option maxRecDepth 20000 in
theorem ggc_refused_seen_8 : GoodIn wsL_refused (wsX60) := goodIn_r _ [341, 342, 343, 344, 345, 346, 347, 348, 349, 350] rfl (by decide +kernel)
set_option maxRecDepth 20000 in
theorem ggc_refused_seen_9 : GoodIn wsL_refused (wsX00) := goodIn_r _ [351, 352, 353, 354] rfl (by decide +kernel)
set_option maxRecDepth 20000 in
theorem ggc_refused_seen_10 : GoodIn wsL_refused (wsX50) := goodIn_r _ [355, 356, 357, 358, 359] rfl (by decide +kernel)
set_option maxRecDepth 20000 in
theorem ggc_refused_seen_11 : GoodIn wsL_refused (wsX20) := goodIn_r _ [360, 361] rfl (by decide +kernel)
set_option maxRecDepth 20000 in
theorem ggc_refused_seen_12 : GoodIn wsL_refused (wsX10) := goodIn_r _ [362, 363] rfl (by decide +kernel)
set_option maxRecDepth 20000 in
theorem ggc_refused_seen_13 : GoodIn wsL_refused (wsX40) := goodIn_r _ [364, 365, 366, 367] rfl (by decide +kernel)
set_option maxRecDepth 20000 in
theorem ggc_refused_seen_14 : GoodIn wsL_refused (wsX30) := goodIn_r _ [368] rfl (by decide +kernel)
theorem ggL_refused_L_seen : GoodIn wsL_refused wsL_seen := goodIn_app (a := [.code yL_seen cL_seen 4 (some .long)]) ggc_refused_seen_h (goodIn_app (goodIn_app (goodIn_app (goodIn_app (goodIn_app (goodIn_app (goodIn_app (goodIn_app (goodIn_app ggc_refused_seen_0 (goodIn_app ggc_refused_seen_1 (goodIn_app ggc_refused_seen_2 (goodIn_app ggc_refused_seen_3 (goodIn_app ggc_refused_seen_4 (goodIn_app ggc_refused_seen_5 ggc_refused_seen_6)))))) ggc_refused_seen_7) ggc_refused_seen_8) ggc_refused_seen_9) ggc_refused_seen_10) ggc_refused_seen_11) ggc_refused_seen_12) ggc_refused_seen_13) ggc_refused_seen_14)
set_option maxRecDepth 20000 in
theorem gL_refused_L_seen : GoodIn wsL_refused (va_wsS RL 62 yL_seen wsL_seen) := goodIn_app (goodIn_of _ (by decide +kernel)) ggL_refused_L_seen
set_option maxRecDepth 20000 in
theorem ggc_refused_refusesAny_h : GoodIn wsL_refused [.code yL_refusesAny cL_refusesAny 5 (some .boolean)] := goodIn_r _ [157] rfl (by decide +kernel)
set_option maxRecDepth 20000 in
theorem ggc_refused_refusesAny_0 : GoodIn wsL_refused (wsL_refusesAny_r1) := goodIn_r _ [7, 8, 9, 10, 11, 12, 13, 14, 15, 16, 17, 18, 19, 20, 21, 22, 23, 24, 25, 26, 27, 28, 29, 30] rfl (by decide +kernel)
set_option maxRecDepth 20000 in
theorem ggc_refused_refusesAny_1 : GoodIn wsL_refused (wsL_refusesAny_r2) := goodIn_r _ [31, 32, 33, 34, 35, 36, 37, 38, 39, 40, 41, 42, 43, 44, 45, 46, 47, 48, 49, 50, 51, 52, 53, 54] rfl (by decide +kernel)
set_option maxRecDepth 20000 in
theorem ggc_refused_refusesAny_2 : GoodIn wsL_refused (wsL_refusesAny_r3) := goodIn_r _ [55, 56, 57, 58, 59, 60, 61, 62, 63, 64, 65, 66, 67, 68, 69, 70, 71, 72, 73, 74, 75, 76, 77, 78] rfl (by decide +kernel)
set_option maxRecDepth 20000 in
theorem ggc_refused_refusesAny_3 : GoodIn wsL_refused (wsL_refusesAny_r4) := goodIn_r _ [79, 80, 81, 82, 83, 84, 85, 86, 87, 88, 89, 90, 91, 92, 93, 94, 95, 96, 97, 98, 99, 100, 101, 158] rfl (by decide +kernel)
set_option maxRecDepth 20000 in
theorem ggc_refused_refusesAny_4 : GoodIn wsL_refused (wsL_refusesAny_r5) := goodIn_r _ [159, 160, 161, 162, 163, 164, 165, 166, 167, 168, 169, 170, 171, 172, 173, 174, 175, 124, 176, 126, 177, 127, 150, 178] rfl (by decide +kernel)
set_option maxRecDepth 20000 in
theorem ggc_refused_refusesAny_5 : GoodIn wsL_refused (wsL_refusesAny_r6) := goodIn_r _ [179, 180, 181, 182, 183, 184, 185, 186, 187, 188, 189, 190, 191, 192, 193, 194, 195, 196, 197, 198, 199, 200, 201, 202] rfl (by decide +kernel)
set_option maxRecDepth 20000 in
theorem ggc_refused_refusesAny_6 : GoodIn wsL_refused (wsL_refusesAny_r7) := goodIn_r _ [203, 204, 205, 206, 119, 207, 208, 118, 209, 210, 211, 212, 213, 214, 215, 216, 217, 218, 219, 220, 221, 222, 223, 224] rfl (by decide +kernel)
set_option maxRecDepth 20000 in
theorem ggc_refused_refusesAny_7 : GoodIn wsL_refused (wsL_refusesAny_r8) := goodIn_r _ [225, 226, 227, 228, 229, 230, 231, 113, 232, 233, 234, 235, 236, 237, 238, 239, 240, 241, 242, 243, 244, 245, 246, 247] rfl (by decide +kernel)
set_option maxRecDepth 20000 in
theorem ggc_refused_refusesAny_8 : GoodIn wsL_refused (wsL_refusesAny_r9) := goodIn_r _ [147, 148, 149, 248, 249, 250, 251, 252, 253, 254, 255, 256, 257, 258, 259, 107, 108, 260, 261, 262, 263, 264, 265, 266] rfl (by decide +kernel)
set_option maxRecDepth 20000 in
theorem ggc_refused_refusesAny_9 : GoodIn wsL_refused (wsL_refusesAny_r10) := goodIn_r _ [267, 268, 269, 270, 271, 272, 122, 123, 125, 128, 129, 130, 273, 274, 275, 276, 277, 278, 279, 280, 281, 282, 152, 153] rfl (by decide +kernel)
set_option maxRecDepth 20000 in
theorem ggc_refused_refusesAny_10 : GoodIn wsL_refused (wsL_refusesAny_r11) := goodIn_r _ [154, 283, 284, 285, 286, 287, 288, 289, 290, 291, 292, 293, 294, 135, 136, 137, 138, 295, 296, 297, 298, 299, 300, 301] rfl (by decide +kernel)
set_option maxRecDepth 20000 in
theorem ggc_refused_refusesAny_11 : GoodIn wsL_refused (wsL_refusesAny_r12) := goodIn_r _ [302, 303, 304, 305, 306, 307, 308, 309, 310, 311, 312, 313, 314, 315, 102, 103, 104, 105, 106, 109, 110, 111, 112, 114] rfl (by decide +kernel)
set_option maxRecDepth 20000 in
theorem ggc_refused_refusesAny_12 : GoodIn wsL_refused (wsL_refusesAny_r13) := goodIn_r _ [115, 116, 117, 120, 121, 131, 132, 133, 134, 139, 140, 141, 316, 317, 318, 319, 320, 321, 322, 323, 324, 325, 146, 151] rfl (by decide +kernel)
set_option maxRecDepth 20000 in
theorem ggc_refused_refusesAny_13 : GoodIn wsL_refused (wsL_refusesAny_r14) := goodIn_r _ [326, 327, 328, 329, 330, 331, 332, 333] rfl (by decide +kernel)
set_option maxRecDepth 20000 in
theorem ggc_refused_refusesAny_14 : GoodIn wsL_refused (wsX70) := goodIn_r _ [334, 335, 336, 337, 338, 339, 340] rfl (by decide +kernel)
set_option maxRecDepth 20000 in
theorem ggc_refused_refusesAny_15 : GoodIn wsL_refused (wsX60) := goodIn_r _ [341, 342, 343, 344, 345, 346, 347, 348, 349, 350] rfl (by decide +kernel)
set_option maxRecDepth 20000 in
theorem ggc_refused_refusesAny_16 : GoodIn wsL_refused (wsX00) := goodIn_r _ [351, 352, 353, 354] rfl (by decide +kernel)
set_option maxRecDepth 20000 in
theorem ggc_refused_refusesAny_17 : GoodIn wsL_refused (wsX50) := goodIn_r _ [355, 356, 357, 358, 359] rfl (by decide +kernel)
set_option maxRecDepth 20000 in
theorem ggc_refused_refusesAny_18 : GoodIn wsL_refused (wsX20) := goodIn_r _ [360, 361] rfl (by decide +kernel)
set_option maxRecDepth 20000 in
theorem ggc_refused_refusesAny_19 : GoodIn wsL_refused (wsX10) := goodIn_r _ [362, 363] rfl (by decide +kernel)
set_option maxRecDepth 20000 in
theorem ggc_refused_refusesAny_20 : GoodIn wsL_refused (wsX40) := goodIn_r _ [364, 365, 366, 367] rfl (by decide +kernel)
set_option maxRecDepth 20000 in
theorem ggc_refused_refusesAny_21 : GoodIn wsL_refused (wsX30) := goodIn_r _ [368] rfl (by decide +kernel)
theorem ggL_refused_L_refusesAny : GoodIn wsL_refused wsL_refusesAny := goodIn_app (a := [.code yL_refusesAny cL_refusesAny 5 (some .boolean)]) ggc_refused_refusesAny_h (goodIn_app (goodIn_app (goodIn_app (goodIn_app (goodIn_app (goodIn_app (goodIn_app (goodIn_app (goodIn_app ggc_refused_refusesAny_0 (goodIn_app ggc_refused_refusesAny_1 (goodIn_app ggc_refused_refusesAny_2 (goodIn_app ggc_refused_refusesAny_3 (goodIn_app ggc_refused_refusesAny_4 (goodIn_app ggc_refused_refusesAny_5 (goodIn_app ggc_refused_refusesAny_6 (goodIn_app ggc_refused_refusesAny_7 (goodIn_app ggc_refused_refusesAny_8 (goodIn_app ggc_refused_refusesAny_9 (goodIn_app ggc_refused_refusesAny_10 (goodIn_app ggc_refused_refusesAny_11 (goodIn_app ggc_refused_refusesAny_12 ggc_refused_refusesAny_13))))))))))))) ggc_refused_refusesAny_14) ggc_refused_refusesAny_15) ggc_refused_refusesAny_16) ggc_refused_refusesAny_17) ggc_refused_refusesAny_18) ggc_refused_refusesAny_19) ggc_refused_refusesAny_20) ggc_refused_refusesAny_21)
set_option maxRecDepth 20000 in
theorem gL_refused_L_refusesAny : GoodIn wsL_refused (va_wsS RL 66 yL_refusesAny wsL_refusesAny) := goodIn_app (goodIn_of _ (by decide +kernel)) ggL_refused_L_refusesAny
set_option maxRecDepth 20000 in
theorem ggc_four_types_h : GoodIn wsL_four [.code yL_types cL_types 6 (some .boolean)] := goodIn_r _ [304] rfl (by decide +kernel)
set_option maxRecDepth 20000 in
theorem ggc_four_types_0 : GoodIn wsL_four ([.constantLong RL 70 (255), .methodLink RL 72 yX7_type, .instanceMethod yX7_type, .selects RX7 yX7_type yX7_type, .initialized RX7, .code yX7_type cX7_type 2 (some .int), .fieldLink RX7 32 "LeafTurner" "text" "LLeafTurner$BookText;", .methodLink RX7 151 yX1_add, .instanceMethod yX1_add, .selects RX1 yX1_add yX1_add, .initialized RX1, .code yX1_add cX1_add 2 none, .fieldLink RX1 15 "LeafTurner$BookText" "length" "I", .fieldLink RX1 9 "LeafTurner$BookText" "signs" "[C"]) := goodIn_r _ [305, 306, 307, 308, 3, 309, 25, 310, 311, 312, 24, 313, 101, 100] rfl (by decide +kernel)
set_option maxRecDepth 20000 in
theorem ggc_four_types_1 : GoodIn wsL_four (wsX70) := goodIn_r _ [484, 485, 486, 487, 488, 489, 490] rfl (by decide +kernel)
set_option maxRecDepth 20000 in
theorem ggc_four_types_2 : GoodIn wsL_four (wsX10) := goodIn_r _ [503, 504] rfl (by decide +kernel)
theorem ggL_four_L_types : GoodIn wsL_four wsL_types := goodIn_app (a := [.code yL_types cL_types 6 (some .boolean)]) ggc_four_types_h (goodIn_app (goodIn_app ggc_four_types_0 ggc_four_types_1) ggc_four_types_2)
set_option maxRecDepth 20000 in
theorem gL_four_L_types : GoodIn wsL_four (va_wsS RL 91 yL_types wsL_types) := goodIn_app (goodIn_of _ (by decide +kernel)) ggL_four_L_types
set_option maxRecDepth 20000 in
theorem ggc_four_refused_h : GoodIn wsL_four [.code yL_refused cL_refused 4 (some .boolean)] := goodIn_r _ [403] rfl (by decide +kernel)
set_option maxRecDepth 20000 in
theorem ggc_four_refused_0 : GoodIn wsL_four (wsL_refused_r1) := goodIn_r _ [404, 405, 303, 406, 407, 408, 409, 410, 411, 3, 412, 15, 21, 25, 413, 414, 415, 416, 29, 253, 254, 255, 28, 256] rfl (by decide +kernel)
set_option maxRecDepth 20000 in
theorem ggc_four_refused_1 : GoodIn wsL_four (wsL_refused_r2) := goodIn_r _ [257, 258, 108, 107, 259, 260, 261, 37, 262, 56, 263, 264, 265, 45, 266, 66, 267, 268, 269, 270, 271, 272, 273, 274] rfl (by decide +kernel)
set_option maxRecDepth 20000 in
theorem ggc_four_refused_2 : GoodIn wsL_four (wsL_refused_r3) := goodIn_r _ [275, 207, 208, 209, 83, 84, 85, 86, 276, 277, 278, 41, 279, 74, 280, 281, 282, 283, 284, 285, 286, 80, 81, 82] rfl (by decide +kernel)
set_option maxRecDepth 20000 in
theorem ggc_four_refused_3 : GoodIn wsL_four (wsL_refused_r4) := goodIn_r _ [287, 288, 289, 290, 417, 418, 419, 420, 421, 422, 423, 424, 425, 376, 377, 378, 426, 427, 428, 429, 430, 397, 398, 399] rfl (by decide +kernel)
set_option maxRecDepth 20000 in
theorem ggc_four_refused_4 : GoodIn wsL_four (wsL_refused_r5) := goodIn_r _ [431, 432, 433, 434, 364, 360, 361, 362, 363, 365, 182, 183, 366, 367, 368, 369, 370, 371, 372, 373, 374, 76, 72, 375] rfl (by decide +kernel)
set_option maxRecDepth 20000 in
theorem ggc_four_refused_5 : GoodIn wsL_four (wsL_refused_r6) := goodIn_r _ [379, 201, 202, 14, 203, 38, 46, 204, 205, 206, 387, 388, 389, 390, 391, 392, 393, 394, 395, 396, 400, 243, 244, 245] rfl (by decide +kernel)
set_option maxRecDepth 20000 in
theorem ggc_four_refused_6 : GoodIn wsL_four (wsL_refused_r7) := goodIn_r _ [246, 247, 189, 190, 191, 122, 248, 230, 231, 232, 435, 436, 437, 438, 439, 440, 441, 153, 154, 155, 20, 156, 93, 92] rfl (by decide +kernel)
set_option maxRecDepth 20000 in
theorem ggc_four_refused_7 : GoodIn wsL_four (wsL_refused_r8) := goodIn_r _ [157, 158, 159, 160, 118, 119, 120, 121, 42, 47, 123, 124, 125, 126, 127, 128, 129, 130, 131, 53, 54, 55, 132, 133] rfl (by decide +kernel)
set_option maxRecDepth 20000 in
theorem ggc_four_refused_8 : GoodIn wsL_four (wsL_refused_r9) := goodIn_r _ [134, 135, 136, 137, 63, 138, 139, 140, 141, 142, 143, 144, 145, 146, 73, 75, 147, 148, 355, 356, 357, 358, 442, 443] rfl (by decide +kernel)
set_option maxRecDepth 20000 in
theorem ggc_four_refused_9 : GoodIn wsL_four (wsL_refused_r10) := goodIn_r _ [444, 445, 446, 339, 340, 341, 342, 447, 348, 349, 350, 448, 449, 450, 451, 452, 215, 216, 217, 218, 16, 166, 167, 168] rfl (by decide +kernel)
set_option maxRecDepth 20000 in
theorem ggc_four_refused_10 : GoodIn wsL_four (wsL_refused_r11) := goodIn_r _ [169, 161, 219, 220, 221, 222, 188, 223, 171, 172, 173, 174, 175, 176, 177, 178, 179, 180, 181, 184, 185, 186, 187, 224] rfl (by decide +kernel)
set_option maxRecDepth 20000 in
theorem ggc_four_refused_11 : GoodIn wsL_four (wsL_refused_r12) := goodIn_r _ [193, 194, 195, 196, 197, 198, 199, 200, 210, 211, 212, 213, 214, 225, 226, 227, 228, 229, 233, 234, 235, 236, 237, 238] rfl (by decide +kernel)
set_option maxRecDepth 20000 in
theorem ggc_four_refused_12 : GoodIn wsL_four (wsL_refused_r13) := goodIn_r _ [62, 64, 453, 454, 455, 456, 457, 458, 459, 460, 461, 462, 463, 464, 465, 466, 467, 468, 469, 384, 385, 386, 470, 471] rfl (by decide +kernel)
set_option maxRecDepth 20000 in
theorem ggc_four_refused_13 : GoodIn wsL_four (wsL_refused_r14) := goodIn_r _ [472, 473, 474, 295, 296, 297, 298, 299, 300, 380, 381, 382, 383, 249, 250, 251, 252, 291, 292, 293, 294] rfl (by decide +kernel)
set_option maxRecDepth 20000 in
theorem ggc_four_refused_14 : GoodIn wsL_four (wsX70) := goodIn_r _ [484, 485, 486, 487, 488, 489, 490] rfl (by decide +kernel)
set_option maxRecDepth 20000 in
theorem ggc_four_refused_15 : GoodIn wsL_four (wsX60) := goodIn_r _ [491, 492, 493, 494, 495, 496, 497, 498, 499, 500] rfl (by decide +kernel)
set_option maxRecDepth 20000 in
theorem ggc_four_refused_16 : GoodIn wsL_four (wsX00) := goodIn_r _ [509, 510, 511, 512] rfl (by decide +kernel)
set_option maxRecDepth 20000 in
theorem ggc_four_refused_17 : GoodIn wsL_four (wsX50) := goodIn_r _ [513, 514, 515, 516, 517] rfl (by decide +kernel)
set_option maxRecDepth 20000 in
theorem ggc_four_refused_18 : GoodIn wsL_four (wsX20) := goodIn_r _ [501, 502] rfl (by decide +kernel)
set_option maxRecDepth 20000 in
theorem ggc_four_refused_19 : GoodIn wsL_four (wsX10) := goodIn_r _ [503, 504] rfl (by decide +kernel)
set_option maxRecDepth 20000 in
theorem ggc_four_refused_20 : GoodIn wsL_four (wsX40) := goodIn_r _ [505, 506, 507, 508] rfl (by decide +kernel)
set_option maxRecDepth 20000 in
theorem ggc_four_refused_21 : GoodIn wsL_four (wsX30) := goodIn_r _ [518] rfl (by decide +kernel)
theorem ggL_four_L_refused : GoodIn wsL_four wsL_refused := goodIn_app (a := [.code yL_refused cL_refused 4 (some .boolean)]) ggc_four_refused_h (goodIn_app (goodIn_app (goodIn_app (goodIn_app (goodIn_app (goodIn_app (goodIn_app (goodIn_app (goodIn_app ggc_four_refused_0 (goodIn_app ggc_four_refused_1 (goodIn_app ggc_four_refused_2 (goodIn_app ggc_four_refused_3 (goodIn_app ggc_four_refused_4 (goodIn_app ggc_four_refused_5 (goodIn_app ggc_four_refused_6 (goodIn_app ggc_four_refused_7 (goodIn_app ggc_four_refused_8 (goodIn_app ggc_four_refused_9 (goodIn_app ggc_four_refused_10 (goodIn_app ggc_four_refused_11 (goodIn_app ggc_four_refused_12 ggc_four_refused_13))))))))))))) ggc_four_refused_14) ggc_four_refused_15) ggc_four_refused_16) ggc_four_refused_17) ggc_four_refused_18) ggc_four_refused_19) ggc_four_refused_20) ggc_four_refused_21)
set_option maxRecDepth 20000 in
theorem gL_four_L_refused : GoodIn wsL_four (va_wsS RL 100 yL_refused wsL_refused) := goodIn_app (goodIn_of _ (by decide +kernel)) ggL_four_L_refused
set_option maxRecDepth 20000 in
theorem ggc_scans_refused_h : GoodIn wsL_scans [.code yL_refused cL_refused 4 (some .boolean)] := goodIn_r _ [335] rfl (by decide +kernel)
set_option maxRecDepth 20000 in
theorem ggc_scans_refused_0 : GoodIn wsL_scans (wsL_refused_r1) := goodIn_r _ [336, 337, 334, 338, 339, 340, 303, 304, 305, 3, 306, 18, 24, 28, 307, 308, 309, 310, 32, 196, 197, 198, 31, 199] rfl (by decide +kernel)
set_option maxRecDepth 20000 in
theorem ggc_scans_refused_1 : GoodIn wsL_scans (wsL_refused_r2) := goodIn_r _ [200, 201, 111, 110, 202, 174, 175, 40, 176, 59, 203, 204, 205, 48, 206, 69, 207, 208, 209, 210, 211, 212, 213, 214] rfl (by decide +kernel)
set_option maxRecDepth 20000 in
theorem ggc_scans_refused_2 : GoodIn wsL_scans (wsL_refused_r3) := goodIn_r _ [215, 182, 183, 184, 86, 87, 88, 89, 216, 217, 218, 44, 219, 77, 220, 221, 193, 194, 195, 173, 222, 83, 84, 85] rfl (by decide +kernel)
set_option maxRecDepth 20000 in
theorem ggc_scans_refused_3 : GoodIn wsL_scans (wsL_refused_r4) := goodIn_r _ [223, 224, 225, 226, 311, 312, 313, 314, 315, 316, 317, 318, 319, 232, 233, 234, 320, 321, 322, 323, 324, 325, 326, 327] rfl (by decide +kernel)
set_option maxRecDepth 20000 in
theorem ggc_scans_refused_4 : GoodIn wsL_scans (wsL_refused_r5) := goodIn_r _ [328, 329, 330, 331, 181, 177, 178, 179, 180, 185, 186, 187, 188, 189, 190, 191, 192, 227, 228, 229, 230, 79, 75, 231] rfl (by decide +kernel)
set_option maxRecDepth 20000 in
theorem ggc_scans_refused_5 : GoodIn wsL_scans (wsL_refused_r6) := goodIn_r _ [235, 236, 237, 17, 238, 41, 49, 239, 240, 241, 341, 342, 343, 344, 345, 346, 347, 348, 349, 350, 351, 352, 353, 354] rfl (by decide +kernel)
set_option maxRecDepth 20000 in
theorem ggc_scans_refused_6 : GoodIn wsL_scans (wsL_refused_r7) := goodIn_r _ [355, 356, 256, 257, 258, 129, 357, 294, 295, 296, 358, 359, 360, 113, 114, 115, 116, 117, 118, 119, 23, 120, 96, 95] rfl (by decide +kernel)
set_option maxRecDepth 20000 in
theorem ggc_scans_refused_7 : GoodIn wsL_scans (wsL_refused_r8) := goodIn_r _ [121, 122, 123, 124, 125, 126, 127, 128, 45, 50, 130, 131, 132, 133, 134, 135, 136, 137, 138, 56, 57, 58, 139, 140] rfl (by decide +kernel)
set_option maxRecDepth 20000 in
theorem ggc_scans_refused_8 : GoodIn wsL_scans (wsL_refused_r9) := goodIn_r _ [141, 142, 143, 144, 66, 145, 146, 147, 148, 149, 150, 151, 152, 153, 76, 78, 154, 155, 156, 157, 158, 159, 160, 161] rfl (by decide +kernel)
set_option maxRecDepth 20000 in
theorem ggc_scans_refused_9 : GoodIn wsL_scans (wsL_refused_r10) := goodIn_r _ [162, 163, 164, 165, 166, 167, 168, 169, 170, 171, 172, 361, 362, 363, 364, 365, 242, 243, 244, 245, 19, 246, 247, 248] rfl (by decide +kernel)
set_option maxRecDepth 20000 in
theorem ggc_scans_refused_10 : GoodIn wsL_scans (wsL_refused_r11) := goodIn_r _ [249, 250, 251, 252, 253, 254, 255, 259, 260, 261, 262, 263, 264, 265, 266, 267, 268, 269, 270, 271, 272, 273, 274, 275] rfl (by decide +kernel)
set_option maxRecDepth 20000 in
theorem ggc_scans_refused_11 : GoodIn wsL_scans (wsL_refused_r12) := goodIn_r _ [276, 277, 278, 279, 280, 281, 282, 283, 284, 285, 286, 287, 288, 289, 290, 291, 292, 293, 297, 298, 299, 300, 301, 302] rfl (by decide +kernel)
set_option maxRecDepth 20000 in
theorem ggc_scans_refused_12 : GoodIn wsL_scans (wsL_refused_r13) := goodIn_r _ [65, 67, 366, 367, 368, 369, 370, 371, 372, 373, 374, 375, 376, 377, 378, 379, 380, 381, 382, 383, 384, 385, 386, 387] rfl (by decide +kernel)
set_option maxRecDepth 20000 in
theorem ggc_scans_refused_13 : GoodIn wsL_scans (wsL_refused_r14) := goodIn_r _ [388, 389, 390, 391, 392, 393, 394, 395, 396, 397, 398, 399, 400, 401, 402, 403, 404, 405, 406, 407, 408] rfl (by decide +kernel)
set_option maxRecDepth 20000 in
theorem ggc_scans_refused_14 : GoodIn wsL_scans (wsX70) := goodIn_r _ [471, 472, 473, 474, 475, 476, 477] rfl (by decide +kernel)
set_option maxRecDepth 20000 in
theorem ggc_scans_refused_15 : GoodIn wsL_scans (wsX60) := goodIn_r _ [478, 479, 480, 481, 482, 483, 484, 485, 486, 487] rfl (by decide +kernel)
set_option maxRecDepth 20000 in
theorem ggc_scans_refused_16 : GoodIn wsL_scans (wsX00) := goodIn_r _ [496, 497, 498, 499] rfl (by decide +kernel)
set_option maxRecDepth 20000 in
theorem ggc_scans_refused_17 : GoodIn wsL_scans (wsX50) := goodIn_r _ [500, 501, 502, 503, 504] rfl (by decide +kernel)
set_option maxRecDepth 20000 in
theorem ggc_scans_refused_18 : GoodIn wsL_scans (wsX20) := goodIn_r _ [488, 489] rfl (by decide +kernel)
set_option maxRecDepth 20000 in
theorem ggc_scans_refused_19 : GoodIn wsL_scans (wsX10) := goodIn_r _ [490, 491] rfl (by decide +kernel)
set_option maxRecDepth 20000 in
theorem ggc_scans_refused_20 : GoodIn wsL_scans (wsX40) := goodIn_r _ [492, 493, 494, 495] rfl (by decide +kernel)
set_option maxRecDepth 20000 in
theorem ggc_scans_refused_21 : GoodIn wsL_scans (wsX30) := goodIn_r _ [505] rfl (by decide +kernel)
theorem ggL_scans_L_refused : GoodIn wsL_scans wsL_refused := goodIn_app (a := [.code yL_refused cL_refused 4 (some .boolean)]) ggc_scans_refused_h (goodIn_app (goodIn_app (goodIn_app (goodIn_app (goodIn_app (goodIn_app (goodIn_app (goodIn_app (goodIn_app ggc_scans_refused_0 (goodIn_app ggc_scans_refused_1 (goodIn_app ggc_scans_refused_2 (goodIn_app ggc_scans_refused_3 (goodIn_app ggc_scans_refused_4 (goodIn_app ggc_scans_refused_5 (goodIn_app ggc_scans_refused_6 (goodIn_app ggc_scans_refused_7 (goodIn_app ggc_scans_refused_8 (goodIn_app ggc_scans_refused_9 (goodIn_app ggc_scans_refused_10 (goodIn_app ggc_scans_refused_11 (goodIn_app ggc_scans_refused_12 ggc_scans_refused_13))))))))))))) ggc_scans_refused_14) ggc_scans_refused_15) ggc_scans_refused_16) ggc_scans_refused_17) ggc_scans_refused_18) ggc_scans_refused_19) ggc_scans_refused_20) ggc_scans_refused_21)
set_option maxRecDepth 20000 in
theorem gL_scans_L_refused : GoodIn wsL_scans (va_wsS RL 100 yL_refused wsL_refused) := goodIn_app (goodIn_of _ (by decide +kernel)) ggL_scans_L_refused
set_option maxRecDepth 20000 in
theorem ggc_scans_types_h : GoodIn wsL_scans [.code yL_types cL_types 6 (some .boolean)] := goodIn_r _ [411] rfl (by decide +kernel)
set_option maxRecDepth 20000 in
theorem ggc_scans_types_0 : GoodIn wsL_scans ([.constantLong RL 70 (255), .methodLink RL 72 yX7_type, .instanceMethod yX7_type, .selects RX7 yX7_type yX7_type, .initialized RX7, .code yX7_type cX7_type 2 (some .int), .fieldLink RX7 32 "LeafTurner" "text" "LLeafTurner$BookText;", .methodLink RX7 151 yX1_add, .instanceMethod yX1_add, .selects RX1 yX1_add yX1_add, .initialized RX1, .code yX1_add cX1_add 2 none, .fieldLink RX1 15 "LeafTurner$BookText" "length" "I", .fieldLink RX1 9 "LeafTurner$BookText" "signs" "[C"]) := goodIn_r _ [412, 413, 414, 415, 3, 416, 28, 417, 418, 419, 27, 420, 104, 103] rfl (by decide +kernel)
set_option maxRecDepth 20000 in
theorem ggc_scans_types_1 : GoodIn wsL_scans (wsX70) := goodIn_r _ [471, 472, 473, 474, 475, 476, 477] rfl (by decide +kernel)
set_option maxRecDepth 20000 in
theorem ggc_scans_types_2 : GoodIn wsL_scans (wsX10) := goodIn_r _ [490, 491] rfl (by decide +kernel)
theorem ggL_scans_L_types : GoodIn wsL_scans wsL_types := goodIn_app (a := [.code yL_types cL_types 6 (some .boolean)]) ggc_scans_types_h (goodIn_app (goodIn_app ggc_scans_types_0 ggc_scans_types_1) ggc_scans_types_2)
set_option maxRecDepth 20000 in
theorem gL_scans_L_types : GoodIn wsL_scans (va_wsS RL 91 yL_types wsL_types) := goodIn_app (goodIn_of _ (by decide +kernel)) ggL_scans_L_types
set_option maxRecDepth 20000 in
theorem ggc_told_types_h : GoodIn wsL_told [.code yL_types cL_types 6 (some .boolean)] := goodIn_r _ [111] rfl (by decide +kernel)
set_option maxRecDepth 20000 in
theorem ggc_told_types_0 : GoodIn wsL_told ([.constantLong RL 70 (255), .methodLink RL 72 yX7_type, .instanceMethod yX7_type, .selects RX7 yX7_type yX7_type, .initialized RX7, .code yX7_type cX7_type 2 (some .int), .fieldLink RX7 32 "LeafTurner" "text" "LLeafTurner$BookText;", .methodLink RX7 151 yX1_add, .instanceMethod yX1_add, .selects RX1 yX1_add yX1_add, .initialized RX1, .code yX1_add cX1_add 2 none, .fieldLink RX1 15 "LeafTurner$BookText" "length" "I", .fieldLink RX1 9 "LeafTurner$BookText" "signs" "[C"]) := goodIn_r _ [112, 113, 114, 115, 3, 116, 23, 117, 118, 119, 22, 120, 99, 98] rfl (by decide +kernel)
set_option maxRecDepth 20000 in
theorem ggc_told_types_1 : GoodIn wsL_told (wsX70) := goodIn_r _ [280, 281, 282, 283, 284, 285, 286] rfl (by decide +kernel)
set_option maxRecDepth 20000 in
theorem ggc_told_types_2 : GoodIn wsL_told (wsX10) := goodIn_r _ [299, 300] rfl (by decide +kernel)
theorem ggL_told_L_types : GoodIn wsL_told wsL_types := goodIn_app (a := [.code yL_types cL_types 6 (some .boolean)]) ggc_told_types_h (goodIn_app (goodIn_app ggc_told_types_0 ggc_told_types_1) ggc_told_types_2)
set_option maxRecDepth 20000 in
theorem gL_told_L_types : GoodIn wsL_told (va_wsS RL 91 yL_types wsL_types) := goodIn_app (goodIn_of _ (by decide +kernel)) ggL_told_L_types
set_option maxRecDepth 20000 in
theorem ggc_texts_told_h : GoodIn wsL_texts [.code yL_told cL_told 6 (some .int)] := goodIn_r _ [21] rfl (by decide +kernel)
set_option maxRecDepth 20000 in
theorem ggc_texts_told_0 : GoodIn wsL_texts (wsL_told_r1) := goodIn_r _ [15, 16, 17, 22, 23, 24, 25, 26, 27, 28, 29, 30, 31, 32, 33, 34, 35, 36, 37, 38, 39, 40, 41, 42] rfl (by decide +kernel)
set_option maxRecDepth 20000 in
theorem ggc_texts_told_1 : GoodIn wsL_texts (wsL_told_r2) := goodIn_r _ [43, 44, 45, 46, 47, 48, 49, 50, 51, 52, 53, 54, 55, 56, 57, 58, 59, 60, 61, 62, 63, 64, 65, 66] rfl (by decide +kernel)
set_option maxRecDepth 20000 in
theorem ggc_texts_told_2 : GoodIn wsL_texts (wsL_told_r3) := goodIn_r _ [67, 68, 69, 70, 71, 72, 73, 74, 75, 76, 77, 78, 79, 80, 81, 82, 83, 84, 85, 86, 87, 88, 89, 90] rfl (by decide +kernel)
set_option maxRecDepth 20000 in
theorem ggc_texts_told_3 : GoodIn wsL_texts (wsL_told_r4) := goodIn_r _ [91, 92, 93, 94, 95, 96, 97, 98, 99, 100, 101, 102, 103, 104, 105, 106, 107, 108, 109, 110, 111, 112, 113, 114] rfl (by decide +kernel)
set_option maxRecDepth 20000 in
theorem ggc_texts_told_4 : GoodIn wsL_texts (wsL_told_r5) := goodIn_r _ [115, 116, 117, 118, 119, 120, 121, 122, 123, 124, 125, 126, 127, 20, 128, 129, 130, 131, 132, 133, 134, 135, 136, 137] rfl (by decide +kernel)
set_option maxRecDepth 20000 in
theorem ggc_texts_told_5 : GoodIn wsL_texts (wsL_told_r6) := goodIn_r _ [138, 139, 140, 141, 142, 143, 144, 145, 146, 147, 148, 149, 150, 151, 152, 153, 154, 155, 156, 157, 158, 159, 160, 161] rfl (by decide +kernel)
set_option maxRecDepth 20000 in
theorem ggc_texts_told_6 : GoodIn wsL_texts (wsL_told_r7) := goodIn_r _ [162, 163, 164, 165, 166, 167, 168, 169, 170, 171, 172, 173, 174, 175, 176, 177, 178, 179, 180, 181, 182, 183, 184, 185] rfl (by decide +kernel)
set_option maxRecDepth 20000 in
theorem ggc_texts_told_7 : GoodIn wsL_texts (wsL_told_r8) := goodIn_r _ [186, 187, 188, 189, 190, 191, 192, 193, 194, 195, 196, 197, 198, 199, 200, 201, 202, 203, 204, 205, 206, 207, 208, 209] rfl (by decide +kernel)
set_option maxRecDepth 20000 in
theorem ggc_texts_told_8 : GoodIn wsL_texts (wsL_told_r9) := goodIn_r _ [210, 211, 212, 213, 214, 215, 216, 217, 218, 219, 220, 221, 222, 223, 224, 225, 226, 227, 228, 229, 230, 231, 232, 233] rfl (by decide +kernel)
set_option maxRecDepth 20000 in
theorem ggc_texts_told_9 : GoodIn wsL_texts (wsL_told_r10) := goodIn_r _ [234, 235, 236, 237, 238, 239, 240, 241, 242, 243, 244, 245, 246, 247, 248, 249, 250, 251, 252, 253, 254, 255, 256, 257] rfl (by decide +kernel)
set_option maxRecDepth 20000 in
theorem ggc_texts_told_10 : GoodIn wsL_texts (wsL_told_r11) := goodIn_r _ [258, 259, 260, 261, 262, 263, 264, 265, 266, 267, 268, 269, 270, 271, 272, 273, 274, 275, 276, 277, 278, 279, 280, 281] rfl (by decide +kernel)
set_option maxRecDepth 20000 in
theorem ggc_texts_told_11 : GoodIn wsL_texts (wsL_told_r12) := goodIn_r _ [282, 283, 284, 285, 286, 287, 288, 289, 290, 291, 292, 293, 294, 295, 296] rfl (by decide +kernel)
set_option maxRecDepth 20000 in
theorem ggc_texts_told_12 : GoodIn wsL_texts (wsX70) := goodIn_r _ [301, 302, 303, 304, 305, 306, 307] rfl (by decide +kernel)
set_option maxRecDepth 20000 in
theorem ggc_texts_told_13 : GoodIn wsL_texts (wsX60) := goodIn_r _ [308, 309, 310, 311, 312, 313, 314, 315, 316, 317] rfl (by decide +kernel)
set_option maxRecDepth 20000 in
theorem ggc_texts_told_14 : GoodIn wsL_texts (wsX20) := goodIn_r _ [318, 319] rfl (by decide +kernel)
set_option maxRecDepth 20000 in
theorem ggc_texts_told_15 : GoodIn wsL_texts (wsX10) := goodIn_r _ [320, 321] rfl (by decide +kernel)
set_option maxRecDepth 20000 in
theorem ggc_texts_told_16 : GoodIn wsL_texts (wsX40) := goodIn_r _ [322, 323, 324, 325] rfl (by decide +kernel)
set_option maxRecDepth 20000 in
theorem ggc_texts_told_17 : GoodIn wsL_texts (wsX00) := goodIn_r _ [326, 327, 328, 329] rfl (by decide +kernel)
set_option maxRecDepth 20000 in
theorem ggc_texts_told_18 : GoodIn wsL_texts (wsX50) := goodIn_r _ [330, 331, 332, 333, 334] rfl (by decide +kernel)
set_option maxRecDepth 20000 in
theorem ggc_texts_told_19 : GoodIn wsL_texts (wsX30) := goodIn_r _ [335] rfl (by decide +kernel)
theorem ggL_texts_L_told : GoodIn wsL_texts wsL_told := goodIn_app (a := [.code yL_told cL_told 6 (some .int)]) ggc_texts_told_h (goodIn_app (goodIn_app (goodIn_app (goodIn_app (goodIn_app (goodIn_app (goodIn_app (goodIn_app (goodIn_app ggc_texts_told_0 (goodIn_app ggc_texts_told_1 (goodIn_app ggc_texts_told_2 (goodIn_app ggc_texts_told_3 (goodIn_app ggc_texts_told_4 (goodIn_app ggc_texts_told_5 (goodIn_app ggc_texts_told_6 (goodIn_app ggc_texts_told_7 (goodIn_app ggc_texts_told_8 (goodIn_app ggc_texts_told_9 (goodIn_app ggc_texts_told_10 ggc_texts_told_11))))))))))) ggc_texts_told_12) ggc_texts_told_13) ggc_texts_told_14) ggc_texts_told_15) ggc_texts_told_16) ggc_texts_told_17) ggc_texts_told_18) ggc_texts_told_19)
set_option maxRecDepth 20000 in
theorem gL_texts_L_told : GoodIn wsL_texts (va_wsS RL 125 yL_told wsL_told) := goodIn_app (goodIn_of _ (by decide +kernel)) ggL_texts_L_told
set_option maxRecDepth 20000 in
theorem ggc_law_four_h : GoodIn wsL_law [.code yL_four cL_four 1 (some .boolean)] := goodIn_r _ [7] rfl (by decide +kernel)
set_option maxRecDepth 20000 in
theorem ggc_law_four_0 : GoodIn wsL_law (wsL_four_r1) := goodIn_r _ [0, 1, 2, 8, 9, 10, 11, 12, 13, 14, 15, 16, 17, 18, 19, 20, 21, 22, 23, 24, 25, 26, 27, 28] rfl (by decide +kernel)
set_option maxRecDepth 20000 in
theorem ggc_law_four_1 : GoodIn wsL_law (wsL_four_r2) := goodIn_r _ [29, 30, 31, 32, 33, 34, 35, 36, 37, 38, 39, 40, 41, 42, 43, 44, 45, 46, 47, 48, 49, 50, 51, 52] rfl (by decide +kernel)
set_option maxRecDepth 20000 in
theorem ggc_law_four_2 : GoodIn wsL_law (wsL_four_r3) := goodIn_r _ [53, 54, 55, 56, 57, 58, 59, 60, 61, 62, 63, 64, 65, 66, 67, 68, 69, 70, 71, 72, 73, 74, 75, 76] rfl (by decide +kernel)
set_option maxRecDepth 20000 in
theorem ggc_law_four_3 : GoodIn wsL_law (wsL_four_r4) := goodIn_r _ [77, 78, 79, 80, 81, 82, 83, 84, 85, 86, 87, 88, 89, 90, 91, 92, 93, 94, 95, 96, 97, 98, 99, 100] rfl (by decide +kernel)
set_option maxRecDepth 20000 in
theorem ggc_law_four_4 : GoodIn wsL_law (wsL_four_r5) := goodIn_r _ [101, 102, 103, 104, 105, 106, 107, 108, 109, 110, 111, 112, 113, 114, 115, 116, 117, 118, 119, 120, 121, 122, 123, 124] rfl (by decide +kernel)
set_option maxRecDepth 20000 in
theorem ggc_law_four_5 : GoodIn wsL_law (wsL_four_r6) := goodIn_r _ [125, 126, 127, 128, 129, 130, 131, 132, 133, 134, 135, 136, 137, 138, 139, 140, 141, 142, 143, 144, 145, 146, 147, 148] rfl (by decide +kernel)
set_option maxRecDepth 20000 in
theorem ggc_law_four_6 : GoodIn wsL_law (wsL_four_r7) := goodIn_r _ [149, 150, 151, 152, 153, 154, 155, 156, 157, 158, 159, 160, 161, 162, 163, 164, 165, 166, 167, 168, 169, 170, 171, 172] rfl (by decide +kernel)
set_option maxRecDepth 20000 in
theorem ggc_law_four_7 : GoodIn wsL_law (wsL_four_r8) := goodIn_r _ [173, 174, 175, 176, 177, 178, 179, 180, 181, 182, 183, 184, 185, 186, 187, 188, 189, 190, 191, 192, 193, 194, 195, 196] rfl (by decide +kernel)
set_option maxRecDepth 20000 in
theorem ggc_law_four_8 : GoodIn wsL_law (wsL_four_r9) := goodIn_r _ [197, 198, 199, 200, 201, 202, 203, 204, 205, 206, 207, 208, 209, 210, 211, 212, 213, 214, 215, 216, 217, 218, 219, 220] rfl (by decide +kernel)
set_option maxRecDepth 20000 in
theorem ggc_law_four_9 : GoodIn wsL_law (wsL_four_r10) := goodIn_r _ [221, 222, 223, 224, 225, 226, 227, 228, 229, 230, 231, 232, 233, 234, 235, 236, 237, 238, 239, 240, 241, 242, 243, 244] rfl (by decide +kernel)
set_option maxRecDepth 20000 in
theorem ggc_law_four_10 : GoodIn wsL_law (wsL_four_r11) := goodIn_r _ [245, 246, 247, 248, 249, 250, 251, 252, 253, 254, 255, 256, 257, 258, 259, 260, 261, 262, 263, 264, 265, 266, 267, 268] rfl (by decide +kernel)
set_option maxRecDepth 20000 in
theorem ggc_law_four_11 : GoodIn wsL_law (wsL_four_r12) := goodIn_r _ [269, 270, 271, 272, 273, 274, 275, 276, 277, 278, 279, 280, 281, 282, 283, 284, 285, 286, 287, 288, 289, 290, 291, 292] rfl (by decide +kernel)
set_option maxRecDepth 20000 in
theorem ggc_law_four_12 : GoodIn wsL_law (wsL_four_r13) := goodIn_r _ [293, 294, 295, 296, 297, 298, 299, 300, 301, 302, 303, 304, 305, 306, 6, 307, 308, 309, 310, 311, 312, 313, 314, 315] rfl (by decide +kernel)
set_option maxRecDepth 20000 in
theorem ggc_law_four_13 : GoodIn wsL_law (wsL_four_r14) := goodIn_r _ [316, 317, 318, 319, 320, 321, 322, 323, 324, 325, 326, 327, 328, 329, 330, 331, 332, 333, 334, 335, 336, 337, 338, 339] rfl (by decide +kernel)
set_option maxRecDepth 20000 in
theorem ggc_law_four_14 : GoodIn wsL_law (wsL_four_r15) := goodIn_r _ [340, 341, 342, 343, 344, 345, 346, 347, 348, 349, 350, 351, 352, 353, 354, 355, 356, 357, 358, 359, 360, 361, 362, 363] rfl (by decide +kernel)
set_option maxRecDepth 20000 in
theorem ggc_law_four_15 : GoodIn wsL_law (wsL_four_r16) := goodIn_r _ [364, 365, 366, 367, 368, 369, 370, 371, 372, 373, 374, 375, 376, 377, 378, 379, 380, 381, 382, 383, 384, 385, 386, 387] rfl (by decide +kernel)
set_option maxRecDepth 20000 in
theorem ggc_law_four_16 : GoodIn wsL_law (wsL_four_r17) := goodIn_r _ [388, 389, 390, 391, 392, 393, 394, 395, 396, 397, 398, 399, 400, 401, 402, 403, 404, 405, 406, 407, 408, 409, 410, 411] rfl (by decide +kernel)
set_option maxRecDepth 20000 in
theorem ggc_law_four_17 : GoodIn wsL_law (wsL_four_r18) := goodIn_r _ [412, 413, 414, 415, 416, 417, 418, 419, 420, 421, 422, 423, 424, 425, 426, 427, 428, 429, 430, 431, 432, 433, 434, 435] rfl (by decide +kernel)
set_option maxRecDepth 20000 in
theorem ggc_law_four_18 : GoodIn wsL_law (wsL_four_r19) := goodIn_r _ [436, 437, 438, 439, 440, 441, 442, 443, 444, 445, 446, 447, 448, 449, 450, 451, 452, 453, 454, 455, 456, 457, 458, 459] rfl (by decide +kernel)
set_option maxRecDepth 20000 in
theorem ggc_law_four_19 : GoodIn wsL_law (wsL_four_r20) := goodIn_r _ [460, 461, 462, 463, 464, 465, 466, 467, 468, 469, 470, 471, 472, 473, 474, 475, 476, 477, 478, 479, 480, 481, 482, 483] rfl (by decide +kernel)
set_option maxRecDepth 20000 in
theorem ggc_law_four_20 : GoodIn wsL_law (wsL_four_r21) := goodIn_r _ [484, 485, 486] rfl (by decide +kernel)
set_option maxRecDepth 20000 in
theorem ggc_law_four_21 : GoodIn wsL_law (wsX70) := goodIn_r _ [527, 528, 529, 530, 531, 532, 533] rfl (by decide +kernel)
set_option maxRecDepth 20000 in
theorem ggc_law_four_22 : GoodIn wsL_law (wsX60) := goodIn_r _ [534, 535, 536, 537, 538, 539, 540, 541, 542, 543] rfl (by decide +kernel)
set_option maxRecDepth 20000 in
theorem ggc_law_four_23 : GoodIn wsL_law (wsX20) := goodIn_r _ [544, 545] rfl (by decide +kernel)
set_option maxRecDepth 20000 in
theorem ggc_law_four_24 : GoodIn wsL_law (wsX10) := goodIn_r _ [546, 547] rfl (by decide +kernel)
set_option maxRecDepth 20000 in
theorem ggc_law_four_25 : GoodIn wsL_law (wsX40) := goodIn_r _ [548, 549, 550, 551] rfl (by decide +kernel)
set_option maxRecDepth 20000 in
theorem ggc_law_four_26 : GoodIn wsL_law (wsX00) := goodIn_r _ [552, 553, 554, 555] rfl (by decide +kernel)
set_option maxRecDepth 20000 in
theorem ggc_law_four_27 : GoodIn wsL_law (wsX50) := goodIn_r _ [556, 557, 558, 559, 560] rfl (by decide +kernel)
set_option maxRecDepth 20000 in
theorem ggc_law_four_28 : GoodIn wsL_law (wsX30) := goodIn_r _ [561] rfl (by decide +kernel)
theorem ggL_law_L_four : GoodIn wsL_law wsL_four := goodIn_app (a := [.code yL_four cL_four 1 (some .boolean)]) ggc_law_four_h (goodIn_app (goodIn_app (goodIn_app (goodIn_app (goodIn_app (goodIn_app (goodIn_app (goodIn_app (goodIn_app ggc_law_four_0 (goodIn_app ggc_law_four_1 (goodIn_app ggc_law_four_2 (goodIn_app ggc_law_four_3 (goodIn_app ggc_law_four_4 (goodIn_app ggc_law_four_5 (goodIn_app ggc_law_four_6 (goodIn_app ggc_law_four_7 (goodIn_app ggc_law_four_8 (goodIn_app ggc_law_four_9 (goodIn_app ggc_law_four_10 (goodIn_app ggc_law_four_11 (goodIn_app ggc_law_four_12 (goodIn_app ggc_law_four_13 (goodIn_app ggc_law_four_14 (goodIn_app ggc_law_four_15 (goodIn_app ggc_law_four_16 (goodIn_app ggc_law_four_17 (goodIn_app ggc_law_four_18 (goodIn_app ggc_law_four_19 ggc_law_four_20)))))))))))))))))))) ggc_law_four_21) ggc_law_four_22) ggc_law_four_23) ggc_law_four_24) ggc_law_four_25) ggc_law_four_26) ggc_law_four_27) ggc_law_four_28)
set_option maxRecDepth 20000 in
theorem gL_law_L_four : GoodIn wsL_law (va_wsS RL 155 yL_four wsL_four) := goodIn_app (goodIn_of _ (by decide +kernel)) ggL_law_L_four
