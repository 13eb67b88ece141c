set_option maxRecDepth 20000 in
theorem ggL_scans_X7_init : GoodIn wsL_scans wsX7_init := goodIn_r _ [11, 12, 13, 14, 15, 16, 17, 18, 19, 20, 21, 22, 23, 24, 25, 26, 27, 28, 29, 30, 31, 32, 33, 34, 35, 36, 37, 38, 39, 40, 41, 42, 43, 44, 45, 46, 47, 48, 49, 50, 51, 52, 53, 54, 55, 56, 57, 58, 59, 60, 61, 62, 63, 64, 65, 66, 67, 68, 69, 70, 71, 72, 73, 74, 75, 76, 77, 78, 79, 80, 81, 82, 83, 84, 85, 86, 87, 88, 89, 90, 91, 92, 93, 94, 95, 96, 97, 98, 99, 100, 101, 102, 103, 104, 105, 106, 107, 108, 109, 110, 111, 112, 478, 479, 480, 481, 482, 483, 484, 485, 486, 487, 471, 472, 473, 474, 475, 476, 477, 488, 489, 490, 491, 492, 493, 494, 495, 496, 497, 498, 499, 500, 501, 502, 503, 504, 505] (by decide +kernel) (by decide +kernel)
set_option maxRecDepth 20000 in
theorem gL_scans_X7_init : GoodIn wsL_scans (wsX7_init) := ggL_scans_X7_init
set_option maxRecDepth 20000 in
theorem ggL_scans_X7_layBook : GoodIn wsL_scans wsX7_layBook := goodIn_r _ [116, 24, 18, 117, 118, 119, 23, 120, 96, 95, 121, 122, 123, 124, 125, 126, 127, 17, 128, 41, 45, 49, 129, 50, 130, 131, 132, 133, 134, 135, 136, 137, 40, 138, 56, 57, 58, 59, 139, 140, 141, 48, 142, 69, 143, 144, 66, 145, 146, 147, 148, 149, 150, 151, 152, 44, 153, 75, 76, 77, 78, 79, 154, 155, 156, 157, 158, 159, 160, 161, 162, 163, 164, 165, 166, 167, 168, 83, 84, 85, 86, 87, 88, 89, 169, 170, 171, 172, 173, 174, 175, 176, 471, 472, 473, 474, 475, 476, 477, 478, 479, 480, 481, 482, 483, 484, 485, 486, 487, 488, 489, 496, 497, 498, 499, 505, 500, 501, 502, 503, 504] (by decide +kernel) (by decide +kernel)
set_option maxRecDepth 20000 in
theorem gL_scans_X7_layBook : GoodIn wsL_scans (wsV RL 33 RX7 yX7_layBook wsX7_layBook) := goodIn_app (goodIn_of _ (by decide +kernel)) ggL_scans_X7_layBook
set_option maxRecDepth 20000 in
theorem ggL_scans_X7_leaf : GoodIn wsL_scans wsX7_leaf := goodIn_r _ [180, 18, 181, 182, 183, 48, 184, 69, 86, 87, 88, 89, 185, 186, 3, 187, 471, 472, 473, 474, 475, 476, 477, 478, 479, 480, 481, 482, 483, 484, 485, 486, 487, 496, 497, 498, 499, 505] (by decide +kernel) (by decide +kernel)
set_option maxRecDepth 20000 in
theorem gL_scans_X7_leaf : GoodIn wsL_scans (wsV RL 19 RX7 yX7_leaf wsX7_leaf) := goodIn_app (goodIn_of _ (by decide +kernel)) ggL_scans_X7_leaf
set_option maxRecDepth 20000 in
theorem ggL_scans_X7_page : GoodIn wsL_scans wsX7_page := goodIn_r _ [191, 18, 32, 192, 193, 194, 40, 195, 173, 174, 175, 176, 59, 181, 182, 183, 48, 184, 69, 86, 87, 88, 89, 196, 197, 198, 31, 199, 200, 201, 111, 110, 202, 203, 204, 205, 206, 207, 208, 209, 210, 211, 212, 213, 214, 215, 216, 217, 218, 44, 219, 77, 220, 221, 222, 83, 84, 85, 223, 224, 225, 226, 227, 228, 229, 230, 79, 75, 231, 232, 233, 234, 185, 186, 3, 187, 235, 236, 237, 17, 238, 41, 49, 239, 240, 241, 471, 472, 473, 474, 475, 476, 477, 478, 479, 480, 481, 482, 483, 484, 485, 486, 487, 496, 497, 498, 499, 492, 493, 494, 495, 505, 500, 501, 502, 503, 504] (by decide +kernel) (by decide +kernel)
set_option maxRecDepth 20000 in
theorem gL_scans_X7_page : GoodIn wsL_scans (wsV RL 23 RX7 yX7_page wsX7_page) := goodIn_app (goodIn_of _ (by decide +kernel)) ggL_scans_X7_page
set_option maxRecDepth 20000 in
theorem ggL_scans_X7_scan : GoodIn wsL_scans wsX7_scan := goodIn_r _ [245, 18, 19, 24, 246, 247, 248, 17, 249, 41, 250, 126, 127, 128, 45, 49, 129, 50, 130, 131, 132, 133, 134, 135, 136, 137, 40, 138, 56, 57, 58, 59, 139, 140, 141, 48, 142, 69, 143, 144, 66, 145, 146, 147, 148, 149, 150, 151, 152, 44, 153, 75, 76, 77, 78, 79, 154, 155, 251, 252, 253, 254, 255, 256, 257, 258, 259, 260, 261, 262, 263, 264, 265, 266, 267, 268, 269, 270, 186, 3, 187, 271, 272, 273, 274, 275, 276, 277, 278, 279, 280, 281, 282, 283, 236, 237, 238, 239, 240, 241, 182, 183, 184, 86, 87, 88, 89, 284, 285, 286, 287, 288, 83, 84, 85, 289, 290, 291, 292, 293, 294, 295, 296, 297, 298, 299, 300, 301, 302, 65, 67, 117, 118, 119, 23, 120, 96, 95, 121, 122, 123, 124, 125, 471, 472, 473, 474, 475, 476, 477, 478, 479, 480, 481, 482, 483, 484, 485, 486, 487, 496, 497, 498, 499, 505, 500, 501, 502, 503, 504, 488, 489] (by decide +kernel) (by decide +kernel)
set_option maxRecDepth 20000 in
theorem gL_scans_X7_scan : GoodIn wsL_scans (wsV RL 41 RX7 yX7_scan wsX7_scan) := goodIn_app (goodIn_of _ (by decide +kernel)) ggL_scans_X7_scan
set_option maxRecDepth 20000 in
theorem ggL_scans_X7_count : GoodIn wsL_scans wsX7_count := goodIn_r _ [306, 18, 24, 28, 307, 308, 309, 3, 310, 32, 196, 197, 198, 31, 199, 200, 201, 111, 110, 202, 174, 175, 40, 176, 59, 203, 204, 205, 48, 206, 69, 207, 208, 209, 210, 211, 212, 213, 214, 215, 182, 183, 184, 86, 87, 88, 89, 216, 217, 218, 44, 219, 77, 220, 221, 193, 194, 195, 173, 222, 83, 84, 85, 223, 224, 225, 226, 311, 312, 313, 314, 315, 316, 317, 318, 319, 232, 233, 234, 320, 321, 322, 323, 324, 325, 326, 327, 328, 329, 330, 331, 181, 471, 472, 473, 474, 475, 476, 477, 478, 479, 480, 481, 482, 483, 484, 485, 486, 487, 496, 497, 498, 499, 500, 501, 502, 503, 504, 488, 489, 490, 491, 492, 493, 494, 495, 505] (by decide +kernel) (by decide +kernel)
set_option maxRecDepth 20000 in
theorem gL_scans_X7_count : GoodIn wsL_scans (wsV RL 13 RX7 yX7_count wsX7_count) := goodIn_app (goodIn_of _ (by decide +kernel)) ggL_scans_X7_count
set_option maxRecDepth 20000 in
theorem ggL_scans_X7_set : GoodIn wsL_scans wsX7_set := goodIn_r _ [389, 390, 18, 24, 181, 182, 183, 48, 184, 69, 86, 87, 88, 89, 117, 118, 119, 23, 120, 96, 95, 121, 122, 123, 124, 125, 126, 127, 17, 128, 41, 45, 49, 129, 50, 130, 131, 132, 133, 134, 135, 136, 137, 40, 138, 56, 57, 58, 59, 139, 140, 141, 142, 143, 144, 66, 145, 146, 147, 148, 149, 150, 151, 152, 44, 153, 75, 76, 77, 78, 79, 154, 155, 365, 83, 84, 85, 471, 472, 473, 474, 475, 476, 477, 478, 479, 480, 481, 482, 483, 484, 485, 486, 487, 505, 488, 489, 496, 497, 498, 499, 500, 501, 502, 503, 504] (by decide +kernel) (by decide +kernel)
set_option maxRecDepth 20000 in
theorem gL_scans_X7_set : GoodIn wsL_scans (wsV RL 50 RX7 yX7_set wsX7_set) := goodIn_app (goodIn_of _ (by decide +kernel)) ggL_scans_X7_set
set_option maxRecDepth 20000 in
theorem ggL_scans_X7_setSuction : GoodIn wsL_scans wsX7_setSuction := goodIn_r _ [382, 18, 24, 383, 384, 3, 385, 117, 118, 119, 23, 120, 96, 95, 121, 122, 123, 124, 125, 126, 127, 17, 128, 41, 45, 49, 129, 50, 130, 131, 132, 133, 134, 135, 136, 137, 40, 138, 56, 57, 58, 59, 139, 140, 141, 48, 142, 69, 143, 144, 66, 145, 146, 147, 148, 149, 150, 151, 152, 44, 153, 75, 76, 77, 78, 79, 154, 155, 471, 472, 473, 474, 475, 476, 477, 478, 479, 480, 481, 482, 483, 484, 485, 486, 487, 488, 489, 496, 497, 498, 499, 505, 500, 501, 502, 503, 504] (by decide +kernel) (by decide +kernel)
set_option maxRecDepth 20000 in
theorem gL_scans_X7_setSuction : GoodIn wsL_scans (wsV RL 47 RX7 yX7_setSuction wsX7_setSuction) := goodIn_app (goodIn_of _ (by decide +kernel)) ggL_scans_X7_setSuction
set_option maxRecDepth 20000 in
theorem ggL_scans_X7_takeBook : GoodIn wsL_scans wsX7_takeBook := goodIn_r _ [424, 28, 19, 24, 18, 425, 426, 427, 27, 428, 104, 429, 430, 431, 432, 103, 433, 434, 435, 436, 437, 438, 439, 440, 441, 442, 443, 444, 445, 165, 166, 40, 167, 59, 56, 57, 58, 168, 83, 84, 48, 85, 69, 86, 87, 88, 89, 446, 447, 448, 449, 450, 170, 171, 172, 173, 174, 175, 176, 451, 452, 453, 454, 117, 118, 119, 23, 120, 96, 95, 121, 122, 123, 124, 125, 126, 127, 17, 128, 41, 45, 49, 129, 50, 130, 131, 132, 133, 134, 135, 136, 137, 138, 139, 140, 141, 142, 143, 144, 66, 145, 146, 147, 148, 149, 150, 151, 152, 44, 153, 75, 76, 77, 78, 79, 154, 155, 156, 157, 158, 159, 455, 471, 472, 473, 474, 475, 476, 477, 478, 479, 480, 481, 482, 483, 484, 485, 486, 487, 496, 497, 498, 499, 490, 491, 505, 488, 489, 500, 501, 502, 503, 504] (by decide +kernel) (by decide +kernel)
set_option maxRecDepth 20000 in
theorem gL_scans_X7_takeBook : GoodIn wsL_scans (wsV RL 97 RX7 yX7_takeBook wsX7_takeBook) := goodIn_app (goodIn_of _ (by decide +kernel)) ggL_scans_X7_takeBook
set_option maxRecDepth 20000 in
theorem ggL_scans_X7_turn : GoodIn wsL_scans wsX7_turn := goodIn_r _ [459, 18, 24, 356, 256, 257, 17, 258, 41, 129, 117, 118, 119, 23, 120, 96, 95, 121, 122, 123, 124, 125, 126, 127, 128, 45, 49, 50, 130, 131, 132, 133, 134, 135, 136, 137, 40, 138, 56, 57, 58, 59, 139, 140, 141, 48, 142, 69, 143, 144, 66, 145, 146, 147, 148, 149, 150, 151, 152, 44, 153, 75, 76, 77, 78, 79, 154, 155, 460, 290, 291, 292, 293, 294, 295, 296, 241, 182, 183, 184, 86, 87, 88, 89, 297, 298, 299, 300, 301, 302, 65, 67, 471, 472, 473, 474, 475, 476, 477, 478, 479, 480, 481, 482, 483, 484, 485, 486, 487, 496, 497, 498, 499, 488, 489, 505, 500, 501, 502, 503, 504] (by decide +kernel) (by decide +kernel)
set_option maxRecDepth 20000 in
theorem gL_scans_X7_turn : GoodIn wsL_scans (wsV RL 104 RX7 yX7_turn wsX7_turn) := goodIn_app (goodIn_of _ (by decide +kernel)) ggL_scans_X7_turn
set_option maxRecDepth 20000 in
theorem ggL_scans_X7_would : GoodIn wsL_scans wsX7_would := goodIn_r _ [400, 18, 383, 384, 3, 385, 356, 256, 257, 17, 258, 41, 129, 357, 294, 295, 296, 241, 182, 183, 48, 184, 69, 86, 87, 88, 89, 471, 472, 473, 474, 475, 476, 477, 478, 479, 480, 481, 482, 483, 484, 485, 486, 487, 496, 497, 498, 499, 505] (by decide +kernel) (by decide +kernel)
set_option maxRecDepth 20000 in
theorem gL_scans_X7_would : GoodIn wsL_scans (wsV RL 56 RX7 yX7_would wsX7_would) := goodIn_app (goodIn_of _ (by decide +kernel)) ggL_scans_X7_would
set_option maxRecDepth 20000 in
theorem ggL_scans_X7_clearText : GoodIn wsL_scans wsX7_clearText := goodIn_r _ [464, 28, 471, 472, 473, 474, 475, 476, 477, 490, 491] (by decide +kernel) (by decide +kernel)
set_option maxRecDepth 20000 in
theorem gL_scans_X7_clearText : GoodIn wsL_scans (wsV RL 116 RX7 yX7_clearText wsX7_clearText) := goodIn_app (goodIn_of _ (by decide +kernel)) ggL_scans_X7_clearText
set_option maxRecDepth 20000 in
theorem ggL_scans_X7_print : GoodIn wsL_scans wsX7_print := goodIn_r _ [364, 18, 24, 192, 193, 194, 40, 195, 173, 174, 175, 176, 59, 181, 182, 183, 48, 184, 69, 86, 87, 88, 89, 117, 118, 119, 23, 120, 96, 95, 121, 122, 123, 124, 125, 126, 127, 17, 128, 41, 45, 49, 129, 50, 130, 131, 132, 133, 134, 135, 136, 137, 138, 56, 57, 58, 139, 140, 141, 142, 143, 144, 66, 145, 146, 147, 148, 149, 150, 151, 152, 44, 153, 75, 76, 77, 78, 79, 154, 155, 365, 83, 84, 85, 471, 472, 473, 474, 475, 476, 477, 478, 479, 480, 481, 482, 483, 484, 485, 486, 487, 496, 497, 498, 499, 505, 488, 489, 500, 501, 502, 503, 504] (by decide +kernel) (by decide +kernel)
set_option maxRecDepth 20000 in
theorem gL_scans_X7_print : GoodIn wsL_scans (wsV RL 38 RX7 yX7_print wsX7_print) := goodIn_app (goodIn_of _ (by decide +kernel)) ggL_scans_X7_print
set_option maxRecDepth 20000 in
theorem ggL_scans_X7_shoot : GoodIn wsL_scans wsX7_shoot := goodIn_r _ [468, 18, 24, 246, 247, 248, 17, 249, 41, 469, 260, 261, 262, 45, 263, 264, 265, 266, 267, 268, 269, 270, 129, 186, 3, 187, 271, 272, 273, 274, 255, 256, 257, 258, 117, 118, 119, 23, 120, 96, 95, 121, 122, 123, 124, 125, 126, 127, 128, 49, 50, 130, 131, 132, 133, 134, 135, 136, 137, 40, 138, 56, 57, 58, 59, 139, 140, 141, 48, 142, 69, 143, 144, 66, 145, 146, 147, 148, 149, 150, 151, 152, 44, 153, 75, 76, 77, 78, 79, 154, 155, 470, 276, 277, 278, 279, 280, 281, 282, 283, 236, 237, 238, 239, 240, 241, 182, 183, 184, 86, 87, 88, 89, 284, 285, 286, 287, 288, 83, 84, 85, 471, 472, 473, 474, 475, 476, 477, 478, 479, 480, 481, 482, 483, 484, 485, 486, 487, 496, 497, 498, 499, 500, 501, 502, 503, 504, 488, 489, 505] (by decide +kernel) (by decide +kernel)
set_option maxRecDepth 20000 in
theorem gL_scans_X7_shoot : GoodIn wsL_scans (wsV RL 83 RX7 yX7_shoot wsX7_shoot) := goodIn_app (goodIn_of _ (by decide +kernel)) ggL_scans_X7_shoot
set_option maxRecDepth 20000 in
theorem ggL_scans_X7_picture : GoodIn wsL_scans wsX7_picture := goodIn_r _ [344, 18, 32, 345, 346, 347, 44, 348, 79, 181, 182, 183, 48, 184, 69, 86, 87, 88, 89, 349, 217, 218, 219, 77, 220, 185, 186, 3, 187, 196, 197, 198, 31, 199, 200, 201, 111, 110, 202, 174, 175, 40, 176, 59, 203, 204, 205, 206, 207, 208, 209, 210, 211, 212, 213, 214, 215, 216, 221, 193, 194, 195, 173, 222, 83, 84, 85, 223, 224, 225, 226, 350, 325, 326, 327, 351, 239, 240, 471, 472, 473, 474, 475, 476, 477, 478, 479, 480, 481, 482, 483, 484, 485, 486, 487, 500, 501, 502, 503, 504, 492, 493, 494, 495, 505, 496, 497, 498, 499] (by decide +kernel) (by decide +kernel)
set_option maxRecDepth 20000 in
theorem gL_scans_X7_picture : GoodIn wsL_scans (wsV RL 26 RX7 yX7_picture wsX7_picture) := goodIn_app (goodIn_of _ (by decide +kernel)) ggL_scans_X7_picture
set_option maxRecDepth 20000 in
theorem ggL_scans_X7_throwAway : GoodIn wsL_scans wsX7_throwAway := goodIn_r _ [369, 18, 24, 345, 346, 347, 44, 348, 79, 117, 118, 119, 23, 120, 96, 95, 121, 122, 123, 124, 125, 126, 127, 17, 128, 41, 45, 49, 129, 50, 130, 131, 132, 133, 134, 135, 136, 137, 40, 138, 56, 57, 58, 59, 139, 140, 141, 48, 142, 69, 143, 144, 66, 145, 146, 147, 148, 149, 150, 151, 152, 153, 75, 76, 77, 78, 154, 155, 370, 371, 372, 373, 374, 375, 376, 377, 378, 86, 87, 88, 89, 471, 472, 473, 474, 475, 476, 477, 478, 479, 480, 481, 482, 483, 484, 485, 486, 487, 500, 501, 502, 503, 504, 488, 489, 496, 497, 498, 499, 505] (by decide +kernel) (by decide +kernel)
set_option maxRecDepth 20000 in
theorem gL_scans_X7_throwAway : GoodIn wsL_scans (wsV RL 44 RX7 yX7_throwAway wsX7_throwAway) := goodIn_app (goodIn_of _ (by decide +kernel)) ggL_scans_X7_throwAway
theorem dL_scans_0 : decode cL_scans 0 = .ok (.new 14, 3) := by decide +kernel
theorem dL_scans_3 : decode cL_scans 3 = .ok (.dup, 1) := by decide +kernel
theorem dL_scans_4 : decode cL_scans 4 = .ok (.invokespecial 76, 3) := by decide +kernel
theorem dL_scans_7 : decode cL_scans 7 = .ok (.astore_n 0, 1) := by decide +kernel
theorem dL_scans_8 : decode cL_scans 8 = .ok (.aload_n 0, 1) := by decide +kernel
theorem dL_scans_9 : decode cL_scans 9 = .ok (.iconst 5, 1) := by decide +kernel
theorem dL_scans_10 : decode cL_scans 10 = .ok (.iconst 0, 1) := by decide +kernel
theorem dL_scans_11 : decode cL_scans 11 = .ok (.invokevirtual 33, 3) := by decide +kernel
theorem dL_scans_14 : decode cL_scans 14 = .ok (.bipush 15, 2) := by decide +kernel
theorem dL_scans_16 : decode cL_scans 16 = .ok (.if_icmp .ne 213, 3) := by decide +kernel
theorem dL_scans_19 : decode cL_scans 19 = .ok (.aload_n 0, 1) := by decide +kernel
theorem dL_scans_20 : decode cL_scans 20 = .ok (.iconst 0, 1) := by decide +kernel
theorem dL_scans_21 : decode cL_scans 21 = .ok (.iconst 0, 1) := by decide +kernel
theorem dL_scans_22 : decode cL_scans 22 = .ok (.invokevirtual 19, 3) := by decide +kernel
theorem dL_scans_25 : decode cL_scans 25 = .ok (.iconst 4, 1) := by decide +kernel
theorem dL_scans_26 : decode cL_scans 26 = .ok (.if_icmp .ne 203, 3) := by decide +kernel
theorem dL_scans_29 : decode cL_scans 29 = .ok (.aload_n 0, 1) := by decide +kernel
theorem dL_scans_30 : decode cL_scans 30 = .ok (.iconst 0, 1) := by decide +kernel
theorem dL_scans_31 : decode cL_scans 31 = .ok (.iconst 1, 1) := by decide +kernel
theorem dL_scans_32 : decode cL_scans 32 = .ok (.invokevirtual 19, 3) := by decide +kernel
theorem dL_scans_35 : decode cL_scans 35 = .ok (.bipush 6, 2) := by decide +kernel
theorem dL_scans_37 : decode cL_scans 37 = .ok (.if_icmp .ne 192, 3) := by decide +kernel
theorem dL_scans_40 : decode cL_scans 40 = .ok (.aload_n 0, 1) := by decide +kernel
theorem dL_scans_41 : decode cL_scans 41 = .ok (.iconst 1, 1) := by decide +kernel
theorem dL_scans_42 : decode cL_scans 42 = .ok (.iconst 1, 1) := by decide +kernel
theorem dL_scans_43 : decode cL_scans 43 = .ok (.invokevirtual 19, 3) := by decide +kernel
theorem dL_scans_46 : decode cL_scans 46 = .ok (.bipush 8, 2) := by decide +kernel
theorem dL_scans_48 : decode cL_scans 48 = .ok (.if_icmp .ne 181, 3) := by decide +kernel
theorem dL_scans_51 : decode cL_scans 51 = .ok (.aload_n 0, 1) := by decide +kernel
theorem dL_scans_52 : decode cL_scans 52 = .ok (.iconst 3, 1) := by decide +kernel
theorem dL_scans_53 : decode cL_scans 53 = .ok (.iconst 1, 1) := by decide +kernel
theorem dL_scans_54 : decode cL_scans 54 = .ok (.invokevirtual 19, 3) := by decide +kernel
theorem dL_scans_57 : decode cL_scans 57 = .ok (.ifCond .ne 172, 3) := by decide +kernel
theorem dL_scans_60 : decode cL_scans 60 = .ok (.aload_n 0, 1) := by decide +kernel
theorem dL_scans_61 : decode cL_scans 61 = .ok (.iconst 4, 1) := by decide +kernel
theorem dL_scans_62 : decode cL_scans 62 = .ok (.iconst 0, 1) := by decide +kernel
theorem dL_scans_63 : decode cL_scans 63 = .ok (.invokevirtual 19, 3) := by decide +kernel
theorem dL_scans_66 : decode cL_scans 66 = .ok (.iconst 1, 1) := by decide +kernel
theorem dL_scans_67 : decode cL_scans 67 = .ok (.if_icmp .ne 162, 3) := by decide +kernel
theorem dL_scans_70 : decode cL_scans 70 = .ok (.aload_n 0, 1) := by decide +kernel
theorem dL_scans_71 : decode cL_scans 71 = .ok (.iconst 0, 1) := by decide +kernel
theorem dL_scans_72 : decode cL_scans 72 = .ok (.iconst 0, 1) := by decide +kernel
theorem dL_scans_73 : decode cL_scans 73 = .ok (.invokevirtual 23, 3) := by decide +kernel
theorem dL_scans_76 : decode cL_scans 76 = .ok (.bipush (-5), 2) := by decide +kernel
theorem dL_scans_78 : decode cL_scans 78 = .ok (.if_icmp .ne 151, 3) := by decide +kernel
theorem dL_scans_81 : decode cL_scans 81 = .ok (.aload_n 0, 1) := by decide +kernel
theorem dL_scans_82 : decode cL_scans 82 = .ok (.iconst 1, 1) := by decide +kernel
theorem dL_scans_83 : decode cL_scans 83 = .ok (.iconst 0, 1) := by decide +kernel
theorem dL_scans_84 : decode cL_scans 84 = .ok (.invokevirtual 23, 3) := by decide +kernel
theorem dL_scans_87 : decode cL_scans 87 = .ok (.bipush (-5), 2) := by decide +kernel
theorem dL_scans_89 : decode cL_scans 89 = .ok (.if_icmp .ne 140, 3) := by decide +kernel
theorem dL_scans_92 : decode cL_scans 92 = .ok (.aload_n 0, 1) := by decide +kernel
theorem dL_scans_93 : decode cL_scans 93 = .ok (.iconst 2, 1) := by decide +kernel
theorem dL_scans_94 : decode cL_scans 94 = .ok (.iconst 0, 1) := by decide +kernel
theorem dL_scans_95 : decode cL_scans 95 = .ok (.invokevirtual 23, 3) := by decide +kernel
theorem dL_scans_98 : decode cL_scans 98 = .ok (.iconst 3, 1) := by decide +kernel
theorem dL_scans_99 : decode cL_scans 99 = .ok (.if_icmp .ne 130, 3) := by decide +kernel
theorem dL_scans_102 : decode cL_scans 102 = .ok (.aload_n 0, 1) := by decide +kernel
theorem dL_scans_103 : decode cL_scans 103 = .ok (.bipush 9, 2) := by decide +kernel
theorem dL_scans_105 : decode cL_scans 105 = .ok (.iconst 0, 1) := by decide +kernel
theorem dL_scans_106 : decode cL_scans 106 = .ok (.invokevirtual 23, 3) := by decide +kernel
theorem dL_scans_109 : decode cL_scans 109 = .ok (.bipush 10, 2) := by decide +kernel
theorem dL_scans_111 : decode cL_scans 111 = .ok (.if_icmp .ne 118, 3) := by decide +kernel
theorem dL_scans_114 : decode cL_scans 114 = .ok (.aload_n 0, 1) := by decide +kernel
theorem dL_scans_115 : decode cL_scans 115 = .ok (.iconst 1, 1) := by decide +kernel
theorem dL_scans_116 : decode cL_scans 116 = .ok (.invokevirtual 41, 3) := by decide +kernel
theorem dL_scans_119 : decode cL_scans 119 = .ok (.iconst 1, 1) := by decide +kernel
theorem dL_scans_120 : decode cL_scans 120 = .ok (.if_icmp .ne 109, 3) := by decide +kernel
theorem dL_scans_123 : decode cL_scans 123 = .ok (.aload_n 0, 1) := by decide +kernel
theorem dL_scans_124 : decode cL_scans 124 = .ok (.iconst 1, 1) := by decide +kernel
theorem dL_scans_125 : decode cL_scans 125 = .ok (.invokevirtual 13, 3) := by decide +kernel
theorem dL_scans_128 : decode cL_scans 128 = .ok (.iconst 2, 1) := by decide +kernel
theorem dL_scans_129 : decode cL_scans 129 = .ok (.if_icmp .ne 100, 3) := by decide +kernel
theorem dL_scans_132 : decode cL_scans 132 = .ok (.aload_n 0, 1) := by decide +kernel
theorem dL_scans_133 : decode cL_scans 133 = .ok (.bipush 60, 2) := by decide +kernel
theorem dL_scans_135 : decode cL_scans 135 = .ok (.invokevirtual 41, 3) := by decide +kernel
theorem dL_scans_138 : decode cL_scans 138 = .ok (.bipush 7, 2) := by decide +kernel
theorem dL_scans_140 : decode cL_scans 140 = .ok (.if_icmp .ne 89, 3) := by decide +kernel
theorem dL_scans_143 : decode cL_scans 143 = .ok (.aload_n 0, 1) := by decide +kernel
theorem dL_scans_144 : decode cL_scans 144 = .ok (.iconst 1, 1) := by decide +kernel
theorem dL_scans_145 : decode cL_scans 145 = .ok (.invokevirtual 13, 3) := by decide +kernel
theorem dL_scans_148 : decode cL_scans 148 = .ok (.iconst 5, 1) := by decide +kernel
theorem dL_scans_149 : decode cL_scans 149 = .ok (.if_icmp .ne 80, 3) := by decide +kernel
theorem dL_scans_152 : decode cL_scans 152 = .ok (.aload_n 0, 1) := by decide +kernel
theorem dL_scans_153 : decode cL_scans 153 = .ok (.bipush 7, 2) := by decide +kernel
theorem dL_scans_155 : decode cL_scans 155 = .ok (.invokevirtual 13, 3) := by decide +kernel
theorem dL_scans_158 : decode cL_scans 158 = .ok (.iconst 4, 1) := by decide +kernel
theorem dL_scans_159 : decode cL_scans 159 = .ok (.if_icmp .ne 70, 3) := by decide +kernel
theorem dL_scans_162 : decode cL_scans 162 = .ok (.aload_n 0, 1) := by decide +kernel
theorem dL_scans_163 : decode cL_scans 163 = .ok (.bipush 8, 2) := by decide +kernel
theorem dL_scans_165 : decode cL_scans 165 = .ok (.invokevirtual 13, 3) := by decide +kernel
theorem dL_scans_168 : decode cL_scans 168 = .ok (.iconst 1, 1) := by decide +kernel
theorem dL_scans_169 : decode cL_scans 169 = .ok (.if_icmp .ne 60, 3) := by decide +kernel
theorem dL_scans_172 : decode cL_scans 172 = .ok (.aload_n 0, 1) := by decide +kernel
theorem dL_scans_173 : decode cL_scans 173 = .ok (.iconst 2, 1) := by decide +kernel
theorem dL_scans_174 : decode cL_scans 174 = .ok (.invokevirtual 13, 3) := by decide +kernel
theorem dL_scans_177 : decode cL_scans 177 = .ok (.bipush 8, 2) := by decide +kernel
theorem dL_scans_179 : decode cL_scans 179 = .ok (.if_icmp .ne 50, 3) := by decide +kernel
theorem dL_scans_182 : decode cL_scans 182 = .ok (.aload_n 0, 1) := by decide +kernel
theorem dL_scans_183 : decode cL_scans 183 = .ok (.bipush 14, 2) := by decide +kernel
theorem dL_scans_185 : decode cL_scans 185 = .ok (.invokevirtual 13, 3) := by decide +kernel
theorem dL_scans_188 : decode cL_scans 188 = .ok (.iconst 5, 1) := by decide +kernel
theorem dL_scans_189 : decode cL_scans 189 = .ok (.if_icmp .ne 40, 3) := by decide +kernel
theorem dL_scans_192 : decode cL_scans 192 = .ok (.aload_n 0, 1) := by decide +kernel
theorem dL_scans_193 : decode cL_scans 193 = .ok (.iconst 1, 1) := by decide +kernel
theorem dL_scans_194 : decode cL_scans 194 = .ok (.invokevirtual 41, 3) := by decide +kernel
theorem dL_scans_197 : decode cL_scans 197 = .ok (.iconst 1, 1) := by decide +kernel
theorem dL_scans_198 : decode cL_scans 198 = .ok (.if_icmp .ne 31, 3) := by decide +kernel
theorem dL_scans_201 : decode cL_scans 201 = .ok (.aload_n 0, 1) := by decide +kernel
theorem dL_scans_202 : decode cL_scans 202 = .ok (.bipush 14, 2) := by decide +kernel
theorem dL_scans_204 : decode cL_scans 204 = .ok (.invokevirtual 13, 3) := by decide +kernel
theorem dL_scans_207 : decode cL_scans 207 = .ok (.bipush 6, 2) := by decide +kernel
theorem dL_scans_209 : decode cL_scans 209 = .ok (.if_icmp .ne 20, 3) := by decide +kernel
theorem dL_scans_212 : decode cL_scans 212 = .ok (.aload_n 0, 1) := by decide +kernel
theorem dL_scans_213 : decode cL_scans 213 = .ok (.bipush 7, 2) := by decide +kernel
theorem dL_scans_215 : decode cL_scans 215 = .ok (.invokevirtual 13, 3) := by decide +kernel
theorem dL_scans_218 : decode cL_scans 218 = .ok (.iconst 4, 1) := by decide +kernel
theorem dL_scans_219 : decode cL_scans 219 = .ok (.if_icmp .ne 10, 3) := by decide +kernel
theorem dL_scans_222 : decode cL_scans 222 = .ok (.aload_n 0, 1) := by decide +kernel
theorem dL_scans_223 : decode cL_scans 223 = .ok (.invokestatic 100, 3) := by decide +kernel
theorem dL_scans_226 : decode cL_scans 226 = .ok (.ifCond .ne 5, 3) := by decide +kernel
theorem dL_scans_229 : decode cL_scans 229 = .ok (.iconst 0, 1) := by decide +kernel
theorem dL_scans_230 : decode cL_scans 230 = .ok (.ireturn, 1) := by decide +kernel
theorem dL_scans_231 : decode cL_scans 231 = .ok (.new 14, 3) := by decide +kernel
theorem dL_scans_234 : decode cL_scans 234 = .ok (.dup, 1) := by decide +kernel
theorem dL_scans_235 : decode cL_scans 235 = .ok (.invokespecial 76, 3) := by decide +kernel
theorem dL_scans_238 : decode cL_scans 238 = .ok (.astore_n 1, 1) := by decide +kernel
theorem dL_scans_239 : decode cL_scans 239 = .ok (.aload_n 1, 1) := by decide +kernel
theorem dL_scans_240 : decode cL_scans 240 = .ok (.iconst 1, 1) := by decide +kernel
theorem dL_scans_241 : decode cL_scans 241 = .ok (.iconst 1, 1) := by decide +kernel
theorem dL_scans_242 : decode cL_scans 242 = .ok (.invokevirtual 50, 3) := by decide +kernel
theorem dL_scans_245 : decode cL_scans 245 = .ok (.ifCond .ne 334, 3) := by decide +kernel
theorem dL_scans_248 : decode cL_scans 248 = .ok (.aload_n 1, 1) := by decide +kernel
theorem dL_scans_249 : decode cL_scans 249 = .ok (.iconst 5, 1) := by decide +kernel
theorem dL_scans_250 : decode cL_scans 250 = .ok (.invokevirtual 47, 3) := by decide +kernel
theorem dL_scans_253 : decode cL_scans 253 = .ok (.bipush 6, 2) := by decide +kernel
theorem dL_scans_255 : decode cL_scans 255 = .ok (.if_icmp .ne 324, 3) := by decide +kernel
theorem dL_scans_258 : decode cL_scans 258 = .ok (.aload_n 1, 1) := by decide +kernel
theorem dL_scans_259 : decode cL_scans 259 = .ok (.ldc2_w 110, 3) := by decide +kernel
theorem dL_scans_262 : decode cL_scans 262 = .ok (.invokestatic 91, 3) := by decide +kernel
theorem dL_scans_265 : decode cL_scans 265 = .ok (.ifCond .eq 314, 3) := by decide +kernel
theorem dL_scans_268 : decode cL_scans 268 = .ok (.aload_n 1, 1) := by decide +kernel
theorem dL_scans_269 : decode cL_scans 269 = .ok (.ldc2_w 112, 3) := by decide +kernel
theorem dL_scans_272 : decode cL_scans 272 = .ok (.invokestatic 91, 3) := by decide +kernel
theorem dL_scans_275 : decode cL_scans 275 = .ok (.ifCond .eq 304, 3) := by decide +kernel
theorem dL_scans_278 : decode cL_scans 278 = .ok (.aload_n 1, 1) := by decide +kernel
theorem dL_scans_279 : decode cL_scans 279 = .ok (.ldc2_w 114, 3) := by decide +kernel
theorem dL_scans_282 : decode cL_scans 282 = .ok (.invokestatic 91, 3) := by decide +kernel
theorem dL_scans_285 : decode cL_scans 285 = .ok (.ifCond .eq 294, 3) := by decide +kernel
theorem dL_scans_288 : decode cL_scans 288 = .ok (.aload_n 1, 1) := by decide +kernel
theorem dL_scans_289 : decode cL_scans 289 = .ok (.invokevirtual 97, 3) := by decide +kernel
theorem dL_scans_292 : decode cL_scans 292 = .ok (.bipush 9, 2) := by decide +kernel
theorem dL_scans_294 : decode cL_scans 294 = .ok (.if_icmp .ne 285, 3) := by decide +kernel
theorem dL_scans_297 : decode cL_scans 297 = .ok (.aload_n 1, 1) := by decide +kernel
theorem dL_scans_298 : decode cL_scans 298 = .ok (.iconst 2, 1) := by decide +kernel
theorem dL_scans_299 : decode cL_scans 299 = .ok (.invokevirtual 41, 3) := by decide +kernel
theorem dL_scans_302 : decode cL_scans 302 = .ok (.iconst 2, 1) := by decide +kernel
theorem dL_scans_303 : decode cL_scans 303 = .ok (.if_icmp .ne 276, 3) := by decide +kernel
theorem dL_scans_306 : decode cL_scans 306 = .ok (.aload_n 1, 1) := by decide +kernel
theorem dL_scans_307 : decode cL_scans 307 = .ok (.bipush 9, 2) := by decide +kernel
theorem dL_scans_309 : decode cL_scans 309 = .ok (.invokevirtual 13, 3) := by decide +kernel
theorem dL_scans_312 : decode cL_scans 312 = .ok (.iconst 2, 1) := by decide +kernel
theorem dL_scans_313 : decode cL_scans 313 = .ok (.if_icmp .ne 266, 3) := by decide +kernel
theorem dL_scans_316 : decode cL_scans 316 = .ok (.aload_n 1, 1) := by decide +kernel
theorem dL_scans_317 : decode cL_scans 317 = .ok (.bipush 10, 2) := by decide +kernel
theorem dL_scans_319 : decode cL_scans 319 = .ok (.invokevirtual 13, 3) := by decide +kernel
theorem dL_scans_322 : decode cL_scans 322 = .ok (.bipush 9, 2) := by decide +kernel
theorem dL_scans_324 : decode cL_scans 324 = .ok (.if_icmp .ne 255, 3) := by decide +kernel
theorem dL_scans_327 : decode cL_scans 327 = .ok (.aload_n 1, 1) := by decide +kernel
theorem dL_scans_328 : decode cL_scans 328 = .ok (.invokevirtual 104, 3) := by decide +kernel
theorem dL_scans_331 : decode cL_scans 331 = .ok (.iconst 1, 1) := by decide +kernel
theorem dL_scans_332 : decode cL_scans 332 = .ok (.if_icmp .ne 247, 3) := by decide +kernel
theorem dL_scans_335 : decode cL_scans 335 = .ok (.aload_n 1, 1) := by decide +kernel
theorem dL_scans_336 : decode cL_scans 336 = .ok (.invokevirtual 104, 3) := by decide +kernel
theorem dL_scans_339 : decode cL_scans 339 = .ok (.iconst 1, 1) := by decide +kernel
theorem dL_scans_340 : decode cL_scans 340 = .ok (.if_icmp .ne 239, 3) := by decide +kernel
theorem dL_scans_343 : decode cL_scans 343 = .ok (.aload_n 1, 1) := by decide +kernel
theorem dL_scans_344 : decode cL_scans 344 = .ok (.invokevirtual 104, 3) := by decide +kernel
theorem dL_scans_347 : decode cL_scans 347 = .ok (.iconst 1, 1) := by decide +kernel
theorem dL_scans_348 : decode cL_scans 348 = .ok (.if_icmp .ne 231, 3) := by decide +kernel
theorem dL_scans_351 : decode cL_scans 351 = .ok (.aload_n 1, 1) := by decide +kernel
theorem dL_scans_352 : decode cL_scans 352 = .ok (.invokevirtual 104, 3) := by decide +kernel
theorem dL_scans_355 : decode cL_scans 355 = .ok (.iconst 1, 1) := by decide +kernel
theorem dL_scans_356 : decode cL_scans 356 = .ok (.if_icmp .ne 223, 3) := by decide +kernel
theorem dL_scans_359 : decode cL_scans 359 = .ok (.aload_n 1, 1) := by decide +kernel
theorem dL_scans_360 : decode cL_scans 360 = .ok (.bipush 10, 2) := by decide +kernel
theorem dL_scans_362 : decode cL_scans 362 = .ok (.invokevirtual 13, 3) := by decide +kernel
theorem dL_scans_365 : decode cL_scans 365 = .ok (.bipush 9, 2) := by decide +kernel
theorem dL_scans_367 : decode cL_scans 367 = .ok (.if_icmp .ne 212, 3) := by decide +kernel
theorem dL_scans_370 : decode cL_scans 370 = .ok (.aload_n 1, 1) := by decide +kernel
theorem dL_scans_371 : decode cL_scans 371 = .ok (.invokevirtual 104, 3) := by decide +kernel
theorem dL_scans_374 : decode cL_scans 374 = .ok (.iconst 1, 1) := by decide +kernel
theorem dL_scans_375 : decode cL_scans 375 = .ok (.if_icmp .ne 204, 3) := by decide +kernel
theorem dL_scans_378 : decode cL_scans 378 = .ok (.aload_n 1, 1) := by decide +kernel
theorem dL_scans_379 : decode cL_scans 379 = .ok (.bipush 10, 2) := by decide +kernel
theorem dL_scans_381 : decode cL_scans 381 = .ok (.invokevirtual 13, 3) := by decide +kernel
theorem dL_scans_384 : decode cL_scans 384 = .ok (.bipush 8, 2) := by decide +kernel
theorem dL_scans_386 : decode cL_scans 386 = .ok (.if_icmp .ne 193, 3) := by decide +kernel
theorem dL_scans_389 : decode cL_scans 389 = .ok (.aload_n 1, 1) := by decide +kernel
theorem dL_scans_390 : decode cL_scans 390 = .ok (.invokevirtual 104, 3) := by decide +kernel
theorem dL_scans_393 : decode cL_scans 393 = .ok (.iconst 1, 1) := by decide +kernel
theorem dL_scans_394 : decode cL_scans 394 = .ok (.if_icmp .ne 185, 3) := by decide +kernel
theorem dL_scans_397 : decode cL_scans 397 = .ok (.aload_n 1, 1) := by decide +kernel
theorem dL_scans_398 : decode cL_scans 398 = .ok (.bipush 10, 2) := by decide +kernel
theorem dL_scans_400 : decode cL_scans 400 = .ok (.invokevirtual 13, 3) := by decide +kernel
theorem dL_scans_403 : decode cL_scans 403 = .ok (.bipush 8, 2) := by decide +kernel
theorem dL_scans_405 : decode cL_scans 405 = .ok (.if_icmp .ne 174, 3) := by decide +kernel
theorem dL_scans_408 : decode cL_scans 408 = .ok (.aload_n 1, 1) := by decide +kernel
theorem dL_scans_409 : decode cL_scans 409 = .ok (.bipush 8, 2) := by decide +kernel
theorem dL_scans_411 : decode cL_scans 411 = .ok (.invokevirtual 56, 3) := by decide +kernel
theorem dL_scans_414 : decode cL_scans 414 = .ok (.iconst 2, 1) := by decide +kernel
theorem dL_scans_415 : decode cL_scans 415 = .ok (.if_icmp .ne 164, 3) := by decide +kernel
theorem dL_scans_418 : decode cL_scans 418 = .ok (.aload_n 1, 1) := by decide +kernel
theorem dL_scans_419 : decode cL_scans 419 = .ok (.invokevirtual 104, 3) := by decide +kernel
theorem dL_scans_422 : decode cL_scans 422 = .ok (.iconst 2, 1) := by decide +kernel
theorem dL_scans_423 : decode cL_scans 423 = .ok (.if_icmp .ne 156, 3) := by decide +kernel
theorem dL_scans_426 : decode cL_scans 426 = .ok (.aload_n 1, 1) := by decide +kernel
theorem dL_scans_427 : decode cL_scans 427 = .ok (.bipush 10, 2) := by decide +kernel
theorem dL_scans_429 : decode cL_scans 429 = .ok (.invokevirtual 13, 3) := by decide +kernel
theorem dL_scans_432 : decode cL_scans 432 = .ok (.bipush 9, 2) := by decide +kernel
theorem dL_scans_434 : decode cL_scans 434 = .ok (.if_icmp .ne 145, 3) := by decide +kernel
theorem dL_scans_437 : decode cL_scans 437 = .ok (.aload_n 1, 1) := by decide +kernel
theorem dL_scans_438 : decode cL_scans 438 = .ok (.invokevirtual 104, 3) := by decide +kernel
theorem dL_scans_441 : decode cL_scans 441 = .ok (.iconst 1, 1) := by decide +kernel
theorem dL_scans_442 : decode cL_scans 442 = .ok (.if_icmp .ne 137, 3) := by decide +kernel
theorem dL_scans_445 : decode cL_scans 445 = .ok (.aload_n 1, 1) := by decide +kernel
theorem dL_scans_446 : decode cL_scans 446 = .ok (.iconst 1, 1) := by decide +kernel
theorem dL_scans_447 : decode cL_scans 447 = .ok (.invokevirtual 13, 3) := by decide +kernel
theorem dL_scans_450 : decode cL_scans 450 = .ok (.bipush 9, 2) := by decide +kernel
theorem dL_scans_452 : decode cL_scans 452 = .ok (.if_icmp .ne 127, 3) := by decide +kernel
theorem dL_scans_455 : decode cL_scans 455 = .ok (.aload_n 1, 1) := by decide +kernel
theorem dL_scans_456 : decode cL_scans 456 = .ok (.bipush 7, 2) := by decide +kernel
theorem dL_scans_458 : decode cL_scans 458 = .ok (.invokevirtual 13, 3) := by decide +kernel
theorem dL_scans_461 : decode cL_scans 461 = .ok (.bipush 10, 2) := by decide +kernel
theorem dL_scans_463 : decode cL_scans 463 = .ok (.if_icmp .ne 116, 3) := by decide +kernel
theorem dL_scans_466 : decode cL_scans 466 = .ok (.aload_n 1, 1) := by decide +kernel
theorem dL_scans_467 : decode cL_scans 467 = .ok (.bipush 20, 2) := by decide +kernel
theorem dL_scans_469 : decode cL_scans 469 = .ok (.invokevirtual 47, 3) := by decide +kernel
theorem dL_scans_472 : decode cL_scans 472 = .ok (.bipush 9, 2) := by decide +kernel
theorem dL_scans_474 : decode cL_scans 474 = .ok (.if_icmp .ne 105, 3) := by decide +kernel
theorem dL_scans_477 : decode cL_scans 477 = .ok (.aload_n 1, 1) := by decide +kernel
theorem dL_scans_478 : decode cL_scans 478 = .ok (.invokevirtual 116, 3) := by decide +kernel
theorem dL_scans_481 : decode cL_scans 481 = .ok (.bipush 19, 2) := by decide +kernel
theorem dL_scans_483 : decode cL_scans 483 = .ok (.if_icmp .ne 96, 3) := by decide +kernel
theorem dL_scans_486 : decode cL_scans 486 = .ok (.aload_n 1, 1) := by decide +kernel
theorem dL_scans_487 : decode cL_scans 487 = .ok (.ldc2_w 119, 3) := by decide +kernel
theorem dL_scans_490 : decode cL_scans 490 = .ok (.invokestatic 91, 3) := by decide +kernel
theorem dL_scans_493 : decode cL_scans 493 = .ok (.ifCond .eq 86, 3) := by decide +kernel
theorem dL_scans_496 : decode cL_scans 496 = .ok (.aload_n 1, 1) := by decide +kernel
theorem dL_scans_497 : decode cL_scans 497 = .ok (.invokevirtual 97, 3) := by decide +kernel
theorem dL_scans_500 : decode cL_scans 500 = .ok (.iconst 3, 1) := by decide +kernel
theorem dL_scans_501 : decode cL_scans 501 = .ok (.if_icmp .ne 78, 3) := by decide +kernel
theorem dL_scans_504 : decode cL_scans 504 = .ok (.aload_n 1, 1) := by decide +kernel
theorem dL_scans_505 : decode cL_scans 505 = .ok (.bipush 10, 2) := by decide +kernel
theorem dL_scans_507 : decode cL_scans 507 = .ok (.invokevirtual 13, 3) := by decide +kernel
theorem dL_scans_510 : decode cL_scans 510 = .ok (.bipush 20, 2) := by decide +kernel
theorem dL_scans_512 : decode cL_scans 512 = .ok (.if_icmp .ne 67, 3) := by decide +kernel
theorem dL_scans_515 : decode cL_scans 515 = .ok (.aload_n 1, 1) := by decide +kernel
theorem dL_scans_516 : decode cL_scans 516 = .ok (.bipush 19, 2) := by decide +kernel
theorem dL_scans_518 : decode cL_scans 518 = .ok (.invokevirtual 47, 3) := by decide +kernel
theorem dL_scans_521 : decode cL_scans 521 = .ok (.bipush 20, 2) := by decide +kernel
theorem dL_scans_523 : decode cL_scans 523 = .ok (.if_icmp .ne 56, 3) := by decide +kernel
theorem dL_scans_526 : decode cL_scans 526 = .ok (.aload_n 1, 1) := by decide +kernel
theorem dL_scans_527 : decode cL_scans 527 = .ok (.iconst 0, 1) := by decide +kernel
theorem dL_scans_528 : decode cL_scans 528 = .ok (.sipush 150, 3) := by decide +kernel
theorem dL_scans_531 : decode cL_scans 531 = .ok (.invokevirtual 38, 3) := by decide +kernel
theorem dL_scans_534 : decode cL_scans 534 = .ok (.iconst 1, 1) := by decide +kernel
theorem dL_scans_535 : decode cL_scans 535 = .ok (.if_icmp .ne 44, 3) := by decide +kernel
theorem dL_scans_538 : decode cL_scans 538 = .ok (.aload_n 1, 1) := by decide +kernel
theorem dL_scans_539 : decode cL_scans 539 = .ok (.iconst 0, 1) := by decide +kernel
theorem dL_scans_540 : decode cL_scans 540 = .ok (.bipush 10, 2) := by decide +kernel
theorem dL_scans_542 : decode cL_scans 542 = .ok (.invokevirtual 50, 3) := by decide +kernel
theorem dL_scans_545 : decode cL_scans 545 = .ok (.iconst 2, 1) := by decide +kernel
theorem dL_scans_546 : decode cL_scans 546 = .ok (.if_icmp .ne 33, 3) := by decide +kernel
theorem dL_scans_549 : decode cL_scans 549 = .ok (.aload_n 1, 1) := by decide +kernel
theorem dL_scans_550 : decode cL_scans 550 = .ok (.invokevirtual 83, 3) := by decide +kernel
theorem dL_scans_553 : decode cL_scans 553 = .ok (.iconst 1, 1) := by decide +kernel
theorem dL_scans_554 : decode cL_scans 554 = .ok (.if_icmp .ne 25, 3) := by decide +kernel
theorem dL_scans_557 : decode cL_scans 557 = .ok (.aload_n 1, 1) := by decide +kernel
theorem dL_scans_558 : decode cL_scans 558 = .ok (.iconst 0, 1) := by decide +kernel
theorem dL_scans_559 : decode cL_scans 559 = .ok (.iconst 2, 1) := by decide +kernel
theorem dL_scans_560 : decode cL_scans 560 = .ok (.invokevirtual 26, 3) := by decide +kernel
theorem dL_scans_563 : decode cL_scans 563 = .ok (.iconst 1, 1) := by decide +kernel
theorem dL_scans_564 : decode cL_scans 564 = .ok (.if_icmp .ne 15, 3) := by decide +kernel
theorem dL_scans_567 : decode cL_scans 567 = .ok (.aload_n 1, 1) := by decide +kernel
theorem dL_scans_568 : decode cL_scans 568 = .ok (.iconst 0, 1) := by decide +kernel
theorem dL_scans_569 : decode cL_scans 569 = .ok (.iconst 1, 1) := by decide +kernel
theorem dL_scans_570 : decode cL_scans 570 = .ok (.invokevirtual 26, 3) := by decide +kernel
theorem dL_scans_573 : decode cL_scans 573 = .ok (.sipush 150, 3) := by decide +kernel
theorem dL_scans_576 : decode cL_scans 576 = .ok (.if_icmp .eq 5, 3) := by decide +kernel
theorem dL_scans_579 : decode cL_scans 579 = .ok (.iconst 0, 1) := by decide +kernel
theorem dL_scans_580 : decode cL_scans 580 = .ok (.ireturn, 1) := by decide +kernel
theorem dL_scans_581 : decode cL_scans 581 = .ok (.new 14, 3) := by decide +kernel
theorem dL_scans_584 : decode cL_scans 584 = .ok (.dup, 1) := by decide +kernel
theorem dL_scans_585 : decode cL_scans 585 = .ok (.invokespecial 76, 3) := by decide +kernel
theorem dL_scans_588 : decode cL_scans 588 = .ok (.astore_n 2, 1) := by decide +kernel
theorem dL_scans_589 : decode cL_scans 589 = .ok (.aload_n 2, 1) := by decide +kernel
theorem dL_scans_590 : decode cL_scans 590 = .ok (.ldc2_w 121, 3) := by decide +kernel
theorem dL_scans_593 : decode cL_scans 593 = .ok (.invokestatic 91, 3) := by decide +kernel
theorem dL_scans_596 : decode cL_scans 596 = .ok (.ifCond .eq 11, 3) := by decide +kernel
theorem dL_scans_599 : decode cL_scans 599 = .ok (.aload_n 2, 1) := by decide +kernel
theorem dL_scans_600 : decode cL_scans 600 = .ok (.invokevirtual 97, 3) := by decide +kernel
theorem dL_scans_603 : decode cL_scans 603 = .ok (.iconst 1, 1) := by decide +kernel
theorem dL_scans_604 : decode cL_scans 604 = .ok (.if_icmp .eq 5, 3) := by decide +kernel
theorem dL_scans_607 : decode cL_scans 607 = .ok (.iconst 0, 1) := by decide +kernel
theorem dL_scans_608 : decode cL_scans 608 = .ok (.ireturn, 1) := by decide +kernel
theorem dL_scans_609 : decode cL_scans 609 = .ok (.iconst 0, 1) := by decide +kernel
theorem dL_scans_610 : decode cL_scans 610 = .ok (.istore_n 3, 1) := by decide +kernel
theorem dL_scans_611 : decode cL_scans 611 = .ok (.iload_n 3, 1) := by decide +kernel
theorem dL_scans_612 : decode cL_scans 612 = .ok (.bipush 80, 2) := by decide +kernel
theorem dL_scans_614 : decode cL_scans 614 = .ok (.if_icmp .ge 30, 3) := by decide +kernel
theorem dL_scans_617 : decode cL_scans 617 = .ok (.aload_n 2, 1) := by decide +kernel
theorem dL_scans_618 : decode cL_scans 618 = .ok (.invokevirtual 83, 3) := by decide +kernel
theorem dL_scans_621 : decode cL_scans 621 = .ok (.iconst 1, 1) := by decide +kernel
theorem dL_scans_622 : decode cL_scans 622 = .ok (.if_icmp .ne 14, 3) := by decide +kernel
theorem dL_scans_625 : decode cL_scans 625 = .ok (.aload_n 2, 1) := by decide +kernel
theorem dL_scans_626 : decode cL_scans 626 = .ok (.iconst 2, 1) := by decide +kernel
theorem dL_scans_627 : decode cL_scans 627 = .ok (.invokevirtual 13, 3) := by decide +kernel
theorem dL_scans_630 : decode cL_scans 630 = .ok (.iload_n 3, 1) := by decide +kernel
theorem dL_scans_631 : decode cL_scans 631 = .ok (.iconst 1, 1) := by decide +kernel
theorem dL_scans_632 : decode cL_scans 632 = .ok (.iadd, 1) := by decide +kernel
theorem dL_scans_633 : decode cL_scans 633 = .ok (.if_icmp .eq 5, 3) := by decide +kernel
theorem dL_scans_636 : decode cL_scans 636 = .ok (.iconst 0, 1) := by decide +kernel
theorem dL_scans_637 : decode cL_scans 637 = .ok (.ireturn, 1) := by decide +kernel
theorem dL_scans_638 : decode cL_scans 638 = .ok (.iinc 3 1, 3) := by decide +kernel
theorem dL_scans_641 : decode cL_scans 641 = .ok (.goto (-30), 3) := by decide +kernel
theorem dL_scans_644 : decode cL_scans 644 = .ok (.aload_n 2, 1) := by decide +kernel
theorem dL_scans_645 : decode cL_scans 645 = .ok (.invokevirtual 83, 3) := by decide +kernel
theorem dL_scans_648 : decode cL_scans 648 = .ok (.bipush (-3), 2) := by decide +kernel
theorem dL_scans_650 : decode cL_scans 650 = .ok (.if_icmp .ne 112, 3) := by decide +kernel
theorem dL_scans_653 : decode cL_scans 653 = .ok (.aload_n 2, 1) := by decide +kernel
theorem dL_scans_654 : decode cL_scans 654 = .ok (.iconst 1, 1) := by decide +kernel
theorem dL_scans_655 : decode cL_scans 655 = .ok (.invokevirtual 41, 3) := by decide +kernel
theorem dL_scans_658 : decode cL_scans 658 = .ok (.bipush (-3), 2) := by decide +kernel
theorem dL_scans_660 : decode cL_scans 660 = .ok (.if_icmp .ne 102, 3) := by decide +kernel
theorem dL_scans_663 : decode cL_scans 663 = .ok (.aload_n 2, 1) := by decide +kernel
theorem dL_scans_664 : decode cL_scans 664 = .ok (.iconst 2, 1) := by decide +kernel
theorem dL_scans_665 : decode cL_scans 665 = .ok (.invokevirtual 13, 3) := by decide +kernel
theorem dL_scans_668 : decode cL_scans 668 = .ok (.bipush 80, 2) := by decide +kernel
theorem dL_scans_670 : decode cL_scans 670 = .ok (.if_icmp .ne 92, 3) := by decide +kernel
theorem dL_scans_673 : decode cL_scans 673 = .ok (.aload_n 2, 1) := by decide +kernel
theorem dL_scans_674 : decode cL_scans 674 = .ok (.bipush 7, 2) := by decide +kernel
theorem dL_scans_676 : decode cL_scans 676 = .ok (.invokevirtual 13, 3) := by decide +kernel
theorem dL_scans_679 : decode cL_scans 679 = .ok (.ifCond .ne 83, 3) := by decide +kernel
theorem dL_scans_682 : decode cL_scans 682 = .ok (.aload_n 2, 1) := by decide +kernel
theorem dL_scans_683 : decode cL_scans 683 = .ok (.invokevirtual 104, 3) := by decide +kernel
theorem dL_scans_686 : decode cL_scans 686 = .ok (.ifCond .ne 76, 3) := by decide +kernel
theorem dL_scans_689 : decode cL_scans 689 = .ok (.aload_n 2, 1) := by decide +kernel
theorem dL_scans_690 : decode cL_scans 690 = .ok (.bipush 9, 2) := by decide +kernel
theorem dL_scans_692 : decode cL_scans 692 = .ok (.invokevirtual 13, 3) := by decide +kernel
theorem dL_scans_695 : decode cL_scans 695 = .ok (.iconst 1, 1) := by decide +kernel
theorem dL_scans_696 : decode cL_scans 696 = .ok (.if_icmp .ne 66, 3) := by decide +kernel
theorem dL_scans_699 : decode cL_scans 699 = .ok (.aload_n 2, 1) := by decide +kernel
theorem dL_scans_700 : decode cL_scans 700 = .ok (.iconst 0, 1) := by decide +kernel
theorem dL_scans_701 : decode cL_scans 701 = .ok (.invokevirtual 44, 3) := by decide +kernel
theorem dL_scans_704 : decode cL_scans 704 = .ok (.bipush 79, 2) := by decide +kernel
theorem dL_scans_706 : decode cL_scans 706 = .ok (.if_icmp .ne 56, 3) := by decide +kernel
theorem dL_scans_709 : decode cL_scans 709 = .ok (.aload_n 2, 1) := by decide +kernel
theorem dL_scans_710 : decode cL_scans 710 = .ok (.iconst 1, 1) := by decide +kernel
theorem dL_scans_711 : decode cL_scans 711 = .ok (.invokevirtual 41, 3) := by decide +kernel
theorem dL_scans_714 : decode cL_scans 714 = .ok (.iconst 1, 1) := by decide +kernel
theorem dL_scans_715 : decode cL_scans 715 = .ok (.if_icmp .ne 47, 3) := by decide +kernel
theorem dL_scans_718 : decode cL_scans 718 = .ok (.aload_n 2, 1) := by decide +kernel
theorem dL_scans_719 : decode cL_scans 719 = .ok (.bipush 79, 2) := by decide +kernel
theorem dL_scans_721 : decode cL_scans 721 = .ok (.bipush 6, 2) := by decide +kernel
theorem dL_scans_723 : decode cL_scans 723 = .ok (.invokevirtual 26, 3) := by decide +kernel
theorem dL_scans_726 : decode cL_scans 726 = .ok (.bipush 80, 2) := by decide +kernel
theorem dL_scans_728 : decode cL_scans 728 = .ok (.if_icmp .ne 34, 3) := by decide +kernel
theorem dL_scans_731 : decode cL_scans 731 = .ok (.aload_n 2, 1) := by decide +kernel
theorem dL_scans_732 : decode cL_scans 732 = .ok (.iconst 5, 1) := by decide +kernel
theorem dL_scans_733 : decode cL_scans 733 = .ok (.invokevirtual 13, 3) := by decide +kernel
theorem dL_scans_736 : decode cL_scans 736 = .ok (.bipush 79, 2) := by decide +kernel
theorem dL_scans_738 : decode cL_scans 738 = .ok (.if_icmp .ne 24, 3) := by decide +kernel
theorem dL_scans_741 : decode cL_scans 741 = .ok (.aload_n 2, 1) := by decide +kernel
theorem dL_scans_742 : decode cL_scans 742 = .ok (.iconst 0, 1) := by decide +kernel
theorem dL_scans_743 : decode cL_scans 743 = .ok (.invokevirtual 41, 3) := by decide +kernel
theorem dL_scans_746 : decode cL_scans 746 = .ok (.bipush (-2), 2) := by decide +kernel
theorem dL_scans_748 : decode cL_scans 748 = .ok (.if_icmp .ne 14, 3) := by decide +kernel
theorem dL_scans_751 : decode cL_scans 751 = .ok (.aload_n 2, 1) := by decide +kernel
theorem dL_scans_752 : decode cL_scans 752 = .ok (.invokestatic 100, 3) := by decide +kernel
theorem dL_scans_755 : decode cL_scans 755 = .ok (.ifCond .eq 7, 3) := by decide +kernel
theorem dL_scans_758 : decode cL_scans 758 = .ok (.iconst 1, 1) := by decide +kernel
theorem dL_scans_759 : decode cL_scans 759 = .ok (.goto 4, 3) := by decide +kernel
theorem dL_scans_762 : decode cL_scans 762 = .ok (.iconst 0, 1) := by decide +kernel
theorem dL_scans_763 : decode cL_scans 763 = .ok (.ireturn, 1) := by decide +kernel
set_option maxRecDepth 20000 in
theorem ggL_told_X7_init : GoodIn wsL_told wsX7_init := goodIn_r _ [6, 7, 8, 9, 10, 11, 12, 13, 14, 15, 16, 17, 18, 19, 20, 21, 22, 23, 24, 25, 26, 27, 28, 29, 30, 31, 32, 33, 34, 35, 36, 37, 38, 39, 40, 41, 42, 43, 44, 45, 46, 47, 48, 49, 50, 51, 52, 53, 54, 55, 56, 57, 58, 59, 60, 61, 62, 63, 64, 65, 66, 67, 68, 69, 70, 71, 72, 73, 74, 75, 76, 77, 78, 79, 80, 81, 82, 83, 84, 85, 86, 87, 88, 89, 90, 91, 92, 93, 94, 95, 96, 97, 98, 99, 100, 101, 102, 103, 104, 105, 106, 107, 287, 288, 289, 290, 291, 292, 293, 294, 295, 296, 280, 281, 282, 283, 284, 285, 286, 297, 298, 299, 300, 301, 302, 303, 304, 305, 306, 307, 308, 309, 310, 311, 312, 313, 314] (by decide +kernel) (by decide +kernel)
set_option maxRecDepth 20000 in
theorem gL_told_X7_init : GoodIn wsL_told (wsX7_init) := ggL_told_X7_init
set_option maxRecDepth 20000 in
theorem ggL_told_X7_takeBook : GoodIn wsL_told wsX7_takeBook := goodIn_r _ [124, 23, 14, 19, 13, 125, 126, 127, 22, 128, 99, 129, 130, 131, 132, 98, 133, 134, 135, 136, 137, 138, 139, 140, 141, 142, 143, 144, 145, 146, 147, 35, 148, 54, 51, 52, 53, 149, 78, 79, 43, 80, 64, 81, 82, 83, 84, 150, 151, 152, 153, 154, 155, 156, 157, 158, 159, 160, 161, 162, 163, 164, 165, 166, 167, 168, 18, 169, 91, 90, 170, 171, 172, 173, 174, 175, 176, 12, 177, 36, 40, 44, 178, 45, 179, 180, 181, 182, 183, 184, 185, 186, 187, 188, 189, 190, 191, 192, 193, 61, 194, 195, 196, 197, 198, 199, 200, 201, 39, 202, 70, 71, 72, 73, 74, 203, 204, 205, 206, 207, 208, 209, 280, 281, 282, 283, 284, 285, 286, 287, 288, 289, 290, 291, 292, 293, 294, 295, 296, 305, 306, 307, 308, 299, 300, 314, 297, 298, 309, 310, 311, 312, 313] (by decide +kernel) (by decide +kernel)
set_option maxRecDepth 20000 in
theorem gL_told_X7_takeBook : GoodIn wsL_told (wsV RL 97 RX7 yX7_takeBook wsX7_takeBook) := goodIn_app (goodIn_of _ (by decide +kernel)) ggL_told_X7_takeBook
set_option maxRecDepth 20000 in
theorem ggL_told_X7_count : GoodIn wsL_told wsX7_count := goodIn_r _ [213, 13, 19, 23, 214, 215, 216, 3, 217, 27, 218, 219, 220, 26, 221, 222, 223, 106, 105, 224, 159, 160, 35, 161, 54, 225, 226, 227, 43, 228, 64, 229, 230, 231, 232, 233, 234, 235, 236, 237, 238, 239, 240, 81, 82, 83, 84, 241, 242, 243, 39, 244, 72, 245, 246, 247, 248, 249, 158, 250, 78, 79, 80, 251, 252, 253, 254, 255, 256, 257, 258, 259, 260, 261, 262, 263, 264, 265, 266, 267, 268, 269, 270, 271, 272, 273, 274, 275, 276, 277, 278, 279, 280, 281, 282, 283, 284, 285, 286, 287, 288, 289, 290, 291, 292, 293, 294, 295, 296, 305, 306, 307, 308, 309, 310, 311, 312, 313, 297, 298, 299, 300, 301, 302, 303, 304, 314] (by decide +kernel) (by decide +kernel)
set_option maxRecDepth 20000 in
theorem gL_told_X7_count : GoodIn wsL_told (wsV RL 13 RX7 yX7_count wsX7_count) := goodIn_app (goodIn_of _ (by decide +kernel)) ggL_told_X7_count
theorem dL_told_0 : decode cL_told 0 = .ok (.new 14, 3) := by decide +kernel
theorem dL_told_3 : decode cL_told 3 = .ok (.dup, 1) := by decide +kernel
theorem dL_told_4 : decode cL_told 4 = .ok (.invokespecial 76, 3) := by decide +kernel
theorem dL_told_7 : decode cL_told 7 = .ok (.astore 4, 2) := by decide +kernel
theorem dL_told_9 : decode cL_told 9 = .ok (.aload 4, 2) := by decide +kernel
theorem dL_told_11 : decode cL_told 11 = .ok (.lload_n 0, 1) := by decide +kernel
theorem dL_told_12 : decode cL_told 12 = .ok (.invokestatic 91, 3) := by decide +kernel
theorem dL_told_15 : decode cL_told 15 = .ok (.ifCond .eq 20, 3) := by decide +kernel
theorem dL_told_18 : decode cL_told 18 = .ok (.aload 4, 2) := by decide +kernel
theorem dL_told_20 : decode cL_told 20 = .ok (.lload_n 2, 1) := by decide +kernel
theorem dL_told_21 : decode cL_told 21 = .ok (.invokestatic 91, 3) := by decide +kernel
theorem dL_told_24 : decode cL_told 24 = .ok (.ifCond .eq 11, 3) := by decide +kernel
theorem dL_told_27 : decode cL_told 27 = .ok (.aload 4, 2) := by decide +kernel
theorem dL_told_29 : decode cL_told 29 = .ok (.invokevirtual 97, 3) := by decide +kernel
theorem dL_told_32 : decode cL_told 32 = .ok (.goto 5, 3) := by decide +kernel
theorem dL_told_35 : decode cL_told 35 = .ok (.bipush (-99), 2) := by decide +kernel
theorem dL_told_37 : decode cL_told 37 = .ok (.istore 5, 2) := by decide +kernel
theorem dL_told_39 : decode cL_told 39 = .ok (.aload 4, 2) := by decide +kernel
theorem dL_told_41 : decode cL_told 41 = .ok (.bipush 15, 2) := by decide +kernel
theorem dL_told_43 : decode cL_told 43 = .ok (.invokevirtual 13, 3) := by decide +kernel
theorem dL_told_46 : decode cL_told 46 = .ok (.iload 5, 2) := by decide +kernel
theorem dL_told_48 : decode cL_told 48 = .ok (.ifCond .le 7, 3) := by decide +kernel
theorem dL_told_51 : decode cL_told 51 = .ok (.iconst 1, 1) := by decide +kernel
theorem dL_told_52 : decode cL_told 52 = .ok (.goto 4, 3) := by decide +kernel
theorem dL_told_55 : decode cL_told 55 = .ok (.iconst 0, 1) := by decide +kernel
theorem dL_told_56 : decode cL_told 56 = .ok (.if_icmp .ne 28, 3) := by decide +kernel
theorem dL_told_59 : decode cL_told 59 = .ok (.aload 4, 2) := by decide +kernel
theorem dL_told_61 : decode cL_told 61 = .ok (.iconst 0, 1) := by decide +kernel
theorem dL_told_62 : decode cL_told 62 = .ok (.invokevirtual 13, 3) := by decide +kernel
theorem dL_told_65 : decode cL_told 65 = .ok (.iload 5, 2) := by decide +kernel
theorem dL_told_67 : decode cL_told 67 = .ok (.ifCond .le 8, 3) := by decide +kernel
theorem dL_told_70 : decode cL_told 70 = .ok (.iload 5, 2) := by decide +kernel
theorem dL_told_72 : decode cL_told 72 = .ok (.goto 4, 3) := by decide +kernel
theorem dL_told_75 : decode cL_told 75 = .ok (.iconst 0, 1) := by decide +kernel
theorem dL_told_76 : decode cL_told 76 = .ok (.if_icmp .ne 8, 3) := by decide +kernel
theorem dL_told_79 : decode cL_told 79 = .ok (.iload 5, 2) := by decide +kernel
theorem dL_told_81 : decode cL_told 81 = .ok (.goto 5, 3) := by decide +kernel
theorem dL_told_84 : decode cL_told 84 = .ok (.bipush (-98), 2) := by decide +kernel
theorem dL_told_86 : decode cL_told 86 = .ok (.ireturn, 1) := by decide +kernel
set_option maxRecDepth 20000 in
theorem ggL_texts_X7_init : GoodIn wsL_texts wsX7_init := goodIn_r _ [24, 25, 26, 27, 28, 29, 30, 31, 32, 33, 34, 35, 36, 37, 38, 39, 40, 41, 42, 43, 44, 45, 46, 47, 48, 49, 50, 51, 52, 53, 54, 55, 56, 57, 58, 59, 60, 61, 62, 63, 64, 65, 66, 67, 68, 69, 70, 71, 72, 73, 74, 75, 76, 77, 78, 79, 80, 81, 82, 83, 84, 85, 86, 87, 88, 89, 90, 91, 92, 93, 94, 95, 96, 97, 98, 99, 100, 101, 102, 103, 104, 105, 106, 107, 108, 109, 110, 111, 112, 113, 114, 115, 116, 117, 118, 119, 120, 121, 122, 123, 124, 125, 308, 309, 310, 311, 312, 313, 314, 315, 316, 317, 301, 302, 303, 304, 305, 306, 307, 318, 319, 320, 321, 322, 323, 324, 325, 326, 327, 328, 329, 330, 331, 332, 333, 334, 335] (by decide +kernel) (by decide +kernel)
set_option maxRecDepth 20000 in
theorem gL_texts_X7_init : GoodIn wsL_texts (wsX7_init) := ggL_texts_X7_init
set_option maxRecDepth 20000 in
theorem ggL_texts_X7_type : GoodIn wsL_texts wsX7_type := goodIn_r _ [133, 41, 134, 135, 136, 40, 137, 117, 116, 301, 302, 303, 304, 305, 306, 307, 320, 321] (by decide +kernel) (by decide +kernel)
set_option maxRecDepth 20000 in
theorem gL_texts_X7_type : GoodIn wsL_texts (wsV RL 72 RX7 yX7_type wsX7_type) := goodIn_app (goodIn_of _ (by decide +kernel)) ggL_texts_X7_type
set_option maxRecDepth 20000 in
theorem ggL_texts_X7_takeBook : GoodIn wsL_texts wsX7_takeBook := goodIn_r _ [141, 41, 32, 37, 31, 142, 143, 144, 40, 145, 117, 146, 147, 148, 149, 116, 150, 151, 152, 153, 154, 155, 156, 157, 158, 159, 160, 161, 162, 163, 164, 53, 165, 72, 69, 70, 71, 166, 96, 97, 61, 98, 82, 99, 100, 101, 102, 167, 168, 169, 170, 171, 172, 173, 174, 175, 176, 177, 178, 179, 180, 181, 182, 183, 184, 185, 36, 186, 109, 108, 187, 188, 189, 190, 191, 192, 193, 30, 194, 54, 58, 62, 195, 63, 196, 197, 198, 199, 200, 201, 202, 203, 204, 205, 206, 207, 208, 209, 210, 79, 211, 212, 213, 214, 215, 216, 217, 218, 57, 219, 88, 89, 90, 91, 92, 220, 221, 222, 223, 224, 225, 226, 301, 302, 303, 304, 305, 306, 307, 308, 309, 310, 311, 312, 313, 314, 315, 316, 317, 326, 327, 328, 329, 320, 321, 335, 318, 319, 330, 331, 332, 333, 334] (by decide +kernel) (by decide +kernel)
set_option maxRecDepth 20000 in
theorem gL_texts_X7_takeBook : GoodIn wsL_texts (wsV RL 97 RX7 yX7_takeBook wsX7_takeBook) := goodIn_app (goodIn_of _ (by decide +kernel)) ggL_texts_X7_takeBook
set_option maxRecDepth 20000 in
theorem ggL_texts_X7_count : GoodIn wsL_texts wsX7_count := goodIn_r _ [230, 31, 37, 41, 231, 232, 233, 17, 234, 45, 235, 236, 237, 44, 238, 239, 240, 124, 123, 241, 176, 177, 53, 178, 72, 242, 243, 244, 61, 245, 82, 246, 247, 248, 249, 250, 251, 252, 253, 254, 255, 256, 257, 99, 100, 101, 102, 258, 259, 260, 57, 261, 90, 262, 263, 264, 265, 266, 175, 267, 96, 97, 98, 268, 269, 270, 271, 272, 273, 274, 275, 276, 277, 278, 279, 280, 281, 282, 283, 284, 285, 286, 287, 288, 289, 290, 291, 292, 293, 294, 295, 296, 301, 302, 303, 304, 305, 306, 307, 308, 309, 310, 311, 312, 313, 314, 315, 316, 317, 326, 327, 328, 329, 330, 331, 332, 333, 334, 318, 319, 320, 321, 322, 323, 324, 325, 335] (by decide +kernel) (by decide +kernel)
set_option maxRecDepth 20000 in
theorem gL_texts_X7_count : GoodIn wsL_texts (wsV RL 13 RX7 yX7_count wsX7_count) := goodIn_app (goodIn_of _ (by decide +kernel)) ggL_texts_X7_count
set_option maxRecDepth 20000 in
theorem ggL_texts_X7_clearText : GoodIn wsL_texts wsX7_clearText := goodIn_r _ [300, 41, 301, 302, 303, 304, 305, 306, 307, 320, 321] (by decide +kernel) (by decide +kernel)
set_option maxRecDepth 20000 in
theorem gL_texts_X7_clearText : GoodIn wsL_texts (wsV RL 116 RX7 yX7_clearText wsX7_clearText) := goodIn_app (goodIn_of _ (by decide +kernel)) ggL_texts_X7_clearText
theorem dL_texts_0 : decode cL_texts 0 = .ok (.ldc2_w 123, 3) := by decide +kernel
theorem dL_texts_3 : decode cL_texts 3 = .ok (.lconst 0, 1) := by decide +kernel
theorem dL_texts_4 : decode cL_texts 4 = .ok (.invokestatic 125, 3) := by decide +kernel
theorem dL_texts_7 : decode cL_texts 7 = .ok (.bipush (-100), 2) := by decide +kernel
theorem dL_texts_9 : decode cL_texts 9 = .ok (.if_icmp .ne 75, 3) := by decide +kernel
theorem dL_texts_12 : decode cL_texts 12 = .ok (.ldc2_w 129, 3) := by decide +kernel
theorem dL_texts_15 : decode cL_texts 15 = .ok (.lconst 0, 1) := by decide +kernel
theorem dL_texts_16 : decode cL_texts 16 = .ok (.invokestatic 125, 3) := by decide +kernel
theorem dL_texts_19 : decode cL_texts 19 = .ok (.bipush (-102), 2) := by decide +kernel
theorem dL_texts_21 : decode cL_texts 21 = .ok (.if_icmp .ne 63, 3) := by decide +kernel
theorem dL_texts_24 : decode cL_texts 24 = .ok (.ldc2_w 131, 3) := by decide +kernel
theorem dL_texts_27 : decode cL_texts 27 = .ok (.lconst 0, 1) := by decide +kernel
theorem dL_texts_28 : decode cL_texts 28 = .ok (.invokestatic 125, 3) := by decide +kernel
theorem dL_texts_31 : decode cL_texts 31 = .ok (.bipush (-102), 2) := by decide +kernel
theorem dL_texts_33 : decode cL_texts 33 = .ok (.if_icmp .ne 51, 3) := by decide +kernel
theorem dL_texts_36 : decode cL_texts 36 = .ok (.ldc2_w 133, 3) := by decide +kernel
theorem dL_texts_39 : decode cL_texts 39 = .ok (.lconst 0, 1) := by decide +kernel
theorem dL_texts_40 : decode cL_texts 40 = .ok (.invokestatic 125, 3) := by decide +kernel
theorem dL_texts_43 : decode cL_texts 43 = .ok (.bipush (-102), 2) := by decide +kernel
theorem dL_texts_45 : decode cL_texts 45 = .ok (.if_icmp .ne 39, 3) := by decide +kernel
theorem dL_texts_48 : decode cL_texts 48 = .ok (.ldc2_w 135, 3) := by decide +kernel
theorem dL_texts_51 : decode cL_texts 51 = .ok (.lconst 0, 1) := by decide +kernel
theorem dL_texts_52 : decode cL_texts 52 = .ok (.invokestatic 125, 3) := by decide +kernel
theorem dL_texts_55 : decode cL_texts 55 = .ok (.bipush (-101), 2) := by decide +kernel
theorem dL_texts_57 : decode cL_texts 57 = .ok (.if_icmp .ne 27, 3) := by decide +kernel
theorem dL_texts_60 : decode cL_texts 60 = .ok (.ldc2_w 137, 3) := by decide +kernel
theorem dL_texts_63 : decode cL_texts 63 = .ok (.lconst 0, 1) := by decide +kernel
theorem dL_texts_64 : decode cL_texts 64 = .ok (.invokestatic 125, 3) := by decide +kernel
theorem dL_texts_67 : decode cL_texts 67 = .ok (.bipush (-105), 2) := by decide +kernel
theorem dL_texts_69 : decode cL_texts 69 = .ok (.if_icmp .ne 15, 3) := by decide +kernel
theorem dL_texts_72 : decode cL_texts 72 = .ok (.ldc2_w 139, 3) := by decide +kernel
theorem dL_texts_75 : decode cL_texts 75 = .ok (.lconst 0, 1) := by decide +kernel
theorem dL_texts_76 : decode cL_texts 76 = .ok (.invokestatic 125, 3) := by decide +kernel
theorem dL_texts_79 : decode cL_texts 79 = .ok (.bipush (-100), 2) := by decide +kernel
theorem dL_texts_81 : decode cL_texts 81 = .ok (.if_icmp .eq 5, 3) := by decide +kernel
theorem dL_texts_84 : decode cL_texts 84 = .ok (.iconst 0, 1) := by decide +kernel
theorem dL_texts_85 : decode cL_texts 85 = .ok (.ireturn, 1) := by decide +kernel
theorem dL_texts_86 : decode cL_texts 86 = .ok (.lconst 0, 1) := by decide +kernel
theorem dL_texts_87 : decode cL_texts 87 = .ok (.lconst 0, 1) := by decide +kernel
theorem dL_texts_88 : decode cL_texts 88 = .ok (.invokestatic 125, 3) := by decide +kernel
theorem dL_texts_91 : decode cL_texts 91 = .ok (.bipush (-100), 2) := by decide +kernel
theorem dL_texts_93 : decode cL_texts 93 = .ok (.if_icmp .ne 75, 3) := by decide +kernel
theorem dL_texts_96 : decode cL_texts 96 = .ok (.ldc2_w 141, 3) := by decide +kernel
theorem dL_texts_99 : decode cL_texts 99 = .ok (.lconst 0, 1) := by decide +kernel
theorem dL_texts_100 : decode cL_texts 100 = .ok (.invokestatic 125, 3) := by decide +kernel
theorem dL_texts_103 : decode cL_texts 103 = .ok (.iconst 1, 1) := by decide +kernel
theorem dL_texts_104 : decode cL_texts 104 = .ok (.if_icmp .ne 64, 3) := by decide +kernel
theorem dL_texts_107 : decode cL_texts 107 = .ok (.ldc2_w 143, 3) := by decide +kernel
theorem dL_texts_110 : decode cL_texts 110 = .ok (.ldc2_w 145, 3) := by decide +kernel
theorem dL_texts_113 : decode cL_texts 113 = .ok (.invokestatic 125, 3) := by decide +kernel
theorem dL_texts_116 : decode cL_texts 116 = .ok (.iconst 3, 1) := by decide +kernel
theorem dL_texts_117 : decode cL_texts 117 = .ok (.if_icmp .ne 51, 3) := by decide +kernel
theorem dL_texts_120 : decode cL_texts 120 = .ok (.ldc2_w 147, 3) := by decide +kernel
theorem dL_texts_123 : decode cL_texts 123 = .ok (.lconst 0, 1) := by decide +kernel
theorem dL_texts_124 : decode cL_texts 124 = .ok (.invokestatic 125, 3) := by decide +kernel
theorem dL_texts_127 : decode cL_texts 127 = .ok (.bipush (-100), 2) := by decide +kernel
theorem dL_texts_129 : decode cL_texts 129 = .ok (.if_icmp .ne 39, 3) := by decide +kernel
theorem dL_texts_132 : decode cL_texts 132 = .ok (.ldc2_w 149, 3) := by decide +kernel
theorem dL_texts_135 : decode cL_texts 135 = .ok (.lconst 0, 1) := by decide +kernel
theorem dL_texts_136 : decode cL_texts 136 = .ok (.invokestatic 125, 3) := by decide +kernel
theorem dL_texts_139 : decode cL_texts 139 = .ok (.bipush (-102), 2) := by decide +kernel
theorem dL_texts_141 : decode cL_texts 141 = .ok (.if_icmp .ne 27, 3) := by decide +kernel
theorem dL_texts_144 : decode cL_texts 144 = .ok (.ldc2_w 151, 3) := by decide +kernel
theorem dL_texts_147 : decode cL_texts 147 = .ok (.lconst 0, 1) := by decide +kernel
theorem dL_texts_148 : decode cL_texts 148 = .ok (.invokestatic 125, 3) := by decide +kernel
theorem dL_texts_151 : decode cL_texts 151 = .ok (.bipush (-102), 2) := by decide +kernel
theorem dL_texts_153 : decode cL_texts 153 = .ok (.if_icmp .ne 15, 3) := by decide +kernel
theorem dL_texts_156 : decode cL_texts 156 = .ok (.ldc2_w 153, 3) := by decide +kernel
theorem dL_texts_159 : decode cL_texts 159 = .ok (.lconst 0, 1) := by decide +kernel
theorem dL_texts_160 : decode cL_texts 160 = .ok (.invokestatic 125, 3) := by decide +kernel
theorem dL_texts_163 : decode cL_texts 163 = .ok (.bipush (-103), 2) := by decide +kernel
theorem dL_texts_165 : decode cL_texts 165 = .ok (.if_icmp .eq 5, 3) := by decide +kernel
theorem dL_texts_168 : decode cL_texts 168 = .ok (.iconst 0, 1) := by decide +kernel
theorem dL_texts_169 : decode cL_texts 169 = .ok (.ireturn, 1) := by decide +kernel
theorem dL_texts_170 : decode cL_texts 170 = .ok (.new 14, 3) := by decide +kernel
theorem dL_texts_173 : decode cL_texts 173 = .ok (.dup, 1) := by decide +kernel
theorem dL_texts_174 : decode cL_texts 174 = .ok (.invokespecial 76, 3) := by decide +kernel
theorem dL_texts_177 : decode cL_texts 177 = .ok (.astore_n 0, 1) := by decide +kernel
theorem dL_texts_178 : decode cL_texts 178 = .ok (.iconst 0, 1) := by decide +kernel
theorem dL_texts_179 : decode cL_texts 179 = .ok (.istore_n 1, 1) := by decide +kernel
theorem dL_texts_180 : decode cL_texts 180 = .ok (.iload_n 1, 1) := by decide +kernel
theorem dL_texts_181 : decode cL_texts 181 = .ok (.bipush 29, 2) := by decide +kernel
theorem dL_texts_183 : decode cL_texts 183 = .ok (.if_icmp .ge 52, 3) := by decide +kernel
theorem dL_texts_186 : decode cL_texts 186 = .ok (.aload_n 0, 1) := by decide +kernel
theorem dL_texts_187 : decode cL_texts 187 = .ok (.bipush 49, 2) := by decide +kernel
theorem dL_texts_189 : decode cL_texts 189 = .ok (.invokevirtual 72, 3) := by decide +kernel
theorem dL_texts_192 : decode cL_texts 192 = .ok (.iconst 2, 1) := by decide +kernel
theorem dL_texts_193 : decode cL_texts 193 = .ok (.iload_n 1, 1) := by decide +kernel
theorem dL_texts_194 : decode cL_texts 194 = .ok (.imul, 1) := by decide +kernel
theorem dL_texts_195 : decode cL_texts 195 = .ok (.iconst 1, 1) := by decide +kernel
theorem dL_texts_196 : decode cL_texts 196 = .ok (.iadd, 1) := by decide +kernel
theorem dL_texts_197 : decode cL_texts 197 = .ok (.if_icmp .ne 30, 3) := by decide +kernel
theorem dL_texts_200 : decode cL_texts 200 = .ok (.aload_n 0, 1) := by decide +kernel
theorem dL_texts_201 : decode cL_texts 201 = .ok (.bipush 44, 2) := by decide +kernel
theorem dL_texts_203 : decode cL_texts 203 = .ok (.invokevirtual 72, 3) := by decide +kernel
theorem dL_texts_206 : decode cL_texts 206 = .ok (.iconst 2, 1) := by decide +kernel
theorem dL_texts_207 : decode cL_texts 207 = .ok (.iload_n 1, 1) := by decide +kernel
theorem dL_texts_208 : decode cL_texts 208 = .ok (.imul, 1) := by decide +kernel
theorem dL_texts_209 : decode cL_texts 209 = .ok (.iconst 2, 1) := by decide +kernel
theorem dL_texts_210 : decode cL_texts 210 = .ok (.iadd, 1) := by decide +kernel
theorem dL_texts_211 : decode cL_texts 211 = .ok (.if_icmp .ne 16, 3) := by decide +kernel
theorem dL_texts_214 : decode cL_texts 214 = .ok (.aload_n 0, 1) := by decide +kernel
theorem dL_texts_215 : decode cL_texts 215 = .ok (.invokevirtual 97, 3) := by decide +kernel
theorem dL_texts_218 : decode cL_texts 218 = .ok (.bipush (-102), 2) := by decide +kernel
theorem dL_texts_220 : decode cL_texts 220 = .ok (.iconst 2, 1) := by decide +kernel
theorem dL_texts_221 : decode cL_texts 221 = .ok (.iload_n 1, 1) := by decide +kernel
theorem dL_texts_222 : decode cL_texts 222 = .ok (.imul, 1) := by decide +kernel
theorem dL_texts_223 : decode cL_texts 223 = .ok (.isub, 1) := by decide +kernel
theorem dL_texts_224 : decode cL_texts 224 = .ok (.if_icmp .eq 5, 3) := by decide +kernel
theorem dL_texts_227 : decode cL_texts 227 = .ok (.iconst 0, 1) := by decide +kernel
theorem dL_texts_228 : decode cL_texts 228 = .ok (.ireturn, 1) := by decide +kernel
theorem dL_texts_229 : decode cL_texts 229 = .ok (.iinc 1 1, 3) := by decide +kernel
theorem dL_texts_232 : decode cL_texts 232 = .ok (.goto (-52), 3) := by decide +kernel
theorem dL_texts_235 : decode cL_texts 235 = .ok (.aload_n 0, 1) := by decide +kernel
theorem dL_texts_236 : decode cL_texts 236 = .ok (.bipush 49, 2) := by decide +kernel
theorem dL_texts_238 : decode cL_texts 238 = .ok (.invokevirtual 72, 3) := by decide +kernel
theorem dL_texts_241 : decode cL_texts 241 = .ok (.bipush 59, 2) := by decide +kernel
theorem dL_texts_243 : decode cL_texts 243 = .ok (.if_icmp .ne 65, 3) := by decide +kernel
theorem dL_texts_246 : decode cL_texts 246 = .ok (.aload_n 0, 1) := by decide +kernel
theorem dL_texts_247 : decode cL_texts 247 = .ok (.invokevirtual 97, 3) := by decide +kernel
theorem dL_texts_250 : decode cL_texts 250 = .ok (.bipush 30, 2) := by decide +kernel
theorem dL_texts_252 : decode cL_texts 252 = .ok (.if_icmp .ne 56, 3) := by decide +kernel
theorem dL_texts_255 : decode cL_texts 255 = .ok (.aload_n 0, 1) := by decide +kernel
theorem dL_texts_256 : decode cL_texts 256 = .ok (.bipush 44, 2) := by decide +kernel
theorem dL_texts_258 : decode cL_texts 258 = .ok (.invokevirtual 72, 3) := by decide +kernel
theorem dL_texts_261 : decode cL_texts 261 = .ok (.bipush 60, 2) := by decide +kernel
theorem dL_texts_263 : decode cL_texts 263 = .ok (.if_icmp .ne 45, 3) := by decide +kernel
theorem dL_texts_266 : decode cL_texts 266 = .ok (.aload_n 0, 1) := by decide +kernel
theorem dL_texts_267 : decode cL_texts 267 = .ok (.invokevirtual 97, 3) := by decide +kernel
theorem dL_texts_270 : decode cL_texts 270 = .ok (.sipush (-159), 3) := by decide +kernel
theorem dL_texts_273 : decode cL_texts 273 = .ok (.if_icmp .ne 35, 3) := by decide +kernel
theorem dL_texts_276 : decode cL_texts 276 = .ok (.aload_n 0, 1) := by decide +kernel
theorem dL_texts_277 : decode cL_texts 277 = .ok (.bipush 49, 2) := by decide +kernel
theorem dL_texts_279 : decode cL_texts 279 = .ok (.invokevirtual 72, 3) := by decide +kernel
theorem dL_texts_282 : decode cL_texts 282 = .ok (.bipush (-3), 2) := by decide +kernel
theorem dL_texts_284 : decode cL_texts 284 = .ok (.if_icmp .ne 24, 3) := by decide +kernel
theorem dL_texts_287 : decode cL_texts 287 = .ok (.aload_n 0, 1) := by decide +kernel
theorem dL_texts_288 : decode cL_texts 288 = .ok (.iconst 0, 1) := by decide +kernel
theorem dL_texts_289 : decode cL_texts 289 = .ok (.invokevirtual 13, 3) := by decide +kernel
theorem dL_texts_292 : decode cL_texts 292 = .ok (.bipush 30, 2) := by decide +kernel
theorem dL_texts_294 : decode cL_texts 294 = .ok (.if_icmp .ne 14, 3) := by decide +kernel
theorem dL_texts_297 : decode cL_texts 297 = .ok (.aload_n 0, 1) := by decide +kernel
theorem dL_texts_298 : decode cL_texts 298 = .ok (.bipush 16, 2) := by decide +kernel
theorem dL_texts_300 : decode cL_texts 300 = .ok (.invokevirtual 13, 3) := by decide +kernel
theorem dL_texts_303 : decode cL_texts 303 = .ok (.bipush 60, 2) := by decide +kernel
theorem dL_texts_305 : decode cL_texts 305 = .ok (.if_icmp .eq 5, 3) := by decide +kernel
theorem dL_texts_308 : decode cL_texts 308 = .ok (.iconst 0, 1) := by decide +kernel
theorem dL_texts_309 : decode cL_texts 309 = .ok (.ireturn, 1) := by decide +kernel
theorem dL_texts_310 : decode cL_texts 310 = .ok (.aload_n 0, 1) := by decide +kernel
theorem dL_texts_311 : decode cL_texts 311 = .ok (.invokevirtual 116, 3) := by decide +kernel
theorem dL_texts_314 : decode cL_texts 314 = .ok (.bipush 60, 2) := by decide +kernel
theorem dL_texts_316 : decode cL_texts 316 = .ok (.if_icmp .ne 33, 3) := by decide +kernel
theorem dL_texts_319 : decode cL_texts 319 = .ok (.aload_n 0, 1) := by decide +kernel
theorem dL_texts_320 : decode cL_texts 320 = .ok (.invokevirtual 97, 3) := by decide +kernel
theorem dL_texts_323 : decode cL_texts 323 = .ok (.bipush (-100), 2) := by decide +kernel
theorem dL_texts_325 : decode cL_texts 325 = .ok (.if_icmp .ne 24, 3) := by decide +kernel
theorem dL_texts_328 : decode cL_texts 328 = .ok (.aload_n 0, 1) := by decide +kernel
theorem dL_texts_329 : decode cL_texts 329 = .ok (.invokevirtual 116, 3) := by decide +kernel
theorem dL_texts_332 : decode cL_texts 332 = .ok (.ifCond .ne 17, 3) := by decide +kernel
theorem dL_texts_335 : decode cL_texts 335 = .ok (.aload_n 0, 1) := by decide +kernel
theorem dL_texts_336 : decode cL_texts 336 = .ok (.iconst 0, 1) := by decide +kernel
theorem dL_texts_337 : decode cL_texts 337 = .ok (.invokevirtual 13, 3) := by decide +kernel
theorem dL_texts_340 : decode cL_texts 340 = .ok (.bipush 30, 2) := by decide +kernel
theorem dL_texts_342 : decode cL_texts 342 = .ok (.if_icmp .ne 7, 3) := by decide +kernel
theorem dL_texts_345 : decode cL_texts 345 = .ok (.iconst 1, 1) := by decide +kernel
theorem dL_texts_346 : decode cL_texts 346 = .ok (.goto 4, 3) := by decide +kernel
theorem dL_texts_349 : decode cL_texts 349 = .ok (.iconst 0, 1) := by decide +kernel
theorem dL_texts_350 : decode cL_texts 350 = .ok (.ireturn, 1) := by decide +kernel
set_option maxRecDepth 20000 in
theorem ggL_law_X7_init : GoodIn wsL_law wsX7_init := goodIn_r _ [12, 13, 14, 15, 16, 17, 18, 19, 20, 21, 22, 23, 24, 25, 26, 27, 28, 29, 30, 31, 32, 33, 34, 35, 36, 37, 38, 39, 40, 41, 42, 43, 44, 45, 46, 47, 48, 49, 50, 51, 52, 53, 54, 55, 56, 57, 58, 59, 60, 61, 62, 63, 64, 65, 66, 67, 68, 69, 70, 71, 72, 73, 74, 75, 76, 77, 78, 79, 80, 81, 82, 83, 84, 85, 86, 87, 88, 89, 90, 91, 92, 93, 94, 95, 96, 97, 98, 99, 100, 101, 102, 103, 104, 105, 106, 107, 108, 109, 110, 111, 112, 113, 534, 535, 536, 537, 538, 539, 540, 541, 542, 543, 527, 528, 529, 530, 531, 532, 533, 544, 545, 546, 547, 548, 549, 550, 551, 552, 553, 554, 555, 556, 557, 558, 559, 560, 561] (by decide +kernel) (by decide +kernel)
set_option maxRecDepth 20000 in
theorem gL_law_X7_init : GoodIn wsL_law (wsX7_init) := ggL_law_X7_init
set_option maxRecDepth 20000 in
theorem ggL_law_X7_layBook : GoodIn wsL_law wsX7_layBook := goodIn_r _ [444, 25, 19, 157, 158, 159, 24, 160, 97, 96, 161, 162, 163, 164, 122, 123, 124, 18, 125, 42, 46, 50, 126, 51, 127, 128, 129, 130, 131, 132, 133, 134, 41, 135, 57, 58, 59, 60, 136, 137, 138, 49, 139, 70, 140, 141, 67, 142, 143, 144, 145, 146, 147, 148, 149, 45, 150, 76, 77, 78, 79, 80, 151, 152, 358, 359, 360, 361, 445, 446, 447, 448, 449, 342, 343, 344, 345, 84, 85, 86, 87, 88, 89, 90, 450, 351, 352, 353, 289, 264, 265, 266, 527, 528, 529, 530, 531, 532, 533, 534, 535, 536, 537, 538, 539, 540, 541, 542, 543, 544, 545, 552, 553, 554, 555, 561, 556, 557, 558, 559, 560] (by decide +kernel) (by decide +kernel)
set_option maxRecDepth 20000 in
theorem gL_law_X7_layBook : GoodIn wsL_law (wsV RL 33 RX7 yX7_layBook wsX7_layBook) := goodIn_app (goodIn_of _ (by decide +kernel)) ggL_law_X7_layBook
set_option maxRecDepth 20000 in
theorem ggL_law_X7_keep : GoodIn wsL_law wsX7_keep := goodIn_r _ [486, 21, 19, 34, 165, 123, 124, 18, 125, 42, 46, 50, 126, 51, 127, 128, 129, 130, 131, 132, 133, 134, 41, 135, 57, 58, 59, 60, 136, 137, 138, 49, 139, 70, 140, 141, 67, 142, 143, 144, 145, 146, 147, 148, 149, 45, 150, 76, 77, 78, 79, 80, 151, 152, 527, 528, 529, 530, 531, 532, 533, 534, 535, 536, 537, 538, 539, 540, 541, 542, 543, 556, 557, 558, 559, 560, 552, 553, 554, 555, 561] (by decide +kernel) (by decide +kernel)
set_option maxRecDepth 20000 in
theorem gL_law_X7_keep : GoodIn wsL_law (wsV RL 107 RX7 yX7_keep wsX7_keep) := goodIn_app (goodIn_of _ (by decide +kernel)) ggL_law_X7_keep
set_option maxRecDepth 20000 in
theorem ggL_law_X7_count : GoodIn wsL_law wsX7_count := goodIn_r _ [415, 19, 25, 29, 416, 417, 418, 2, 419, 33, 257, 258, 259, 32, 260, 261, 262, 112, 111, 263, 264, 265, 41, 266, 60, 267, 268, 269, 49, 270, 70, 271, 272, 273, 274, 275, 276, 277, 278, 279, 211, 212, 213, 87, 88, 89, 90, 280, 281, 282, 45, 283, 78, 284, 285, 286, 287, 288, 289, 290, 84, 85, 86, 291, 292, 293, 294, 420, 421, 422, 423, 424, 425, 426, 427, 428, 379, 380, 381, 429, 430, 431, 432, 433, 400, 401, 402, 434, 435, 436, 437, 367, 527, 528, 529, 530, 531, 532, 533, 534, 535, 536, 537, 538, 539, 540, 541, 542, 543, 552, 553, 554, 555, 556, 557, 558, 559, 560, 544, 545, 546, 547, 548, 549, 550, 551, 561] (by decide +kernel) (by decide +kernel)
set_option maxRecDepth 20000 in
theorem gL_law_X7_count : GoodIn wsL_law (wsV RL 13 RX7 yX7_count wsX7_count) := goodIn_app (goodIn_of _ (by decide +kernel)) ggL_law_X7_count
set_option maxRecDepth 20000 in
theorem ggL_law_X7_turn : GoodIn wsL_law wsX7_turn := goodIn_r _ [481, 19, 25, 251, 193, 194, 18, 195, 42, 126, 157, 158, 159, 24, 160, 97, 96, 161, 162, 163, 164, 122, 123, 124, 125, 46, 50, 51, 127, 128, 129, 130, 131, 132, 133, 134, 41, 135, 57, 58, 59, 60, 136, 137, 138, 49, 139, 70, 140, 141, 67, 142, 143, 144, 145, 146, 147, 148, 149, 45, 150, 76, 77, 78, 79, 80, 151, 152, 482, 230, 231, 232, 233, 234, 235, 236, 210, 211, 212, 213, 87, 88, 89, 90, 237, 238, 239, 240, 241, 242, 66, 68, 527, 528, 529, 530, 531, 532, 533, 534, 535, 536, 537, 538, 539, 540, 541, 542, 543, 552, 553, 554, 555, 544, 545, 561, 556, 557, 558, 559, 560] (by decide +kernel) (by decide +kernel)
set_option maxRecDepth 20000 in
theorem gL_law_X7_turn : GoodIn wsL_law (wsV RL 104 RX7 yX7_turn wsX7_turn) := goodIn_app (goodIn_of _ (by decide +kernel)) ggL_law_X7_turn
set_option maxRecDepth 20000 in
theorem ggL_law_X7_shoot : GoodIn wsL_law wsX7_shoot := goodIn_r _ [169, 19, 25, 170, 171, 172, 18, 173, 42, 174, 175, 176, 177, 46, 178, 179, 180, 181, 182, 183, 184, 185, 126, 186, 2, 187, 188, 189, 190, 191, 192, 193, 194, 195, 157, 158, 159, 24, 160, 97, 96, 161, 162, 163, 164, 122, 123, 124, 125, 50, 51, 127, 128, 129, 130, 131, 132, 133, 134, 41, 135, 57, 58, 59, 60, 136, 137, 138, 49, 139, 70, 140, 141, 67, 142, 143, 144, 145, 146, 147, 148, 149, 45, 150, 76, 77, 78, 79, 80, 151, 152, 196, 197, 198, 199, 200, 201, 202, 203, 204, 205, 206, 207, 208, 209, 210, 211, 212, 213, 87, 88, 89, 90, 214, 215, 216, 217, 218, 84, 85, 86, 527, 528, 529, 530, 531, 532, 533, 534, 535, 536, 537, 538, 539, 540, 541, 542, 543, 552, 553, 554, 555, 556, 557, 558, 559, 560, 544, 545, 561] (by decide +kernel) (by decide +kernel)
set_option maxRecDepth 20000 in
theorem gL_law_X7_shoot : GoodIn wsL_law (wsV RL 83 RX7 yX7_shoot wsX7_shoot) := goodIn_app (goodIn_of _ (by decide +kernel)) ggL_law_X7_shoot
set_option maxRecDepth 20000 in
theorem ggL_law_X7_turnBack : GoodIn wsL_law wsX7_turnBack := goodIn_r _ [246, 19, 25, 157, 158, 159, 24, 160, 97, 96, 161, 162, 163, 164, 122, 123, 124, 18, 125, 42, 46, 50, 126, 51, 127, 128, 129, 130, 131, 132, 133, 134, 41, 135, 57, 58, 59, 60, 136, 137, 138, 49, 139, 70, 140, 141, 67, 142, 143, 144, 145, 146, 147, 148, 149, 45, 150, 76, 77, 78, 79, 80, 151, 152, 527, 528, 529, 530, 531, 532, 533, 534, 535, 536, 537, 538, 539, 540, 541, 542, 543, 544, 545, 552, 553, 554, 555, 561, 556, 557, 558, 559, 560] (by decide +kernel) (by decide +kernel)
set_option maxRecDepth 20000 in
theorem gL_law_X7_turnBack : GoodIn wsL_law (wsV RL 86 RX7 yX7_turnBack wsX7_turnBack) := goodIn_app (goodIn_of _ (by decide +kernel)) ggL_law_X7_turnBack
set_option maxRecDepth 20000 in
theorem ggL_law_X7_print : GoodIn wsL_law wsX7_print := goodIn_r _ [454, 19, 25, 373, 286, 287, 41, 288, 289, 264, 265, 266, 60, 367, 211, 212, 49, 213, 70, 87, 88, 89, 90, 157, 158, 159, 24, 160, 97, 96, 161, 162, 163, 164, 122, 123, 124, 18, 125, 42, 46, 50, 126, 51, 127, 128, 129, 130, 131, 132, 133, 134, 135, 57, 58, 59, 136, 137, 138, 139, 140, 141, 67, 142, 143, 144, 145, 146, 147, 148, 149, 45, 150, 76, 77, 78, 79, 80, 151, 152, 455, 84, 85, 86, 527, 528, 529, 530, 531, 532, 533, 534, 535, 536, 537, 538, 539, 540, 541, 542, 543, 552, 553, 554, 555, 561, 544, 545, 556, 557, 558, 559, 560] (by decide +kernel) (by decide +kernel)
set_option maxRecDepth 20000 in
theorem gL_law_X7_print : GoodIn wsL_law (wsV RL 38 RX7 yX7_print wsX7_print) := goodIn_app (goodIn_of _ (by decide +kernel)) ggL_law_X7_print
set_option maxRecDepth 20000 in
theorem ggL_law_X7_scan : GoodIn wsL_law wsX7_scan := goodIn_r _ [222, 19, 20, 25, 170, 171, 172, 18, 173, 42, 165, 123, 124, 125, 46, 50, 126, 51, 127, 128, 129, 130, 131, 132, 133, 134, 41, 135, 57, 58, 59, 60, 136, 137, 138, 49, 139, 70, 140, 141, 67, 142, 143, 144, 145, 146, 147, 148, 149, 45, 150, 76, 77, 78, 79, 80, 151, 152, 223, 224, 225, 226, 192, 193, 194, 195, 227, 175, 176, 177, 178, 179, 180, 181, 182, 183, 184, 185, 186, 2, 187, 188, 189, 190, 191, 228, 197, 198, 199, 200, 201, 202, 203, 204, 205, 206, 207, 208, 209, 210, 211, 212, 213, 87, 88, 89, 90, 214, 215, 216, 217, 218, 84, 85, 86, 229, 230, 231, 232, 233, 234, 235, 236, 237, 238, 239, 240, 241, 242, 66, 68, 157, 158, 159, 24, 160, 97, 96, 161, 162, 163, 164, 122, 527, 528, 529, 530, 531, 532, 533, 534, 535, 536, 537, 538, 539, 540, 541, 542, 543, 552, 553, 554, 555, 561, 556, 557, 558, 559, 560, 544, 545] (by decide +kernel) (by decide +kernel)
set_option maxRecDepth 20000 in
theorem gL_law_X7_scan : GoodIn wsL_law (wsV RL 41 RX7 yX7_scan wsX7_scan) := goodIn_app (goodIn_of _ (by decide +kernel)) ggL_law_X7_scan
set_option maxRecDepth 20000 in
theorem ggL_law_X7_throwAway : GoodIn wsL_law wsX7_throwAway := goodIn_r _ [459, 19, 25, 394, 395, 396, 45, 397, 80, 157, 158, 159, 24, 160, 97, 96, 161, 162, 163, 164, 122, 123, 124, 18, 125, 42, 46, 50, 126, 51, 127, 128, 129, 130, 131, 132, 133, 134, 41, 135, 57, 58, 59, 60, 136, 137, 138, 49, 139, 70, 140, 141, 67, 142, 143, 144, 145, 146, 147, 148, 149, 150, 76, 77, 78, 79, 151, 152, 460, 461, 462, 463, 464, 465, 466, 467, 468, 87, 88, 89, 90, 527, 528, 529, 530, 531, 532, 533, 534, 535, 536, 537, 538, 539, 540, 541, 542, 543, 556, 557, 558, 559, 560, 544, 545, 552, 553, 554, 555, 561] (by decide +kernel) (by decide +kernel)
set_option maxRecDepth 20000 in
theorem gL_law_X7_throwAway : GoodIn wsL_law (wsV RL 44 RX7 yX7_throwAway wsX7_throwAway) := goodIn_app (goodIn_of _ (by decide +kernel)) ggL_law_X7_throwAway
set_option maxRecDepth 20000 in
theorem ggL_law_X7_setSuction : GoodIn wsL_law wsX7_setSuction := goodIn_r _ [472, 19, 25, 387, 388, 2, 389, 157, 158, 159, 24, 160, 97, 96, 161, 162, 163, 164, 122, 123, 124, 18, 125, 42, 46, 50, 126, 51, 127, 128, 129, 130, 131, 132, 133, 134, 41, 135, 57, 58, 59, 60, 136, 137, 138, 49, 139, 70, 140, 141, 67, 142, 143, 144, 145, 146, 147, 148, 149, 45, 150, 76, 77, 78, 79, 80, 151, 152, 527, 528, 529, 530, 531, 532, 533, 534, 535, 536, 537, 538, 539, 540, 541, 542, 543, 544, 545, 552, 553, 554, 555, 561, 556, 557, 558, 559, 560] (by decide +kernel) (by decide +kernel)
set_option maxRecDepth 20000 in
theorem gL_law_X7_setSuction : GoodIn wsL_law (wsV RL 47 RX7 yX7_setSuction wsX7_setSuction) := goodIn_app (goodIn_of _ (by decide +kernel)) ggL_law_X7_setSuction
set_option maxRecDepth 20000 in
theorem ggL_law_X7_set : GoodIn wsL_law wsX7_set := goodIn_r _ [476, 477, 19, 25, 367, 211, 212, 49, 213, 70, 87, 88, 89, 90, 157, 158, 159, 24, 160, 97, 96, 161, 162, 163, 164, 122, 123, 124, 18, 125, 42, 46, 50, 126, 51, 127, 128, 129, 130, 131, 132, 133, 134, 41, 135, 57, 58, 59, 60, 136, 137, 138, 139, 140, 141, 67, 142, 143, 144, 145, 146, 147, 148, 149, 45, 150, 76, 77, 78, 79, 80, 151, 152, 455, 84, 85, 86, 527, 528, 529, 530, 531, 532, 533, 534, 535, 536, 537, 538, 539, 540, 541, 542, 543, 561, 544, 545, 552, 553, 554, 555, 556, 557, 558, 559, 560] (by decide +kernel) (by decide +kernel)
set_option maxRecDepth 20000 in
theorem gL_law_X7_set : GoodIn wsL_law (wsV RL 50 RX7 yX7_set wsX7_set) := goodIn_app (goodIn_of _ (by decide +kernel)) ggL_law_X7_set
set_option maxRecDepth 20000 in
theorem ggL_law_X7_restore : GoodIn wsL_law wsX7_restore := goodIn_r _ [156, 34, 25, 19, 21, 157, 158, 159, 24, 160, 97, 96, 161, 162, 163, 164, 122, 123, 124, 18, 125, 42, 46, 50, 126, 51, 127, 128, 129, 130, 131, 132, 133, 134, 41, 135, 57, 58, 59, 60, 136, 137, 138, 49, 139, 70, 140, 141, 67, 142, 143, 144, 145, 146, 147, 148, 149, 45, 150, 76, 77, 78, 79, 80, 151, 152, 165, 527, 528, 529, 530, 531, 532, 533, 534, 535, 536, 537, 538, 539, 540, 541, 542, 543, 556, 557, 558, 559, 560, 544, 545, 552, 553, 554, 555, 561] (by decide +kernel) (by decide +kernel)
set_option maxRecDepth 20000 in
theorem gL_law_X7_restore : GoodIn wsL_law (wsV RL 80 RX7 yX7_restore wsX7_restore) := goodIn_app (goodIn_of _ (by decide +kernel)) ggL_law_X7_restore
set_option maxRecDepth 20000 in
theorem ggL_law_X7_undo : GoodIn wsL_law wsX7_undo := goodIn_r _ [117, 25, 19, 118, 119, 120, 24, 121, 97, 96, 122, 123, 124, 18, 125, 42, 46, 50, 126, 51, 127, 128, 129, 130, 131, 132, 133, 134, 41, 135, 57, 58, 59, 60, 136, 137, 138, 49, 139, 70, 140, 141, 67, 142, 143, 144, 145, 146, 147, 148, 149, 45, 150, 76, 77, 78, 79, 80, 151, 152, 527, 528, 529, 530, 531, 532, 533, 544, 545, 534, 535, 536, 537, 538, 539, 540, 541, 542, 543, 552, 553, 554, 555, 561, 556, 557, 558, 559, 560] (by decide +kernel) (by decide +kernel)
set_option maxRecDepth 20000 in
theorem gL_law_X7_undo : GoodIn wsL_law (wsV RL 77 RX7 yX7_undo wsX7_undo) := goodIn_app (goodIn_of _ (by decide +kernel)) ggL_law_X7_undo
theorem dL_law_0 : decode cL_law 0 = .ok (.invokestatic 155, 3) := by decide +kernel
theorem dL_law_3 : decode cL_law 3 = .ok (.ifCond .eq 15, 3) := by decide +kernel
theorem dL_law_6 : decode cL_law 6 = .ok (.invokestatic 159, 3) := by decide +kernel
theorem dL_law_9 : decode cL_law 9 = .ok (.ifCond .eq 9, 3) := by decide +kernel
theorem dL_law_12 : decode cL_law 12 = .ok (.invokestatic 162, 3) := by decide +kernel
theorem dL_law_15 : decode cL_law 15 = .ok (.ifCond .ne 5, 3) := by decide +kernel
theorem dL_law_18 : decode cL_law 18 = .ok (.iconst 0, 1) := by decide +kernel
theorem dL_law_19 : decode cL_law 19 = .ok (.ireturn, 1) := by decide +kernel
theorem dL_law_20 : decode cL_law 20 = .ok (.new 14, 3) := by decide +kernel
theorem dL_law_23 : decode cL_law 23 = .ok (.dup, 1) := by decide +kernel
theorem dL_law_24 : decode cL_law 24 = .ok (.invokespecial 76, 3) := by decide +kernel
theorem dL_law_27 : decode cL_law 27 = .ok (.astore_n 1, 1) := by decide +kernel
theorem dL_law_28 : decode cL_law 28 = .ok (.bipush 64, 2) := by decide +kernel
theorem dL_law_30 : decode cL_law 30 = .ok (.newarray .long, 2) := by decide +kernel
theorem dL_law_32 : decode cL_law 32 = .ok (.astore_n 2, 1) := by decide +kernel
theorem dL_law_33 : decode cL_law 33 = .ok (.iconst 0, 1) := by decide +kernel
theorem dL_law_34 : decode cL_law 34 = .ok (.istore_n 3, 1) := by decide +kernel
theorem dL_law_35 : decode cL_law 35 = .ok (.aload_n 1, 1) := by decide +kernel
theorem dL_law_36 : decode cL_law 36 = .ok (.bipush 6, 2) := by decide +kernel
theorem dL_law_38 : decode cL_law 38 = .ok (.aload_n 0, 1) := by decide +kernel
theorem dL_law_39 : decode cL_law 39 = .ok (.bipush 90, 2) := by decide +kernel
theorem dL_law_41 : decode cL_law 41 = .ok (.invokestatic 165, 3) := by decide +kernel
theorem dL_law_44 : decode cL_law 44 = .ok (.sipush 10000, 3) := by decide +kernel
theorem dL_law_47 : decode cL_law 47 = .ok (.invokestatic 169, 3) := by decide +kernel
theorem dL_law_50 : decode cL_law 50 = .ok (.invokevirtual 33, 3) := by decide +kernel
theorem dL_law_53 : decode cL_law 53 = .ok (.bipush 6, 2) := by decide +kernel
theorem dL_law_55 : decode cL_law 55 = .ok (.if_icmp .lt 10, 3) := by decide +kernel
theorem dL_law_58 : decode cL_law 58 = .ok (.aload_n 1, 1) := by decide +kernel
theorem dL_law_59 : decode cL_law 59 = .ok (.invokevirtual 107, 3) := by decide +kernel
theorem dL_law_62 : decode cL_law 62 = .ok (.ifCond .eq 5, 3) := by decide +kernel
theorem dL_law_65 : decode cL_law 65 = .ok (.iconst 0, 1) := by decide +kernel
theorem dL_law_66 : decode cL_law 66 = .ok (.ireturn, 1) := by decide +kernel
theorem dL_law_67 : decode cL_law 67 = .ok (.aload_n 1, 1) := by decide +kernel
theorem dL_law_68 : decode cL_law 68 = .ok (.invokestatic 62, 3) := by decide +kernel
theorem dL_law_71 : decode cL_law 71 = .ok (.lstore 4, 2) := by decide +kernel
theorem dL_law_73 : decode cL_law 73 = .ok (.iconst 0, 1) := by decide +kernel
theorem dL_law_74 : decode cL_law 74 = .ok (.istore 6, 2) := by decide +kernel
theorem dL_law_76 : decode cL_law 76 = .ok (.iload 6, 2) := by decide +kernel
theorem dL_law_78 : decode cL_law 78 = .ok (.bipush 28, 2) := by decide +kernel
theorem dL_law_80 : decode cL_law 80 = .ok (.if_icmp .ge 297, 3) := by decide +kernel
theorem dL_law_83 : decode cL_law 83 = .ok (.aload_n 0, 1) := by decide +kernel
theorem dL_law_84 : decode cL_law 84 = .ok (.iload 6, 2) := by decide +kernel
theorem dL_law_86 : decode cL_law 86 = .ok (.invokestatic 165, 3) := by decide +kernel
theorem dL_law_89 : decode cL_law 89 = .ok (.istore 7, 2) := by decide +kernel
theorem dL_law_91 : decode cL_law 91 = .ok (.iload 7, 2) := by decide +kernel
theorem dL_law_93 : decode cL_law 93 = .ok (.bipush 14, 2) := by decide +kernel
theorem dL_law_95 : decode cL_law 95 = .ok (.invokestatic 169, 3) := by decide +kernel
theorem dL_law_98 : decode cL_law 98 = .ok (.istore 8, 2) := by decide +kernel
theorem dL_law_100 : decode cL_law 100 = .ok (.aload_n 2, 1) := by decide +kernel
theorem dL_law_101 : decode cL_law 101 = .ok (.iload_n 3, 1) := by decide +kernel
theorem dL_law_102 : decode cL_law 102 = .ok (.aload_n 1, 1) := by decide +kernel
theorem dL_law_103 : decode cL_law 103 = .ok (.invokestatic 62, 3) := by decide +kernel
theorem dL_law_106 : decode cL_law 106 = .ok (.lastore, 1) := by decide +kernel
theorem dL_law_107 : decode cL_law 107 = .ok (.aload_n 1, 1) := by decide +kernel
theorem dL_law_108 : decode cL_law 108 = .ok (.bipush 15, 2) := by decide +kernel
theorem dL_law_110 : decode cL_law 110 = .ok (.invokevirtual 13, 3) := by decide +kernel
theorem dL_law_113 : decode cL_law 113 = .ok (.istore 9, 2) := by decide +kernel
theorem dL_law_115 : decode cL_law 115 = .ok (.iload 7, 2) := by decide +kernel
theorem dL_law_117 : decode cL_law 117 = .ok (.iconst 4, 1) := by decide +kernel
theorem dL_law_118 : decode cL_law 118 = .ok (.ishr, 1) := by decide +kernel
theorem dL_law_119 : decode cL_law 119 = .ok (.bipush 13, 2) := by decide +kernel
theorem dL_law_121 : decode cL_law 121 = .ok (.invokestatic 169, 3) := by decide +kernel
theorem dL_law_124 : decode cL_law 124 = .ok (.istore 10, 2) := by decide +kernel
theorem dL_law_126 : decode cL_law 126 = .ok (.iload 8, 2) := by decide +kernel
theorem dL_law_128 : decode cL_law 128 = .ok (.iconst 4, 1) := by decide +kernel
theorem dL_law_129 : decode cL_law 129 = .ok (.if_icmp .ge 10, 3) := by decide +kernel
theorem dL_law_132 : decode cL_law 132 = .ok (.aload_n 1, 1) := by decide +kernel
theorem dL_law_133 : decode cL_law 133 = .ok (.invokevirtual 104, 3) := by decide +kernel
theorem dL_law_136 : decode cL_law 136 = .ok (.goto 191, 3) := by decide +kernel
theorem dL_law_139 : decode cL_law 139 = .ok (.iload 8, 2) := by decide +kernel
theorem dL_law_141 : decode cL_law 141 = .ok (.bipush 6, 2) := by decide +kernel
theorem dL_law_143 : decode cL_law 143 = .ok (.if_icmp .ge 10, 3) := by decide +kernel
theorem dL_law_146 : decode cL_law 146 = .ok (.aload_n 1, 1) := by decide +kernel
theorem dL_law_147 : decode cL_law 147 = .ok (.invokevirtual 83, 3) := by decide +kernel
theorem dL_law_150 : decode cL_law 150 = .ok (.goto 177, 3) := by decide +kernel
theorem dL_law_153 : decode cL_law 153 = .ok (.iload 8, 2) := by decide +kernel
theorem dL_law_155 : decode cL_law 155 = .ok (.bipush 6, 2) := by decide +kernel
theorem dL_law_157 : decode cL_law 157 = .ok (.if_icmp .ne 10, 3) := by decide +kernel
theorem dL_law_160 : decode cL_law 160 = .ok (.aload_n 1, 1) := by decide +kernel
theorem dL_law_161 : decode cL_law 161 = .ok (.invokevirtual 86, 3) := by decide +kernel
theorem dL_law_164 : decode cL_law 164 = .ok (.goto 163, 3) := by decide +kernel
theorem dL_law_167 : decode cL_law 167 = .ok (.iload 8, 2) := by decide +kernel
theorem dL_law_169 : decode cL_law 169 = .ok (.bipush 7, 2) := by decide +kernel
theorem dL_law_171 : decode cL_law 171 = .ok (.if_icmp .ne 26, 3) := by decide +kernel
theorem dL_law_174 : decode cL_law 174 = .ok (.aload_n 1, 1) := by decide +kernel
theorem dL_law_175 : decode cL_law 175 = .ok (.iload 10, 2) := by decide +kernel
theorem dL_law_177 : decode cL_law 177 = .ok (.iload 7, 2) := by decide +kernel
theorem dL_law_179 : decode cL_law 179 = .ok (.bipush 8, 2) := by decide +kernel
theorem dL_law_181 : decode cL_law 181 = .ok (.ishr, 1) := by decide +kernel
theorem dL_law_182 : decode cL_law 182 = .ok (.sipush 206, 3) := by decide +kernel
theorem dL_law_185 : decode cL_law 185 = .ok (.invokestatic 169, 3) := by decide +kernel
theorem dL_law_188 : decode cL_law 188 = .ok (.bipush 6, 2) := by decide +kernel
theorem dL_law_190 : decode cL_law 190 = .ok (.isub, 1) := by decide +kernel
theorem dL_law_191 : decode cL_law 191 = .ok (.invokevirtual 38, 3) := by decide +kernel
theorem dL_law_194 : decode cL_law 194 = .ok (.goto 133, 3) := by decide +kernel
theorem dL_law_197 : decode cL_law 197 = .ok (.iload 8, 2) := by decide +kernel
theorem dL_law_199 : decode cL_law 199 = .ok (.bipush 8, 2) := by decide +kernel
theorem dL_law_201 : decode cL_law 201 = .ok (.if_icmp .ne 18, 3) := by decide +kernel
theorem dL_law_204 : decode cL_law 204 = .ok (.aload_n 1, 1) := by decide +kernel
theorem dL_law_205 : decode cL_law 205 = .ok (.iload 7, 2) := by decide +kernel
theorem dL_law_207 : decode cL_law 207 = .ok (.iconst 4, 1) := by decide +kernel
theorem dL_law_208 : decode cL_law 208 = .ok (.ishr, 1) := by decide +kernel
theorem dL_law_209 : decode cL_law 209 = .ok (.iconst 4, 1) := by decide +kernel
theorem dL_law_210 : decode cL_law 210 = .ok (.invokestatic 169, 3) := by decide +kernel
theorem dL_law_213 : decode cL_law 213 = .ok (.invokevirtual 41, 3) := by decide +kernel
theorem dL_law_216 : decode cL_law 216 = .ok (.goto 111, 3) := by decide +kernel
theorem dL_law_219 : decode cL_law 219 = .ok (.iload 8, 2) := by decide +kernel
theorem dL_law_221 : decode cL_law 221 = .ok (.bipush 9, 2) := by decide +kernel
theorem dL_law_223 : decode cL_law 223 = .ok (.if_icmp .ne 12, 3) := by decide +kernel
theorem dL_law_226 : decode cL_law 226 = .ok (.aload_n 1, 1) := by decide +kernel
theorem dL_law_227 : decode cL_law 227 = .ok (.iload 10, 2) := by decide +kernel
theorem dL_law_229 : decode cL_law 229 = .ok (.invokevirtual 44, 3) := by decide +kernel
theorem dL_law_232 : decode cL_law 232 = .ok (.goto 95, 3) := by decide +kernel
theorem dL_law_235 : decode cL_law 235 = .ok (.iload 8, 2) := by decide +kernel
theorem dL_law_237 : decode cL_law 237 = .ok (.bipush 10, 2) := by decide +kernel
theorem dL_law_239 : decode cL_law 239 = .ok (.if_icmp .ne 19, 3) := by decide +kernel
theorem dL_law_242 : decode cL_law 242 = .ok (.aload_n 1, 1) := by decide +kernel
theorem dL_law_243 : decode cL_law 243 = .ok (.iload 7, 2) := by decide +kernel
theorem dL_law_245 : decode cL_law 245 = .ok (.iconst 4, 1) := by decide +kernel
theorem dL_law_246 : decode cL_law 246 = .ok (.ishr, 1) := by decide +kernel
theorem dL_law_247 : decode cL_law 247 = .ok (.bipush 22, 2) := by decide +kernel
theorem dL_law_249 : decode cL_law 249 = .ok (.invokestatic 169, 3) := by decide +kernel
theorem dL_law_252 : decode cL_law 252 = .ok (.invokevirtual 47, 3) := by decide +kernel
theorem dL_law_255 : decode cL_law 255 = .ok (.goto 72, 3) := by decide +kernel
theorem dL_law_258 : decode cL_law 258 = .ok (.iload 8, 2) := by decide +kernel
theorem dL_law_260 : decode cL_law 260 = .ok (.bipush 11, 2) := by decide +kernel
theorem dL_law_262 : decode cL_law 262 = .ok (.if_icmp .ne 27, 3) := by decide +kernel
theorem dL_law_265 : decode cL_law 265 = .ok (.aload_n 1, 1) := by decide +kernel
theorem dL_law_266 : decode cL_law 266 = .ok (.iload 7, 2) := by decide +kernel
theorem dL_law_268 : decode cL_law 268 = .ok (.iconst 4, 1) := by decide +kernel
theorem dL_law_269 : decode cL_law 269 = .ok (.ishr, 1) := by decide +kernel
theorem dL_law_270 : decode cL_law 270 = .ok (.iconst 4, 1) := by decide +kernel
theorem dL_law_271 : decode cL_law 271 = .ok (.invokestatic 169, 3) := by decide +kernel
theorem dL_law_274 : decode cL_law 274 = .ok (.iload 7, 2) := by decide +kernel
theorem dL_law_276 : decode cL_law 276 = .ok (.bipush 6, 2) := by decide +kernel
theorem dL_law_278 : decode cL_law 278 = .ok (.ishr, 1) := by decide +kernel
theorem dL_law_279 : decode cL_law 279 = .ok (.iconst 4, 1) := by decide +kernel
theorem dL_law_280 : decode cL_law 280 = .ok (.invokestatic 169, 3) := by decide +kernel
theorem dL_law_283 : decode cL_law 283 = .ok (.invokevirtual 50, 3) := by decide +kernel
theorem dL_law_286 : decode cL_law 286 = .ok (.goto 41, 3) := by decide +kernel
theorem dL_law_289 : decode cL_law 289 = .ok (.iload 8, 2) := by decide +kernel
theorem dL_law_291 : decode cL_law 291 = .ok (.bipush 12, 2) := by decide +kernel
theorem dL_law_293 : decode cL_law 293 = .ok (.if_icmp .ne 30, 3) := by decide +kernel
theorem dL_law_296 : decode cL_law 296 = .ok (.aload_n 1, 1) := by decide +kernel
theorem dL_law_297 : decode cL_law 297 = .ok (.iload 7, 2) := by decide +kernel
theorem dL_law_299 : decode cL_law 299 = .ok (.iconst 4, 1) := by decide +kernel
theorem dL_law_300 : decode cL_law 300 = .ok (.ishr, 1) := by decide +kernel
theorem dL_law_301 : decode cL_law 301 = .ok (.bipush 9, 2) := by decide +kernel
theorem dL_law_303 : decode cL_law 303 = .ok (.invokestatic 169, 3) := by decide +kernel
theorem dL_law_306 : decode cL_law 306 = .ok (.iload 7, 2) := by decide +kernel
theorem dL_law_308 : decode cL_law 308 = .ok (.bipush 8, 2) := by decide +kernel
theorem dL_law_310 : decode cL_law 310 = .ok (.ishr, 1) := by decide +kernel
theorem dL_law_311 : decode cL_law 311 = .ok (.sipush 10000, 3) := by decide +kernel
theorem dL_law_314 : decode cL_law 314 = .ok (.invokestatic 169, 3) := by decide +kernel
theorem dL_law_317 : decode cL_law 317 = .ok (.invokevirtual 33, 3) := by decide +kernel
theorem dL_law_320 : decode cL_law 320 = .ok (.goto 7, 3) := by decide +kernel
theorem dL_law_323 : decode cL_law 323 = .ok (.aload_n 1, 1) := by decide +kernel
theorem dL_law_324 : decode cL_law 324 = .ok (.invokevirtual 80, 3) := by decide +kernel
theorem dL_law_327 : decode cL_law 327 = .ok (.istore 11, 2) := by decide +kernel
theorem dL_law_329 : decode cL_law 329 = .ok (.iload 11, 2) := by decide +kernel
theorem dL_law_331 : decode cL_law 331 = .ok (.ifCond .ge 27, 3) := by decide +kernel
theorem dL_law_334 : decode cL_law 334 = .ok (.aload_n 1, 1) := by decide +kernel
theorem dL_law_335 : decode cL_law 335 = .ok (.bipush 15, 2) := by decide +kernel
theorem dL_law_337 : decode cL_law 337 = .ok (.invokevirtual 13, 3) := by decide +kernel
theorem dL_law_340 : decode cL_law 340 = .ok (.iload 9, 2) := by decide +kernel
theorem dL_law_342 : decode cL_law 342 = .ok (.if_icmp .ne 14, 3) := by decide +kernel
theorem dL_law_345 : decode cL_law 345 = .ok (.aload_n 1, 1) := by decide +kernel
theorem dL_law_346 : decode cL_law 346 = .ok (.invokestatic 62, 3) := by decide +kernel
theorem dL_law_349 : decode cL_law 349 = .ok (.aload_n 2, 1) := by decide +kernel
theorem dL_law_350 : decode cL_law 350 = .ok (.iload_n 3, 1) := by decide +kernel
theorem dL_law_351 : decode cL_law 351 = .ok (.laload, 1) := by decide +kernel
theorem dL_law_352 : decode cL_law 352 = .ok (.lcmp, 1) := by decide +kernel
theorem dL_law_353 : decode cL_law 353 = .ok (.ifCond .eq 5, 3) := by decide +kernel
theorem dL_law_356 : decode cL_law 356 = .ok (.iconst 0, 1) := by decide +kernel
theorem dL_law_357 : decode cL_law 357 = .ok (.ireturn, 1) := by decide +kernel
theorem dL_law_358 : decode cL_law 358 = .ok (.iload_n 3, 1) := by decide +kernel
theorem dL_law_359 : decode cL_law 359 = .ok (.iload 11, 2) := by decide +kernel
theorem dL_law_361 : decode cL_law 361 = .ok (.ifCond .ge 7, 3) := by decide +kernel
theorem dL_law_364 : decode cL_law 364 = .ok (.iconst 0, 1) := by decide +kernel
theorem dL_law_365 : decode cL_law 365 = .ok (.goto 4, 3) := by decide +kernel
theorem dL_law_368 : decode cL_law 368 = .ok (.iconst 1, 1) := by decide +kernel
theorem dL_law_369 : decode cL_law 369 = .ok (.iadd, 1) := by decide +kernel
theorem dL_law_370 : decode cL_law 370 = .ok (.istore_n 3, 1) := by decide +kernel
theorem dL_law_371 : decode cL_law 371 = .ok (.iinc 6 1, 3) := by decide +kernel
theorem dL_law_374 : decode cL_law 374 = .ok (.goto (-298), 3) := by decide +kernel
theorem dL_law_377 : decode cL_law 377 = .ok (.aload_n 2, 1) := by decide +kernel
theorem dL_law_378 : decode cL_law 378 = .ok (.iload_n 3, 1) := by decide +kernel
theorem dL_law_379 : decode cL_law 379 = .ok (.aload_n 1, 1) := by decide +kernel
theorem dL_law_380 : decode cL_law 380 = .ok (.invokestatic 62, 3) := by decide +kernel
theorem dL_law_383 : decode cL_law 383 = .ok (.lastore, 1) := by decide +kernel
theorem dL_law_384 : decode cL_law 384 = .ok (.aload_n 1, 1) := by decide +kernel
theorem dL_law_385 : decode cL_law 385 = .ok (.invokestatic 100, 3) := by decide +kernel
theorem dL_law_388 : decode cL_law 388 = .ok (.ifCond .ne 5, 3) := by decide +kernel
theorem dL_law_391 : decode cL_law 391 = .ok (.iconst 0, 1) := by decide +kernel
theorem dL_law_392 : decode cL_law 392 = .ok (.ireturn, 1) := by decide +kernel
theorem dL_law_393 : decode cL_law 393 = .ok (.iconst 0, 1) := by decide +kernel
theorem dL_law_394 : decode cL_law 394 = .ok (.istore 6, 2) := by decide +kernel
theorem dL_law_396 : decode cL_law 396 = .ok (.aload_n 1, 1) := by decide +kernel
theorem dL_law_397 : decode cL_law 397 = .ok (.bipush 15, 2) := by decide +kernel
theorem dL_law_399 : decode cL_law 399 = .ok (.invokevirtual 13, 3) := by decide +kernel
theorem dL_law_402 : decode cL_law 402 = .ok (.ifCond .le 56, 3) := by decide +kernel
theorem dL_law_405 : decode cL_law 405 = .ok (.iload 6, 2) := by decide +kernel
theorem dL_law_407 : decode cL_law 407 = .ok (.iload_n 3, 1) := by decide +kernel
theorem dL_law_408 : decode cL_law 408 = .ok (.if_icmp .ge 50, 3) := by decide +kernel
theorem dL_law_411 : decode cL_law 411 = .ok (.aload_n 1, 1) := by decide +kernel
theorem dL_law_412 : decode cL_law 412 = .ok (.bipush 15, 2) := by decide +kernel
theorem dL_law_414 : decode cL_law 414 = .ok (.invokevirtual 13, 3) := by decide +kernel
theorem dL_law_417 : decode cL_law 417 = .ok (.istore 7, 2) := by decide +kernel
theorem dL_law_419 : decode cL_law 419 = .ok (.iload 6, 2) := by decide +kernel
theorem dL_law_421 : decode cL_law 421 = .ok (.iconst 3, 1) := by decide +kernel
theorem dL_law_422 : decode cL_law 422 = .ok (.if_icmp .gt 28, 3) := by decide +kernel
theorem dL_law_425 : decode cL_law 425 = .ok (.aload_n 1, 1) := by decide +kernel
theorem dL_law_426 : decode cL_law 426 = .ok (.invokestatic 62, 3) := by decide +kernel
theorem dL_law_429 : decode cL_law 429 = .ok (.aload_n 2, 1) := by decide +kernel
theorem dL_law_430 : decode cL_law 430 = .ok (.iload_n 3, 1) := by decide +kernel
theorem dL_law_431 : decode cL_law 431 = .ok (.iload 6, 2) := by decide +kernel
theorem dL_law_433 : decode cL_law 433 = .ok (.isub, 1) := by decide +kernel
theorem dL_law_434 : decode cL_law 434 = .ok (.laload, 1) := by decide +kernel
theorem dL_law_435 : decode cL_law 435 = .ok (.lcmp, 1) := by decide +kernel
theorem dL_law_436 : decode cL_law 436 = .ok (.ifCond .ne 14, 3) := by decide +kernel
theorem dL_law_439 : decode cL_law 439 = .ok (.aload_n 1, 1) := by decide +kernel
theorem dL_law_440 : decode cL_law 440 = .ok (.invokevirtual 77, 3) := by decide +kernel
theorem dL_law_443 : decode cL_law 443 = .ok (.iload 7, 2) := by decide +kernel
theorem dL_law_445 : decode cL_law 445 = .ok (.iconst 1, 1) := by decide +kernel
theorem dL_law_446 : decode cL_law 446 = .ok (.isub, 1) := by decide +kernel
theorem dL_law_447 : decode cL_law 447 = .ok (.if_icmp .eq 5, 3) := by decide +kernel
theorem dL_law_450 : decode cL_law 450 = .ok (.iconst 0, 1) := by decide +kernel
theorem dL_law_451 : decode cL_law 451 = .ok (.ireturn, 1) := by decide +kernel
theorem dL_law_452 : decode cL_law 452 = .ok (.iinc 6 1, 3) := by decide +kernel
theorem dL_law_455 : decode cL_law 455 = .ok (.goto (-59), 3) := by decide +kernel
theorem dL_law_458 : decode cL_law 458 = .ok (.aload_n 1, 1) := by decide +kernel
theorem dL_law_459 : decode cL_law 459 = .ok (.bipush 15, 2) := by decide +kernel
theorem dL_law_461 : decode cL_law 461 = .ok (.invokevirtual 13, 3) := by decide +kernel
theorem dL_law_464 : decode cL_law 464 = .ok (.ifCond .le 12, 3) := by decide +kernel
theorem dL_law_467 : decode cL_law 467 = .ok (.aload_n 1, 1) := by decide +kernel
theorem dL_law_468 : decode cL_law 468 = .ok (.invokevirtual 77, 3) := by decide +kernel
theorem dL_law_471 : decode cL_law 471 = .ok (.ifCond .ge (-13), 3) := by decide +kernel
theorem dL_law_474 : decode cL_law 474 = .ok (.iconst 0, 1) := by decide +kernel
theorem dL_law_475 : decode cL_law 475 = .ok (.ireturn, 1) := by decide +kernel
theorem dL_law_476 : decode cL_law 476 = .ok (.aload_n 1, 1) := by decide +kernel
theorem dL_law_477 : decode cL_law 477 = .ok (.invokevirtual 77, 3) := by decide +kernel
theorem dL_law_480 : decode cL_law 480 = .ok (.bipush (-5), 2) := by decide +kernel
theorem dL_law_482 : decode cL_law 482 = .ok (.if_icmp .ne 34, 3) := by decide +kernel
theorem dL_law_485 : decode cL_law 485 = .ok (.aload_n 1, 1) := by decide +kernel
theorem dL_law_486 : decode cL_law 486 = .ok (.invokevirtual 80, 3) := by decide +kernel
theorem dL_law_489 : decode cL_law 489 = .ok (.ifCond .ne 27, 3) := by decide +kernel
theorem dL_law_492 : decode cL_law 492 = .ok (.aload_n 1, 1) := by decide +kernel
theorem dL_law_493 : decode cL_law 493 = .ok (.invokestatic 62, 3) := by decide +kernel
theorem dL_law_496 : decode cL_law 496 = .ok (.lload 4, 2) := by decide +kernel
theorem dL_law_498 : decode cL_law 498 = .ok (.lcmp, 1) := by decide +kernel
theorem dL_law_499 : decode cL_law 499 = .ok (.ifCond .ne 17, 3) := by decide +kernel
theorem dL_law_502 : decode cL_law 502 = .ok (.aload_n 1, 1) := by decide +kernel
theorem dL_law_503 : decode cL_law 503 = .ok (.bipush 15, 2) := by decide +kernel
theorem dL_law_505 : decode cL_law 505 = .ok (.invokevirtual 13, 3) := by decide +kernel
theorem dL_law_508 : decode cL_law 508 = .ok (.iconst 1, 1) := by decide +kernel
theorem dL_law_509 : decode cL_law 509 = .ok (.if_icmp .ne 7, 3) := by decide +kernel
theorem dL_law_512 : decode cL_law 512 = .ok (.iconst 1, 1) := by decide +kernel
theorem dL_law_513 : decode cL_law 513 = .ok (.goto 4, 3) := by decide +kernel
theorem dL_law_516 : decode cL_law 516 = .ok (.iconst 0, 1) := by decide +kernel
theorem dL_law_517 : decode cL_law 517 = .ok (.ireturn, 1) := by decide +kernel

