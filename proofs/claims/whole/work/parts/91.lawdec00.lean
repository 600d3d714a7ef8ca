set_option maxRecDepth 20000 in
theorem ggL_get_X2_get : GoodIn wsL_get wsX2_get := goodIn_r _ [5, 6, 7, 8, 9, 10, 11, 12, 4, 13, 14, 15, 16, 17, 18, 19, 20, 21, 22, 23, 24, 25, 26, 27, 28, 29, 30, 31, 32, 33, 34, 35, 36, 37, 38, 39, 40, 41, 42, 43, 44, 45, 46, 47, 48, 49, 50, 51, 52, 53, 54, 55, 56, 57, 58, 59, 60, 61, 62, 63, 64, 65, 66, 67, 68, 69, 70, 71, 72, 73, 74, 75, 76, 77, 78] (by decide +kernel) (by decide +kernel)
set_option maxRecDepth 20000 in
theorem gL_get_X2_get : GoodIn wsL_get (wsV RL 7 RX2 yX2_get wsX2_get) := goodIn_app (goodIn_of _ (by decide +kernel)) ggL_get_X2_get
theorem dL_get_0 : decode cL_get 0 = .ok (.aload_n 3, 1) := by decide +kernel
theorem dL_get_1 : decode cL_get 1 = .ok (.iconst 0, 1) := by decide +kernel
theorem dL_get_2 : decode cL_get 2 = .ok (.aload_n 0, 1) := by decide +kernel
theorem dL_get_3 : decode cL_get 3 = .ok (.iload_n 1, 1) := by decide +kernel
theorem dL_get_4 : decode cL_get 4 = .ok (.iload_n 2, 1) := by decide +kernel
theorem dL_get_5 : decode cL_get 5 = .ok (.invokevirtual 7, 3) := by decide +kernel
theorem dL_get_8 : decode cL_get 8 = .ok (.i2l, 1) := by decide +kernel
theorem dL_get_9 : decode cL_get 9 = .ok (.lastore, 1) := by decide +kernel
theorem dL_get_10 : decode cL_get 10 = .ok (.goto 7, 3) := by decide +kernel
theorem dL_get_13 : decode cL_get 13 = .ok (.astore 4, 2) := by decide +kernel
theorem dL_get_15 : decode cL_get 15 = .ok (.iconst 1, 1) := by decide +kernel
theorem dL_get_16 : decode cL_get 16 = .ok (.ireturn, 1) := by decide +kernel
theorem dL_get_17 : decode cL_get 17 = .ok (.iconst 0, 1) := by decide +kernel
theorem dL_get_18 : decode cL_get 18 = .ok (.ireturn, 1) := by decide +kernel
set_option maxRecDepth 20000 in
theorem ggL_law_X2_init : GoodIn wsL_law wsX2_init := goodIn_r _ [9, 10, 11, 12, 13, 14, 15, 16, 17, 18, 19, 20, 21, 22, 23, 24, 25, 26, 27, 28, 29, 30, 31, 32, 33, 34, 35, 36, 37, 38, 39, 40, 41, 42, 43, 44, 2, 45, 46, 47, 48, 49, 50, 51, 52, 53, 54, 55, 56, 57, 58, 59, 60, 61, 62, 63, 64, 65, 66, 67, 68, 69, 70, 71, 72, 73, 74, 75, 76, 77, 78, 79, 80, 81, 82, 83, 84, 85, 86, 87, 88, 89, 504, 505, 475, 476, 477, 478, 479, 480, 481, 482, 483, 484, 506, 507, 508, 509, 510, 511, 512] (by decide +kernel) (by decide +kernel)
set_option maxRecDepth 20000 in
theorem gL_law_X2_init : GoodIn wsL_law (wsX2_init) := ggL_law_X2_init
set_option maxRecDepth 20000 in
theorem ggL_law_X3_init : GoodIn wsL_law wsX3_init := goodIn_r _ [92, 93, 11, 12, 94, 95, 30, 96, 97, 98, 99, 100, 101, 102, 103, 104, 105, 106, 107, 108, 6, 109, 110, 111, 112, 485, 486, 487, 488, 489, 490, 491, 492, 493, 494, 495, 496, 497, 498, 499, 500, 501, 502, 503] (by decide +kernel) (by decide +kernel)
set_option maxRecDepth 20000 in
theorem gL_law_X3_init : GoodIn wsL_law (wsX3_init) := ggL_law_X3_init
set_option maxRecDepth 20000 in
theorem ggL_law_X2_make : GoodIn wsL_law wsX2_make := goodIn_r _ [116, 46, 117, 25, 47, 21, 118, 119, 120, 121, 2, 122, 123, 72, 59, 73, 124, 125, 126, 127, 128, 129, 130, 131, 132, 15, 133, 52, 53, 54, 55, 56, 31, 57, 58, 60, 61, 62, 63, 64, 65, 66, 67, 68, 69, 70, 30, 71, 74, 75, 76, 77, 78, 79, 80, 81, 42, 43, 44, 45, 16, 17, 18, 19, 20, 48, 49, 50, 51, 82, 83, 84, 85, 86, 87, 24, 88, 36, 37, 38, 39, 40, 89, 134, 135, 136, 137, 138, 139, 140, 141, 142, 143, 144, 145, 146, 147, 26, 22, 23, 32, 33, 34, 11, 12, 35, 14, 41, 27, 28, 29, 148, 149, 150, 151, 152, 153, 154, 155, 156, 157, 158, 159, 160, 161, 162, 475, 476, 477, 478, 479, 480, 481, 482, 483, 484, 506, 507, 508, 509, 510, 511, 512, 504, 505] (by decide +kernel) (by decide +kernel)
set_option maxRecDepth 20000 in
theorem gL_law_X2_make : GoodIn wsL_law (wsV RL 19 RX2 yX2_make wsX2_make) := goodIn_app (goodIn_of _ (by decide +kernel)) ggL_law_X2_make
set_option maxRecDepth 20000 in
theorem ggL_law_X3_make : GoodIn wsL_law wsX3_make := goodIn_r _ [166, 167, 94, 168, 111, 112, 95, 97, 99, 101, 105, 106, 107, 108, 169, 170, 5, 171, 172, 173, 174, 175, 176, 177, 178, 179, 103, 104, 109, 110, 180, 181, 182, 183, 96, 98, 485, 486, 487, 488, 489, 490, 491, 492, 493, 494, 495, 496, 497, 498, 499, 500, 501, 502, 503] (by decide +kernel) (by decide +kernel)
set_option maxRecDepth 20000 in
theorem gL_law_X3_make : GoodIn wsL_law (wsV RL 22 RX3 yX3_make wsX3_make) := goodIn_app (goodIn_of _ (by decide +kernel)) ggL_law_X3_make
set_option maxRecDepth 20000 in
theorem ggL_law_X2_put : GoodIn wsL_law wsX2_put := goodIn_r _ [187, 16, 19, 188, 189, 190, 2, 191, 46, 192, 193, 194, 15, 195, 31, 196, 197, 198, 199, 20, 124, 125, 126, 200, 201, 202, 203, 25, 204, 205, 206, 207, 208, 18, 209, 210, 211, 212, 21, 118, 138, 79, 80, 81, 475, 476, 477, 478, 479, 480, 481, 482, 483, 484, 504, 505, 506, 507, 508, 509, 510, 511, 512] (by decide +kernel) (by decide +kernel)
set_option maxRecDepth 20000 in
theorem gL_law_X2_put : GoodIn wsL_law (wsV RL 23 RX2 yX2_put wsX2_put) := goodIn_app (goodIn_of _ (by decide +kernel)) ggL_law_X2_put
set_option maxRecDepth 20000 in
theorem ggL_law_X3_put : GoodIn wsL_law wsX3_put := goodIn_r _ [216, 167, 96, 99, 101, 97, 98, 105, 217, 218, 219, 5, 220, 94, 169, 170, 171, 221, 222, 223, 224, 104, 225, 226, 227, 228, 485, 486, 487, 488, 489, 490, 491, 492, 493, 494, 495, 496, 497, 498, 499, 500, 501, 502, 503] (by decide +kernel) (by decide +kernel)
set_option maxRecDepth 20000 in
theorem gL_law_X3_put : GoodIn wsL_law (wsV RL 27 RX3 yX3_put wsX3_put) := goodIn_app (goodIn_of _ (by decide +kernel)) ggL_law_X3_put
set_option maxRecDepth 20000 in
theorem ggL_law_L_get : GoodIn wsL_law wsL_get := goodIn_r _ [232, 233, 234, 235, 2, 236, 16, 237, 238, 239, 188, 189, 190, 191, 46, 192, 193, 194, 15, 195, 31, 240, 241, 242, 243, 244, 245, 200, 201, 202, 203, 25, 204, 205, 206, 207, 208, 18, 196, 197, 198, 199, 20, 246, 247, 248, 249, 19, 209, 210, 211, 212, 21, 118, 475, 476, 477, 478, 479, 480, 481, 482, 483, 484, 513, 514, 515, 516, 517, 518, 504, 505, 506, 507, 508, 509, 510, 511, 512] (by decide +kernel) (by decide +kernel)
set_option maxRecDepth 20000 in
theorem gL_law_L_get : GoodIn wsL_law (va_wsS RL 28 yL_get wsL_get) := goodIn_app (goodIn_of _ (by decide +kernel)) ggL_law_L_get
set_option maxRecDepth 20000 in
theorem ggL_law_X3_get : GoodIn wsL_law wsX3_get := goodIn_r _ [253, 167, 99, 96, 105, 97, 98, 217, 218, 219, 5, 220, 94, 254, 255, 256, 257, 169, 170, 171, 221, 222, 223, 224, 104, 225, 226, 227, 228, 258, 259, 260, 261, 101, 485, 486, 487, 488, 489, 490, 491, 492, 493, 494, 495, 496, 497, 498, 499, 500, 501, 502, 503] (by decide +kernel) (by decide +kernel)
set_option maxRecDepth 20000 in
theorem gL_law_X3_get : GoodIn wsL_law (wsV RL 33 RX3 yX3_get wsX3_get) := goodIn_app (goodIn_of _ (by decide +kernel)) ggL_law_X3_get
set_option maxRecDepth 20000 in
theorem ggL_law_X3_thrown : GoodIn wsL_law wsX3_thrown := goodIn_r _ [265, 167, 485, 486, 487, 488, 489, 490, 491, 492, 493, 494, 495, 496, 497, 498, 499, 500, 501, 502, 503] (by decide +kernel) (by decide +kernel)
set_option maxRecDepth 20000 in
theorem gL_law_X3_thrown : GoodIn wsL_law (wsV RL 34 RX3 yX3_thrown wsX3_thrown) := goodIn_app (goodIn_of _ (by decide +kernel)) ggL_law_X3_thrown
set_option maxRecDepth 20000 in
theorem ggL_law_X2_part : GoodIn wsL_law wsX2_part := goodIn_r _ [269, 16, 46, 188, 189, 190, 2, 191, 192, 193, 194, 15, 195, 31, 240, 241, 242, 243, 244, 245, 270, 271, 272, 273, 20, 124, 125, 126, 200, 201, 202, 203, 25, 204, 205, 206, 207, 208, 18, 274, 275, 276, 277, 19, 278, 42, 43, 44, 45, 17, 47, 48, 49, 50, 51, 52, 53, 54, 55, 56, 57, 58, 59, 60, 61, 62, 63, 64, 65, 66, 67, 68, 69, 70, 30, 71, 72, 73, 74, 75, 76, 77, 78, 79, 80, 81, 82, 83, 84, 85, 86, 87, 24, 88, 36, 37, 38, 39, 40, 89, 138, 475, 476, 477, 478, 479, 480, 481, 482, 483, 484, 504, 505, 506, 507, 508, 509, 510, 511, 512] (by decide +kernel) (by decide +kernel)
set_option maxRecDepth 20000 in
theorem gL_law_X2_part : GoodIn wsL_law (wsV RL 38 RX2 yX2_part wsX2_part) := goodIn_app (goodIn_of _ (by decide +kernel)) ggL_law_X2_part
set_option maxRecDepth 20000 in
theorem ggL_law_X3_part : GoodIn wsL_law wsX3_part := goodIn_r _ [282, 167, 99, 96, 94, 97, 98, 103, 104, 95, 217, 218, 219, 5, 220, 254, 255, 256, 257, 169, 170, 171, 221, 222, 223, 224, 225, 226, 227, 228, 180, 181, 182, 183, 485, 486, 487, 488, 489, 490, 491, 492, 493, 494, 495, 496, 497, 498, 499, 500, 501, 502, 503] (by decide +kernel) (by decide +kernel)
set_option maxRecDepth 20000 in
theorem gL_law_X3_part : GoodIn wsL_law (wsV RL 41 RX3 yX3_part wsX3_part) := goodIn_app (goodIn_of _ (by decide +kernel)) ggL_law_X3_part
set_option maxRecDepth 20000 in
theorem ggL_law_X2_attribute : GoodIn wsL_law wsX2_attribute := goodIn_r _ [286, 25, 278, 188, 189, 190, 2, 191, 46, 124, 125, 126, 138, 79, 80, 15, 81, 31, 287, 288, 289, 290, 16, 204, 192, 193, 194, 195, 82, 83, 84, 200, 201, 202, 203, 205, 206, 207, 208, 18, 291, 292, 293, 294, 295, 475, 476, 477, 478, 479, 480, 481, 482, 483, 484, 506, 507, 508, 509, 510, 511, 512, 504, 505] (by decide +kernel) (by decide +kernel)
set_option maxRecDepth 20000 in
theorem gL_law_X2_attribute : GoodIn wsL_law (wsV RL 42 RX2 yX2_attribute wsX2_attribute) := goodIn_app (goodIn_of _ (by decide +kernel)) ggL_law_X2_attribute
set_option maxRecDepth 20000 in
theorem ggL_law_X3_attribute : GoodIn wsL_law wsX3_attribute := goodIn_r _ [299, 167, 96, 103, 104, 107, 97, 217, 218, 219, 5, 220, 94, 169, 170, 171, 300, 301, 302, 303, 221, 222, 223, 224, 225, 226, 227, 228, 485, 486, 487, 488, 489, 490, 491, 492, 493, 494, 495, 496, 497, 498, 499, 500, 501, 502, 503] (by decide +kernel) (by decide +kernel)
set_option maxRecDepth 20000 in
theorem gL_law_X3_attribute : GoodIn wsL_law (wsV RL 45 RX3 yX3_attribute wsX3_attribute) := goodIn_app (goodIn_of _ (by decide +kernel)) ggL_law_X3_attribute
set_option maxRecDepth 20000 in
theorem ggL_law_X2_told : GoodIn wsL_law wsX2_told := goodIn_r _ [307, 25, 278, 295, 18, 16, 17, 143, 188, 189, 190, 2, 191, 46, 192, 193, 194, 15, 195, 31, 200, 201, 202, 203, 204, 205, 206, 207, 208, 308, 309, 310, 475, 476, 477, 478, 479, 480, 481, 482, 483, 484, 506, 507, 508, 509, 510, 511, 512, 504, 505] (by decide +kernel) (by decide +kernel)
set_option maxRecDepth 20000 in
theorem gL_law_X2_told : GoodIn wsL_law (wsV RL 46 RX2 yX2_told wsX2_told) := goodIn_app (goodIn_of _ (by decide +kernel)) ggL_law_X2_told
set_option maxRecDepth 20000 in
theorem ggL_law_X3_told : GoodIn wsL_law wsX3_told := goodIn_r _ [314, 167, 96, 103, 107, 97, 106, 217, 218, 219, 5, 220, 94, 300, 301, 302, 303, 169, 170, 171, 221, 222, 223, 224, 104, 225, 226, 227, 228, 485, 486, 487, 488, 489, 490, 491, 492, 493, 494, 495, 496, 497, 498, 499, 500, 501, 502, 503] (by decide +kernel) (by decide +kernel)
set_option maxRecDepth 20000 in
theorem gL_law_X3_told : GoodIn wsL_law (wsV RL 49 RX3 yX3_told wsX3_told) := goodIn_app (goodIn_of _ (by decide +kernel)) ggL_law_X3_told
set_option maxRecDepth 20000 in
theorem ggL_law_X2_same : GoodIn wsL_law wsX2_same := goodIn_r _ [318, 188, 189, 190, 2, 191, 46, 319, 320, 321, 322, 16, 192, 193, 194, 15, 195, 31, 323, 324, 325, 326, 200, 201, 202, 203, 25, 204, 205, 206, 207, 208, 18, 327, 328, 329, 330, 20, 123, 72, 59, 73, 246, 247, 248, 249, 19, 209, 210, 211, 212, 21, 118, 331, 332, 333, 334, 335, 336, 337, 17, 338, 339, 340, 341, 124, 125, 126, 342, 343, 344, 345, 243, 244, 245, 346, 347, 348, 349, 475, 476, 477, 478, 479, 480, 481, 482, 483, 484, 504, 505, 506, 507, 508, 509, 510, 511, 512] (by decide +kernel) (by decide +kernel)
set_option maxRecDepth 20000 in
theorem gL_law_X2_same : GoodIn wsL_law (wsV RL 50 RX2 yX2_same wsX2_same) := goodIn_app (goodIn_of _ (by decide +kernel)) ggL_law_X2_same
set_option maxRecDepth 20000 in
theorem ggL_law_X3_same : GoodIn wsL_law wsX3_same := goodIn_r _ [353, 167, 96, 217, 218, 219, 5, 220, 94, 221, 222, 223, 224, 104, 225, 226, 227, 228, 97, 354, 355, 356, 357, 99, 258, 259, 260, 261, 101, 98, 358, 359, 360, 361, 362, 363, 364, 365, 366, 367, 368, 369, 370, 485, 486, 487, 488, 489, 490, 491, 492, 493, 494, 495, 496, 497, 498, 499, 500, 501, 502, 503] (by decide +kernel) (by decide +kernel)
set_option maxRecDepth 20000 in
theorem gL_law_X3_same : GoodIn wsL_law (wsV RL 54 RX3 yX3_same wsX3_same) := goodIn_app (goodIn_of _ (by decide +kernel)) ggL_law_X3_same
set_option maxRecDepth 20000 in
theorem ggL_law_X2_compare : GoodIn wsL_law wsX2_compare := goodIn_r _ [374, 16, 17, 188, 189, 190, 2, 191, 46, 192, 193, 194, 15, 195, 31, 331, 332, 333, 323, 324, 325, 326, 200, 201, 202, 203, 25, 204, 205, 206, 207, 208, 18, 327, 328, 329, 330, 20, 123, 72, 59, 73, 246, 247, 248, 249, 19, 209, 210, 211, 212, 21, 118, 475, 476, 477, 478, 479, 480, 481, 482, 483, 484, 504, 505, 506, 507, 508, 509, 510, 511, 512] (by decide +kernel) (by decide +kernel)
set_option maxRecDepth 20000 in
theorem gL_law_X2_compare : GoodIn wsL_law (wsV RL 55 RX2 yX2_compare wsX2_compare) := goodIn_app (goodIn_of _ (by decide +kernel)) ggL_law_X2_compare
set_option maxRecDepth 20000 in
theorem ggL_law_X3_compare : GoodIn wsL_law wsX3_compare := goodIn_r _ [378, 167, 96, 97, 217, 218, 219, 5, 220, 94, 221, 222, 223, 224, 104, 225, 226, 227, 228, 354, 355, 356, 357, 99, 258, 259, 260, 261, 101, 98, 485, 486, 487, 488, 489, 490, 491, 492, 493, 494, 495, 496, 497, 498, 499, 500, 501, 502, 503] (by decide +kernel) (by decide +kernel)
set_option maxRecDepth 20000 in
theorem gL_law_X3_compare : GoodIn wsL_law (wsV RL 58 RX3 yX3_compare wsX3_compare) := goodIn_app (goodIn_of _ (by decide +kernel)) ggL_law_X3_compare
set_option maxRecDepth 20000 in
theorem ggL_law_X2_length : GoodIn wsL_law wsX2_length := goodIn_r _ [382, 16, 17, 20, 25, 383, 18, 188, 189, 190, 2, 191, 46, 192, 193, 194, 15, 195, 31, 384, 385, 386, 475, 476, 477, 478, 479, 480, 481, 482, 483, 484, 506, 507, 508, 509, 510, 511, 512, 504, 505] (by decide +kernel) (by decide +kernel)
set_option maxRecDepth 20000 in
theorem gL_law_X2_length : GoodIn wsL_law (wsV RL 59 RX2 yX2_length wsX2_length) := goodIn_app (goodIn_of _ (by decide +kernel)) ggL_law_X2_length
set_option maxRecDepth 20000 in
theorem ggL_law_X3_length : GoodIn wsL_law wsX3_length := goodIn_r _ [390, 167, 96, 97, 99, 108, 217, 218, 219, 5, 220, 94, 254, 255, 256, 257, 169, 170, 171, 485, 486, 487, 488, 489, 490, 491, 492, 493, 494, 495, 496, 497, 498, 499, 500, 501, 502, 503] (by decide +kernel) (by decide +kernel)
set_option maxRecDepth 20000 in
theorem gL_law_X3_length : GoodIn wsL_law (wsV RL 63 RX3 yX3_length wsX3_length) := goodIn_app (goodIn_of _ (by decide +kernel)) ggL_law_X3_length
set_option maxRecDepth 20000 in
theorem ggL_law_X2_entry : GoodIn wsL_law wsX2_entry := goodIn_r _ [394, 16, 25, 118, 188, 189, 190, 2, 191, 46, 395, 396, 397, 398, 192, 193, 194, 15, 195, 31, 334, 335, 336, 337, 17, 323, 324, 325, 326, 200, 201, 202, 203, 204, 205, 206, 207, 208, 18, 338, 339, 340, 341, 20, 246, 247, 248, 249, 19, 209, 210, 211, 212, 21, 124, 125, 126, 399, 400, 401, 402, 383, 403, 404, 405, 406, 407, 408, 409, 410, 342, 343, 344, 345, 243, 244, 245, 346, 347, 348, 349, 411, 412, 413, 414, 143, 415, 416, 417, 418, 295, 123, 72, 59, 73, 47, 138, 79, 80, 81, 127, 128, 129, 419, 420, 421, 422, 475, 476, 477, 478, 479, 480, 481, 482, 483, 484, 506, 507, 508, 509, 510, 511, 512, 504, 505] (by decide +kernel) (by decide +kernel)
set_option maxRecDepth 20000 in
theorem gL_law_X2_entry : GoodIn wsL_law (wsV RL 64 RX2 yX2_entry wsX2_entry) := goodIn_app (goodIn_of _ (by decide +kernel)) ggL_law_X2_entry
set_option maxRecDepth 20000 in
theorem ggL_law_X3_entry : GoodIn wsL_law wsX3_entry := goodIn_r _ [426, 167, 96, 97, 108, 106, 107, 95, 109, 110, 217, 218, 219, 5, 220, 94, 221, 222, 223, 224, 104, 225, 226, 227, 228, 427, 428, 429, 430, 358, 359, 360, 361, 362, 99, 98, 363, 364, 365, 366, 367, 368, 369, 370, 258, 259, 260, 261, 101, 431, 432, 433, 434, 485, 486, 487, 488, 489, 490, 491, 492, 493, 494, 495, 496, 497, 498, 499, 500, 501, 502, 503] (by decide +kernel) (by decide +kernel)
set_option maxRecDepth 20000 in
theorem gL_law_X3_entry : GoodIn wsL_law (wsV RL 67 RX3 yX3_entry wsX3_entry) := goodIn_app (goodIn_of _ (by decide +kernel)) ggL_law_X3_entry
set_option maxRecDepth 20000 in
theorem ggL_law_X2_look : GoodIn wsL_law wsX2_look := goodIn_r _ [438, 16, 25, 118, 188, 189, 190, 2, 191, 46, 395, 396, 397, 398, 192, 193, 194, 15, 195, 31, 334, 335, 336, 337, 17, 323, 324, 325, 326, 200, 201, 202, 203, 204, 205, 206, 207, 208, 18, 338, 339, 340, 341, 20, 246, 247, 248, 249, 19, 209, 210, 211, 212, 21, 124, 125, 126, 399, 400, 401, 402, 383, 403, 404, 405, 406, 407, 408, 409, 410, 342, 343, 344, 345, 243, 244, 245, 346, 347, 348, 349, 419, 420, 421, 422, 475, 476, 477, 478, 479, 480, 481, 482, 483, 484, 506, 507, 508, 509, 510, 511, 512, 504, 505] (by decide +kernel) (by decide +kernel)
set_option maxRecDepth 20000 in
theorem gL_law_X2_look : GoodIn wsL_law (wsV RL 68 RX2 yX2_look wsX2_look) := goodIn_app (goodIn_of _ (by decide +kernel)) ggL_law_X2_look
set_option maxRecDepth 20000 in
theorem ggL_law_X3_look : GoodIn wsL_law wsX3_look := goodIn_r _ [442, 167, 96, 97, 110, 217, 218, 219, 5, 220, 94, 221, 222, 223, 224, 104, 225, 226, 227, 228, 427, 428, 429, 430, 358, 359, 360, 361, 362, 99, 98, 363, 364, 365, 366, 367, 368, 369, 370, 258, 259, 260, 261, 101, 431, 432, 433, 434, 108, 109, 485, 486, 487, 488, 489, 490, 491, 492, 493, 494, 495, 496, 497, 498, 499, 500, 501, 502, 503] (by decide +kernel) (by decide +kernel)
set_option maxRecDepth 20000 in
theorem gL_law_X3_look : GoodIn wsL_law (wsV RL 71 RX3 yX3_look wsX3_look) := goodIn_app (goodIn_of _ (by decide +kernel)) ggL_law_X3_look
set_option maxRecDepth 20000 in
theorem ggL_law_X2_kind : GoodIn wsL_law wsX2_kind := goodIn_r _ [446, 16, 188, 189, 190, 2, 191, 46, 192, 193, 194, 15, 195, 31, 475, 476, 477, 478, 479, 480, 481, 482, 483, 484, 504, 505] (by decide +kernel) (by decide +kernel)
set_option maxRecDepth 20000 in
theorem gL_law_X2_kind : GoodIn wsL_law (wsV RL 72 RX2 yX2_kind wsX2_kind) := goodIn_app (goodIn_of _ (by decide +kernel)) ggL_law_X2_kind
set_option maxRecDepth 20000 in
theorem ggL_law_X3_kind : GoodIn wsL_law wsX3_kind := goodIn_r _ [450, 167, 96, 217, 218, 219, 5, 220, 94, 485, 486, 487, 488, 489, 490, 491, 492, 493, 494, 495, 496, 497, 498, 499, 500, 501, 502, 503] (by decide +kernel) (by decide +kernel)
set_option maxRecDepth 20000 in
theorem gL_law_X3_kind : GoodIn wsL_law (wsV RL 75 RX3 yX3_kind wsX3_kind) := goodIn_app (goodIn_of _ (by decide +kernel)) ggL_law_X3_kind
set_option maxRecDepth 20000 in
theorem ggL_law_X2_used : GoodIn wsL_law wsX2_used := goodIn_r _ [454, 25, 47, 475, 476, 477, 478, 479, 480, 481, 482, 483, 484, 506, 507, 508, 509, 510, 511, 512] (by decide +kernel) (by decide +kernel)
set_option maxRecDepth 20000 in
theorem gL_law_X2_used : GoodIn wsL_law (wsV RL 76 RX2 yX2_used wsX2_used) := goodIn_app (goodIn_of _ (by decide +kernel)) ggL_law_X2_used
set_option maxRecDepth 20000 in
theorem ggL_law_X3_used : GoodIn wsL_law wsX3_used := goodIn_r _ [458, 167, 95, 485, 486, 487, 488, 489, 490, 491, 492, 493, 494, 495, 496, 497, 498, 499, 500, 501, 502, 503] (by decide +kernel) (by decide +kernel)
set_option maxRecDepth 20000 in
theorem gL_law_X3_used : GoodIn wsL_law (wsV RL 79 RX3 yX3_used wsX3_used) := goodIn_app (goodIn_of _ (by decide +kernel)) ggL_law_X3_used
set_option maxRecDepth 20000 in
theorem ggL_law_X2_restore : GoodIn wsL_law wsX2_restore := goodIn_r _ [462, 17, 117, 21, 19, 25, 16, 18, 20, 46, 188, 189, 190, 2, 191, 463, 464, 465, 466, 26, 192, 193, 194, 15, 195, 31, 467, 468, 469, 470, 52, 148, 149, 150, 24, 151, 36, 37, 38, 39, 40, 41, 152, 153, 154, 155, 156, 157, 72, 59, 73, 158, 75, 76, 77, 53, 54, 55, 56, 57, 58, 60, 61, 62, 63, 64, 65, 66, 67, 68, 69, 70, 30, 71, 74, 475, 476, 477, 478, 479, 480, 481, 482, 483, 484, 504, 505, 506, 507, 508, 509, 510, 511, 512] (by decide +kernel) (by decide +kernel)
set_option maxRecDepth 20000 in
theorem gL_law_X2_restore : GoodIn wsL_law (wsV RL 80 RX2 yX2_restore wsX2_restore) := goodIn_app (goodIn_of _ (by decide +kernel)) ggL_law_X2_restore
set_option maxRecDepth 20000 in
theorem ggL_law_X3_restore : GoodIn wsL_law wsX3_restore := goodIn_r _ [474, 167, 96, 111, 94, 112, 95, 168, 217, 218, 219, 5, 220, 176, 177, 178, 179, 103, 104, 106, 107, 108, 105, 109, 110, 485, 486, 487, 488, 489, 490, 491, 492, 493, 494, 495, 496, 497, 498, 499, 500, 501, 502, 503] (by decide +kernel) (by decide +kernel)
set_option maxRecDepth 20000 in
theorem gL_law_X3_restore : GoodIn wsL_law (wsV RL 83 RX3 yX3_restore wsX3_restore) := goodIn_app (goodIn_of _ (by decide +kernel)) ggL_law_X3_restore
