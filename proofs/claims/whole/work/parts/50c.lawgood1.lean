/-! The law: its callees' words among its own (printed names). -/
set_option maxRecDepth 20000 in
theorem ggL_law_L_cell : GoodIn wsL_law wsL_cell := goodIn_r _ [9] (by decide +kernel) (by decide +kernel)
set_option maxRecDepth 20000 in
theorem gL_law_L_cell : GoodIn wsL_law (va_wsS RL 9 yL_cell wsL_cell) := goodIn_app (goodIn_of _ (by decide +kernel)) ggL_law_L_cell
set_option maxRecDepth 20000 in
theorem ggL_law_X4_init : GoodIn wsL_law wsX4_init := goodIn_r _ [12, 13, 14, 15, 16, 17, 18, 19, 20, 21, 22, 23, 24, 25, 26, 27, 28, 29, 30, 31, 32, 33, 34, 35, 36, 37, 38, 39, 40, 41, 42, 43, 44, 45, 46, 47, 48, 49, 50, 51, 52, 53, 54, 55, 56, 57, 58, 59, 60, 61, 62, 63, 64, 65, 66, 67, 68, 69, 70, 71, 72, 73, 74, 75, 76, 77, 78, 79, 2, 80, 81, 82, 83, 84, 85, 86, 87, 88, 89, 90, 91, 92, 507, 508, 509, 486, 487, 488, 489, 490, 491, 492, 493, 494, 495, 496, 497, 498, 499, 510, 511, 512, 513, 514, 515, 516, 517, 518, 519, 520, 521, 522, 523, 524, 525] (by decide +kernel) (by decide +kernel)
set_option maxRecDepth 20000 in
theorem gL_law_X4_init : GoodIn wsL_law (wsX4_init) := ggL_law_X4_init
set_option maxRecDepth 20000 in
theorem ggL_law_X5_init : GoodIn wsL_law wsX5_init := goodIn_r _ [95, 96, 14, 15, 53, 97, 98, 99, 100, 101, 102, 103, 5, 104, 105, 500, 501, 502, 503, 504, 505, 506] (by decide +kernel) (by decide +kernel)
set_option maxRecDepth 20000 in
theorem gL_law_X5_init : GoodIn wsL_law (wsX5_init) := ggL_law_X5_init
set_option maxRecDepth 20000 in
theorem ggL_law_X4_set : GoodIn wsL_law wsX4_set := goodIn_r _ [109, 20, 110, 111, 112, 113, 114, 42, 115, 24, 116, 117, 118, 2, 119, 41, 81, 82, 83, 31, 84, 54, 85, 86, 87, 88, 55, 89, 90, 91, 92, 120, 121, 122, 123, 124, 125, 126, 23, 127, 60, 61, 128, 62, 129, 130, 131, 132, 133, 134, 135, 136, 137, 138, 139, 140, 141, 142, 143, 144, 145, 146, 147, 148, 149, 150, 151, 152, 153, 154, 155, 156, 157, 158, 159, 160, 161, 162, 163, 164, 165, 166, 167, 168, 169, 170, 171, 172, 173, 174, 175, 176, 177, 178, 179, 180, 181, 182, 183, 184, 185, 186, 187, 188, 40, 189, 190, 191, 18, 192, 46, 48, 49, 193, 486, 487, 488, 489, 490, 491, 492, 493, 494, 495, 496, 497, 498, 499, 507, 508, 509, 524, 525, 510, 511, 512] (by decide +kernel) (by decide +kernel)
set_option maxRecDepth 20000 in
theorem gL_law_X4_set : GoodIn wsL_law (wsV RL 21 RX4 yX4_set wsX4_set) := goodIn_app (goodIn_of _ (by decide +kernel)) ggL_law_X4_set
set_option maxRecDepth 20000 in
theorem ggL_law_X5_set : GoodIn wsL_law wsX5_set := goodIn_r _ [197, 198, 199, 200, 201, 5, 202, 99, 101, 102, 103, 104, 97, 105, 203, 204, 205, 206, 100, 98, 207, 208, 209, 210, 211, 212, 213, 214, 215, 216, 217, 218, 219, 220, 221, 222, 223, 224, 225, 226, 227, 228, 229, 230, 231, 232, 233, 234, 235, 236, 237, 238, 239, 240, 241, 242, 243, 244, 245, 246, 247, 248, 249, 250, 251, 252, 500, 501, 502, 503, 504, 505, 506] (by decide +kernel) (by decide +kernel)
set_option maxRecDepth 20000 in
theorem gL_law_X5_set : GoodIn wsL_law (wsV RL 25 RX5 yX5_set wsX5_set) := goodIn_app (goodIn_of _ (by decide +kernel)) ggL_law_X5_set
set_option maxRecDepth 20000 in
theorem ggL_law_X4_add : GoodIn wsL_law wsX4_add := goodIn_r _ [256, 41, 115, 257, 258, 259, 2, 260, 116, 117, 118, 119, 261, 262, 263, 264, 33, 42, 35, 24, 36, 265, 32, 110, 34, 20, 37, 266, 130, 131, 31, 132, 55, 133, 134, 113, 135, 54, 124, 125, 126, 23, 127, 60, 61, 128, 62, 129, 136, 137, 138, 139, 140, 141, 142, 143, 85, 86, 87, 88, 144, 145, 122, 146, 147, 148, 149, 150, 151, 152, 153, 154, 155, 156, 157, 158, 159, 160, 161, 162, 163, 164, 165, 166, 167, 168, 169, 170, 171, 172, 173, 174, 175, 176, 177, 178, 179, 89, 90, 91, 92, 180, 181, 182, 183, 267, 268, 269, 270, 271, 272, 273, 274, 275, 276, 277, 278, 279, 280, 281, 282, 283, 284, 285, 286, 184, 185, 186, 187, 188, 40, 189, 190, 191, 18, 192, 46, 48, 49, 193, 486, 487, 488, 489, 490, 491, 492, 493, 494, 495, 496, 497, 498, 499, 507, 508, 509, 510, 511, 512, 524, 525] (by decide +kernel) (by decide +kernel)
set_option maxRecDepth 20000 in
theorem gL_law_X4_add : GoodIn wsL_law (wsV RL 26 RX4 yX4_add wsX4_add) := goodIn_app (goodIn_of _ (by decide +kernel)) ggL_law_X4_add
set_option maxRecDepth 20000 in
theorem ggL_law_X5_add : GoodIn wsL_law wsX5_add := goodIn_r _ [290, 291, 292, 293, 5, 294, 199, 200, 201, 202, 99, 295, 296, 297, 298, 98, 198, 299, 300, 301, 302, 97, 105, 101, 102, 103, 104, 220, 221, 222, 223, 303, 304, 305, 306, 240, 232, 233, 234, 235, 236, 237, 238, 239, 203, 204, 205, 206, 100, 207, 208, 209, 210, 211, 212, 213, 214, 215, 216, 217, 218, 219, 224, 225, 226, 227, 228, 229, 230, 231, 241, 242, 243, 244, 245, 246, 247, 248, 249, 250, 251, 252, 500, 501, 502, 503, 504, 505, 506] (by decide +kernel) (by decide +kernel)
set_option maxRecDepth 20000 in
theorem gL_law_X5_add : GoodIn wsL_law (wsV RL 29 RX5 yX5_add wsX5_add) := goodIn_app (goodIn_of _ (by decide +kernel)) ggL_law_X5_add
set_option maxRecDepth 20000 in
theorem ggL_law_X4_sub : GoodIn wsL_law wsX4_sub := goodIn_r _ [310, 41, 115, 257, 258, 259, 2, 260, 116, 117, 118, 119, 261, 262, 263, 264, 33, 42, 35, 24, 36, 265, 32, 110, 34, 20, 37, 266, 130, 131, 31, 132, 55, 133, 134, 113, 135, 54, 124, 125, 126, 23, 127, 60, 61, 128, 62, 129, 136, 137, 138, 139, 140, 141, 142, 143, 85, 86, 87, 88, 144, 145, 122, 146, 147, 148, 149, 150, 151, 152, 153, 154, 155, 156, 157, 158, 159, 160, 161, 162, 163, 164, 165, 166, 167, 168, 169, 170, 171, 172, 173, 174, 175, 176, 177, 178, 179, 89, 90, 91, 92, 180, 181, 182, 183, 267, 268, 269, 270, 271, 272, 273, 274, 275, 276, 277, 278, 279, 280, 281, 282, 283, 284, 285, 286, 184, 185, 186, 187, 188, 40, 189, 190, 191, 18, 192, 46, 48, 49, 193, 486, 487, 488, 489, 490, 491, 492, 493, 494, 495, 496, 497, 498, 499, 507, 508, 509, 510, 511, 512, 524, 525] (by decide +kernel) (by decide +kernel)
set_option maxRecDepth 20000 in
theorem gL_law_X4_sub : GoodIn wsL_law (wsV RL 30 RX4 yX4_sub wsX4_sub) := goodIn_app (goodIn_of _ (by decide +kernel)) ggL_law_X4_sub
set_option maxRecDepth 20000 in
theorem ggL_law_X5_sub : GoodIn wsL_law wsX5_sub := goodIn_r _ [314, 291, 292, 293, 5, 294, 199, 200, 201, 202, 99, 295, 296, 297, 298, 98, 198, 299, 300, 301, 302, 97, 105, 101, 102, 103, 104, 220, 221, 222, 223, 303, 304, 305, 306, 240, 232, 233, 234, 235, 236, 237, 238, 239, 203, 204, 205, 206, 100, 207, 208, 209, 210, 211, 212, 213, 214, 215, 216, 217, 218, 219, 224, 225, 226, 227, 228, 229, 230, 231, 241, 242, 243, 244, 245, 246, 247, 248, 249, 250, 251, 252, 500, 501, 502, 503, 504, 505, 506] (by decide +kernel) (by decide +kernel)
set_option maxRecDepth 20000 in
theorem gL_law_X5_sub : GoodIn wsL_law (wsV RL 33 RX5 yX5_sub wsX5_sub) := goodIn_app (goodIn_of _ (by decide +kernel)) ggL_law_X5_sub
set_option maxRecDepth 20000 in
theorem ggL_law_X4_mul : GoodIn wsL_law wsX4_mul := goodIn_r _ [318, 41, 115, 110, 42, 257, 258, 259, 2, 260, 116, 117, 118, 119, 319, 320, 321, 322, 32, 35, 24, 34, 33, 20, 266, 130, 131, 31, 132, 55, 133, 134, 113, 135, 54, 124, 125, 126, 23, 127, 60, 61, 128, 62, 129, 136, 137, 138, 139, 140, 141, 142, 143, 85, 86, 87, 88, 144, 145, 122, 146, 147, 148, 149, 150, 151, 152, 153, 154, 155, 156, 157, 158, 159, 160, 161, 162, 163, 164, 165, 166, 167, 168, 169, 170, 171, 172, 173, 174, 175, 176, 177, 178, 179, 89, 90, 91, 92, 180, 181, 182, 183, 267, 268, 269, 270, 184, 185, 186, 187, 188, 40, 189, 190, 191, 18, 192, 46, 48, 49, 193, 486, 487, 488, 489, 490, 491, 492, 493, 494, 495, 496, 497, 498, 499, 507, 508, 509, 524, 525, 510, 511, 512] (by decide +kernel) (by decide +kernel)
set_option maxRecDepth 20000 in
theorem gL_law_X4_mul : GoodIn wsL_law (wsV RL 34 RX4 yX4_mul wsX4_mul) := goodIn_app (goodIn_of _ (by decide +kernel)) ggL_law_X4_mul
set_option maxRecDepth 20000 in
theorem ggL_law_X5_mul : GoodIn wsL_law wsX5_mul := goodIn_r _ [326, 98, 198, 291, 292, 293, 5, 294, 199, 200, 201, 202, 99, 299, 300, 301, 302, 97, 105, 101, 102, 103, 104, 203, 204, 205, 206, 100, 207, 208, 209, 210, 211, 212, 213, 214, 215, 216, 217, 218, 219, 220, 221, 222, 223, 224, 225, 226, 227, 228, 229, 230, 231, 232, 233, 234, 235, 236, 237, 238, 239, 240, 241, 242, 243, 244, 245, 246, 247, 248, 249, 250, 251, 252, 500, 501, 502, 503, 504, 505, 506] (by decide +kernel) (by decide +kernel)
set_option maxRecDepth 20000 in
theorem gL_law_X5_mul : GoodIn wsL_law (wsV RL 37 RX5 yX5_mul wsX5_mul) := goodIn_app (goodIn_of _ (by decide +kernel)) ggL_law_X5_mul
set_option maxRecDepth 20000 in
theorem ggL_law_X4_div : GoodIn wsL_law wsX4_div := goodIn_r _ [330, 41, 115, 42, 110, 257, 258, 259, 2, 260, 116, 117, 118, 119, 319, 320, 321, 322, 32, 35, 24, 34, 33, 20, 266, 130, 131, 31, 132, 55, 133, 134, 113, 135, 54, 124, 125, 126, 23, 127, 60, 61, 128, 62, 129, 136, 137, 138, 139, 140, 141, 142, 143, 85, 86, 87, 88, 144, 145, 122, 146, 147, 148, 149, 150, 151, 152, 153, 154, 155, 156, 157, 158, 159, 160, 161, 162, 163, 164, 165, 166, 167, 168, 169, 170, 171, 172, 173, 174, 175, 176, 177, 178, 179, 89, 90, 91, 92, 180, 181, 182, 183, 267, 268, 269, 270, 184, 185, 186, 187, 188, 40, 189, 190, 191, 18, 192, 46, 48, 49, 193, 486, 487, 488, 489, 490, 491, 492, 493, 494, 495, 496, 497, 498, 499, 507, 508, 509, 524, 525, 510, 511, 512] (by decide +kernel) (by decide +kernel)
set_option maxRecDepth 20000 in
theorem gL_law_X4_div : GoodIn wsL_law (wsV RL 38 RX4 yX4_div wsX4_div) := goodIn_app (goodIn_of _ (by decide +kernel)) ggL_law_X4_div
set_option maxRecDepth 20000 in
theorem ggL_law_X5_div : GoodIn wsL_law wsX5_div := goodIn_r _ [334, 98, 198, 291, 292, 293, 5, 294, 199, 200, 201, 202, 99, 299, 300, 301, 302, 97, 105, 101, 102, 103, 104, 203, 204, 205, 206, 100, 207, 208, 209, 210, 211, 212, 213, 214, 215, 216, 217, 218, 219, 220, 221, 222, 223, 224, 225, 226, 227, 228, 229, 230, 231, 232, 233, 234, 235, 236, 237, 238, 239, 240, 241, 242, 243, 244, 245, 246, 247, 248, 249, 250, 251, 252, 500, 501, 502, 503, 504, 505, 506] (by decide +kernel) (by decide +kernel)
set_option maxRecDepth 20000 in
theorem gL_law_X5_div : GoodIn wsL_law (wsV RL 41 RX5 yX5_div wsX5_div) := goodIn_app (goodIn_of _ (by decide +kernel)) ggL_law_X5_div
set_option maxRecDepth 20000 in
theorem ggL_law_X4_cmp : GoodIn wsL_law wsX4_cmp := goodIn_r _ [338, 41, 115, 32, 110, 42, 34, 116, 117, 118, 2, 119, 267, 268, 269, 31, 270, 55, 85, 86, 87, 88, 54, 153, 154, 155, 156, 152, 176, 177, 178, 179, 173, 174, 113, 175, 89, 90, 91, 92, 279, 280, 281, 282, 486, 487, 488, 489, 490, 491, 492, 493, 494, 495, 496, 497, 498, 499, 507, 508, 509, 524, 525] (by decide +kernel) (by decide +kernel)
set_option maxRecDepth 20000 in
theorem gL_law_X4_cmp : GoodIn wsL_law (wsV RL 42 RX4 yX4_cmp wsX4_cmp) := goodIn_app (goodIn_of _ (by decide +kernel)) ggL_law_X4_cmp
set_option maxRecDepth 20000 in
theorem ggL_law_X5_cmp : GoodIn wsL_law wsX5_cmp := goodIn_r _ [342, 98, 199, 200, 201, 5, 202, 99, 299, 300, 301, 302, 97, 105, 101, 102, 103, 104, 232, 233, 234, 235, 500, 501, 502, 503, 504, 505, 506] (by decide +kernel) (by decide +kernel)
set_option maxRecDepth 20000 in
theorem gL_law_X5_cmp : GoodIn wsL_law (wsV RL 46 RX5 yX5_cmp wsX5_cmp) := goodIn_app (goodIn_of _ (by decide +kernel)) ggL_law_X5_cmp
set_option maxRecDepth 20000 in
theorem ggL_law_X4_fits : GoodIn wsL_law wsX4_fits := goodIn_r _ [346, 41, 116, 117, 118, 2, 119, 347, 348, 349, 350, 39, 110, 42, 38, 115, 266, 130, 131, 31, 132, 55, 133, 134, 113, 135, 54, 351, 141, 142, 143, 85, 86, 87, 88, 144, 145, 122, 146, 147, 148, 149, 150, 151, 152, 153, 154, 155, 156, 157, 158, 159, 160, 161, 162, 163, 164, 165, 166, 167, 168, 169, 170, 171, 172, 173, 174, 175, 176, 177, 178, 179, 89, 90, 91, 92, 352, 353, 354, 355, 356, 137, 138, 139, 283, 284, 285, 286, 357, 358, 359, 360, 361, 486, 487, 488, 489, 490, 491, 492, 493, 494, 495, 496, 497, 498, 499, 507, 508, 509, 524, 525] (by decide +kernel) (by decide +kernel)
set_option maxRecDepth 20000 in
theorem gL_law_X4_fits : GoodIn wsL_law (wsV RL 47 RX4 yX4_fits wsX4_fits) := goodIn_app (goodIn_of _ (by decide +kernel)) ggL_law_X4_fits
set_option maxRecDepth 20000 in
theorem ggL_law_X5_fits : GoodIn wsL_law wsX5_fits := goodIn_r _ [365, 98, 366, 367, 199, 200, 201, 5, 202, 99, 368, 369, 370, 371, 245, 246, 247, 248, 219, 97, 101, 102, 103, 104, 105, 249, 250, 251, 252, 241, 242, 243, 244, 232, 233, 234, 235, 236, 237, 238, 239, 240, 211, 212, 213, 214, 220, 221, 222, 223, 303, 304, 305, 306, 372, 373, 374, 375, 376, 500, 501, 502, 503, 504, 505, 506] (by decide +kernel) (by decide +kernel)
