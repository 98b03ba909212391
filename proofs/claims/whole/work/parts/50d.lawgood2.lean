/-! The law: its callees' words among its own (printed names). -/
set_option maxRecDepth 20000 in
theorem gL_law_X5_fits : GoodIn wsL_law (wsV RL 51 RX5 yX5_fits wsX5_fits) := goodIn_app (goodIn_of _ (by decide +kernel)) ggL_law_X5_fits
set_option maxRecDepth 20000 in
theorem ggL_law_X4_floorSmall : GoodIn wsL_law wsX4_floorSmall := goodIn_r _ [380, 41, 116, 117, 118, 2, 119, 347, 348, 349, 350, 39, 110, 42, 38, 115, 266, 130, 131, 31, 132, 55, 133, 134, 113, 135, 54, 351, 141, 142, 143, 85, 86, 87, 88, 144, 145, 122, 146, 147, 148, 149, 150, 151, 152, 153, 154, 155, 156, 157, 158, 159, 160, 161, 162, 163, 164, 165, 166, 167, 168, 169, 170, 171, 172, 173, 174, 175, 176, 177, 178, 179, 89, 90, 91, 92, 352, 353, 354, 355, 356, 137, 138, 139, 283, 284, 285, 286, 357, 358, 359, 360, 361, 486, 487, 488, 489, 490, 491, 492, 493, 494, 495, 496, 497, 498, 499, 507, 508, 509, 524, 525] (by decide +kernel) (by decide +kernel)
set_option maxRecDepth 20000 in
theorem gL_law_X4_floorSmall : GoodIn wsL_law (wsV RL 52 RX4 yX4_floorSmall wsX4_floorSmall) := goodIn_app (goodIn_of _ (by decide +kernel)) ggL_law_X4_floorSmall
set_option maxRecDepth 20000 in
theorem ggL_law_X5_floorSmall : GoodIn wsL_law wsX5_floorSmall := goodIn_r _ [384, 98, 385, 363, 364, 5, 365, 366, 367, 199, 200, 201, 202, 99, 368, 369, 370, 371, 245, 246, 247, 248, 219, 97, 101, 102, 103, 104, 105, 249, 250, 251, 252, 241, 242, 243, 244, 232, 233, 234, 235, 236, 237, 238, 239, 240, 211, 212, 213, 214, 220, 221, 222, 223, 303, 304, 305, 306, 372, 373, 374, 375, 376, 500, 501, 502, 503, 504, 505, 506] (by decide +kernel) (by decide +kernel)
set_option maxRecDepth 20000 in
theorem gL_law_X5_floorSmall : GoodIn wsL_law (wsV RL 56 RX5 yX5_floorSmall wsX5_floorSmall) := goodIn_app (goodIn_of _ (by decide +kernel)) ggL_law_X5_floorSmall
set_option maxRecDepth 20000 in
theorem ggL_law_X4_cfStart : GoodIn wsL_law wsX4_cfStart := goodIn_r _ [389, 19, 41, 116, 117, 118, 2, 119, 189, 190, 191, 18, 192, 46, 48, 49, 193, 130, 131, 31, 132, 55, 133, 134, 113, 135, 54, 486, 487, 488, 489, 490, 491, 492, 493, 494, 495, 496, 497, 498, 499, 507, 508, 509, 524, 525] (by decide +kernel) (by decide +kernel)
set_option maxRecDepth 20000 in
theorem gL_law_X4_cfStart : GoodIn wsL_law (wsV RL 57 RX4 yX4_cfStart wsX4_cfStart) := goodIn_app (goodIn_of _ (by decide +kernel)) ggL_law_X4_cfStart
set_option maxRecDepth 20000 in
theorem ggL_law_X5_cfStart : GoodIn wsL_law wsX5_cfStart := goodIn_r _ [393, 98, 394, 395, 199, 200, 201, 5, 202, 99, 220, 221, 222, 223, 97, 500, 501, 502, 503, 504, 505, 506] (by decide +kernel) (by decide +kernel)
set_option maxRecDepth 20000 in
theorem gL_law_X5_cfStart : GoodIn wsL_law (wsV RL 60 RX5 yX5_cfStart wsX5_cfStart) := goodIn_app (goodIn_of _ (by decide +kernel)) ggL_law_X5_cfStart
set_option maxRecDepth 20000 in
theorem ggL_law_X4_cfNext : GoodIn wsL_law wsX4_cfNext := goodIn_r _ [399, 19, 42, 400, 360, 115, 110, 39, 356, 137, 138, 31, 139, 55, 347, 348, 349, 2, 350, 38, 266, 130, 131, 132, 133, 134, 113, 135, 54, 351, 141, 142, 143, 85, 86, 87, 88, 144, 145, 122, 146, 147, 148, 149, 150, 151, 152, 153, 154, 155, 156, 157, 158, 159, 160, 161, 162, 163, 164, 165, 166, 167, 168, 169, 170, 171, 172, 173, 174, 175, 176, 177, 178, 179, 89, 90, 91, 92, 352, 353, 354, 355, 283, 284, 285, 286, 357, 358, 359, 361, 486, 487, 488, 489, 490, 491, 492, 493, 494, 495, 496, 497, 498, 499, 507, 508, 509, 524, 525] (by decide +kernel) (by decide +kernel)
set_option maxRecDepth 20000 in
theorem gL_law_X4_cfNext : GoodIn wsL_law (wsV RL 61 RX4 yX4_cfNext wsX4_cfNext) := goodIn_app (goodIn_of _ (by decide +kernel)) ggL_law_X4_cfNext
set_option maxRecDepth 20000 in
theorem ggL_law_X5_cfNext : GoodIn wsL_law wsX5_cfNext := goodIn_r _ [404, 395, 405, 394, 366, 367, 368, 369, 370, 5, 371, 245, 246, 247, 248, 219, 97, 101, 102, 103, 104, 105, 249, 250, 251, 252, 241, 242, 243, 244, 232, 233, 234, 235, 236, 237, 238, 239, 240, 211, 212, 213, 214, 220, 221, 222, 223, 303, 304, 305, 306, 372, 373, 374, 375, 376, 500, 501, 502, 503, 504, 505, 506] (by decide +kernel) (by decide +kernel)
set_option maxRecDepth 20000 in
theorem gL_law_X5_cfNext : GoodIn wsL_law (wsV RL 65 RX5 yX5_cfNext wsX5_cfNext) := goodIn_app (goodIn_of _ (by decide +kernel)) ggL_law_X5_cfNext
set_option maxRecDepth 20000 in
theorem ggL_law_X4_cfDone : GoodIn wsL_law wsX4_cfDone := goodIn_r _ [409, 19, 42, 356, 137, 138, 31, 139, 55, 486, 487, 488, 489, 490, 491, 492, 493, 494, 495, 496, 497, 498, 499, 507, 508, 509, 524, 525] (by decide +kernel) (by decide +kernel)
set_option maxRecDepth 20000 in
theorem gL_law_X4_cfDone : GoodIn wsL_law (wsV RL 66 RX4 yX4_cfDone wsX4_cfDone) := goodIn_app (goodIn_of _ (by decide +kernel)) ggL_law_X4_cfDone
set_option maxRecDepth 20000 in
theorem ggL_law_X5_cfDone : GoodIn wsL_law wsX5_cfDone := goodIn_r _ [413, 395, 500, 501, 502, 503, 504, 505, 506] (by decide +kernel) (by decide +kernel)
set_option maxRecDepth 20000 in
theorem gL_law_X5_cfDone : GoodIn wsL_law (wsV RL 70 RX5 yX5_cfDone wsX5_cfDone) := goodIn_app (goodIn_of _ (by decide +kernel)) ggL_law_X5_cfDone
set_option maxRecDepth 20000 in
theorem ggL_law_X4_numLimb : GoodIn wsL_law wsX4_numLimb := goodIn_r _ [417, 41, 110, 116, 117, 118, 2, 119, 418, 154, 155, 31, 156, 54, 152, 486, 487, 488, 489, 490, 491, 492, 493, 494, 495, 496, 497, 498, 499, 507, 508, 509, 524, 525] (by decide +kernel) (by decide +kernel)
set_option maxRecDepth 20000 in
theorem gL_law_X4_numLimb : GoodIn wsL_law (wsV RL 71 RX4 yX4_numLimb wsX4_numLimb) := goodIn_app (goodIn_of _ (by decide +kernel)) ggL_law_X4_numLimb
set_option maxRecDepth 20000 in
theorem ggL_law_X5_numLimb : GoodIn wsL_law wsX5_numLimb := goodIn_r _ [422, 199, 200, 201, 5, 202, 99, 423, 424, 425, 426, 97, 500, 501, 502, 503, 504, 505, 506] (by decide +kernel) (by decide +kernel)
set_option maxRecDepth 20000 in
theorem gL_law_X5_numLimb : GoodIn wsL_law (wsV RL 74 RX5 yX5_numLimb wsX5_numLimb) := goodIn_app (goodIn_of _ (by decide +kernel)) ggL_law_X5_numLimb
set_option maxRecDepth 20000 in
theorem ggL_law_X4_denLimb : GoodIn wsL_law wsX4_denLimb := goodIn_r _ [430, 41, 42, 116, 117, 118, 2, 119, 418, 154, 155, 31, 156, 54, 152, 486, 487, 488, 489, 490, 491, 492, 493, 494, 495, 496, 497, 498, 499, 507, 508, 509, 524, 525] (by decide +kernel) (by decide +kernel)
set_option maxRecDepth 20000 in
theorem gL_law_X4_denLimb : GoodIn wsL_law (wsV RL 75 RX4 yX4_denLimb wsX4_denLimb) := goodIn_app (goodIn_of _ (by decide +kernel)) ggL_law_X4_denLimb
set_option maxRecDepth 20000 in
theorem ggL_law_X5_denLimb : GoodIn wsL_law wsX5_denLimb := goodIn_r _ [434, 199, 200, 201, 5, 202, 99, 423, 424, 425, 426, 97, 500, 501, 502, 503, 504, 505, 506] (by decide +kernel) (by decide +kernel)
set_option maxRecDepth 20000 in
theorem gL_law_X5_denLimb : GoodIn wsL_law (wsV RL 78 RX5 yX5_denLimb wsX5_denLimb) := goodIn_app (goodIn_of _ (by decide +kernel)) ggL_law_X5_denLimb
set_option maxRecDepth 20000 in
theorem ggL_law_X4_sign : GoodIn wsL_law wsX4_sign := goodIn_r _ [438, 41, 115, 116, 117, 118, 2, 119, 486, 487, 488, 489, 490, 491, 492, 493, 494, 495, 496, 497, 498, 499, 507, 508, 509] (by decide +kernel) (by decide +kernel)
set_option maxRecDepth 20000 in
theorem gL_law_X4_sign : GoodIn wsL_law (wsV RL 79 RX4 yX4_sign wsX4_sign) := goodIn_app (goodIn_of _ (by decide +kernel)) ggL_law_X4_sign
set_option maxRecDepth 20000 in
theorem ggL_law_X5_sign : GoodIn wsL_law wsX5_sign := goodIn_r _ [442, 98, 199, 200, 201, 5, 202, 99, 500, 501, 502, 503, 504, 505, 506] (by decide +kernel) (by decide +kernel)
set_option maxRecDepth 20000 in
theorem gL_law_X5_sign : GoodIn wsL_law (wsV RL 82 RX5 yX5_sign wsX5_sign) := goodIn_app (goodIn_of _ (by decide +kernel)) ggL_law_X5_sign
set_option maxRecDepth 20000 in
theorem ggL_law_X4_best : GoodIn wsL_law wsX4_best := goodIn_r _ [446, 447, 41, 28, 39, 42, 448, 449, 116, 117, 118, 2, 119, 347, 348, 349, 350, 110, 38, 115, 266, 130, 131, 31, 132, 55, 133, 134, 113, 135, 54, 351, 141, 142, 143, 85, 86, 87, 88, 144, 145, 122, 146, 147, 148, 149, 150, 151, 152, 153, 154, 155, 156, 157, 158, 159, 160, 161, 162, 163, 164, 165, 166, 167, 168, 169, 170, 171, 172, 173, 174, 175, 176, 177, 178, 179, 89, 90, 91, 92, 352, 353, 354, 355, 356, 137, 138, 139, 283, 284, 285, 286, 357, 358, 359, 360, 361, 450, 451, 452, 27, 453, 68, 69, 72, 66, 67, 71, 454, 455, 456, 457, 458, 459, 73, 74, 460, 461, 462, 463, 464, 465, 466, 467, 468, 469, 470, 471, 472, 473, 75, 76, 77, 474, 82, 83, 84, 475, 268, 269, 270, 476, 280, 281, 282, 486, 487, 488, 489, 490, 491, 492, 493, 494, 495, 496, 497, 498, 499, 507, 508, 509, 513, 514, 515, 516, 517, 518, 519, 520, 521, 522, 523, 524, 525] (by decide +kernel) (by decide +kernel)
set_option maxRecDepth 20000 in
theorem gL_law_X4_best : GoodIn wsL_law (wsV RL 83 RX4 yX4_best wsX4_best) := goodIn_app (goodIn_of _ (by decide +kernel)) ggL_law_X4_best
set_option maxRecDepth 20000 in
theorem ggL_law_X5_best : GoodIn wsL_law wsX5_best := goodIn_r _ [480, 481, 98, 199, 200, 201, 5, 202, 99, 385, 363, 364, 365, 366, 367, 368, 369, 370, 371, 245, 246, 247, 248, 219, 97, 101, 102, 103, 104, 105, 249, 250, 251, 252, 241, 242, 243, 244, 232, 233, 234, 235, 236, 237, 238, 239, 240, 211, 212, 213, 214, 220, 221, 222, 223, 303, 304, 305, 306, 372, 373, 374, 375, 376, 482, 483, 484, 485, 500, 501, 502, 503, 504, 505, 506] (by decide +kernel) (by decide +kernel)
set_option maxRecDepth 20000 in
theorem gL_law_X5_best : GoodIn wsL_law (wsV RL 87 RX5 yX5_best wsX5_best) := goodIn_app (goodIn_of _ (by decide +kernel)) ggL_law_X5_best
