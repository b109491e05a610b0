set_option maxRecDepth 20000 in
theorem ggL_law_X4_init : GoodIn wsL_law wsX4_init := goodIn_r _ [8, 9, 10, 11, 12, 13, 14, 15, 16, 17, 18, 19, 20, 21, 22, 23, 24, 25, 26, 27, 28, 29, 30, 31, 32, 33, 34, 35, 36, 37, 38, 39, 40, 41, 42, 43, 44, 45, 46, 47, 48, 49, 50, 51, 52, 53, 54, 55, 56, 57, 58, 59, 60, 61, 62, 552, 553, 554, 555, 556, 557, 558, 559, 535, 536, 537, 538, 539, 540, 560, 561, 562, 563, 564, 565, 566, 567, 568] (by decide +kernel) (by decide +kernel)
set_option maxRecDepth 20000 in
theorem gL_law_X4_init : GoodIn wsL_law (wsX4_init) := ggL_law_X4_init
set_option maxRecDepth 20000 in
theorem ggL_law_X5_init : GoodIn wsL_law wsX5_init := goodIn_r _ [65, 66, 10, 11, 33, 67, 68, 69, 70, 71, 72, 73, 74, 75, 76, 541, 542, 543, 544, 545, 546, 547, 548, 549, 550, 551] (by decide +kernel) (by decide +kernel)
set_option maxRecDepth 20000 in
theorem gL_law_X5_init : GoodIn wsL_law (wsX5_init) := ggL_law_X5_init
set_option maxRecDepth 20000 in
theorem ggL_law_X4_told : GoodIn wsL_law wsX4_told := goodIn_r _ [80, 15, 81, 82, 83, 84, 24, 85, 20, 86, 87, 88, 89, 90, 14, 91, 40, 37, 92, 93, 94, 95, 36, 34, 96, 97, 98, 99, 39, 35, 100, 2, 101, 102, 103, 104, 105, 106, 107, 108, 109, 110, 111, 112, 113, 114, 115, 116, 16, 117, 118, 119, 120, 121, 122, 123, 124, 41, 125, 126, 127, 128, 129, 130, 131, 132, 133, 134, 135, 136, 137, 138, 139, 140, 141, 142, 143, 144, 145, 146, 38, 147, 148, 149, 150, 151, 152, 153, 154, 155, 156, 157, 158, 159, 160, 161, 162, 163, 164, 165, 166, 167, 168, 169, 23, 170, 55, 53, 171, 54, 172, 535, 536, 537, 538, 539, 540, 552, 553, 554, 555, 556, 557, 558, 559, 563, 564, 565, 560, 561, 562] (by decide +kernel) (by decide +kernel)
set_option maxRecDepth 20000 in
theorem gL_law_X4_told : GoodIn wsL_law (wsV RL 13 RX4 yX4_told wsX4_told) := goodIn_app (goodIn_of _ (by decide +kernel)) ggL_law_X4_told
set_option maxRecDepth 20000 in
theorem ggL_law_X5_told : GoodIn wsL_law wsX5_told := goodIn_r _ [176, 67, 177, 178, 179, 180, 181, 182, 5, 183, 184, 185, 186, 187, 188, 189, 190, 191, 192, 193, 194, 195, 196, 197, 198, 199, 200, 201, 202, 203, 204, 205, 206, 207, 208, 209, 210, 211, 212, 213, 214, 215, 216, 217, 218, 219, 220, 221, 222, 223, 224, 225, 68, 226, 227, 228, 229, 230, 231, 232, 233, 234, 235, 236, 237, 238, 239, 240, 241, 242, 243, 244, 245, 76, 246, 247, 248, 249, 250, 251, 252, 253, 254, 255, 256, 257, 258, 259, 260, 261, 75, 541, 542, 543, 544, 545, 546, 547, 548, 549, 550, 551] (by decide +kernel) (by decide +kernel)
set_option maxRecDepth 20000 in
theorem gL_law_X5_told : GoodIn wsL_law (wsV RL 17 RX5 yX5_told wsX5_told) := goodIn_app (goodIn_of _ (by decide +kernel)) ggL_law_X5_told
set_option maxRecDepth 20000 in
theorem ggL_law_X4_floor : GoodIn wsL_law wsX4_floor := goodIn_r _ [265, 15, 266, 267, 268, 87, 117, 118, 119, 14, 120, 40, 269, 97, 98, 99, 39, 35, 270, 93, 94, 95, 36, 34, 96, 100, 2, 101, 102, 103, 121, 122, 123, 124, 41, 166, 135, 136, 137, 37, 138, 139, 140, 141, 142, 271, 155, 156, 157, 272, 273, 274, 275, 276, 154, 277, 278, 279, 280, 113, 114, 115, 116, 16, 81, 125, 126, 127, 128, 129, 130, 131, 132, 133, 134, 143, 144, 145, 146, 38, 147, 148, 149, 150, 151, 152, 153, 92, 158, 159, 160, 161, 162, 163, 164, 165, 104, 105, 106, 107, 108, 89, 90, 91, 281, 282, 283, 284, 285, 286, 287, 288, 535, 536, 537, 538, 539, 540, 552, 553, 554, 555, 556, 557, 558, 559] (by decide +kernel) (by decide +kernel)
set_option maxRecDepth 20000 in
theorem gL_law_X4_floor : GoodIn wsL_law (wsV RL 18 RX4 yX4_floor wsX4_floor) := goodIn_app (goodIn_of _ (by decide +kernel)) ggL_law_X4_floor
set_option maxRecDepth 20000 in
theorem ggL_law_X5_floor : GoodIn wsL_law wsX5_floor := goodIn_r _ [292, 293, 179, 215, 216, 217, 5, 218, 67, 219, 220, 221, 200, 201, 202, 203, 188, 189, 190, 191, 196, 197, 198, 199, 204, 205, 206, 230, 231, 232, 233, 234, 235, 236, 237, 184, 185, 186, 187, 250, 251, 252, 253, 246, 247, 248, 249, 294, 295, 296, 297, 211, 212, 213, 214, 222, 223, 224, 225, 68, 226, 227, 228, 229, 238, 239, 240, 241, 242, 243, 244, 245, 76, 192, 193, 194, 195, 254, 255, 256, 257, 298, 299, 300, 301, 541, 542, 543, 544, 545, 546, 547, 548, 549, 550, 551] (by decide +kernel) (by decide +kernel)
set_option maxRecDepth 20000 in
theorem gL_law_X5_floor : GoodIn wsL_law (wsV RL 22 RX5 yX5_floor wsX5_floor) := goodIn_app (goodIn_of _ (by decide +kernel)) ggL_law_X5_floor
set_option maxRecDepth 20000 in
theorem ggL_law_X4_hundredths : GoodIn wsL_law wsX4_hundredths := goodIn_r _ [305, 87, 306, 100, 2, 101, 102, 103] (by decide +kernel) (by decide +kernel)
set_option maxRecDepth 20000 in
theorem gL_law_X4_hundredths : GoodIn wsL_law (wsV RL 23 RX4 yX4_hundredths wsX4_hundredths) := goodIn_app (goodIn_of _ (by decide +kernel)) ggL_law_X4_hundredths
set_option maxRecDepth 20000 in
theorem ggL_law_X5_hundredths : GoodIn wsL_law wsX5_hundredths := goodIn_r _ [310, 179, 219, 220, 5, 221, 204, 205, 206] (by decide +kernel) (by decide +kernel)
set_option maxRecDepth 20000 in
theorem gL_law_X5_hundredths : GoodIn wsL_law (wsV RL 26 RX5 yX5_hundredths wsX5_hundredths) := goodIn_app (goodIn_of _ (by decide +kernel)) ggL_law_X5_hundredths
set_option maxRecDepth 20000 in
theorem ggL_law_X4_would : GoodIn wsL_law wsX4_would := goodIn_r _ [314, 15, 266, 16, 268, 117, 118, 119, 14, 120, 40, 121, 122, 123, 124, 41, 113, 114, 115, 2, 116, 81, 125, 126, 127, 128, 34, 35, 36, 37, 39, 129, 130, 131, 132, 133, 134, 135, 136, 137, 138, 139, 140, 141, 142, 143, 144, 145, 146, 38, 147, 148, 149, 150, 151, 152, 153, 154, 155, 156, 157, 96, 97, 98, 99, 92, 93, 94, 95, 100, 101, 102, 103, 158, 159, 160, 161, 162, 163, 164, 165, 104, 105, 106, 107, 108, 89, 90, 91, 535, 536, 537, 538, 539, 540, 552, 553, 554, 555, 556, 557, 558, 559] (by decide +kernel) (by decide +kernel)
set_option maxRecDepth 20000 in
theorem gL_law_X4_would : GoodIn wsL_law (wsV RL 27 RX4 yX4_would wsX4_would) := goodIn_app (goodIn_of _ (by decide +kernel)) ggL_law_X4_would
set_option maxRecDepth 20000 in
theorem ggL_law_X5_would : GoodIn wsL_law wsX5_would := goodIn_r _ [318, 293, 215, 216, 217, 5, 218, 67, 219, 220, 221, 184, 185, 186, 187, 188, 189, 190, 191, 222, 223, 224, 225, 68, 226, 227, 228, 229, 230, 231, 232, 233, 234, 235, 236, 237, 238, 239, 240, 241, 242, 243, 244, 245, 76, 246, 247, 248, 249, 250, 251, 252, 253, 200, 201, 202, 203, 196, 197, 198, 199, 204, 205, 206, 254, 255, 256, 257, 541, 542, 543, 544, 545, 546, 547, 548, 549, 550, 551] (by decide +kernel) (by decide +kernel)
set_option maxRecDepth 20000 in
theorem gL_law_X5_would : GoodIn wsL_law (wsV RL 30 RX5 yX5_would wsX5_would) := goodIn_app (goodIn_of _ (by decide +kernel)) ggL_law_X5_would
