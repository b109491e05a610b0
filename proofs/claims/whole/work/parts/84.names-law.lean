set_option maxRecDepth 20000 in
theorem ggL_law_X4_slow : GoodIn wsL_law wsX4_slow := goodIn_r _ [420, 15, 266, 87, 20, 267, 117, 118, 119, 14, 120, 40, 366, 367, 368, 19, 369, 47, 48, 49, 370, 148, 149, 150, 371, 126, 127, 128, 34, 35, 36, 37, 39, 41, 535, 536, 537, 538, 539, 540, 552, 553, 554, 555, 556, 557, 558, 559, 560, 561, 562] (by decide +kernel) (by decide +kernel)
set_option maxRecDepth 20000 in
theorem gL_law_X4_slow : GoodIn wsL_law (wsV RL 52 RX4 yX4_slow wsX4_slow) := goodIn_app (goodIn_of _ (by decide +kernel)) ggL_law_X4_slow
set_option maxRecDepth 20000 in
theorem ggL_law_X5_slow : GoodIn wsL_law wsX5_slow := goodIn_r _ [424, 293, 179, 215, 216, 217, 5, 218, 67, 219, 220, 221, 376, 377, 378, 379, 178, 69, 188, 189, 190, 191, 238, 239, 240, 241, 541, 542, 543, 544, 545, 546, 547, 548, 549, 550, 551] (by decide +kernel) (by decide +kernel)
set_option maxRecDepth 20000 in
theorem gL_law_X5_slow : GoodIn wsL_law (wsV RL 55 RX5 yX5_slow wsX5_slow) := goodIn_app (goodIn_of _ (by decide +kernel)) ggL_law_X5_slow
set_option maxRecDepth 20000 in
theorem ggL_law_X4_bound : GoodIn wsL_law wsX4_bound := goodIn_r _ [428, 429, 430, 87, 15, 82, 385, 20, 83, 366, 367, 368, 19, 369, 47, 48, 49, 370, 148, 149, 150, 371, 126, 127, 14, 128, 34, 40, 35, 36, 37, 39, 41, 535, 536, 537, 538, 539, 540, 552, 553, 554, 555, 556, 557, 558, 559, 560, 561, 562] (by decide +kernel) (by decide +kernel)
set_option maxRecDepth 20000 in
theorem gL_law_X4_bound : GoodIn wsL_law (wsV RL 56 RX4 yX4_bound wsX4_bound) := goodIn_app (goodIn_of _ (by decide +kernel)) ggL_law_X4_bound
set_option maxRecDepth 20000 in
theorem ggL_law_X5_bound : GoodIn wsL_law wsX5_bound := goodIn_r _ [434, 179, 67, 395, 219, 220, 5, 221, 376, 377, 378, 379, 178, 69, 541, 542, 543, 544, 545, 546, 547, 548, 549, 550, 551] (by decide +kernel) (by decide +kernel)
set_option maxRecDepth 20000 in
theorem gL_law_X5_bound : GoodIn wsL_law (wsV RL 59 RX5 yX5_bound wsX5_bound) := goodIn_app (goodIn_of _ (by decide +kernel)) ggL_law_X5_bound
set_option maxRecDepth 20000 in
theorem ggL_law_X4_clear : GoodIn wsL_law wsX4_clear := goodIn_r _ [438, 20, 15, 82, 366, 367, 368, 19, 369, 47, 48, 49, 370, 148, 149, 150, 371, 126, 127, 14, 128, 34, 40, 35, 36, 37, 39, 41, 327, 328, 329, 330, 535, 536, 537, 538, 539, 540, 552, 553, 554, 555, 556, 557, 558, 559, 560, 561, 562] (by decide +kernel) (by decide +kernel)
set_option maxRecDepth 20000 in
theorem gL_law_X4_clear : GoodIn wsL_law (wsV RL 60 RX4 yX4_clear wsX4_clear) := goodIn_app (goodIn_of _ (by decide +kernel)) ggL_law_X4_clear
set_option maxRecDepth 20000 in
theorem ggL_law_X5_clear : GoodIn wsL_law wsX5_clear := goodIn_r _ [442, 67, 376, 377, 378, 5, 379, 178, 69, 541, 542, 543, 544, 545, 546, 547, 548, 549, 550, 551] (by decide +kernel) (by decide +kernel)
set_option maxRecDepth 20000 in
theorem gL_law_X5_clear : GoodIn wsL_law (wsV RL 63 RX5 yX5_clear wsX5_clear) := goodIn_app (goodIn_of _ (by decide +kernel)) ggL_law_X5_clear
set_option maxRecDepth 20000 in
theorem ggL_law_X4_drift : GoodIn wsL_law wsX4_drift := goodIn_r _ [446, 87, 20, 15, 81, 16, 82, 366, 367, 368, 19, 369, 47, 48, 49, 370, 148, 149, 150, 371, 126, 127, 14, 128, 34, 40, 35, 36, 37, 39, 41, 447, 448, 449, 2, 450, 27, 451, 452, 453, 386, 387, 388, 389, 125, 342, 343, 344, 345, 346, 347, 348, 349, 143, 144, 145, 146, 38, 147, 151, 152, 153, 154, 155, 156, 157, 138, 122, 123, 124, 139, 140, 141, 142, 96, 97, 98, 99, 92, 93, 94, 95, 100, 101, 102, 103, 158, 159, 160, 161, 162, 163, 164, 165, 104, 105, 106, 107, 108, 89, 90, 91, 113, 114, 115, 116, 117, 118, 119, 120, 121, 129, 130, 131, 132, 133, 134, 135, 136, 137, 412, 535, 536, 537, 538, 539, 540, 552, 553, 554, 555, 556, 557, 558, 559, 560, 561, 562] (by decide +kernel) (by decide +kernel)
set_option maxRecDepth 20000 in
theorem gL_law_X4_drift : GoodIn wsL_law (wsV RL 64 RX4 yX4_drift wsX4_drift) := goodIn_app (goodIn_of _ (by decide +kernel)) ggL_law_X4_drift
set_option maxRecDepth 20000 in
theorem ggL_law_X5_drift : GoodIn wsL_law wsX5_drift := goodIn_r _ [457, 179, 67, 219, 220, 5, 221, 376, 377, 378, 379, 178, 69, 458, 459, 460, 461, 462, 463, 464, 465, 466, 396, 397, 398, 399, 222, 223, 224, 225, 68, 358, 359, 360, 361, 238, 239, 240, 241, 242, 243, 244, 245, 76, 246, 247, 248, 249, 250, 251, 252, 253, 184, 185, 186, 187, 188, 189, 190, 191, 234, 235, 236, 237, 200, 201, 202, 203, 196, 197, 198, 199, 204, 205, 206, 192, 193, 194, 195, 254, 255, 256, 257, 211, 212, 213, 214, 215, 216, 217, 218, 226, 227, 228, 229, 230, 231, 232, 233, 541, 542, 543, 544, 545, 546, 547, 548, 549, 550, 551] (by decide +kernel) (by decide +kernel)
set_option maxRecDepth 20000 in
theorem gL_law_X5_drift : GoodIn wsL_law (wsV RL 67 RX5 yX5_drift wsX5_drift) := goodIn_app (goodIn_of _ (by decide +kernel)) ggL_law_X5_drift
set_option maxRecDepth 20000 in
theorem ggL_law_X4_undo : GoodIn wsL_law wsX4_undo := goodIn_r _ [470, 87, 20, 86, 385, 15, 81, 471, 472, 473, 19, 474, 49, 48, 47, 371, 126, 127, 14, 128, 34, 40, 35, 36, 37, 39, 41, 535, 536, 537, 538, 539, 540, 560, 561, 562, 552, 553, 554, 555, 556, 557, 558, 559] (by decide +kernel) (by decide +kernel)
set_option maxRecDepth 20000 in
theorem gL_law_X4_undo : GoodIn wsL_law (wsV RL 68 RX4 yX4_undo wsX4_undo) := goodIn_app (goodIn_of _ (by decide +kernel)) ggL_law_X4_undo
set_option maxRecDepth 20000 in
theorem ggL_law_X5_undo : GoodIn wsL_law wsX5_undo := goodIn_r _ [478, 179, 178, 395, 67, 69, 219, 220, 5, 221, 541, 542, 543, 544, 545, 546, 547, 548, 549, 550, 551] (by decide +kernel) (by decide +kernel)
set_option maxRecDepth 20000 in
theorem gL_law_X5_undo : GoodIn wsL_law (wsV RL 71 RX5 yX5_undo wsX5_undo) := goodIn_app (goodIn_of _ (by decide +kernel)) ggL_law_X5_undo
