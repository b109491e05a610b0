set_option maxRecDepth 20000 in
theorem ggL_law_X4_cycle : GoodIn wsL_law wsX4_cycle := goodIn_r _ [322, 87, 323, 324, 325, 2, 326, 16, 15, 81, 84, 125, 126, 127, 14, 128, 34, 40, 35, 36, 37, 39, 41, 327, 328, 329, 330, 331, 332, 333, 334, 335, 336, 337, 338, 339, 340, 341, 138, 122, 123, 124, 129, 130, 131, 132, 133, 118, 119, 120, 134, 135, 136, 137, 139, 140, 141, 142, 143, 144, 145, 146, 38, 147, 148, 149, 150, 151, 152, 153, 154, 155, 156, 157, 96, 97, 98, 99, 92, 93, 94, 95, 100, 101, 102, 103, 158, 159, 160, 161, 162, 163, 164, 165, 104, 105, 106, 107, 108, 89, 90, 91, 342, 343, 344, 345, 346, 347, 348, 349, 535, 536, 537, 538, 539, 540, 552, 553, 554, 555, 556, 557, 558, 559] (by decide +kernel) (by decide +kernel)
set_option maxRecDepth 20000 in
theorem gL_law_X4_cycle : GoodIn wsL_law (wsV RL 31 RX4 yX4_cycle wsX4_cycle) := goodIn_app (goodIn_of _ (by decide +kernel)) ggL_law_X4_cycle
set_option maxRecDepth 20000 in
theorem ggL_law_X5_cycle : GoodIn wsL_law wsX5_cycle := goodIn_r _ [353, 179, 219, 220, 5, 221, 222, 223, 224, 225, 68, 67, 354, 355, 356, 357, 184, 185, 186, 187, 188, 189, 190, 191, 226, 227, 228, 229, 230, 231, 232, 233, 234, 235, 236, 237, 238, 239, 240, 241, 242, 243, 244, 245, 76, 246, 247, 248, 249, 250, 251, 252, 253, 200, 201, 202, 203, 196, 197, 198, 199, 204, 205, 206, 192, 193, 194, 195, 358, 359, 360, 361, 254, 255, 256, 257, 541, 542, 543, 544, 545, 546, 547, 548, 549, 550, 551] (by decide +kernel) (by decide +kernel)
set_option maxRecDepth 20000 in
theorem gL_law_X5_cycle : GoodIn wsL_law (wsV RL 34 RX5 yX5_cycle wsX5_cycle) := goodIn_app (goodIn_of _ (by decide +kernel)) ggL_law_X5_cycle
set_option maxRecDepth 20000 in
theorem ggL_law_X4_days : GoodIn wsL_law wsX4_days := goodIn_r _ [365, 87, 20, 15, 81, 366, 367, 368, 19, 369, 47, 48, 49, 370, 148, 149, 150, 371, 126, 127, 14, 128, 34, 40, 35, 36, 37, 39, 41, 535, 536, 537, 538, 539, 540, 552, 553, 554, 555, 556, 557, 558, 559, 560, 561, 562] (by decide +kernel) (by decide +kernel)
set_option maxRecDepth 20000 in
theorem gL_law_X4_days : GoodIn wsL_law (wsV RL 35 RX4 yX4_days wsX4_days) := goodIn_app (goodIn_of _ (by decide +kernel)) ggL_law_X4_days
set_option maxRecDepth 20000 in
theorem ggL_law_X5_days : GoodIn wsL_law wsX5_days := goodIn_r _ [375, 179, 67, 219, 220, 5, 221, 376, 377, 378, 379, 178, 69, 541, 542, 543, 544, 545, 546, 547, 548, 549, 550, 551] (by decide +kernel) (by decide +kernel)
set_option maxRecDepth 20000 in
theorem gL_law_X5_days : GoodIn wsL_law (wsV RL 38 RX5 yX5_days wsX5_days) := goodIn_app (goodIn_of _ (by decide +kernel)) ggL_law_X5_days
set_option maxRecDepth 20000 in
theorem ggL_law_X4_pour : GoodIn wsL_law wsX4_pour := goodIn_r _ [383, 15, 82, 384, 385, 20, 16, 386, 387, 388, 2, 389, 125, 126, 127, 14, 128, 34, 40, 35, 36, 37, 39, 41, 342, 343, 344, 345, 346, 347, 348, 349, 143, 144, 145, 146, 38, 147, 148, 149, 150, 151, 152, 153, 154, 155, 156, 157, 138, 122, 123, 124, 139, 140, 141, 142, 96, 97, 98, 99, 92, 93, 94, 95, 100, 101, 102, 103, 158, 159, 160, 161, 162, 163, 164, 165, 104, 105, 106, 107, 108, 89, 90, 91, 366, 367, 368, 19, 369, 47, 48, 49, 370, 371, 535, 536, 537, 538, 539, 540, 552, 553, 554, 555, 556, 557, 558, 559, 560, 561, 562] (by decide +kernel) (by decide +kernel)
set_option maxRecDepth 20000 in
theorem gL_law_X4_pour : GoodIn wsL_law (wsV RL 39 RX4 yX4_pour wsX4_pour) := goodIn_app (goodIn_of _ (by decide +kernel)) ggL_law_X4_pour
set_option maxRecDepth 20000 in
theorem ggL_law_X5_pour : GoodIn wsL_law wsX5_pour := goodIn_r _ [393, 67, 394, 395, 396, 397, 398, 5, 399, 222, 223, 224, 225, 68, 358, 359, 360, 361, 238, 239, 240, 241, 242, 243, 244, 245, 76, 246, 247, 248, 249, 250, 251, 252, 253, 184, 185, 186, 187, 188, 189, 190, 191, 234, 235, 236, 237, 200, 201, 202, 203, 196, 197, 198, 199, 204, 205, 206, 192, 193, 194, 195, 254, 255, 256, 257, 376, 377, 378, 379, 178, 69, 541, 542, 543, 544, 545, 546, 547, 548, 549, 550, 551] (by decide +kernel) (by decide +kernel)
set_option maxRecDepth 20000 in
theorem gL_law_X5_pour : GoodIn wsL_law (wsV RL 43 RX5 yX5_pour wsX5_pour) := goodIn_app (goodIn_of _ (by decide +kernel)) ggL_law_X5_pour
set_option maxRecDepth 20000 in
theorem ggL_law_X4_strike : GoodIn wsL_law wsX4_strike := goodIn_r _ [403, 15, 266, 385, 20, 16, 117, 118, 119, 14, 120, 40, 113, 114, 115, 2, 116, 81, 121, 122, 123, 124, 41, 125, 126, 127, 128, 34, 35, 36, 37, 39, 129, 130, 131, 132, 133, 134, 135, 136, 137, 138, 139, 140, 141, 142, 143, 144, 145, 146, 38, 147, 148, 149, 150, 151, 152, 153, 154, 155, 156, 157, 96, 97, 98, 99, 92, 93, 94, 95, 100, 101, 102, 103, 158, 159, 160, 161, 162, 163, 164, 165, 104, 105, 106, 107, 108, 89, 90, 91, 366, 367, 368, 19, 369, 47, 48, 49, 370, 371, 271, 535, 536, 537, 538, 539, 540, 552, 553, 554, 555, 556, 557, 558, 559, 560, 561, 562] (by decide +kernel) (by decide +kernel)
set_option maxRecDepth 20000 in
theorem gL_law_X4_strike : GoodIn wsL_law (wsV RL 44 RX4 yX4_strike wsX4_strike) := goodIn_app (goodIn_of _ (by decide +kernel)) ggL_law_X4_strike
set_option maxRecDepth 20000 in
theorem ggL_law_X5_strike : GoodIn wsL_law wsX5_strike := goodIn_r _ [407, 293, 395, 215, 216, 217, 5, 218, 67, 219, 220, 221, 211, 212, 213, 214, 184, 185, 186, 187, 188, 189, 190, 191, 222, 223, 224, 225, 68, 226, 227, 228, 229, 230, 231, 232, 233, 234, 235, 236, 237, 238, 239, 240, 241, 242, 243, 244, 245, 76, 246, 247, 248, 249, 250, 251, 252, 253, 200, 201, 202, 203, 196, 197, 198, 199, 204, 205, 206, 192, 193, 194, 195, 254, 255, 256, 257, 376, 377, 378, 379, 178, 69, 541, 542, 543, 544, 545, 546, 547, 548, 549, 550, 551] (by decide +kernel) (by decide +kernel)
set_option maxRecDepth 20000 in
theorem gL_law_X5_strike : GoodIn wsL_law (wsV RL 47 RX5 yX5_strike wsX5_strike) := goodIn_app (goodIn_of _ (by decide +kernel)) ggL_law_X5_strike
set_option maxRecDepth 20000 in
theorem ggL_law_X4_back : GoodIn wsL_law wsX4_back := goodIn_r _ [411, 15, 266, 385, 20, 117, 118, 119, 14, 120, 40, 121, 122, 123, 124, 41, 366, 367, 368, 19, 369, 47, 48, 49, 370, 148, 149, 150, 371, 126, 127, 128, 34, 35, 36, 37, 39, 412, 347, 348, 349, 271, 155, 156, 157, 138, 535, 536, 537, 538, 539, 540, 552, 553, 554, 555, 556, 557, 558, 559, 560, 561, 562] (by decide +kernel) (by decide +kernel)
set_option maxRecDepth 20000 in
theorem gL_law_X4_back : GoodIn wsL_law (wsV RL 48 RX4 yX4_back wsX4_back) := goodIn_app (goodIn_of _ (by decide +kernel)) ggL_law_X4_back
set_option maxRecDepth 20000 in
theorem ggL_law_X5_back : GoodIn wsL_law wsX5_back := goodIn_r _ [416, 293, 395, 215, 216, 217, 5, 218, 67, 219, 220, 221, 184, 185, 186, 187, 188, 189, 190, 191, 376, 377, 378, 379, 178, 69, 238, 239, 240, 241, 250, 251, 252, 253, 541, 542, 543, 544, 545, 546, 547, 548, 549, 550, 551] (by decide +kernel) (by decide +kernel)
set_option maxRecDepth 20000 in
theorem gL_law_X5_back : GoodIn wsL_law (wsV RL 51 RX5 yX5_back wsX5_back) := goodIn_app (goodIn_of _ (by decide +kernel)) ggL_law_X5_back
