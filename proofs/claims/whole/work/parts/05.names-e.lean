theorem dX5_told_0 : decode cX5_told 0 = .ok (.iload_n 1, 1) := by decide +kernel
theorem dX5_told_1 : decode cX5_told 1 = .ok (.tableswitch 140 0 13 #[71, 71, 71, 71, 71, 71, 78, 83, 88, 101, 106, 125, 130, 135], 71) := by decide +kernel
theorem dX5_told_72 : decode cX5_told 72 = .ok (.aload_n 0, 1) := by decide +kernel
theorem dX5_told_73 : decode cX5_told 73 = .ok (.getfield 7, 3) := by decide +kernel
theorem dX5_told_76 : decode cX5_told 76 = .ok (.iload_n 1, 1) := by decide +kernel
theorem dX5_told_77 : decode cX5_told 77 = .ok (.iaload, 1) := by decide +kernel
theorem dX5_told_78 : decode cX5_told 78 = .ok (.ireturn, 1) := by decide +kernel
theorem dX5_told_79 : decode cX5_told 79 = .ok (.aload_n 0, 1) := by decide +kernel
theorem dX5_told_80 : decode cX5_told 80 = .ok (.invokevirtual 108, 3) := by decide +kernel
theorem dX5_told_83 : decode cX5_told 83 = .ok (.ireturn, 1) := by decide +kernel
theorem dX5_told_84 : decode cX5_told 84 = .ok (.aload_n 0, 1) := by decide +kernel
theorem dX5_told_85 : decode cX5_told 85 = .ok (.invokevirtual 92, 3) := by decide +kernel
theorem dX5_told_88 : decode cX5_told 88 = .ok (.ireturn, 1) := by decide +kernel
theorem dX5_told_89 : decode cX5_told 89 = .ok (.aload_n 0, 1) := by decide +kernel
theorem dX5_told_90 : decode cX5_told 90 = .ok (.invokevirtual 92, 3) := by decide +kernel
theorem dX5_told_93 : decode cX5_told 93 = .ok (.ifCond .ne 7, 3) := by decide +kernel
theorem dX5_told_96 : decode cX5_told 96 = .ok (.iconst 1, 1) := by decide +kernel
theorem dX5_told_97 : decode cX5_told 97 = .ok (.goto 4, 3) := by decide +kernel
theorem dX5_told_100 : decode cX5_told 100 = .ok (.iconst 0, 1) := by decide +kernel
theorem dX5_told_101 : decode cX5_told 101 = .ok (.ireturn, 1) := by decide +kernel
theorem dX5_told_102 : decode cX5_told 102 = .ok (.aload_n 0, 1) := by decide +kernel
theorem dX5_told_103 : decode cX5_told 103 = .ok (.invokevirtual 111, 3) := by decide +kernel
theorem dX5_told_106 : decode cX5_told 106 = .ok (.ireturn, 1) := by decide +kernel
theorem dX5_told_107 : decode cX5_told 107 = .ok (.aload_n 0, 1) := by decide +kernel
theorem dX5_told_108 : decode cX5_told 108 = .ok (.getfield 7, 3) := by decide +kernel
theorem dX5_told_111 : decode cX5_told 111 = .ok (.iconst 1, 1) := by decide +kernel
theorem dX5_told_112 : decode cX5_told 112 = .ok (.iaload, 1) := by decide +kernel
theorem dX5_told_113 : decode cX5_told 113 = .ok (.ifCond .ne 7, 3) := by decide +kernel
theorem dX5_told_116 : decode cX5_told 116 = .ok (.iconst 0, 1) := by decide +kernel
theorem dX5_told_117 : decode cX5_told 117 = .ok (.goto 8, 3) := by decide +kernel
theorem dX5_told_120 : decode cX5_told 120 = .ok (.aload_n 0, 1) := by decide +kernel
theorem dX5_told_121 : decode cX5_told 121 = .ok (.iconst 0, 1) := by decide +kernel
theorem dX5_told_122 : decode cX5_told 122 = .ok (.invokevirtual 79, 3) := by decide +kernel
theorem dX5_told_125 : decode cX5_told 125 = .ok (.ireturn, 1) := by decide +kernel
theorem dX5_told_126 : decode cX5_told 126 = .ok (.aload_n 0, 1) := by decide +kernel
theorem dX5_told_127 : decode cX5_told 127 = .ok (.getfield 105, 3) := by decide +kernel
theorem dX5_told_130 : decode cX5_told 130 = .ok (.ireturn, 1) := by decide +kernel
theorem dX5_told_131 : decode cX5_told 131 = .ok (.aload_n 0, 1) := by decide +kernel
theorem dX5_told_132 : decode cX5_told 132 = .ok (.invokevirtual 114, 3) := by decide +kernel
theorem dX5_told_135 : decode cX5_told 135 = .ok (.ireturn, 1) := by decide +kernel
theorem dX5_told_136 : decode cX5_told 136 = .ok (.aload_n 0, 1) := by decide +kernel
theorem dX5_told_137 : decode cX5_told 137 = .ok (.getfield 40, 3) := by decide +kernel
theorem dX5_told_140 : decode cX5_told 140 = .ok (.ireturn, 1) := by decide +kernel
theorem dX5_told_141 : decode cX5_told 141 = .ok (.ldc 117, 2) := by decide +kernel
theorem dX5_told_143 : decode cX5_told 143 = .ok (.ireturn, 1) := by decide +kernel
set_option maxRecDepth 20000 in
theorem ggX5_floor_X5_isFloor : GoodIn wsX5_floor wsX5_isFloor := goodIn_r _ [7, 8, 9, 10, 6, 11, 85, 86, 87, 88, 89, 90, 91, 92, 93, 94, 95] (by decide +kernel) (by decide +kernel)
set_option maxRecDepth 20000 in
theorem gX5_floor_X5_isFloor : GoodIn wsX5_floor (wsV RX5 82 RX5 yX5_isFloor wsX5_isFloor) := goodIn_app (goodIn_of _ (by decide +kernel)) ggX5_floor_X5_isFloor
set_option maxRecDepth 20000 in
theorem ggX5_floor_X5_age : GoodIn wsX5_floor wsX5_age := goodIn_r _ [15, 8, 16, 17, 18, 6, 19, 85, 86, 87, 88, 89, 90, 91, 92, 93, 94, 95] (by decide +kernel) (by decide +kernel)
set_option maxRecDepth 20000 in
theorem gX5_floor_X5_age : GoodIn wsX5_floor (wsV RX5 48 RX5 yX5_age wsX5_age) := goodIn_app (goodIn_of _ (by decide +kernel)) ggX5_floor_X5_age
set_option maxRecDepth 20000 in
theorem ggX5_floor_X5_of : GoodIn wsX5_floor wsX5_of := goodIn_r _ [19, 8, 85, 86, 87, 88, 89, 90, 91, 92, 93, 94, 95] (by decide +kernel) (by decide +kernel)
set_option maxRecDepth 20000 in
theorem gX5_floor_X5_of : GoodIn wsX5_floor (wsV RX5 44 RX5 yX5_of wsX5_of) := goodIn_app (goodIn_of _ (by decide +kernel)) ggX5_floor_X5_of
set_option maxRecDepth 20000 in
theorem ggX5_floor_X5_strength : GoodIn wsX5_floor wsX5_strength := goodIn_r _ [23, 8, 12, 13, 14, 6, 15, 16, 17, 18, 19, 24, 25, 26, 85, 86, 87, 88, 89, 90, 91, 92, 93, 94, 95] (by decide +kernel) (by decide +kernel)
set_option maxRecDepth 20000 in
theorem gX5_floor_X5_strength : GoodIn wsX5_floor (wsV RX5 68 RX5 yX5_strength wsX5_strength) := goodIn_app (goodIn_of _ (by decide +kernel)) ggX5_floor_X5_strength
set_option maxRecDepth 20000 in
theorem ggX5_floor_X5_force : GoodIn wsX5_floor wsX5_force := goodIn_r _ [30, 8, 31, 32, 33, 6, 34, 35, 36, 37, 38, 16, 17, 18, 19, 85, 86, 87, 88, 89, 90, 91, 92, 93, 94, 95] (by decide +kernel) (by decide +kernel)
set_option maxRecDepth 20000 in
theorem gX5_floor_X5_force : GoodIn wsX5_floor (wsV RX5 79 RX5 yX5_force wsX5_force) := goodIn_app (goodIn_of _ (by decide +kernel)) ggX5_floor_X5_force
set_option maxRecDepth 20000 in
theorem ggX5_floor_X5_lowest : GoodIn wsX5_floor wsX5_lowest := goodIn_r _ [42, 35, 36, 37, 6, 38, 16, 17, 18, 19, 8, 85, 86, 87, 88, 89, 90, 91, 92, 93, 94, 95] (by decide +kernel) (by decide +kernel)
set_option maxRecDepth 20000 in
theorem gX5_floor_X5_lowest : GoodIn wsX5_floor (wsV RX5 59 RX5 yX5_lowest wsX5_lowest) := goodIn_app (goodIn_of _ (by decide +kernel)) ggX5_floor_X5_lowest
set_option maxRecDepth 20000 in
theorem ggX5_floor_X5_highest : GoodIn wsX5_floor wsX5_highest := goodIn_r _ [34, 8, 35, 36, 37, 6, 38, 16, 17, 18, 19, 85, 86, 87, 88, 89, 90, 91, 92, 93, 94, 95] (by decide +kernel) (by decide +kernel)
set_option maxRecDepth 20000 in
theorem gX5_floor_X5_highest : GoodIn wsX5_floor (wsV RX5 62 RX5 yX5_highest wsX5_highest) := goodIn_app (goodIn_of _ (by decide +kernel)) ggX5_floor_X5_highest
set_option maxRecDepth 20000 in
theorem ggX5_floor_X5_isGrounded : GoodIn wsX5_floor wsX5_isGrounded := goodIn_r _ [46, 39, 40, 41, 6, 42, 35, 36, 37, 38, 16, 17, 18, 19, 8, 85, 86, 87, 88, 89, 90, 91, 92, 93, 94, 95] (by decide +kernel) (by decide +kernel)
set_option maxRecDepth 20000 in
theorem gX5_floor_X5_isGrounded : GoodIn wsX5_floor (wsV RX5 65 RX5 yX5_isGrounded wsX5_isGrounded) := goodIn_app (goodIn_of _ (by decide +kernel)) ggX5_floor_X5_isGrounded
set_option maxRecDepth 20000 in
theorem ggX5_floor_X5_earliest : GoodIn wsX5_floor wsX5_earliest := goodIn_r _ [50, 8, 51, 52, 53, 6, 54, 3, 4, 5, 7, 9, 10, 11, 35, 36, 37, 38, 16, 17, 18, 19, 55, 56, 57, 58, 59, 60, 61, 62, 63, 27, 28, 29, 30, 31, 32, 33, 34, 64, 65, 66, 67, 68, 69, 70, 71, 72, 43, 44, 45, 46, 39, 40, 41, 42, 12, 13, 14, 15, 20, 21, 22, 23, 24, 25, 26, 73, 74, 75, 76, 77, 78, 79, 80, 85, 86, 87, 88, 89, 90, 91, 92, 93, 94, 95] (by decide +kernel) (by decide +kernel)
set_option maxRecDepth 20000 in
theorem gX5_floor_X5_earliest : GoodIn wsX5_floor (wsV RX5 119 RX5 yX5_earliest wsX5_earliest) := goodIn_app (goodIn_of _ (by decide +kernel)) ggX5_floor_X5_earliest
set_option maxRecDepth 20000 in
theorem ggX5_floor_X5_harm : GoodIn wsX5_floor wsX5_harm := goodIn_r _ [84, 8, 35, 36, 37, 6, 38, 16, 17, 18, 19, 55, 56, 57, 58, 59, 60, 61, 62, 63, 27, 28, 29, 30, 31, 32, 33, 34, 64, 65, 66, 67, 68, 69, 70, 71, 72, 43, 44, 45, 46, 39, 40, 41, 42, 12, 13, 14, 15, 20, 21, 22, 23, 24, 25, 26, 77, 78, 79, 80, 85, 86, 87, 88, 89, 90, 91, 92, 93, 94, 95] (by decide +kernel) (by decide +kernel)
set_option maxRecDepth 20000 in
theorem gX5_floor_X5_harm : GoodIn wsX5_floor (wsV RX5 122 RX5 yX5_harm wsX5_harm) := goodIn_app (goodIn_of _ (by decide +kernel)) ggX5_floor_X5_harm
theorem dX5_floor_0 : decode cX5_floor 0 = .ok (.aload_n 0, 1) := by decide +kernel
theorem dX5_floor_1 : decode cX5_floor 1 = .ok (.iload_n 1, 1) := by decide +kernel
theorem dX5_floor_2 : decode cX5_floor 2 = .ok (.invokevirtual 82, 3) := by decide +kernel
theorem dX5_floor_5 : decode cX5_floor 5 = .ok (.ifCond .ne 6, 3) := by decide +kernel
theorem dX5_floor_8 : decode cX5_floor 8 = .ok (.ldc 118, 2) := by decide +kernel
theorem dX5_floor_10 : decode cX5_floor 10 = .ok (.ireturn, 1) := by decide +kernel
theorem dX5_floor_11 : decode cX5_floor 11 = .ok (.iload_n 2, 1) := by decide +kernel
theorem dX5_floor_12 : decode cX5_floor 12 = .ok (.tableswitch 145 0 10 #[60, 66, 73, 79, 90, 97, 107, 113, 119, 133, 139], 60) := by decide +kernel
theorem dX5_floor_72 : decode cX5_floor 72 = .ok (.aload_n 0, 1) := by decide +kernel
theorem dX5_floor_73 : decode cX5_floor 73 = .ok (.iload_n 1, 1) := by decide +kernel
theorem dX5_floor_74 : decode cX5_floor 74 = .ok (.invokevirtual 48, 3) := by decide +kernel
theorem dX5_floor_77 : decode cX5_floor 77 = .ok (.ireturn, 1) := by decide +kernel
theorem dX5_floor_78 : decode cX5_floor 78 = .ok (.aload_n 0, 1) := by decide +kernel
theorem dX5_floor_79 : decode cX5_floor 79 = .ok (.iload_n 1, 1) := by decide +kernel
theorem dX5_floor_80 : decode cX5_floor 80 = .ok (.iconst 1, 1) := by decide +kernel
theorem dX5_floor_81 : decode cX5_floor 81 = .ok (.invokevirtual 44, 3) := by decide +kernel
theorem dX5_floor_84 : decode cX5_floor 84 = .ok (.ireturn, 1) := by decide +kernel
theorem dX5_floor_85 : decode cX5_floor 85 = .ok (.aload_n 0, 1) := by decide +kernel
theorem dX5_floor_86 : decode cX5_floor 86 = .ok (.iload_n 1, 1) := by decide +kernel
theorem dX5_floor_87 : decode cX5_floor 87 = .ok (.invokevirtual 68, 3) := by decide +kernel
theorem dX5_floor_90 : decode cX5_floor 90 = .ok (.ireturn, 1) := by decide +kernel
theorem dX5_floor_91 : decode cX5_floor 91 = .ok (.aload_n 0, 1) := by decide +kernel
theorem dX5_floor_92 : decode cX5_floor 92 = .ok (.iload_n 1, 1) := by decide +kernel
theorem dX5_floor_93 : decode cX5_floor 93 = .ok (.iconst 2, 1) := by decide +kernel
theorem dX5_floor_94 : decode cX5_floor 94 = .ok (.invokevirtual 44, 3) := by decide +kernel
theorem dX5_floor_97 : decode cX5_floor 97 = .ok (.sipush 1000, 3) := by decide +kernel
theorem dX5_floor_100 : decode cX5_floor 100 = .ok (.iadd, 1) := by decide +kernel
theorem dX5_floor_101 : decode cX5_floor 101 = .ok (.ireturn, 1) := by decide +kernel
theorem dX5_floor_102 : decode cX5_floor 102 = .ok (.aload_n 0, 1) := by decide +kernel
theorem dX5_floor_103 : decode cX5_floor 103 = .ok (.iload_n 1, 1) := by decide +kernel
theorem dX5_floor_104 : decode cX5_floor 104 = .ok (.iconst 3, 1) := by decide +kernel
theorem dX5_floor_105 : decode cX5_floor 105 = .ok (.invokevirtual 44, 3) := by decide +kernel
theorem dX5_floor_108 : decode cX5_floor 108 = .ok (.ireturn, 1) := by decide +kernel
theorem dX5_floor_109 : decode cX5_floor 109 = .ok (.aload_n 0, 1) := by decide +kernel
theorem dX5_floor_110 : decode cX5_floor 110 = .ok (.iload_n 1, 1) := by decide +kernel
theorem dX5_floor_111 : decode cX5_floor 111 = .ok (.invokevirtual 79, 3) := by decide +kernel
theorem dX5_floor_114 : decode cX5_floor 114 = .ok (.sipush 1000, 3) := by decide +kernel
theorem dX5_floor_117 : decode cX5_floor 117 = .ok (.iadd, 1) := by decide +kernel
theorem dX5_floor_118 : decode cX5_floor 118 = .ok (.ireturn, 1) := by decide +kernel
theorem dX5_floor_119 : decode cX5_floor 119 = .ok (.aload_n 0, 1) := by decide +kernel
theorem dX5_floor_120 : decode cX5_floor 120 = .ok (.iload_n 1, 1) := by decide +kernel
theorem dX5_floor_121 : decode cX5_floor 121 = .ok (.invokevirtual 59, 3) := by decide +kernel
theorem dX5_floor_124 : decode cX5_floor 124 = .ok (.ireturn, 1) := by decide +kernel
theorem dX5_floor_125 : decode cX5_floor 125 = .ok (.aload_n 0, 1) := by decide +kernel
theorem dX5_floor_126 : decode cX5_floor 126 = .ok (.iload_n 1, 1) := by decide +kernel
theorem dX5_floor_127 : decode cX5_floor 127 = .ok (.invokevirtual 62, 3) := by decide +kernel
theorem dX5_floor_130 : decode cX5_floor 130 = .ok (.ireturn, 1) := by decide +kernel
theorem dX5_floor_131 : decode cX5_floor 131 = .ok (.aload_n 0, 1) := by decide +kernel
theorem dX5_floor_132 : decode cX5_floor 132 = .ok (.iload_n 1, 1) := by decide +kernel
theorem dX5_floor_133 : decode cX5_floor 133 = .ok (.invokevirtual 65, 3) := by decide +kernel
theorem dX5_floor_136 : decode cX5_floor 136 = .ok (.ifCond .eq 7, 3) := by decide +kernel
theorem dX5_floor_139 : decode cX5_floor 139 = .ok (.iconst 1, 1) := by decide +kernel
theorem dX5_floor_140 : decode cX5_floor 140 = .ok (.goto 4, 3) := by decide +kernel
theorem dX5_floor_143 : decode cX5_floor 143 = .ok (.iconst 0, 1) := by decide +kernel
theorem dX5_floor_144 : decode cX5_floor 144 = .ok (.ireturn, 1) := by decide +kernel
theorem dX5_floor_145 : decode cX5_floor 145 = .ok (.aload_n 0, 1) := by decide +kernel
theorem dX5_floor_146 : decode cX5_floor 146 = .ok (.iload_n 1, 1) := by decide +kernel
theorem dX5_floor_147 : decode cX5_floor 147 = .ok (.invokevirtual 119, 3) := by decide +kernel
theorem dX5_floor_150 : decode cX5_floor 150 = .ok (.ireturn, 1) := by decide +kernel
theorem dX5_floor_151 : decode cX5_floor 151 = .ok (.aload_n 0, 1) := by decide +kernel
theorem dX5_floor_152 : decode cX5_floor 152 = .ok (.iload_n 1, 1) := by decide +kernel
theorem dX5_floor_153 : decode cX5_floor 153 = .ok (.invokevirtual 122, 3) := by decide +kernel
theorem dX5_floor_156 : decode cX5_floor 156 = .ok (.ireturn, 1) := by decide +kernel
theorem dX5_floor_157 : decode cX5_floor 157 = .ok (.ldc 117, 2) := by decide +kernel
theorem dX5_floor_159 : decode cX5_floor 159 = .ok (.ireturn, 1) := by decide +kernel
set_option maxRecDepth 20000 in
theorem ggX5_hundredths_X5_in : GoodIn wsX5_hundredths wsX5_in := goodIn_r _ [5] (by decide +kernel) (by decide +kernel)
set_option maxRecDepth 20000 in
theorem gX5_hundredths_X5_in : GoodIn wsX5_hundredths (va_wsS RX5 36 yX5_in wsX5_in) := goodIn_app (goodIn_of _ (by decide +kernel)) ggX5_hundredths_X5_in
set_option maxRecDepth 20000 in
theorem ggX5_hundredths_X5_hundredthsBy : GoodIn wsX5_hundredths wsX5_hundredthsBy := goodIn_r _ [8] (by decide +kernel) (by decide +kernel)
set_option maxRecDepth 20000 in
theorem gX5_hundredths_X5_hundredthsBy : GoodIn wsX5_hundredths (va_wsS RX5 52 yX5_hundredthsBy wsX5_hundredthsBy) := goodIn_app (goodIn_of _ (by decide +kernel)) ggX5_hundredths_X5_hundredthsBy
theorem dX5_hundredths_0 : decode cX5_hundredths 0 = .ok (.iload_n 1, 1) := by decide +kernel
theorem dX5_hundredths_1 : decode cX5_hundredths 1 = .ok (.iconst 0, 1) := by decide +kernel
theorem dX5_hundredths_2 : decode cX5_hundredths 2 = .ok (.iconst 2, 1) := by decide +kernel
theorem dX5_hundredths_3 : decode cX5_hundredths 3 = .ok (.invokestatic 36, 3) := by decide +kernel
theorem dX5_hundredths_6 : decode cX5_hundredths 6 = .ok (.ifCond .eq 22, 3) := by decide +kernel
theorem dX5_hundredths_9 : decode cX5_hundredths 9 = .ok (.iload_n 2, 1) := by decide +kernel
theorem dX5_hundredths_10 : decode cX5_hundredths 10 = .ok (.iconst 0, 1) := by decide +kernel
theorem dX5_hundredths_11 : decode cX5_hundredths 11 = .ok (.sipush 999, 3) := by decide +kernel
theorem dX5_hundredths_14 : decode cX5_hundredths 14 = .ok (.invokestatic 36, 3) := by decide +kernel
theorem dX5_hundredths_17 : decode cX5_hundredths 17 = .ok (.ifCond .eq 11, 3) := by decide +kernel
theorem dX5_hundredths_20 : decode cX5_hundredths 20 = .ok (.iload_n 1, 1) := by decide +kernel
theorem dX5_hundredths_21 : decode cX5_hundredths 21 = .ok (.iload_n 2, 1) := by decide +kernel
theorem dX5_hundredths_22 : decode cX5_hundredths 22 = .ok (.invokestatic 52, 3) := by decide +kernel
theorem dX5_hundredths_25 : decode cX5_hundredths 25 = .ok (.goto 5, 3) := by decide +kernel
theorem dX5_hundredths_28 : decode cX5_hundredths 28 = .ok (.ldc 117, 2) := by decide +kernel
theorem dX5_hundredths_30 : decode cX5_hundredths 30 = .ok (.ireturn, 1) := by decide +kernel
set_option maxRecDepth 20000 in
theorem ggX5_would_X5_isFloor : GoodIn wsX5_would wsX5_isFloor := goodIn_r _ [6, 7, 8, 9, 5, 10, 68, 69, 70, 71, 72, 73, 74, 75, 76, 77, 78] (by decide +kernel) (by decide +kernel)
set_option maxRecDepth 20000 in
theorem gX5_would_X5_isFloor : GoodIn wsX5_would (wsV RX5 82 RX5 yX5_isFloor wsX5_isFloor) := goodIn_app (goodIn_of _ (by decide +kernel)) ggX5_would_X5_isFloor
set_option maxRecDepth 20000 in
theorem ggX5_would_X5_isPropped : GoodIn wsX5_would wsX5_isPropped := goodIn_r _ [14, 15, 16, 17, 5, 18, 7, 68, 69, 70, 71, 72, 73, 74, 75, 76, 77, 78] (by decide +kernel) (by decide +kernel)
set_option maxRecDepth 20000 in
theorem gX5_would_X5_isPropped : GoodIn wsX5_would (wsV RX5 55 RX5 yX5_isPropped wsX5_isPropped) := goodIn_app (goodIn_of _ (by decide +kernel)) ggX5_would_X5_isPropped
set_option maxRecDepth 20000 in
theorem ggX5_would_X5_lays : GoodIn wsX5_would wsX5_lays := goodIn_r _ [22, 23, 7, 68, 69, 70, 71, 72, 73, 74, 75, 76, 77, 78] (by decide +kernel) (by decide +kernel)
set_option maxRecDepth 20000 in
theorem gX5_would_X5_lays : GoodIn wsX5_would (wsV RX5 85 RX5 yX5_lays wsX5_lays) := goodIn_app (goodIn_of _ (by decide +kernel)) ggX5_would_X5_lays
set_option maxRecDepth 20000 in
theorem ggX5_would_X5_strikes : GoodIn wsX5_would wsX5_strikes := goodIn_r _ [27, 28, 29, 30, 5, 31, 7, 32, 33, 34, 35, 11, 12, 13, 14, 15, 16, 17, 18, 36, 37, 38, 39, 40, 41, 42, 43, 44, 45, 46, 47, 48, 49, 50, 51, 52, 53, 54, 55, 56, 57, 58, 59, 60, 61, 62, 63, 68, 69, 70, 71, 72, 73, 74, 75, 76, 77, 78] (by decide +kernel) (by decide +kernel)
set_option maxRecDepth 20000 in
theorem gX5_would_X5_strikes : GoodIn wsX5_would (wsV RX5 88 RX5 yX5_strikes wsX5_strikes) := goodIn_app (goodIn_of _ (by decide +kernel)) ggX5_would_X5_strikes
set_option maxRecDepth 20000 in
theorem ggX5_would_X5_of : GoodIn wsX5_would wsX5_of := goodIn_r _ [18, 7, 68, 69, 70, 71, 72, 73, 74, 75, 76, 77, 78] (by decide +kernel) (by decide +kernel)
set_option maxRecDepth 20000 in
theorem gX5_would_X5_of : GoodIn wsX5_would (wsV RX5 44 RX5 yX5_of wsX5_of) := goodIn_app (goodIn_of _ (by decide +kernel)) ggX5_would_X5_of
set_option maxRecDepth 20000 in
theorem ggX5_would_X5_takesBack : GoodIn wsX5_would wsX5_takesBack := goodIn_r _ [67, 7, 23, 68, 69, 70, 71, 72, 73, 74, 75, 76, 77, 78] (by decide +kernel) (by decide +kernel)
set_option maxRecDepth 20000 in
theorem gX5_would_X5_takesBack : GoodIn wsX5_would (wsV RX5 96 RX5 yX5_takesBack wsX5_takesBack) := goodIn_app (goodIn_of _ (by decide +kernel)) ggX5_would_X5_takesBack
theorem dX5_would_0 : decode cX5_would 0 = .ok (.aload_n 0, 1) := by decide +kernel
theorem dX5_would_1 : decode cX5_would 1 = .ok (.iload_n 1, 1) := by decide +kernel
theorem dX5_would_2 : decode cX5_would 2 = .ok (.invokevirtual 82, 3) := by decide +kernel
theorem dX5_would_5 : decode cX5_would 5 = .ok (.ifCond .eq 19, 3) := by decide +kernel
theorem dX5_would_8 : decode cX5_would 8 = .ok (.aload_n 0, 1) := by decide +kernel
theorem dX5_would_9 : decode cX5_would 9 = .ok (.iload_n 2, 1) := by decide +kernel
theorem dX5_would_10 : decode cX5_would 10 = .ok (.invokevirtual 82, 3) := by decide +kernel
theorem dX5_would_13 : decode cX5_would 13 = .ok (.ifCond .eq 11, 3) := by decide +kernel
theorem dX5_would_16 : decode cX5_would 16 = .ok (.aload_n 0, 1) := by decide +kernel
theorem dX5_would_17 : decode cX5_would 17 = .ok (.iload_n 1, 1) := by decide +kernel
theorem dX5_would_18 : decode cX5_would 18 = .ok (.invokevirtual 55, 3) := by decide +kernel
theorem dX5_would_21 : decode cX5_would 21 = .ok (.ifCond .ne 6, 3) := by decide +kernel
theorem dX5_would_24 : decode cX5_would 24 = .ok (.ldc 118, 2) := by decide +kernel
theorem dX5_would_26 : decode cX5_would 26 = .ok (.ireturn, 1) := by decide +kernel
theorem dX5_would_27 : decode cX5_would 27 = .ok (.aload_n 0, 1) := by decide +kernel
theorem dX5_would_28 : decode cX5_would 28 = .ok (.invokevirtual 85, 3) := by decide +kernel
theorem dX5_would_31 : decode cX5_would 31 = .ok (.aload_n 0, 1) := by decide +kernel
theorem dX5_would_32 : decode cX5_would 32 = .ok (.iload_n 1, 1) := by decide +kernel
theorem dX5_would_33 : decode cX5_would 33 = .ok (.invokevirtual 88, 3) := by decide +kernel
theorem dX5_would_36 : decode cX5_would 36 = .ok (.aload_n 0, 1) := by decide +kernel
theorem dX5_would_37 : decode cX5_would 37 = .ok (.iload_n 2, 1) := by decide +kernel
theorem dX5_would_38 : decode cX5_would 38 = .ok (.iconst 2, 1) := by decide +kernel
theorem dX5_would_39 : decode cX5_would 39 = .ok (.invokevirtual 44, 3) := by decide +kernel
theorem dX5_would_42 : decode cX5_would 42 = .ok (.sipush 1000, 3) := by decide +kernel
theorem dX5_would_45 : decode cX5_would 45 = .ok (.iadd, 1) := by decide +kernel
theorem dX5_would_46 : decode cX5_would 46 = .ok (.istore_n 3, 1) := by decide +kernel
theorem dX5_would_47 : decode cX5_would 47 = .ok (.aload_n 0, 1) := by decide +kernel
theorem dX5_would_48 : decode cX5_would 48 = .ok (.invokevirtual 96, 3) := by decide +kernel
theorem dX5_would_51 : decode cX5_would 51 = .ok (.iload_n 3, 1) := by decide +kernel
theorem dX5_would_52 : decode cX5_would 52 = .ok (.ireturn, 1) := by decide +kernel
set_option maxRecDepth 20000 in
theorem ggX5_holds_X5_isPropped : GoodIn wsX5_holds wsX5_isPropped := goodIn_r _ [6, 7, 8, 9, 5, 10, 1, 59, 60, 61, 62, 63, 64, 65, 66, 67, 68, 69] (by decide +kernel) (by decide +kernel)
set_option maxRecDepth 20000 in
theorem gX5_holds_X5_isPropped : GoodIn wsX5_holds (wsV RX5 55 RX5 yX5_isPropped wsX5_isPropped) := goodIn_app (goodIn_of _ (by decide +kernel)) ggX5_holds_X5_isPropped
set_option maxRecDepth 20000 in
theorem ggX5_holds_X5_strikes : GoodIn wsX5_holds wsX5_strikes := goodIn_r _ [14, 15, 16, 17, 5, 18, 1, 19, 20, 21, 22, 2, 3, 4, 6, 7, 8, 9, 10, 23, 24, 25, 26, 27, 28, 29, 30, 31, 32, 33, 34, 35, 36, 37, 38, 39, 40, 41, 42, 43, 44, 45, 46, 47, 48, 49, 50, 59, 60, 61, 62, 63, 64, 65, 66, 67, 68, 69] (by decide +kernel) (by decide +kernel)
set_option maxRecDepth 20000 in
theorem gX5_holds_X5_strikes : GoodIn wsX5_holds (wsV RX5 88 RX5 yX5_strikes wsX5_strikes) := goodIn_app (goodIn_of _ (by decide +kernel)) ggX5_holds_X5_strikes
set_option maxRecDepth 20000 in
theorem ggX5_holds_X5_weak : GoodIn wsX5_holds wsX5_weak := goodIn_r _ [54, 1, 7, 8, 9, 5, 10, 44, 45, 46, 47, 40, 41, 42, 43, 48, 49, 50, 59, 60, 61, 62, 63, 64, 65, 66, 67, 68, 69] (by decide +kernel) (by decide +kernel)
set_option maxRecDepth 20000 in
theorem gX5_holds_X5_weak : GoodIn wsX5_holds (wsV RX5 92 RX5 yX5_weak wsX5_weak) := goodIn_app (goodIn_of _ (by decide +kernel)) ggX5_holds_X5_weak
set_option maxRecDepth 20000 in
theorem ggX5_holds_X5_pours : GoodIn wsX5_holds wsX5_pours := goodIn_r _ [58, 1, 23, 24, 25, 5, 26, 27, 28, 29, 30, 31, 32, 33, 34, 35, 36, 37, 38, 39, 2, 3, 4, 6, 7, 8, 9, 10, 19, 20, 21, 22, 40, 41, 42, 43, 44, 45, 46, 47, 48, 49, 50, 59, 60, 61, 62, 63, 64, 65, 66, 67, 68, 69] (by decide +kernel) (by decide +kernel)
set_option maxRecDepth 20000 in
theorem gX5_holds_X5_pours : GoodIn wsX5_holds (wsV RX5 99 RX5 yX5_pours wsX5_pours) := goodIn_app (goodIn_of _ (by decide +kernel)) ggX5_holds_X5_pours
theorem dX5_holds_0 : decode cX5_holds 0 = .ok (.aload_n 0, 1) := by decide +kernel
theorem dX5_holds_1 : decode cX5_holds 1 = .ok (.getfield 7, 3) := by decide +kernel
theorem dX5_holds_4 : decode cX5_holds 4 = .ok (.iconst 0, 1) := by decide +kernel
theorem dX5_holds_5 : decode cX5_holds 5 = .ok (.iconst 0, 1) := by decide +kernel
theorem dX5_holds_6 : decode cX5_holds 6 = .ok (.iastore, 1) := by decide +kernel
theorem dX5_holds_7 : decode cX5_holds 7 = .ok (.aload_n 0, 1) := by decide +kernel
theorem dX5_holds_8 : decode cX5_holds 8 = .ok (.getfield 7, 3) := by decide +kernel
theorem dX5_holds_11 : decode cX5_holds 11 = .ok (.iconst 1, 1) := by decide +kernel
theorem dX5_holds_12 : decode cX5_holds 12 = .ok (.iconst 0, 1) := by decide +kernel
theorem dX5_holds_13 : decode cX5_holds 13 = .ok (.iastore, 1) := by decide +kernel
theorem dX5_holds_14 : decode cX5_holds 14 = .ok (.iconst 1, 1) := by decide +kernel
theorem dX5_holds_15 : decode cX5_holds 15 = .ok (.istore_n 3, 1) := by decide +kernel
theorem dX5_holds_16 : decode cX5_holds 16 = .ok (.iconst 0, 1) := by decide +kernel
theorem dX5_holds_17 : decode cX5_holds 17 = .ok (.istore 4, 2) := by decide +kernel
theorem dX5_holds_19 : decode cX5_holds 19 = .ok (.iload 4, 2) := by decide +kernel
theorem dX5_holds_21 : decode cX5_holds 21 = .ok (.bipush 8, 2) := by decide +kernel
theorem dX5_holds_23 : decode cX5_holds 23 = .ok (.if_icmp .ge 133, 3) := by decide +kernel
theorem dX5_holds_26 : decode cX5_holds 26 = .ok (.iload_n 3, 1) := by decide +kernel
theorem dX5_holds_27 : decode cX5_holds 27 = .ok (.ifCond .eq 129, 3) := by decide +kernel
theorem dX5_holds_30 : decode cX5_holds 30 = .ok (.aload_n 0, 1) := by decide +kernel
theorem dX5_holds_31 : decode cX5_holds 31 = .ok (.getfield 7, 3) := by decide +kernel
theorem dX5_holds_34 : decode cX5_holds 34 = .ok (.iconst 0, 1) := by decide +kernel
theorem dX5_holds_35 : decode cX5_holds 35 = .ok (.iload_n 2, 1) := by decide +kernel
theorem dX5_holds_36 : decode cX5_holds 36 = .ok (.iload 4, 2) := by decide +kernel
theorem dX5_holds_38 : decode cX5_holds 38 = .ok (.imul, 1) := by decide +kernel
theorem dX5_holds_39 : decode cX5_holds 39 = .ok (.iastore, 1) := by decide +kernel
theorem dX5_holds_40 : decode cX5_holds 40 = .ok (.iconst 0, 1) := by decide +kernel
theorem dX5_holds_41 : decode cX5_holds 41 = .ok (.istore 5, 2) := by decide +kernel
theorem dX5_holds_43 : decode cX5_holds 43 = .ok (.iconst (-1), 1) := by decide +kernel
theorem dX5_holds_44 : decode cX5_holds 44 = .ok (.istore 6, 2) := by decide +kernel
theorem dX5_holds_46 : decode cX5_holds 46 = .ok (.aload_n 0, 1) := by decide +kernel
theorem dX5_holds_47 : decode cX5_holds 47 = .ok (.getfield 7, 3) := by decide +kernel
theorem dX5_holds_50 : decode cX5_holds 50 = .ok (.iconst 1, 1) := by decide +kernel
theorem dX5_holds_51 : decode cX5_holds 51 = .ok (.iaload, 1) := by decide +kernel
theorem dX5_holds_52 : decode cX5_holds 52 = .ok (.iconst 1, 1) := by decide +kernel
theorem dX5_holds_53 : decode cX5_holds 53 = .ok (.isub, 1) := by decide +kernel
theorem dX5_holds_54 : decode cX5_holds 54 = .ok (.istore 7, 2) := by decide +kernel
theorem dX5_holds_56 : decode cX5_holds 56 = .ok (.iload 7, 2) := by decide +kernel
theorem dX5_holds_58 : decode cX5_holds 58 = .ok (.ifCond .lt 46, 3) := by decide +kernel
theorem dX5_holds_61 : decode cX5_holds 61 = .ok (.iload 5, 2) := by decide +kernel
theorem dX5_holds_63 : decode cX5_holds 63 = .ok (.aload_n 0, 1) := by decide +kernel
theorem dX5_holds_64 : decode cX5_holds 64 = .ok (.iload 7, 2) := by decide +kernel
theorem dX5_holds_66 : decode cX5_holds 66 = .ok (.invokevirtual 55, 3) := by decide +kernel
theorem dX5_holds_69 : decode cX5_holds 69 = .ok (.ifCond .eq 7, 3) := by decide +kernel
theorem dX5_holds_72 : decode cX5_holds 72 = .ok (.iconst 1, 1) := by decide +kernel
theorem dX5_holds_73 : decode cX5_holds 73 = .ok (.goto 4, 3) := by decide +kernel
theorem dX5_holds_76 : decode cX5_holds 76 = .ok (.iconst 0, 1) := by decide +kernel
theorem dX5_holds_77 : decode cX5_holds 77 = .ok (.iadd, 1) := by decide +kernel
theorem dX5_holds_78 : decode cX5_holds 78 = .ok (.istore 5, 2) := by decide +kernel
theorem dX5_holds_80 : decode cX5_holds 80 = .ok (.aload_n 0, 1) := by decide +kernel
theorem dX5_holds_81 : decode cX5_holds 81 = .ok (.iload 7, 2) := by decide +kernel
theorem dX5_holds_83 : decode cX5_holds 83 = .ok (.invokevirtual 55, 3) := by decide +kernel
theorem dX5_holds_86 : decode cX5_holds 86 = .ok (.ifCond .eq 8, 3) := by decide +kernel
theorem dX5_holds_89 : decode cX5_holds 89 = .ok (.iload 7, 2) := by decide +kernel
theorem dX5_holds_91 : decode cX5_holds 91 = .ok (.goto 5, 3) := by decide +kernel
theorem dX5_holds_94 : decode cX5_holds 94 = .ok (.iload 6, 2) := by decide +kernel
theorem dX5_holds_96 : decode cX5_holds 96 = .ok (.istore 6, 2) := by decide +kernel
theorem dX5_holds_98 : decode cX5_holds 98 = .ok (.iinc 7 (-1), 3) := by decide +kernel
theorem dX5_holds_101 : decode cX5_holds 101 = .ok (.goto (-45), 3) := by decide +kernel
theorem dX5_holds_104 : decode cX5_holds 104 = .ok (.iload 5, 2) := by decide +kernel
theorem dX5_holds_106 : decode cX5_holds 106 = .ok (.iload_n 1, 1) := by decide +kernel
theorem dX5_holds_107 : decode cX5_holds 107 = .ok (.if_icmp .ne 22, 3) := by decide +kernel
theorem dX5_holds_110 : decode cX5_holds 110 = .ok (.aload_n 0, 1) := by decide +kernel
theorem dX5_holds_111 : decode cX5_holds 111 = .ok (.iload 6, 2) := by decide +kernel
theorem dX5_holds_113 : decode cX5_holds 113 = .ok (.invokevirtual 88, 3) := by decide +kernel
theorem dX5_holds_116 : decode cX5_holds 116 = .ok (.aload_n 0, 1) := by decide +kernel
theorem dX5_holds_117 : decode cX5_holds 117 = .ok (.invokevirtual 92, 3) := by decide +kernel
theorem dX5_holds_120 : decode cX5_holds 120 = .ok (.ifCond .ne 7, 3) := by decide +kernel
theorem dX5_holds_123 : decode cX5_holds 123 = .ok (.iconst 1, 1) := by decide +kernel
theorem dX5_holds_124 : decode cX5_holds 124 = .ok (.goto 4, 3) := by decide +kernel
theorem dX5_holds_127 : decode cX5_holds 127 = .ok (.iconst 0, 1) := by decide +kernel
theorem dX5_holds_128 : decode cX5_holds 128 = .ok (.istore_n 3, 1) := by decide +kernel
theorem dX5_holds_129 : decode cX5_holds 129 = .ok (.iload_n 3, 1) := by decide +kernel
theorem dX5_holds_130 : decode cX5_holds 130 = .ok (.ifCond .eq 20, 3) := by decide +kernel
theorem dX5_holds_133 : decode cX5_holds 133 = .ok (.aload_n 0, 1) := by decide +kernel
theorem dX5_holds_134 : decode cX5_holds 134 = .ok (.invokevirtual 99, 3) := by decide +kernel
theorem dX5_holds_137 : decode cX5_holds 137 = .ok (.aload_n 0, 1) := by decide +kernel
theorem dX5_holds_138 : decode cX5_holds 138 = .ok (.invokevirtual 92, 3) := by decide +kernel
theorem dX5_holds_141 : decode cX5_holds 141 = .ok (.ifCond .ne 7, 3) := by decide +kernel
theorem dX5_holds_144 : decode cX5_holds 144 = .ok (.iconst 1, 1) := by decide +kernel
theorem dX5_holds_145 : decode cX5_holds 145 = .ok (.goto 4, 3) := by decide +kernel
theorem dX5_holds_148 : decode cX5_holds 148 = .ok (.iconst 0, 1) := by decide +kernel
theorem dX5_holds_149 : decode cX5_holds 149 = .ok (.istore_n 3, 1) := by decide +kernel
theorem dX5_holds_150 : decode cX5_holds 150 = .ok (.iinc 4 1, 3) := by decide +kernel
theorem dX5_holds_153 : decode cX5_holds 153 = .ok (.goto (-134), 3) := by decide +kernel
theorem dX5_holds_156 : decode cX5_holds 156 = .ok (.iload_n 3, 1) := by decide +kernel
theorem dX5_holds_157 : decode cX5_holds 157 = .ok (.ireturn, 1) := by decide +kernel
set_option maxRecDepth 20000 in
theorem ggX5_cycle_X5_in : GoodIn wsX5_cycle wsX5_in := goodIn_r _ [5] (by decide +kernel) (by decide +kernel)
set_option maxRecDepth 20000 in
theorem gX5_cycle_X5_in : GoodIn wsX5_cycle (va_wsS RX5 36 yX5_in wsX5_in) := goodIn_app (goodIn_of _ (by decide +kernel)) ggX5_cycle_X5_in
set_option maxRecDepth 20000 in
theorem ggX5_cycle_X5_lays : GoodIn wsX5_cycle wsX5_lays := goodIn_r _ [9, 10, 11, 76, 77, 78, 79, 80, 81, 82, 83, 84, 85, 86] (by decide +kernel) (by decide +kernel)
set_option maxRecDepth 20000 in
theorem gX5_cycle_X5_lays : GoodIn wsX5_cycle (wsV RX5 85 RX5 yX5_lays wsX5_lays) := goodIn_app (goodIn_of _ (by decide +kernel)) ggX5_cycle_X5_lays
set_option maxRecDepth 20000 in
theorem ggX5_cycle_X5_holds : GoodIn wsX5_cycle wsX5_holds := goodIn_r _ [15, 11, 16, 17, 18, 4, 19, 20, 21, 22, 23, 24, 25, 26, 27, 28, 29, 30, 31, 32, 33, 34, 35, 36, 37, 38, 39, 40, 41, 42, 43, 44, 45, 46, 47, 48, 49, 50, 51, 52, 53, 54, 55, 56, 57, 58, 59, 60, 61, 62, 63, 64, 65, 66, 67, 68, 69, 70, 71, 76, 77, 78, 79, 80, 81, 82, 83, 84, 85, 86] (by decide +kernel) (by decide +kernel)
set_option maxRecDepth 20000 in
theorem gX5_cycle_X5_holds : GoodIn wsX5_cycle (wsV RX5 125 RX5 yX5_holds wsX5_holds) := goodIn_app (goodIn_of _ (by decide +kernel)) ggX5_cycle_X5_holds
set_option maxRecDepth 20000 in
theorem ggX5_cycle_X5_takesBack : GoodIn wsX5_cycle wsX5_takesBack := goodIn_r _ [75, 11, 10, 76, 77, 78, 79, 80, 81, 82, 83, 84, 85, 86] (by decide +kernel) (by decide +kernel)
set_option maxRecDepth 20000 in
theorem gX5_cycle_X5_takesBack : GoodIn wsX5_cycle (wsV RX5 96 RX5 yX5_takesBack wsX5_takesBack) := goodIn_app (goodIn_of _ (by decide +kernel)) ggX5_cycle_X5_takesBack
theorem dX5_cycle_0 : decode cX5_cycle 0 = .ok (.iload_n 1, 1) := by decide +kernel
theorem dX5_cycle_1 : decode cX5_cycle 1 = .ok (.iconst 1, 1) := by decide +kernel
theorem dX5_cycle_2 : decode cX5_cycle 2 = .ok (.iconst 3, 1) := by decide +kernel
theorem dX5_cycle_3 : decode cX5_cycle 3 = .ok (.invokestatic 36, 3) := by decide +kernel
theorem dX5_cycle_6 : decode cX5_cycle 6 = .ok (.ifCond .ne 6, 3) := by decide +kernel
theorem dX5_cycle_9 : decode cX5_cycle 9 = .ok (.ldc 117, 2) := by decide +kernel
theorem dX5_cycle_11 : decode cX5_cycle 11 = .ok (.ireturn, 1) := by decide +kernel
theorem dX5_cycle_12 : decode cX5_cycle 12 = .ok (.iconst (-1), 1) := by decide +kernel
theorem dX5_cycle_13 : decode cX5_cycle 13 = .ok (.istore_n 2, 1) := by decide +kernel
theorem dX5_cycle_14 : decode cX5_cycle 14 = .ok (.aload_n 0, 1) := by decide +kernel
theorem dX5_cycle_15 : decode cX5_cycle 15 = .ok (.invokevirtual 85, 3) := by decide +kernel
theorem dX5_cycle_18 : decode cX5_cycle 18 = .ok (.iconst 1, 1) := by decide +kernel
theorem dX5_cycle_19 : decode cX5_cycle 19 = .ok (.istore_n 3, 1) := by decide +kernel
theorem dX5_cycle_20 : decode cX5_cycle 20 = .ok (.iload_n 3, 1) := by decide +kernel
theorem dX5_cycle_21 : decode cX5_cycle 21 = .ok (.bipush 29, 2) := by decide +kernel
theorem dX5_cycle_23 : decode cX5_cycle 23 = .ok (.if_icmp .ge 29, 3) := by decide +kernel
theorem dX5_cycle_26 : decode cX5_cycle 26 = .ok (.iload_n 2, 1) := by decide +kernel
theorem dX5_cycle_27 : decode cX5_cycle 27 = .ok (.iconst (-1), 1) := by decide +kernel
theorem dX5_cycle_28 : decode cX5_cycle 28 = .ok (.if_icmp .ne 24, 3) := by decide +kernel
theorem dX5_cycle_31 : decode cX5_cycle 31 = .ok (.aload_n 0, 1) := by decide +kernel
theorem dX5_cycle_32 : decode cX5_cycle 32 = .ok (.iload_n 1, 1) := by decide +kernel
theorem dX5_cycle_33 : decode cX5_cycle 33 = .ok (.iload_n 3, 1) := by decide +kernel
theorem dX5_cycle_34 : decode cX5_cycle 34 = .ok (.invokevirtual 125, 3) := by decide +kernel
theorem dX5_cycle_37 : decode cX5_cycle 37 = .ok (.ifCond .eq 7, 3) := by decide +kernel
theorem dX5_cycle_40 : decode cX5_cycle 40 = .ok (.iload_n 3, 1) := by decide +kernel
theorem dX5_cycle_41 : decode cX5_cycle 41 = .ok (.goto 4, 3) := by decide +kernel
theorem dX5_cycle_44 : decode cX5_cycle 44 = .ok (.iconst (-1), 1) := by decide +kernel
theorem dX5_cycle_45 : decode cX5_cycle 45 = .ok (.istore_n 2, 1) := by decide +kernel
theorem dX5_cycle_46 : decode cX5_cycle 46 = .ok (.iinc 3 1, 3) := by decide +kernel
theorem dX5_cycle_49 : decode cX5_cycle 49 = .ok (.goto (-29), 3) := by decide +kernel
theorem dX5_cycle_52 : decode cX5_cycle 52 = .ok (.aload_n 0, 1) := by decide +kernel
theorem dX5_cycle_53 : decode cX5_cycle 53 = .ok (.invokevirtual 96, 3) := by decide +kernel
theorem dX5_cycle_56 : decode cX5_cycle 56 = .ok (.iload_n 2, 1) := by decide +kernel
theorem dX5_cycle_57 : decode cX5_cycle 57 = .ok (.ireturn, 1) := by decide +kernel
set_option maxRecDepth 20000 in
theorem ggX5_days_X5_in : GoodIn wsX5_days wsX5_in := goodIn_r _ [6] (by decide +kernel) (by decide +kernel)
set_option maxRecDepth 20000 in
theorem gX5_days_X5_in : GoodIn wsX5_days (va_wsS RX5 36 yX5_in wsX5_in) := goodIn_app (goodIn_of _ (by decide +kernel)) ggX5_days_X5_in
set_option maxRecDepth 20000 in
theorem ggX5_days_X5_notes : GoodIn wsX5_days wsX5_notes := goodIn_r _ [10, 11, 12, 2, 13, 14, 15, 16, 17, 18, 19, 20, 21, 22, 23] (by decide +kernel) (by decide +kernel)
set_option maxRecDepth 20000 in
theorem gX5_days_X5_notes : GoodIn wsX5_days (wsV RX5 129 RX5 yX5_notes wsX5_notes) := goodIn_app (goodIn_of _ (by decide +kernel)) ggX5_days_X5_notes
theorem dX5_days_0 : decode cX5_days 0 = .ok (.iload_n 1, 1) := by decide +kernel
theorem dX5_days_1 : decode cX5_days 1 = .ok (.iconst 1, 1) := by decide +kernel
theorem dX5_days_2 : decode cX5_days 2 = .ok (.bipush 60, 2) := by decide +kernel
theorem dX5_days_4 : decode cX5_days 4 = .ok (.invokestatic 36, 3) := by decide +kernel
theorem dX5_days_7 : decode cX5_days 7 = .ok (.ifCond .ne 6, 3) := by decide +kernel
theorem dX5_days_10 : decode cX5_days 10 = .ok (.ldc 117, 2) := by decide +kernel
theorem dX5_days_12 : decode cX5_days 12 = .ok (.ireturn, 1) := by decide +kernel
theorem dX5_days_13 : decode cX5_days 13 = .ok (.aload_n 0, 1) := by decide +kernel
theorem dX5_days_14 : decode cX5_days 14 = .ok (.invokevirtual 129, 3) := by decide +kernel
theorem dX5_days_17 : decode cX5_days 17 = .ok (.aload_n 0, 1) := by decide +kernel
theorem dX5_days_18 : decode cX5_days 18 = .ok (.getfield 7, 3) := by decide +kernel
theorem dX5_days_21 : decode cX5_days 21 = .ok (.iconst 0, 1) := by decide +kernel
theorem dX5_days_22 : decode cX5_days 22 = .ok (.dup2, 1) := by decide +kernel
theorem dX5_days_23 : decode cX5_days 23 = .ok (.iaload, 1) := by decide +kernel
theorem dX5_days_24 : decode cX5_days 24 = .ok (.iload_n 1, 1) := by decide +kernel
theorem dX5_days_25 : decode cX5_days 25 = .ok (.iadd, 1) := by decide +kernel
theorem dX5_days_26 : decode cX5_days 26 = .ok (.iastore, 1) := by decide +kernel
theorem dX5_days_27 : decode cX5_days 27 = .ok (.aload_n 0, 1) := by decide +kernel
theorem dX5_days_28 : decode cX5_days 28 = .ok (.getfield 7, 3) := by decide +kernel
theorem dX5_days_31 : decode cX5_days 31 = .ok (.iconst 0, 1) := by decide +kernel
theorem dX5_days_32 : decode cX5_days 32 = .ok (.iaload, 1) := by decide +kernel
theorem dX5_days_33 : decode cX5_days 33 = .ok (.ireturn, 1) := by decide +kernel
set_option maxRecDepth 20000 in
theorem ggX5_pour_X5_mayPour : GoodIn wsX5_pour wsX5_mayPour := goodIn_r _ [8, 1, 9, 10, 11, 7, 12, 13, 14, 15, 16, 17, 18, 19, 20, 21, 22, 23, 24, 25, 26, 27, 28, 29, 30, 31, 32, 33, 34, 35, 36, 37, 38, 39, 40, 41, 42, 43, 44, 45, 46, 47, 48, 49, 50, 51, 52, 53, 54, 55, 56, 57, 58, 59, 60, 61, 62, 63, 64, 65, 72, 73, 74, 75, 76, 77, 78, 79, 80, 81, 82] (by decide +kernel) (by decide +kernel)
set_option maxRecDepth 20000 in
theorem gX5_pour_X5_mayPour : GoodIn wsX5_pour (wsV RX5 133 RX5 yX5_mayPour wsX5_mayPour) := goodIn_app (goodIn_of _ (by decide +kernel)) ggX5_pour_X5_mayPour
set_option maxRecDepth 20000 in
theorem ggX5_pour_X5_notes : GoodIn wsX5_pour wsX5_notes := goodIn_r _ [69, 70, 71, 1, 72, 73, 74, 75, 76, 77, 78, 79, 80, 81, 82] (by decide +kernel) (by decide +kernel)
set_option maxRecDepth 20000 in
theorem gX5_pour_X5_notes : GoodIn wsX5_pour (wsV RX5 129 RX5 yX5_notes wsX5_notes) := goodIn_app (goodIn_of _ (by decide +kernel)) ggX5_pour_X5_notes
set_option maxRecDepth 20000 in
theorem ggX5_pour_X5_pours : GoodIn wsX5_pour wsX5_pours := goodIn_r _ [17, 1, 18, 19, 20, 7, 21, 22, 23, 24, 25, 26, 27, 28, 29, 30, 31, 32, 33, 34, 35, 36, 37, 38, 39, 40, 41, 42, 43, 44, 45, 46, 47, 48, 49, 50, 51, 52, 53, 54, 55, 56, 57, 72, 73, 74, 75, 76, 77, 78, 79, 80, 81, 82] (by decide +kernel) (by decide +kernel)
set_option maxRecDepth 20000 in
theorem gX5_pour_X5_pours : GoodIn wsX5_pour (wsV RX5 99 RX5 yX5_pours wsX5_pours) := goodIn_app (goodIn_of _ (by decide +kernel)) ggX5_pour_X5_pours
theorem dX5_pour_0 : decode cX5_pour 0 = .ok (.aload_n 0, 1) := by decide +kernel
theorem dX5_pour_1 : decode cX5_pour 1 = .ok (.getfield 7, 3) := by decide +kernel
theorem dX5_pour_4 : decode cX5_pour 4 = .ok (.iconst 1, 1) := by decide +kernel
theorem dX5_pour_5 : decode cX5_pour 5 = .ok (.iaload, 1) := by decide +kernel
theorem dX5_pour_6 : decode cX5_pour 6 = .ok (.bipush 8, 2) := by decide +kernel
theorem dX5_pour_8 : decode cX5_pour 8 = .ok (.if_icmp .ne 6, 3) := by decide +kernel
theorem dX5_pour_11 : decode cX5_pour 11 = .ok (.ldc 132, 2) := by decide +kernel
theorem dX5_pour_13 : decode cX5_pour 13 = .ok (.ireturn, 1) := by decide +kernel
theorem dX5_pour_14 : decode cX5_pour 14 = .ok (.aload_n 0, 1) := by decide +kernel
theorem dX5_pour_15 : decode cX5_pour 15 = .ok (.invokevirtual 133, 3) := by decide +kernel
theorem dX5_pour_18 : decode cX5_pour 18 = .ok (.ifCond .ne 6, 3) := by decide +kernel
theorem dX5_pour_21 : decode cX5_pour 21 = .ok (.ldc 137, 2) := by decide +kernel
theorem dX5_pour_23 : decode cX5_pour 23 = .ok (.ireturn, 1) := by decide +kernel
theorem dX5_pour_24 : decode cX5_pour 24 = .ok (.aload_n 0, 1) := by decide +kernel
theorem dX5_pour_25 : decode cX5_pour 25 = .ok (.invokevirtual 129, 3) := by decide +kernel
theorem dX5_pour_28 : decode cX5_pour 28 = .ok (.aload_n 0, 1) := by decide +kernel
theorem dX5_pour_29 : decode cX5_pour 29 = .ok (.invokevirtual 99, 3) := by decide +kernel
theorem dX5_pour_32 : decode cX5_pour 32 = .ok (.aload_n 0, 1) := by decide +kernel
theorem dX5_pour_33 : decode cX5_pour 33 = .ok (.getfield 7, 3) := by decide +kernel
theorem dX5_pour_36 : decode cX5_pour 36 = .ok (.iconst 1, 1) := by decide +kernel
theorem dX5_pour_37 : decode cX5_pour 37 = .ok (.iaload, 1) := by decide +kernel
theorem dX5_pour_38 : decode cX5_pour 38 = .ok (.iconst 1, 1) := by decide +kernel
theorem dX5_pour_39 : decode cX5_pour 39 = .ok (.isub, 1) := by decide +kernel
theorem dX5_pour_40 : decode cX5_pour 40 = .ok (.ireturn, 1) := by decide +kernel
set_option maxRecDepth 20000 in
theorem ggX5_strike_X5_isFloor : GoodIn wsX5_strike wsX5_isFloor := goodIn_r _ [7, 8, 9, 10, 6, 11, 83, 84, 85, 86, 87, 88, 89, 90, 91, 92, 93] (by decide +kernel) (by decide +kernel)
set_option maxRecDepth 20000 in
theorem gX5_strike_X5_isFloor : GoodIn wsX5_strike (wsV RX5 82 RX5 yX5_isFloor wsX5_isFloor) := goodIn_app (goodIn_of _ (by decide +kernel)) ggX5_strike_X5_isFloor
set_option maxRecDepth 20000 in
theorem ggX5_strike_X5_mayStrike : GoodIn wsX5_strike wsX5_mayStrike := goodIn_r _ [15, 3, 4, 5, 6, 7, 8, 9, 10, 11, 16, 17, 18, 19, 20, 21, 22, 23, 24, 25, 26, 27, 28, 29, 30, 31, 32, 33, 34, 35, 36, 37, 38, 39, 40, 41, 42, 43, 44, 45, 46, 47, 48, 49, 50, 51, 52, 53, 54, 55, 56, 57, 58, 59, 60, 61, 62, 63, 64, 65, 66, 67, 68, 69, 70, 71, 72, 73, 74, 75, 76, 83, 84, 85, 86, 87, 88, 89, 90, 91, 92, 93] (by decide +kernel) (by decide +kernel)
set_option maxRecDepth 20000 in
theorem gX5_strike_X5_mayStrike : GoodIn wsX5_strike (wsV RX5 102 RX5 yX5_mayStrike wsX5_mayStrike) := goodIn_app (goodIn_of _ (by decide +kernel)) ggX5_strike_X5_mayStrike
set_option maxRecDepth 20000 in
theorem ggX5_strike_X5_notes : GoodIn wsX5_strike wsX5_notes := goodIn_r _ [80, 81, 82, 8, 83, 84, 85, 86, 87, 88, 89, 90, 91, 92, 93] (by decide +kernel) (by decide +kernel)
set_option maxRecDepth 20000 in
theorem gX5_strike_X5_notes : GoodIn wsX5_strike (wsV RX5 129 RX5 yX5_notes wsX5_notes) := goodIn_app (goodIn_of _ (by decide +kernel)) ggX5_strike_X5_notes
set_option maxRecDepth 20000 in
theorem ggX5_strike_X5_strikes : GoodIn wsX5_strike wsX5_strikes := goodIn_r _ [32, 33, 34, 35, 6, 36, 8, 37, 38, 39, 40, 16, 17, 18, 19, 20, 21, 22, 23, 41, 42, 43, 44, 45, 46, 47, 48, 49, 50, 51, 52, 53, 54, 55, 56, 57, 58, 59, 60, 61, 62, 63, 64, 65, 66, 67, 68, 83, 84, 85, 86, 87, 88, 89, 90, 91, 92, 93] (by decide +kernel) (by decide +kernel)
set_option maxRecDepth 20000 in
theorem gX5_strike_X5_strikes : GoodIn wsX5_strike (wsV RX5 88 RX5 yX5_strikes wsX5_strikes) := goodIn_app (goodIn_of _ (by decide +kernel)) ggX5_strike_X5_strikes
set_option maxRecDepth 20000 in
theorem ggX5_strike_X5_lowest : GoodIn wsX5_strike wsX5_lowest := goodIn_r _ [57, 16, 17, 18, 6, 19, 20, 21, 22, 23, 8, 83, 84, 85, 86, 87, 88, 89, 90, 91, 92, 93] (by decide +kernel) (by decide +kernel)
set_option maxRecDepth 20000 in
theorem gX5_strike_X5_lowest : GoodIn wsX5_strike (wsV RX5 59 RX5 yX5_lowest wsX5_lowest) := goodIn_app (goodIn_of _ (by decide +kernel)) ggX5_strike_X5_lowest
theorem dX5_strike_0 : decode cX5_strike 0 = .ok (.aload_n 0, 1) := by decide +kernel
theorem dX5_strike_1 : decode cX5_strike 1 = .ok (.iload_n 1, 1) := by decide +kernel
theorem dX5_strike_2 : decode cX5_strike 2 = .ok (.invokevirtual 82, 3) := by decide +kernel
theorem dX5_strike_5 : decode cX5_strike 5 = .ok (.ifCond .ne 6, 3) := by decide +kernel
theorem dX5_strike_8 : decode cX5_strike 8 = .ok (.ldc 118, 2) := by decide +kernel
theorem dX5_strike_10 : decode cX5_strike 10 = .ok (.ireturn, 1) := by decide +kernel
theorem dX5_strike_11 : decode cX5_strike 11 = .ok (.aload_n 0, 1) := by decide +kernel
theorem dX5_strike_12 : decode cX5_strike 12 = .ok (.iload_n 1, 1) := by decide +kernel
theorem dX5_strike_13 : decode cX5_strike 13 = .ok (.invokevirtual 102, 3) := by decide +kernel
theorem dX5_strike_16 : decode cX5_strike 16 = .ok (.ifCond .ne 6, 3) := by decide +kernel
theorem dX5_strike_19 : decode cX5_strike 19 = .ok (.ldc 137, 2) := by decide +kernel
theorem dX5_strike_21 : decode cX5_strike 21 = .ok (.ireturn, 1) := by decide +kernel
theorem dX5_strike_22 : decode cX5_strike 22 = .ok (.aload_n 0, 1) := by decide +kernel
theorem dX5_strike_23 : decode cX5_strike 23 = .ok (.invokevirtual 129, 3) := by decide +kernel
theorem dX5_strike_26 : decode cX5_strike 26 = .ok (.aload_n 0, 1) := by decide +kernel
theorem dX5_strike_27 : decode cX5_strike 27 = .ok (.iload_n 1, 1) := by decide +kernel
theorem dX5_strike_28 : decode cX5_strike 28 = .ok (.invokevirtual 88, 3) := by decide +kernel
theorem dX5_strike_31 : decode cX5_strike 31 = .ok (.aload_n 0, 1) := by decide +kernel
theorem dX5_strike_32 : decode cX5_strike 32 = .ok (.iload_n 1, 1) := by decide +kernel
theorem dX5_strike_33 : decode cX5_strike 33 = .ok (.invokevirtual 59, 3) := by decide +kernel
theorem dX5_strike_36 : decode cX5_strike 36 = .ok (.ireturn, 1) := by decide +kernel
set_option maxRecDepth 20000 in
theorem ggX5_back_X5_isFloor : GoodIn wsX5_back wsX5_isFloor := goodIn_r _ [7, 8, 9, 10, 6, 11, 34, 35, 36, 37, 38, 39, 40, 41, 42, 43, 44] (by decide +kernel) (by decide +kernel)
set_option maxRecDepth 20000 in
theorem gX5_back_X5_isFloor : GoodIn wsX5_back (wsV RX5 82 RX5 yX5_isFloor wsX5_isFloor) := goodIn_app (goodIn_of _ (by decide +kernel)) ggX5_back_X5_isFloor
set_option maxRecDepth 20000 in
theorem ggX5_back_X5_isPropped : GoodIn wsX5_back wsX5_isPropped := goodIn_r _ [15, 16, 17, 18, 6, 19, 8, 34, 35, 36, 37, 38, 39, 40, 41, 42, 43, 44] (by decide +kernel) (by decide +kernel)
set_option maxRecDepth 20000 in
theorem gX5_back_X5_isPropped : GoodIn wsX5_back (wsV RX5 55 RX5 yX5_isPropped wsX5_isPropped) := goodIn_app (goodIn_of _ (by decide +kernel)) ggX5_back_X5_isPropped
set_option maxRecDepth 20000 in
theorem ggX5_back_X5_notes : GoodIn wsX5_back wsX5_notes := goodIn_r _ [23, 24, 25, 8, 34, 35, 36, 37, 38, 39, 40, 41, 42, 43, 44] (by decide +kernel) (by decide +kernel)
set_option maxRecDepth 20000 in
theorem gX5_back_X5_notes : GoodIn wsX5_back (wsV RX5 129 RX5 yX5_notes wsX5_notes) := goodIn_app (goodIn_of _ (by decide +kernel)) ggX5_back_X5_notes
set_option maxRecDepth 20000 in
theorem ggX5_back_X5_put : GoodIn wsX5_back wsX5_put := goodIn_r _ [29, 8, 34, 35, 36, 37, 38, 39, 40, 41, 42, 43, 44] (by decide +kernel) (by decide +kernel)
set_option maxRecDepth 20000 in
theorem gX5_back_X5_put : GoodIn wsX5_back (wsV RX5 71 RX5 yX5_put wsX5_put) := goodIn_app (goodIn_of _ (by decide +kernel)) ggX5_back_X5_put
set_option maxRecDepth 20000 in
theorem ggX5_back_X5_lowest : GoodIn wsX5_back wsX5_lowest := goodIn_r _ [33, 12, 13, 14, 6, 15, 16, 17, 18, 19, 8, 34, 35, 36, 37, 38, 39, 40, 41, 42, 43, 44] (by decide +kernel) (by decide +kernel)
set_option maxRecDepth 20000 in
theorem gX5_back_X5_lowest : GoodIn wsX5_back (wsV RX5 59 RX5 yX5_lowest wsX5_lowest) := goodIn_app (goodIn_of _ (by decide +kernel)) ggX5_back_X5_lowest
theorem dX5_back_0 : decode cX5_back 0 = .ok (.aload_n 0, 1) := by decide +kernel
theorem dX5_back_1 : decode cX5_back 1 = .ok (.iload_n 1, 1) := by decide +kernel
theorem dX5_back_2 : decode cX5_back 2 = .ok (.invokevirtual 82, 3) := by decide +kernel
theorem dX5_back_5 : decode cX5_back 5 = .ok (.ifCond .ne 6, 3) := by decide +kernel
theorem dX5_back_8 : decode cX5_back 8 = .ok (.ldc 118, 2) := by decide +kernel
theorem dX5_back_10 : decode cX5_back 10 = .ok (.ireturn, 1) := by decide +kernel
theorem dX5_back_11 : decode cX5_back 11 = .ok (.aload_n 0, 1) := by decide +kernel
theorem dX5_back_12 : decode cX5_back 12 = .ok (.iload_n 1, 1) := by decide +kernel
theorem dX5_back_13 : decode cX5_back 13 = .ok (.invokevirtual 55, 3) := by decide +kernel
theorem dX5_back_16 : decode cX5_back 16 = .ok (.ifCond .eq 6, 3) := by decide +kernel
theorem dX5_back_19 : decode cX5_back 19 = .ok (.ldc 137, 2) := by decide +kernel
theorem dX5_back_21 : decode cX5_back 21 = .ok (.ireturn, 1) := by decide +kernel
theorem dX5_back_22 : decode cX5_back 22 = .ok (.aload_n 0, 1) := by decide +kernel
theorem dX5_back_23 : decode cX5_back 23 = .ok (.invokevirtual 129, 3) := by decide +kernel
theorem dX5_back_26 : decode cX5_back 26 = .ok (.aload_n 0, 1) := by decide +kernel
theorem dX5_back_27 : decode cX5_back 27 = .ok (.iload_n 1, 1) := by decide +kernel
theorem dX5_back_28 : decode cX5_back 28 = .ok (.iconst 3, 1) := by decide +kernel
theorem dX5_back_29 : decode cX5_back 29 = .ok (.iconst 1, 1) := by decide +kernel
theorem dX5_back_30 : decode cX5_back 30 = .ok (.invokevirtual 71, 3) := by decide +kernel
theorem dX5_back_33 : decode cX5_back 33 = .ok (.aload_n 0, 1) := by decide +kernel
theorem dX5_back_34 : decode cX5_back 34 = .ok (.iload_n 1, 1) := by decide +kernel
theorem dX5_back_35 : decode cX5_back 35 = .ok (.invokevirtual 59, 3) := by decide +kernel
theorem dX5_back_38 : decode cX5_back 38 = .ok (.ireturn, 1) := by decide +kernel
set_option maxRecDepth 20000 in
theorem ggX5_slow_X5_isFloor : GoodIn wsX5_slow wsX5_isFloor := goodIn_r _ [7, 8, 9, 10, 6, 11, 26, 27, 28, 29, 30, 31, 32, 33, 34, 35, 36] (by decide +kernel) (by decide +kernel)
set_option maxRecDepth 20000 in
theorem gX5_slow_X5_isFloor : GoodIn wsX5_slow (wsV RX5 82 RX5 yX5_isFloor wsX5_isFloor) := goodIn_app (goodIn_of _ (by decide +kernel)) ggX5_slow_X5_isFloor
set_option maxRecDepth 20000 in
theorem ggX5_slow_X5_in : GoodIn wsX5_slow wsX5_in := goodIn_r _ [11] (by decide +kernel) (by decide +kernel)
set_option maxRecDepth 20000 in
theorem gX5_slow_X5_in : GoodIn wsX5_slow (va_wsS RX5 36 yX5_in wsX5_in) := goodIn_app (goodIn_of _ (by decide +kernel)) ggX5_slow_X5_in
set_option maxRecDepth 20000 in
theorem ggX5_slow_X5_notes : GoodIn wsX5_slow wsX5_notes := goodIn_r _ [15, 16, 17, 8, 26, 27, 28, 29, 30, 31, 32, 33, 34, 35, 36] (by decide +kernel) (by decide +kernel)
set_option maxRecDepth 20000 in
theorem gX5_slow_X5_notes : GoodIn wsX5_slow (wsV RX5 129 RX5 yX5_notes wsX5_notes) := goodIn_app (goodIn_of _ (by decide +kernel)) ggX5_slow_X5_notes
set_option maxRecDepth 20000 in
theorem ggX5_slow_X5_of : GoodIn wsX5_slow wsX5_of := goodIn_r _ [21, 8, 26, 27, 28, 29, 30, 31, 32, 33, 34, 35, 36] (by decide +kernel) (by decide +kernel)
set_option maxRecDepth 20000 in
theorem gX5_slow_X5_of : GoodIn wsX5_slow (wsV RX5 44 RX5 yX5_of wsX5_of) := goodIn_app (goodIn_of _ (by decide +kernel)) ggX5_slow_X5_of
set_option maxRecDepth 20000 in
theorem ggX5_slow_X5_put : GoodIn wsX5_slow wsX5_put := goodIn_r _ [25, 8, 26, 27, 28, 29, 30, 31, 32, 33, 34, 35, 36] (by decide +kernel) (by decide +kernel)
set_option maxRecDepth 20000 in
theorem gX5_slow_X5_put : GoodIn wsX5_slow (wsV RX5 71 RX5 yX5_put wsX5_put) := goodIn_app (goodIn_of _ (by decide +kernel)) ggX5_slow_X5_put
theorem dX5_slow_0 : decode cX5_slow 0 = .ok (.aload_n 0, 1) := by decide +kernel
theorem dX5_slow_1 : decode cX5_slow 1 = .ok (.iload_n 1, 1) := by decide +kernel
theorem dX5_slow_2 : decode cX5_slow 2 = .ok (.invokevirtual 82, 3) := by decide +kernel
theorem dX5_slow_5 : decode cX5_slow 5 = .ok (.ifCond .ne 6, 3) := by decide +kernel
theorem dX5_slow_8 : decode cX5_slow 8 = .ok (.ldc 118, 2) := by decide +kernel
theorem dX5_slow_10 : decode cX5_slow 10 = .ok (.ireturn, 1) := by decide +kernel
theorem dX5_slow_11 : decode cX5_slow 11 = .ok (.iload_n 2, 1) := by decide +kernel
theorem dX5_slow_12 : decode cX5_slow 12 = .ok (.iconst 0, 1) := by decide +kernel
theorem dX5_slow_13 : decode cX5_slow 13 = .ok (.bipush 9, 2) := by decide +kernel
theorem dX5_slow_15 : decode cX5_slow 15 = .ok (.invokestatic 36, 3) := by decide +kernel
theorem dX5_slow_18 : decode cX5_slow 18 = .ok (.ifCond .ne 6, 3) := by decide +kernel
theorem dX5_slow_21 : decode cX5_slow 21 = .ok (.ldc 117, 2) := by decide +kernel
theorem dX5_slow_23 : decode cX5_slow 23 = .ok (.ireturn, 1) := by decide +kernel
theorem dX5_slow_24 : decode cX5_slow 24 = .ok (.aload_n 0, 1) := by decide +kernel
theorem dX5_slow_25 : decode cX5_slow 25 = .ok (.invokevirtual 129, 3) := by decide +kernel
theorem dX5_slow_28 : decode cX5_slow 28 = .ok (.aload_n 0, 1) := by decide +kernel
theorem dX5_slow_29 : decode cX5_slow 29 = .ok (.iload_n 1, 1) := by decide +kernel
theorem dX5_slow_30 : decode cX5_slow 30 = .ok (.iconst 1, 1) := by decide +kernel
theorem dX5_slow_31 : decode cX5_slow 31 = .ok (.invokevirtual 44, 3) := by decide +kernel
theorem dX5_slow_34 : decode cX5_slow 34 = .ok (.istore_n 3, 1) := by decide +kernel
theorem dX5_slow_35 : decode cX5_slow 35 = .ok (.aload_n 0, 1) := by decide +kernel
theorem dX5_slow_36 : decode cX5_slow 36 = .ok (.iload_n 1, 1) := by decide +kernel
theorem dX5_slow_37 : decode cX5_slow 37 = .ok (.iconst 1, 1) := by decide +kernel
theorem dX5_slow_38 : decode cX5_slow 38 = .ok (.iload_n 2, 1) := by decide +kernel
theorem dX5_slow_39 : decode cX5_slow 39 = .ok (.invokevirtual 71, 3) := by decide +kernel
theorem dX5_slow_42 : decode cX5_slow 42 = .ok (.iload_n 3, 1) := by decide +kernel
theorem dX5_slow_43 : decode cX5_slow 43 = .ok (.ireturn, 1) := by decide +kernel
set_option maxRecDepth 20000 in
theorem ggX5_bound_X5_in : GoodIn wsX5_bound wsX5_in := goodIn_r _ [7] (by decide +kernel) (by decide +kernel)
set_option maxRecDepth 20000 in
theorem gX5_bound_X5_in : GoodIn wsX5_bound (va_wsS RX5 36 yX5_in wsX5_in) := goodIn_app (goodIn_of _ (by decide +kernel)) ggX5_bound_X5_in
set_option maxRecDepth 20000 in
theorem ggX5_bound_X5_notes : GoodIn wsX5_bound wsX5_notes := goodIn_r _ [11, 12, 13, 2, 14, 15, 16, 17, 18, 19, 20, 21, 22, 23, 24] (by decide +kernel) (by decide +kernel)
set_option maxRecDepth 20000 in
theorem gX5_bound_X5_notes : GoodIn wsX5_bound (wsV RX5 129 RX5 yX5_notes wsX5_notes) := goodIn_app (goodIn_of _ (by decide +kernel)) ggX5_bound_X5_notes
theorem dX5_bound_0 : decode cX5_bound 0 = .ok (.iload_n 1, 1) := by decide +kernel
theorem dX5_bound_1 : decode cX5_bound 1 = .ok (.ifCond .ne 13, 3) := by decide +kernel
theorem dX5_bound_4 : decode cX5_bound 4 = .ok (.iload_n 2, 1) := by decide +kernel
theorem dX5_bound_5 : decode cX5_bound 5 = .ok (.iconst 1, 1) := by decide +kernel
theorem dX5_bound_6 : decode cX5_bound 6 = .ok (.bipush 50, 2) := by decide +kernel
theorem dX5_bound_8 : decode cX5_bound 8 = .ok (.invokestatic 36, 3) := by decide +kernel
theorem dX5_bound_11 : decode cX5_bound 11 = .ok (.ifCond .ne 38, 3) := by decide +kernel
theorem dX5_bound_14 : decode cX5_bound 14 = .ok (.iload_n 1, 1) := by decide +kernel
theorem dX5_bound_15 : decode cX5_bound 15 = .ok (.iconst 1, 1) := by decide +kernel
theorem dX5_bound_16 : decode cX5_bound 16 = .ok (.if_icmp .ne 14, 3) := by decide +kernel
theorem dX5_bound_19 : decode cX5_bound 19 = .ok (.iload_n 2, 1) := by decide +kernel
theorem dX5_bound_20 : decode cX5_bound 20 = .ok (.iconst 1, 1) := by decide +kernel
theorem dX5_bound_21 : decode cX5_bound 21 = .ok (.sipush 400, 3) := by decide +kernel
theorem dX5_bound_24 : decode cX5_bound 24 = .ok (.invokestatic 36, 3) := by decide +kernel
theorem dX5_bound_27 : decode cX5_bound 27 = .ok (.ifCond .ne 22, 3) := by decide +kernel
theorem dX5_bound_30 : decode cX5_bound 30 = .ok (.iload_n 1, 1) := by decide +kernel
theorem dX5_bound_31 : decode cX5_bound 31 = .ok (.iconst 2, 1) := by decide +kernel
theorem dX5_bound_32 : decode cX5_bound 32 = .ok (.if_icmp .eq 8, 3) := by decide +kernel
theorem dX5_bound_35 : decode cX5_bound 35 = .ok (.iload_n 1, 1) := by decide +kernel
theorem dX5_bound_36 : decode cX5_bound 36 = .ok (.iconst 3, 1) := by decide +kernel
theorem dX5_bound_37 : decode cX5_bound 37 = .ok (.if_icmp .ne 16, 3) := by decide +kernel
theorem dX5_bound_40 : decode cX5_bound 40 = .ok (.iload_n 2, 1) := by decide +kernel
theorem dX5_bound_41 : decode cX5_bound 41 = .ok (.iconst 0, 1) := by decide +kernel
theorem dX5_bound_42 : decode cX5_bound 42 = .ok (.iconst 2, 1) := by decide +kernel
theorem dX5_bound_43 : decode cX5_bound 43 = .ok (.invokestatic 36, 3) := by decide +kernel
theorem dX5_bound_46 : decode cX5_bound 46 = .ok (.ifCond .eq 7, 3) := by decide +kernel
theorem dX5_bound_49 : decode cX5_bound 49 = .ok (.iconst 1, 1) := by decide +kernel
theorem dX5_bound_50 : decode cX5_bound 50 = .ok (.goto 4, 3) := by decide +kernel
theorem dX5_bound_53 : decode cX5_bound 53 = .ok (.iconst 0, 1) := by decide +kernel
theorem dX5_bound_54 : decode cX5_bound 54 = .ok (.istore_n 3, 1) := by decide +kernel
theorem dX5_bound_55 : decode cX5_bound 55 = .ok (.iload_n 3, 1) := by decide +kernel
theorem dX5_bound_56 : decode cX5_bound 56 = .ok (.ifCond .ne 6, 3) := by decide +kernel
theorem dX5_bound_59 : decode cX5_bound 59 = .ok (.ldc 117, 2) := by decide +kernel
theorem dX5_bound_61 : decode cX5_bound 61 = .ok (.ireturn, 1) := by decide +kernel
theorem dX5_bound_62 : decode cX5_bound 62 = .ok (.iload_n 1, 1) := by decide +kernel
theorem dX5_bound_63 : decode cX5_bound 63 = .ok (.ifCond .ne 15, 3) := by decide +kernel
theorem dX5_bound_66 : decode cX5_bound 66 = .ok (.aload_n 0, 1) := by decide +kernel
theorem dX5_bound_67 : decode cX5_bound 67 = .ok (.getfield 7, 3) := by decide +kernel
theorem dX5_bound_70 : decode cX5_bound 70 = .ok (.iconst 1, 1) := by decide +kernel
theorem dX5_bound_71 : decode cX5_bound 71 = .ok (.iaload, 1) := by decide +kernel
theorem dX5_bound_72 : decode cX5_bound 72 = .ok (.ifCond .le 6, 3) := by decide +kernel
theorem dX5_bound_75 : decode cX5_bound 75 = .ok (.ldc 137, 2) := by decide +kernel
theorem dX5_bound_77 : decode cX5_bound 77 = .ok (.ireturn, 1) := by decide +kernel
theorem dX5_bound_78 : decode cX5_bound 78 = .ok (.aload_n 0, 1) := by decide +kernel
theorem dX5_bound_79 : decode cX5_bound 79 = .ok (.invokevirtual 129, 3) := by decide +kernel
theorem dX5_bound_82 : decode cX5_bound 82 = .ok (.aload_n 0, 1) := by decide +kernel
theorem dX5_bound_83 : decode cX5_bound 83 = .ok (.getfield 7, 3) := by decide +kernel
theorem dX5_bound_86 : decode cX5_bound 86 = .ok (.iconst 2, 1) := by decide +kernel
theorem dX5_bound_87 : decode cX5_bound 87 = .ok (.iload_n 1, 1) := by decide +kernel
theorem dX5_bound_88 : decode cX5_bound 88 = .ok (.iadd, 1) := by decide +kernel
theorem dX5_bound_89 : decode cX5_bound 89 = .ok (.iaload, 1) := by decide +kernel
theorem dX5_bound_90 : decode cX5_bound 90 = .ok (.istore 4, 2) := by decide +kernel
theorem dX5_bound_92 : decode cX5_bound 92 = .ok (.aload_n 0, 1) := by decide +kernel
theorem dX5_bound_93 : decode cX5_bound 93 = .ok (.getfield 7, 3) := by decide +kernel
theorem dX5_bound_96 : decode cX5_bound 96 = .ok (.iconst 2, 1) := by decide +kernel
theorem dX5_bound_97 : decode cX5_bound 97 = .ok (.iload_n 1, 1) := by decide +kernel
theorem dX5_bound_98 : decode cX5_bound 98 = .ok (.iadd, 1) := by decide +kernel
theorem dX5_bound_99 : decode cX5_bound 99 = .ok (.iload_n 2, 1) := by decide +kernel
theorem dX5_bound_100 : decode cX5_bound 100 = .ok (.iastore, 1) := by decide +kernel
theorem dX5_bound_101 : decode cX5_bound 101 = .ok (.iload 4, 2) := by decide +kernel
theorem dX5_bound_103 : decode cX5_bound 103 = .ok (.ireturn, 1) := by decide +kernel
set_option maxRecDepth 20000 in
theorem ggX5_clear_X5_notes : GoodIn wsX5_clear wsX5_notes := goodIn_r _ [6, 7, 8, 1, 9, 10, 11, 12, 13, 14, 15, 16, 17, 18, 19] (by decide +kernel) (by decide +kernel)
set_option maxRecDepth 20000 in
theorem gX5_clear_X5_notes : GoodIn wsX5_clear (wsV RX5 129 RX5 yX5_notes wsX5_notes) := goodIn_app (goodIn_of _ (by decide +kernel)) ggX5_clear_X5_notes
theorem dX5_clear_0 : decode cX5_clear 0 = .ok (.aload_n 0, 1) := by decide +kernel
theorem dX5_clear_1 : decode cX5_clear 1 = .ok (.invokevirtual 129, 3) := by decide +kernel
theorem dX5_clear_4 : decode cX5_clear 4 = .ok (.aload_n 0, 1) := by decide +kernel
theorem dX5_clear_5 : decode cX5_clear 5 = .ok (.getfield 7, 3) := by decide +kernel
theorem dX5_clear_8 : decode cX5_clear 8 = .ok (.iconst 1, 1) := by decide +kernel
theorem dX5_clear_9 : decode cX5_clear 9 = .ok (.iaload, 1) := by decide +kernel
theorem dX5_clear_10 : decode cX5_clear 10 = .ok (.istore_n 1, 1) := by decide +kernel
theorem dX5_clear_11 : decode cX5_clear 11 = .ok (.aload_n 0, 1) := by decide +kernel
theorem dX5_clear_12 : decode cX5_clear 12 = .ok (.getfield 7, 3) := by decide +kernel
theorem dX5_clear_15 : decode cX5_clear 15 = .ok (.iconst 1, 1) := by decide +kernel
theorem dX5_clear_16 : decode cX5_clear 16 = .ok (.iconst 0, 1) := by decide +kernel
theorem dX5_clear_17 : decode cX5_clear 17 = .ok (.iastore, 1) := by decide +kernel
theorem dX5_clear_18 : decode cX5_clear 18 = .ok (.aload_n 0, 1) := by decide +kernel
theorem dX5_clear_19 : decode cX5_clear 19 = .ok (.getfield 7, 3) := by decide +kernel
theorem dX5_clear_22 : decode cX5_clear 22 = .ok (.iconst 0, 1) := by decide +kernel
theorem dX5_clear_23 : decode cX5_clear 23 = .ok (.iconst 0, 1) := by decide +kernel
theorem dX5_clear_24 : decode cX5_clear 24 = .ok (.iastore, 1) := by decide +kernel
theorem dX5_clear_25 : decode cX5_clear 25 = .ok (.iload_n 1, 1) := by decide +kernel
theorem dX5_clear_26 : decode cX5_clear 26 = .ok (.ireturn, 1) := by decide +kernel
theorem dX5_drawOf_0 : decode cX5_drawOf 0 = .ok (.aload_n 0, 1) := by decide +kernel
theorem dX5_drawOf_1 : decode cX5_drawOf 1 = .ok (.aload_n 0, 1) := by decide +kernel
theorem dX5_drawOf_2 : decode cX5_drawOf 2 = .ok (.getfield 138, 3) := by decide +kernel
theorem dX5_drawOf_5 : decode cX5_drawOf 5 = .ok (.ldc2_w 142, 3) := by decide +kernel
theorem dX5_drawOf_8 : decode cX5_drawOf 8 = .ok (.lmul, 1) := by decide +kernel
theorem dX5_drawOf_9 : decode cX5_drawOf 9 = .ok (.ldc2_w 144, 3) := by decide +kernel
theorem dX5_drawOf_12 : decode cX5_drawOf 12 = .ok (.ladd, 1) := by decide +kernel
theorem dX5_drawOf_13 : decode cX5_drawOf 13 = .ok (.ldc2_w 146, 3) := by decide +kernel
theorem dX5_drawOf_16 : decode cX5_drawOf 16 = .ok (.lrem, 1) := by decide +kernel
theorem dX5_drawOf_17 : decode cX5_drawOf 17 = .ok (.putfield 138, 3) := by decide +kernel
theorem dX5_drawOf_20 : decode cX5_drawOf 20 = .ok (.aload_n 0, 1) := by decide +kernel
theorem dX5_drawOf_21 : decode cX5_drawOf 21 = .ok (.getfield 138, 3) := by decide +kernel
theorem dX5_drawOf_24 : decode cX5_drawOf 24 = .ok (.ldc2_w 148, 3) := by decide +kernel
theorem dX5_drawOf_27 : decode cX5_drawOf 27 = .ok (.ldiv, 1) := by decide +kernel
theorem dX5_drawOf_28 : decode cX5_drawOf 28 = .ok (.iload_n 1, 1) := by decide +kernel
theorem dX5_drawOf_29 : decode cX5_drawOf 29 = .ok (.i2l, 1) := by decide +kernel
theorem dX5_drawOf_30 : decode cX5_drawOf 30 = .ok (.lrem, 1) := by decide +kernel
theorem dX5_drawOf_31 : decode cX5_drawOf 31 = .ok (.l2i, 1) := by decide +kernel
theorem dX5_drawOf_32 : decode cX5_drawOf 32 = .ok (.ireturn, 1) := by decide +kernel
set_option maxRecDepth 20000 in
theorem ggX5_drift_X5_in : GoodIn wsX5_drift wsX5_in := goodIn_r _ [6] (by decide +kernel) (by decide +kernel)
set_option maxRecDepth 20000 in
theorem gX5_drift_X5_in : GoodIn wsX5_drift (va_wsS RX5 36 yX5_in wsX5_in) := goodIn_app (goodIn_of _ (by decide +kernel)) ggX5_drift_X5_in
set_option maxRecDepth 20000 in
theorem ggX5_drift_X5_notes : GoodIn wsX5_drift wsX5_notes := goodIn_r _ [10, 11, 12, 2, 99, 100, 101, 102, 103, 104, 105, 106, 107, 108, 109] (by decide +kernel) (by decide +kernel)
set_option maxRecDepth 20000 in
theorem gX5_drift_X5_notes : GoodIn wsX5_drift (wsV RX5 129 RX5 yX5_notes wsX5_notes) := goodIn_app (goodIn_of _ (by decide +kernel)) ggX5_drift_X5_notes
set_option maxRecDepth 20000 in
theorem ggX5_drift_X5_drawOf : GoodIn wsX5_drift wsX5_drawOf := goodIn_r _ [16, 17, 18, 19, 20, 21, 99, 100, 101, 102, 103, 104, 105, 106, 107, 108, 109] (by decide +kernel) (by decide +kernel)
set_option maxRecDepth 20000 in
theorem gX5_drift_X5_drawOf : GoodIn wsX5_drift (wsV RX5 150 RX5 yX5_drawOf wsX5_drawOf) := goodIn_app (goodIn_of _ (by decide +kernel)) ggX5_drift_X5_drawOf
set_option maxRecDepth 20000 in
theorem ggX5_drift_X5_mayPour : GoodIn wsX5_drift wsX5_mayPour := goodIn_r _ [25, 2, 26, 27, 28, 5, 29, 30, 31, 32, 33, 34, 35, 36, 37, 38, 39, 40, 41, 42, 43, 44, 45, 46, 47, 48, 49, 50, 51, 52, 53, 54, 55, 56, 57, 58, 59, 60, 61, 62, 63, 64, 65, 66, 67, 68, 69, 70, 71, 72, 73, 74, 75, 76, 77, 78, 79, 80, 81, 82, 99, 100, 101, 102, 103, 104, 105, 106, 107, 108, 109] (by decide +kernel) (by decide +kernel)
set_option maxRecDepth 20000 in
theorem gX5_drift_X5_mayPour : GoodIn wsX5_drift (wsV RX5 133 RX5 yX5_mayPour wsX5_mayPour) := goodIn_app (goodIn_of _ (by decide +kernel)) ggX5_drift_X5_mayPour
set_option maxRecDepth 20000 in
theorem ggX5_drift_X5_pours : GoodIn wsX5_drift wsX5_pours := goodIn_r _ [34, 2, 35, 36, 37, 5, 38, 39, 40, 41, 42, 43, 44, 45, 46, 47, 48, 49, 50, 51, 52, 53, 54, 55, 56, 57, 58, 59, 60, 61, 62, 63, 64, 65, 66, 67, 68, 69, 70, 71, 72, 73, 74, 99, 100, 101, 102, 103, 104, 105, 106, 107, 108, 109] (by decide +kernel) (by decide +kernel)
set_option maxRecDepth 20000 in
theorem gX5_drift_X5_pours : GoodIn wsX5_drift (wsV RX5 99 RX5 yX5_pours wsX5_pours) := goodIn_app (goodIn_of _ (by decide +kernel)) ggX5_drift_X5_pours
set_option maxRecDepth 20000 in
theorem ggX5_drift_X5_mayStrike : GoodIn wsX5_drift wsX5_mayStrike := goodIn_r _ [86, 87, 88, 89, 5, 90, 2, 3, 4, 6, 52, 53, 54, 55, 56, 57, 58, 59, 26, 27, 28, 29, 30, 91, 92, 93, 94, 95, 96, 97, 98, 60, 61, 62, 63, 35, 36, 37, 38, 39, 40, 41, 42, 43, 44, 45, 46, 47, 48, 49, 50, 51, 64, 65, 66, 67, 68, 69, 70, 71, 72, 73, 74, 75, 76, 77, 78, 79, 80, 81, 82, 99, 100, 101, 102, 103, 104, 105, 106, 107, 108, 109] (by decide +kernel) (by decide +kernel)
set_option maxRecDepth 20000 in
theorem gX5_drift_X5_mayStrike : GoodIn wsX5_drift (wsV RX5 102 RX5 yX5_mayStrike wsX5_mayStrike) := goodIn_app (goodIn_of _ (by decide +kernel)) ggX5_drift_X5_mayStrike
set_option maxRecDepth 20000 in
theorem ggX5_drift_X5_strikes : GoodIn wsX5_drift wsX5_strikes := goodIn_r _ [94, 95, 96, 97, 5, 98, 2, 60, 61, 62, 63, 52, 53, 54, 55, 56, 57, 58, 59, 35, 36, 37, 38, 39, 40, 41, 42, 43, 44, 45, 46, 47, 48, 49, 50, 51, 64, 65, 66, 67, 68, 69, 70, 71, 72, 73, 74, 99, 100, 101, 102, 103, 104, 105, 106, 107, 108, 109] (by decide +kernel) (by decide +kernel)
set_option maxRecDepth 20000 in
theorem gX5_drift_X5_strikes : GoodIn wsX5_drift (wsV RX5 88 RX5 yX5_strikes wsX5_strikes) := goodIn_app (goodIn_of _ (by decide +kernel)) ggX5_drift_X5_strikes
set_option maxRecDepth 20000 in
theorem ggX5_drift_X5_isFloor : GoodIn wsX5_drift wsX5_isFloor := goodIn_r _ [90, 2, 3, 4, 5, 6, 99, 100, 101, 102, 103, 104, 105, 106, 107, 108, 109] (by decide +kernel) (by decide +kernel)
set_option maxRecDepth 20000 in
theorem gX5_drift_X5_isFloor : GoodIn wsX5_drift (wsV RX5 82 RX5 yX5_isFloor wsX5_isFloor) := goodIn_app (goodIn_of _ (by decide +kernel)) ggX5_drift_X5_isFloor
set_option maxRecDepth 20000 in
theorem ggX5_drift_X5_put : GoodIn wsX5_drift wsX5_put := goodIn_r _ [38, 2, 99, 100, 101, 102, 103, 104, 105, 106, 107, 108, 109] (by decide +kernel) (by decide +kernel)
set_option maxRecDepth 20000 in
theorem gX5_drift_X5_put : GoodIn wsX5_drift (wsV RX5 71 RX5 yX5_put wsX5_put) := goodIn_app (goodIn_of _ (by decide +kernel)) ggX5_drift_X5_put
theorem dX5_drift_0 : decode cX5_drift 0 = .ok (.iload_n 1, 1) := by decide +kernel
theorem dX5_drift_1 : decode cX5_drift 1 = .ok (.iconst 1, 1) := by decide +kernel
theorem dX5_drift_2 : decode cX5_drift 2 = .ok (.bipush 20, 2) := by decide +kernel
theorem dX5_drift_4 : decode cX5_drift 4 = .ok (.invokestatic 36, 3) := by decide +kernel
theorem dX5_drift_7 : decode cX5_drift 7 = .ok (.ifCond .ne 6, 3) := by decide +kernel
theorem dX5_drift_10 : decode cX5_drift 10 = .ok (.ldc 117, 2) := by decide +kernel
theorem dX5_drift_12 : decode cX5_drift 12 = .ok (.ireturn, 1) := by decide +kernel
theorem dX5_drift_13 : decode cX5_drift 13 = .ok (.iconst 0, 1) := by decide +kernel
theorem dX5_drift_14 : decode cX5_drift 14 = .ok (.istore_n 2, 1) := by decide +kernel
theorem dX5_drift_15 : decode cX5_drift 15 = .ok (.iload_n 2, 1) := by decide +kernel
theorem dX5_drift_16 : decode cX5_drift 16 = .ok (.iload_n 1, 1) := by decide +kernel
theorem dX5_drift_17 : decode cX5_drift 17 = .ok (.if_icmp .ge 118, 3) := by decide +kernel
theorem dX5_drift_20 : decode cX5_drift 20 = .ok (.aload_n 0, 1) := by decide +kernel
theorem dX5_drift_21 : decode cX5_drift 21 = .ok (.invokevirtual 129, 3) := by decide +kernel
theorem dX5_drift_24 : decode cX5_drift 24 = .ok (.aload_n 0, 1) := by decide +kernel
theorem dX5_drift_25 : decode cX5_drift 25 = .ok (.iconst 5, 1) := by decide +kernel
theorem dX5_drift_26 : decode cX5_drift 26 = .ok (.invokevirtual 150, 3) := by decide +kernel
theorem dX5_drift_29 : decode cX5_drift 29 = .ok (.istore_n 3, 1) := by decide +kernel
theorem dX5_drift_30 : decode cX5_drift 30 = .ok (.aload_n 0, 1) := by decide +kernel
theorem dX5_drift_31 : decode cX5_drift 31 = .ok (.bipush 8, 2) := by decide +kernel
theorem dX5_drift_33 : decode cX5_drift 33 = .ok (.invokevirtual 150, 3) := by decide +kernel
theorem dX5_drift_36 : decode cX5_drift 36 = .ok (.istore 4, 2) := by decide +kernel
theorem dX5_drift_38 : decode cX5_drift 38 = .ok (.aload_n 0, 1) := by decide +kernel
theorem dX5_drift_39 : decode cX5_drift 39 = .ok (.bipush 10, 2) := by decide +kernel
theorem dX5_drift_41 : decode cX5_drift 41 = .ok (.invokevirtual 150, 3) := by decide +kernel
theorem dX5_drift_44 : decode cX5_drift 44 = .ok (.istore 5, 2) := by decide +kernel
theorem dX5_drift_46 : decode cX5_drift 46 = .ok (.iload_n 3, 1) := by decide +kernel
theorem dX5_drift_47 : decode cX5_drift 47 = .ok (.iconst 2, 1) := by decide +kernel
theorem dX5_drift_48 : decode cX5_drift 48 = .ok (.if_icmp .ge 17, 3) := by decide +kernel
theorem dX5_drift_51 : decode cX5_drift 51 = .ok (.aload_n 0, 1) := by decide +kernel
theorem dX5_drift_52 : decode cX5_drift 52 = .ok (.getfield 7, 3) := by decide +kernel
theorem dX5_drift_55 : decode cX5_drift 55 = .ok (.iconst 0, 1) := by decide +kernel
theorem dX5_drift_56 : decode cX5_drift 56 = .ok (.dup2, 1) := by decide +kernel
theorem dX5_drift_57 : decode cX5_drift 57 = .ok (.iaload, 1) := by decide +kernel
theorem dX5_drift_58 : decode cX5_drift 58 = .ok (.iload 5, 2) := by decide +kernel
theorem dX5_drift_60 : decode cX5_drift 60 = .ok (.iadd, 1) := by decide +kernel
theorem dX5_drift_61 : decode cX5_drift 61 = .ok (.iastore, 1) := by decide +kernel
theorem dX5_drift_62 : decode cX5_drift 62 = .ok (.goto 67, 3) := by decide +kernel
theorem dX5_drift_65 : decode cX5_drift 65 = .ok (.iload_n 3, 1) := by decide +kernel
theorem dX5_drift_66 : decode cX5_drift 66 = .ok (.iconst 2, 1) := by decide +kernel
theorem dX5_drift_67 : decode cX5_drift 67 = .ok (.if_icmp .ne 17, 3) := by decide +kernel
theorem dX5_drift_70 : decode cX5_drift 70 = .ok (.aload_n 0, 1) := by decide +kernel
theorem dX5_drift_71 : decode cX5_drift 71 = .ok (.invokevirtual 133, 3) := by decide +kernel
theorem dX5_drift_74 : decode cX5_drift 74 = .ok (.ifCond .eq 10, 3) := by decide +kernel
theorem dX5_drift_77 : decode cX5_drift 77 = .ok (.aload_n 0, 1) := by decide +kernel
theorem dX5_drift_78 : decode cX5_drift 78 = .ok (.invokevirtual 99, 3) := by decide +kernel
theorem dX5_drift_81 : decode cX5_drift 81 = .ok (.goto 48, 3) := by decide +kernel
theorem dX5_drift_84 : decode cX5_drift 84 = .ok (.iload_n 3, 1) := by decide +kernel
theorem dX5_drift_85 : decode cX5_drift 85 = .ok (.iconst 3, 1) := by decide +kernel
theorem dX5_drift_86 : decode cX5_drift 86 = .ok (.if_icmp .ne 21, 3) := by decide +kernel
theorem dX5_drift_89 : decode cX5_drift 89 = .ok (.aload_n 0, 1) := by decide +kernel
theorem dX5_drift_90 : decode cX5_drift 90 = .ok (.iload 4, 2) := by decide +kernel
theorem dX5_drift_92 : decode cX5_drift 92 = .ok (.invokevirtual 102, 3) := by decide +kernel
theorem dX5_drift_95 : decode cX5_drift 95 = .ok (.ifCond .eq 12, 3) := by decide +kernel
theorem dX5_drift_98 : decode cX5_drift 98 = .ok (.aload_n 0, 1) := by decide +kernel
theorem dX5_drift_99 : decode cX5_drift 99 = .ok (.iload 4, 2) := by decide +kernel
theorem dX5_drift_101 : decode cX5_drift 101 = .ok (.invokevirtual 88, 3) := by decide +kernel
theorem dX5_drift_104 : decode cX5_drift 104 = .ok (.goto 25, 3) := by decide +kernel
theorem dX5_drift_107 : decode cX5_drift 107 = .ok (.iload_n 3, 1) := by decide +kernel
theorem dX5_drift_108 : decode cX5_drift 108 = .ok (.iconst 4, 1) := by decide +kernel
theorem dX5_drift_109 : decode cX5_drift 109 = .ok (.if_icmp .ne 20, 3) := by decide +kernel
theorem dX5_drift_112 : decode cX5_drift 112 = .ok (.aload_n 0, 1) := by decide +kernel
theorem dX5_drift_113 : decode cX5_drift 113 = .ok (.iload 4, 2) := by decide +kernel
theorem dX5_drift_115 : decode cX5_drift 115 = .ok (.invokevirtual 82, 3) := by decide +kernel
theorem dX5_drift_118 : decode cX5_drift 118 = .ok (.ifCond .eq 11, 3) := by decide +kernel
theorem dX5_drift_121 : decode cX5_drift 121 = .ok (.aload_n 0, 1) := by decide +kernel
theorem dX5_drift_122 : decode cX5_drift 122 = .ok (.iload 4, 2) := by decide +kernel
theorem dX5_drift_124 : decode cX5_drift 124 = .ok (.iconst 3, 1) := by decide +kernel
theorem dX5_drift_125 : decode cX5_drift 125 = .ok (.iconst 1, 1) := by decide +kernel
theorem dX5_drift_126 : decode cX5_drift 126 = .ok (.invokevirtual 71, 3) := by decide +kernel
theorem dX5_drift_129 : decode cX5_drift 129 = .ok (.iinc 2 1, 3) := by decide +kernel
theorem dX5_drift_132 : decode cX5_drift 132 = .ok (.goto (-117), 3) := by decide +kernel
theorem dX5_drift_135 : decode cX5_drift 135 = .ok (.aload_n 0, 1) := by decide +kernel
theorem dX5_drift_136 : decode cX5_drift 136 = .ok (.getfield 7, 3) := by decide +kernel
theorem dX5_drift_139 : decode cX5_drift 139 = .ok (.iconst 1, 1) := by decide +kernel
theorem dX5_drift_140 : decode cX5_drift 140 = .ok (.iaload, 1) := by decide +kernel
theorem dX5_drift_141 : decode cX5_drift 141 = .ok (.ireturn, 1) := by decide +kernel
set_option maxRecDepth 20000 in
theorem ggX5_undo_X5_in : GoodIn wsX5_undo wsX5_in := goodIn_r _ [9] (by decide +kernel) (by decide +kernel)
set_option maxRecDepth 20000 in
theorem gX5_undo_X5_in : GoodIn wsX5_undo (va_wsS RX5 36 yX5_in wsX5_in) := goodIn_app (goodIn_of _ (by decide +kernel)) ggX5_undo_X5_in
theorem dX5_undo_0 : decode cX5_undo 0 = .ok (.iload_n 1, 1) := by decide +kernel
theorem dX5_undo_1 : decode cX5_undo 1 = .ok (.iconst 1, 1) := by decide +kernel
theorem dX5_undo_2 : decode cX5_undo 2 = .ok (.bipush 20, 2) := by decide +kernel
theorem dX5_undo_4 : decode cX5_undo 4 = .ok (.invokestatic 36, 3) := by decide +kernel
theorem dX5_undo_7 : decode cX5_undo 7 = .ok (.ifCond .ne 6, 3) := by decide +kernel
theorem dX5_undo_10 : decode cX5_undo 10 = .ok (.ldc 117, 2) := by decide +kernel
theorem dX5_undo_12 : decode cX5_undo 12 = .ok (.ireturn, 1) := by decide +kernel
theorem dX5_undo_13 : decode cX5_undo 13 = .ok (.iload_n 1, 1) := by decide +kernel
theorem dX5_undo_14 : decode cX5_undo 14 = .ok (.aload_n 0, 1) := by decide +kernel
theorem dX5_undo_15 : decode cX5_undo 15 = .ok (.getfield 40, 3) := by decide +kernel
theorem dX5_undo_18 : decode cX5_undo 18 = .ok (.if_icmp .le 6, 3) := by decide +kernel
theorem dX5_undo_21 : decode cX5_undo 21 = .ok (.ldc 137, 2) := by decide +kernel
theorem dX5_undo_23 : decode cX5_undo 23 = .ok (.ireturn, 1) := by decide +kernel
theorem dX5_undo_24 : decode cX5_undo 24 = .ok (.aload_n 0, 1) := by decide +kernel
theorem dX5_undo_25 : decode cX5_undo 25 = .ok (.dup, 1) := by decide +kernel
theorem dX5_undo_26 : decode cX5_undo 26 = .ok (.getfield 40, 3) := by decide +kernel
theorem dX5_undo_29 : decode cX5_undo 29 = .ok (.iload_n 1, 1) := by decide +kernel
theorem dX5_undo_30 : decode cX5_undo 30 = .ok (.isub, 1) := by decide +kernel
theorem dX5_undo_31 : decode cX5_undo 31 = .ok (.putfield 40, 3) := by decide +kernel
theorem dX5_undo_34 : decode cX5_undo 34 = .ok (.iconst 0, 1) := by decide +kernel
theorem dX5_undo_35 : decode cX5_undo 35 = .ok (.istore_n 2, 1) := by decide +kernel
theorem dX5_undo_36 : decode cX5_undo 36 = .ok (.iload_n 2, 1) := by decide +kernel
theorem dX5_undo_37 : decode cX5_undo 37 = .ok (.bipush 38, 2) := by decide +kernel
theorem dX5_undo_39 : decode cX5_undo 39 = .ok (.if_icmp .ge 29, 3) := by decide +kernel
theorem dX5_undo_42 : decode cX5_undo 42 = .ok (.aload_n 0, 1) := by decide +kernel
theorem dX5_undo_43 : decode cX5_undo 43 = .ok (.getfield 7, 3) := by decide +kernel
theorem dX5_undo_46 : decode cX5_undo 46 = .ok (.iload_n 2, 1) := by decide +kernel
theorem dX5_undo_47 : decode cX5_undo 47 = .ok (.aload_n 0, 1) := by decide +kernel
theorem dX5_undo_48 : decode cX5_undo 48 = .ok (.getfield 16, 3) := by decide +kernel
theorem dX5_undo_51 : decode cX5_undo 51 = .ok (.bipush 38, 2) := by decide +kernel
theorem dX5_undo_53 : decode cX5_undo 53 = .ok (.aload_n 0, 1) := by decide +kernel
theorem dX5_undo_54 : decode cX5_undo 54 = .ok (.getfield 40, 3) := by decide +kernel
theorem dX5_undo_57 : decode cX5_undo 57 = .ok (.imul, 1) := by decide +kernel
theorem dX5_undo_58 : decode cX5_undo 58 = .ok (.iload_n 2, 1) := by decide +kernel
theorem dX5_undo_59 : decode cX5_undo 59 = .ok (.iadd, 1) := by decide +kernel
theorem dX5_undo_60 : decode cX5_undo 60 = .ok (.iaload, 1) := by decide +kernel
theorem dX5_undo_61 : decode cX5_undo 61 = .ok (.iastore, 1) := by decide +kernel
theorem dX5_undo_62 : decode cX5_undo 62 = .ok (.iinc 2 1, 3) := by decide +kernel
theorem dX5_undo_65 : decode cX5_undo 65 = .ok (.goto (-29), 3) := by decide +kernel
theorem dX5_undo_68 : decode cX5_undo 68 = .ok (.aload_n 0, 1) := by decide +kernel
theorem dX5_undo_69 : decode cX5_undo 69 = .ok (.getfield 7, 3) := by decide +kernel
theorem dX5_undo_72 : decode cX5_undo 72 = .ok (.iconst 0, 1) := by decide +kernel
theorem dX5_undo_73 : decode cX5_undo 73 = .ok (.iaload, 1) := by decide +kernel
theorem dX5_undo_74 : decode cX5_undo 74 = .ok (.ireturn, 1) := by decide +kernel
set_option maxRecDepth 20000 in
theorem ggX5_write_X5_isFloor : GoodIn wsX5_write wsX5_isFloor := goodIn_r _ [9, 10, 11, 12, 8, 13, 14, 15, 16, 17, 18, 19, 20, 21, 22, 23, 24] (by decide +kernel) (by decide +kernel)
set_option maxRecDepth 20000 in
theorem gX5_write_X5_isFloor : GoodIn wsX5_write (wsV RX5 82 RX5 yX5_isFloor wsX5_isFloor) := goodIn_app (goodIn_of _ (by decide +kernel)) ggX5_write_X5_isFloor
theorem dX5_write_0 : decode cX5_write 0 = .ok (.aload_n 0, 1) := by decide +kernel
theorem dX5_write_1 : decode cX5_write 1 = .ok (.iload_n 1, 1) := by decide +kernel
theorem dX5_write_2 : decode cX5_write 2 = .ok (.invokevirtual 82, 3) := by decide +kernel
theorem dX5_write_5 : decode cX5_write 5 = .ok (.ifCond .ne 6, 3) := by decide +kernel
theorem dX5_write_8 : decode cX5_write 8 = .ok (.ldc 118, 2) := by decide +kernel
theorem dX5_write_10 : decode cX5_write 10 = .ok (.ireturn, 1) := by decide +kernel
theorem dX5_write_11 : decode cX5_write 11 = .ok (.aload_n 0, 1) := by decide +kernel
theorem dX5_write_12 : decode cX5_write 12 = .ok (.getfield 105, 3) := by decide +kernel
theorem dX5_write_15 : decode cX5_write 15 = .ok (.bipush 20, 2) := by decide +kernel
theorem dX5_write_17 : decode cX5_write 17 = .ok (.if_icmp .ne 6, 3) := by decide +kernel
theorem dX5_write_20 : decode cX5_write 20 = .ok (.ldc 132, 2) := by decide +kernel
theorem dX5_write_22 : decode cX5_write 22 = .ok (.ireturn, 1) := by decide +kernel
theorem dX5_write_23 : decode cX5_write 23 = .ok (.aload_n 0, 1) := by decide +kernel
theorem dX5_write_24 : decode cX5_write 24 = .ok (.getfield 30, 3) := by decide +kernel
theorem dX5_write_27 : decode cX5_write 27 = .ok (.iconst 2, 1) := by decide +kernel
theorem dX5_write_28 : decode cX5_write 28 = .ok (.aload_n 0, 1) := by decide +kernel
theorem dX5_write_29 : decode cX5_write 29 = .ok (.getfield 105, 3) := by decide +kernel
theorem dX5_write_32 : decode cX5_write 32 = .ok (.imul, 1) := by decide +kernel
theorem dX5_write_33 : decode cX5_write 33 = .ok (.iload_n 1, 1) := by decide +kernel
theorem dX5_write_34 : decode cX5_write 34 = .ok (.iastore, 1) := by decide +kernel
theorem dX5_write_35 : decode cX5_write 35 = .ok (.aload_n 0, 1) := by decide +kernel
theorem dX5_write_36 : decode cX5_write 36 = .ok (.getfield 30, 3) := by decide +kernel
theorem dX5_write_39 : decode cX5_write 39 = .ok (.iconst 2, 1) := by decide +kernel
theorem dX5_write_40 : decode cX5_write 40 = .ok (.aload_n 0, 1) := by decide +kernel
theorem dX5_write_41 : decode cX5_write 41 = .ok (.getfield 105, 3) := by decide +kernel
theorem dX5_write_44 : decode cX5_write 44 = .ok (.imul, 1) := by decide +kernel
theorem dX5_write_45 : decode cX5_write 45 = .ok (.iconst 1, 1) := by decide +kernel
theorem dX5_write_46 : decode cX5_write 46 = .ok (.iadd, 1) := by decide +kernel
theorem dX5_write_47 : decode cX5_write 47 = .ok (.iload_n 2, 1) := by decide +kernel
theorem dX5_write_48 : decode cX5_write 48 = .ok (.iastore, 1) := by decide +kernel
theorem dX5_write_49 : decode cX5_write 49 = .ok (.aload_n 0, 1) := by decide +kernel
theorem dX5_write_50 : decode cX5_write 50 = .ok (.dup, 1) := by decide +kernel
theorem dX5_write_51 : decode cX5_write 51 = .ok (.getfield 105, 3) := by decide +kernel
theorem dX5_write_54 : decode cX5_write 54 = .ok (.iconst 1, 1) := by decide +kernel
theorem dX5_write_55 : decode cX5_write 55 = .ok (.iadd, 1) := by decide +kernel
theorem dX5_write_56 : decode cX5_write 56 = .ok (.putfield 105, 3) := by decide +kernel
theorem dX5_write_59 : decode cX5_write 59 = .ok (.aload_n 0, 1) := by decide +kernel
theorem dX5_write_60 : decode cX5_write 60 = .ok (.getfield 105, 3) := by decide +kernel
theorem dX5_write_63 : decode cX5_write 63 = .ok (.ireturn, 1) := by decide +kernel
theorem dX5_tear_0 : decode cX5_tear 0 = .ok (.aload_n 0, 1) := by decide +kernel
theorem dX5_tear_1 : decode cX5_tear 1 = .ok (.getfield 105, 3) := by decide +kernel
theorem dX5_tear_4 : decode cX5_tear 4 = .ok (.istore_n 1, 1) := by decide +kernel
theorem dX5_tear_5 : decode cX5_tear 5 = .ok (.aload_n 0, 1) := by decide +kernel
theorem dX5_tear_6 : decode cX5_tear 6 = .ok (.iconst 0, 1) := by decide +kernel
theorem dX5_tear_7 : decode cX5_tear 7 = .ok (.putfield 105, 3) := by decide +kernel
theorem dX5_tear_10 : decode cX5_tear 10 = .ok (.iload_n 1, 1) := by decide +kernel
theorem dX5_tear_11 : decode cX5_tear 11 = .ok (.ireturn, 1) := by decide +kernel
theorem dX5_seed_0 : decode cX5_seed 0 = .ok (.iload_n 1, 1) := by decide +kernel
theorem dX5_seed_1 : decode cX5_seed 1 = .ok (.ifCond .ge 6, 3) := by decide +kernel
theorem dX5_seed_4 : decode cX5_seed 4 = .ok (.ldc 117, 2) := by decide +kernel
theorem dX5_seed_6 : decode cX5_seed 6 = .ok (.ireturn, 1) := by decide +kernel
theorem dX5_seed_7 : decode cX5_seed 7 = .ok (.aload_n 0, 1) := by decide +kernel
theorem dX5_seed_8 : decode cX5_seed 8 = .ok (.getfield 138, 3) := by decide +kernel
theorem dX5_seed_11 : decode cX5_seed 11 = .ok (.l2i, 1) := by decide +kernel
theorem dX5_seed_12 : decode cX5_seed 12 = .ok (.istore_n 2, 1) := by decide +kernel
theorem dX5_seed_13 : decode cX5_seed 13 = .ok (.aload_n 0, 1) := by decide +kernel
theorem dX5_seed_14 : decode cX5_seed 14 = .ok (.iload_n 1, 1) := by decide +kernel
theorem dX5_seed_15 : decode cX5_seed 15 = .ok (.i2l, 1) := by decide +kernel
theorem dX5_seed_16 : decode cX5_seed 16 = .ok (.putfield 138, 3) := by decide +kernel
theorem dX5_seed_19 : decode cX5_seed 19 = .ok (.iload_n 2, 1) := by decide +kernel
theorem dX5_seed_20 : decode cX5_seed 20 = .ok (.ireturn, 1) := by decide +kernel
set_option maxRecDepth 20000 in
theorem ggX5_keep_X5_in : GoodIn wsX5_keep wsX5_in := goodIn_r _ [11] (by decide +kernel) (by decide +kernel)
set_option maxRecDepth 20000 in
theorem gX5_keep_X5_in : GoodIn wsX5_keep (va_wsS RX5 36 yX5_in wsX5_in) := goodIn_app (goodIn_of _ (by decide +kernel)) ggX5_keep_X5_in
theorem dX5_keep_0 : decode cX5_keep 0 = .ok (.iload_n 1, 1) := by decide +kernel
theorem dX5_keep_1 : decode cX5_keep 1 = .ok (.iconst 0, 1) := by decide +kernel
theorem dX5_keep_2 : decode cX5_keep 2 = .ok (.iconst 1, 1) := by decide +kernel
theorem dX5_keep_3 : decode cX5_keep 3 = .ok (.invokestatic 36, 3) := by decide +kernel
theorem dX5_keep_6 : decode cX5_keep 6 = .ok (.ifCond .ne 6, 3) := by decide +kernel
theorem dX5_keep_9 : decode cX5_keep 9 = .ok (.ldc 118, 2) := by decide +kernel
theorem dX5_keep_11 : decode cX5_keep 11 = .ok (.ireturn, 1) := by decide +kernel
theorem dX5_keep_12 : decode cX5_keep 12 = .ok (.iconst 0, 1) := by decide +kernel
theorem dX5_keep_13 : decode cX5_keep 13 = .ok (.istore_n 2, 1) := by decide +kernel
theorem dX5_keep_14 : decode cX5_keep 14 = .ok (.iload_n 2, 1) := by decide +kernel
theorem dX5_keep_15 : decode cX5_keep 15 = .ok (.bipush 38, 2) := by decide +kernel
theorem dX5_keep_17 : decode cX5_keep 17 = .ok (.if_icmp .ge 26, 3) := by decide +kernel
theorem dX5_keep_20 : decode cX5_keep 20 = .ok (.aload_n 0, 1) := by decide +kernel
theorem dX5_keep_21 : decode cX5_keep 21 = .ok (.getfield 19, 3) := by decide +kernel
theorem dX5_keep_24 : decode cX5_keep 24 = .ok (.bipush 38, 2) := by decide +kernel
theorem dX5_keep_26 : decode cX5_keep 26 = .ok (.iload_n 1, 1) := by decide +kernel
theorem dX5_keep_27 : decode cX5_keep 27 = .ok (.imul, 1) := by decide +kernel
theorem dX5_keep_28 : decode cX5_keep 28 = .ok (.iload_n 2, 1) := by decide +kernel
theorem dX5_keep_29 : decode cX5_keep 29 = .ok (.iadd, 1) := by decide +kernel
theorem dX5_keep_30 : decode cX5_keep 30 = .ok (.aload_n 0, 1) := by decide +kernel
theorem dX5_keep_31 : decode cX5_keep 31 = .ok (.getfield 7, 3) := by decide +kernel
theorem dX5_keep_34 : decode cX5_keep 34 = .ok (.iload_n 2, 1) := by decide +kernel
theorem dX5_keep_35 : decode cX5_keep 35 = .ok (.iaload, 1) := by decide +kernel
theorem dX5_keep_36 : decode cX5_keep 36 = .ok (.iastore, 1) := by decide +kernel
theorem dX5_keep_37 : decode cX5_keep 37 = .ok (.iinc 2 1, 3) := by decide +kernel
theorem dX5_keep_40 : decode cX5_keep 40 = .ok (.goto (-26), 3) := by decide +kernel
theorem dX5_keep_43 : decode cX5_keep 43 = .ok (.aload_n 0, 1) := by decide +kernel
theorem dX5_keep_44 : decode cX5_keep 44 = .ok (.getfield 22, 3) := by decide +kernel
theorem dX5_keep_47 : decode cX5_keep 47 = .ok (.iload_n 1, 1) := by decide +kernel
theorem dX5_keep_48 : decode cX5_keep 48 = .ok (.aload_n 0, 1) := by decide +kernel
theorem dX5_keep_49 : decode cX5_keep 49 = .ok (.getfield 138, 3) := by decide +kernel
theorem dX5_keep_52 : decode cX5_keep 52 = .ok (.lastore, 1) := by decide +kernel
theorem dX5_keep_53 : decode cX5_keep 53 = .ok (.aload_n 0, 1) := by decide +kernel
theorem dX5_keep_54 : decode cX5_keep 54 = .ok (.getfield 26, 3) := by decide +kernel
theorem dX5_keep_57 : decode cX5_keep 57 = .ok (.iload_n 1, 1) := by decide +kernel
theorem dX5_keep_58 : decode cX5_keep 58 = .ok (.iconst 1, 1) := by decide +kernel
theorem dX5_keep_59 : decode cX5_keep 59 = .ok (.bastore, 1) := by decide +kernel
theorem dX5_keep_60 : decode cX5_keep 60 = .ok (.aload_n 0, 1) := by decide +kernel
theorem dX5_keep_61 : decode cX5_keep 61 = .ok (.iconst 0, 1) := by decide +kernel
theorem dX5_keep_62 : decode cX5_keep 62 = .ok (.putfield 40, 3) := by decide +kernel
theorem dX5_keep_65 : decode cX5_keep 65 = .ok (.iconst 1, 1) := by decide +kernel
theorem dX5_keep_66 : decode cX5_keep 66 = .ok (.ireturn, 1) := by decide +kernel
set_option maxRecDepth 20000 in
theorem ggX5_goBack_X5_in : GoodIn wsX5_goBack wsX5_in := goodIn_r _ [12] (by decide +kernel) (by decide +kernel)
set_option maxRecDepth 20000 in
theorem gX5_goBack_X5_in : GoodIn wsX5_goBack (va_wsS RX5 36 yX5_in wsX5_in) := goodIn_app (goodIn_of _ (by decide +kernel)) ggX5_goBack_X5_in
theorem dX5_goBack_0 : decode cX5_goBack 0 = .ok (.iload_n 1, 1) := by decide +kernel
theorem dX5_goBack_1 : decode cX5_goBack 1 = .ok (.iconst 0, 1) := by decide +kernel
theorem dX5_goBack_2 : decode cX5_goBack 2 = .ok (.iconst 1, 1) := by decide +kernel
theorem dX5_goBack_3 : decode cX5_goBack 3 = .ok (.invokestatic 36, 3) := by decide +kernel
theorem dX5_goBack_6 : decode cX5_goBack 6 = .ok (.ifCond .ne 6, 3) := by decide +kernel
theorem dX5_goBack_9 : decode cX5_goBack 9 = .ok (.ldc 118, 2) := by decide +kernel
theorem dX5_goBack_11 : decode cX5_goBack 11 = .ok (.ireturn, 1) := by decide +kernel
theorem dX5_goBack_12 : decode cX5_goBack 12 = .ok (.aload_n 0, 1) := by decide +kernel
theorem dX5_goBack_13 : decode cX5_goBack 13 = .ok (.getfield 26, 3) := by decide +kernel
theorem dX5_goBack_16 : decode cX5_goBack 16 = .ok (.iload_n 1, 1) := by decide +kernel
theorem dX5_goBack_17 : decode cX5_goBack 17 = .ok (.baload, 1) := by decide +kernel
theorem dX5_goBack_18 : decode cX5_goBack 18 = .ok (.ifCond .ne 6, 3) := by decide +kernel
theorem dX5_goBack_21 : decode cX5_goBack 21 = .ok (.ldc 137, 2) := by decide +kernel
theorem dX5_goBack_23 : decode cX5_goBack 23 = .ok (.ireturn, 1) := by decide +kernel
theorem dX5_goBack_24 : decode cX5_goBack 24 = .ok (.iconst 0, 1) := by decide +kernel
theorem dX5_goBack_25 : decode cX5_goBack 25 = .ok (.istore_n 2, 1) := by decide +kernel
theorem dX5_goBack_26 : decode cX5_goBack 26 = .ok (.iload_n 2, 1) := by decide +kernel
theorem dX5_goBack_27 : decode cX5_goBack 27 = .ok (.bipush 38, 2) := by decide +kernel
theorem dX5_goBack_29 : decode cX5_goBack 29 = .ok (.if_icmp .ge 26, 3) := by decide +kernel
theorem dX5_goBack_32 : decode cX5_goBack 32 = .ok (.aload_n 0, 1) := by decide +kernel
theorem dX5_goBack_33 : decode cX5_goBack 33 = .ok (.getfield 7, 3) := by decide +kernel
theorem dX5_goBack_36 : decode cX5_goBack 36 = .ok (.iload_n 2, 1) := by decide +kernel
theorem dX5_goBack_37 : decode cX5_goBack 37 = .ok (.aload_n 0, 1) := by decide +kernel
theorem dX5_goBack_38 : decode cX5_goBack 38 = .ok (.getfield 19, 3) := by decide +kernel
theorem dX5_goBack_41 : decode cX5_goBack 41 = .ok (.bipush 38, 2) := by decide +kernel
theorem dX5_goBack_43 : decode cX5_goBack 43 = .ok (.iload_n 1, 1) := by decide +kernel
theorem dX5_goBack_44 : decode cX5_goBack 44 = .ok (.imul, 1) := by decide +kernel
theorem dX5_goBack_45 : decode cX5_goBack 45 = .ok (.iload_n 2, 1) := by decide +kernel
theorem dX5_goBack_46 : decode cX5_goBack 46 = .ok (.iadd, 1) := by decide +kernel
theorem dX5_goBack_47 : decode cX5_goBack 47 = .ok (.iaload, 1) := by decide +kernel
theorem dX5_goBack_48 : decode cX5_goBack 48 = .ok (.iastore, 1) := by decide +kernel
theorem dX5_goBack_49 : decode cX5_goBack 49 = .ok (.iinc 2 1, 3) := by decide +kernel
theorem dX5_goBack_52 : decode cX5_goBack 52 = .ok (.goto (-26), 3) := by decide +kernel
theorem dX5_goBack_55 : decode cX5_goBack 55 = .ok (.aload_n 0, 1) := by decide +kernel
theorem dX5_goBack_56 : decode cX5_goBack 56 = .ok (.aload_n 0, 1) := by decide +kernel
theorem dX5_goBack_57 : decode cX5_goBack 57 = .ok (.getfield 22, 3) := by decide +kernel
theorem dX5_goBack_60 : decode cX5_goBack 60 = .ok (.iload_n 1, 1) := by decide +kernel
theorem dX5_goBack_61 : decode cX5_goBack 61 = .ok (.laload, 1) := by decide +kernel
theorem dX5_goBack_62 : decode cX5_goBack 62 = .ok (.putfield 138, 3) := by decide +kernel
theorem dX5_goBack_65 : decode cX5_goBack 65 = .ok (.aload_n 0, 1) := by decide +kernel
theorem dX5_goBack_66 : decode cX5_goBack 66 = .ok (.iconst 0, 1) := by decide +kernel
theorem dX5_goBack_67 : decode cX5_goBack 67 = .ok (.putfield 40, 3) := by decide +kernel
theorem dX5_goBack_70 : decode cX5_goBack 70 = .ok (.iconst 1, 1) := by decide +kernel
theorem dX5_goBack_71 : decode cX5_goBack 71 = .ok (.ireturn, 1) := by decide +kernel
