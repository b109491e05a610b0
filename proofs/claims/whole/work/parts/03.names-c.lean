set_option maxRecDepth 20000 in
theorem ggX4_init_X3_init : GoodIn wsX4_init wsX3_init := goodIn_r _ [23, 24, 2, 3, 25, 26, 27, 28, 29, 30, 31, 32, 33, 55, 56, 57, 58, 59, 60, 61, 62] (by decide +kernel) (by decide +kernel)
set_option maxRecDepth 20000 in
theorem gX4_init_X3_init_n9 : GoodIn wsX4_init (wsX3_init) := ggX4_init_X3_init
set_option maxRecDepth 20000 in
theorem ggX4_init_X2_init : GoodIn wsX4_init wsX2_init := goodIn_r _ [36, 37, 2, 3, 38, 39, 40, 41, 5, 6, 22, 23, 24, 25, 26, 27, 28, 29, 30, 31, 32, 33, 69, 70, 71, 55, 56, 57, 58, 59, 60, 61, 62] (by decide +kernel) (by decide +kernel)
set_option maxRecDepth 20000 in
theorem gX4_init_X2_init : GoodIn wsX4_init (wsX2_init) := ggX4_init_X2_init
set_option maxRecDepth 20000 in
theorem ggX4_init_X0_init : GoodIn wsX4_init wsX0_init := goodIn_r _ [43, 44, 2, 3, 25, 45, 46, 47, 72, 73, 74] (by decide +kernel) (by decide +kernel)
set_option maxRecDepth 20000 in
theorem gX4_init_X0_init_n28 : GoodIn wsX4_init (wsX0_init) := ggX4_init_X0_init
set_option maxRecDepth 20000 in
theorem ggX4_init_X1_init : GoodIn wsX4_init wsX1_init := goodIn_r _ [49, 50, 2, 3, 51, 5, 6, 52, 53, 54, 22, 23, 24, 25, 26, 27, 28, 29, 30, 31, 32, 33, 55, 56, 57, 58, 59, 60, 61, 62, 75, 76, 77] (by decide +kernel) (by decide +kernel)
set_option maxRecDepth 20000 in
theorem gX4_init_X1_init_n43 : GoodIn wsX4_init (wsX1_init) := ggX4_init_X1_init
theorem dX4_init_0 : decode cX4_init 0 = .ok (.aload_n 0, 1) := by decide +kernel
theorem dX4_init_1 : decode cX4_init 1 = .ok (.invokespecial 1, 3) := by decide +kernel
theorem dX4_init_4 : decode cX4_init 4 = .ok (.aload_n 0, 1) := by decide +kernel
theorem dX4_init_5 : decode cX4_init 5 = .ok (.new 7, 3) := by decide +kernel
theorem dX4_init_8 : decode cX4_init 8 = .ok (.dup, 1) := by decide +kernel
theorem dX4_init_9 : decode cX4_init 9 = .ok (.invokespecial 9, 3) := by decide +kernel
theorem dX4_init_12 : decode cX4_init 12 = .ok (.putfield 10, 3) := by decide +kernel
theorem dX4_init_15 : decode cX4_init 15 = .ok (.aload_n 0, 1) := by decide +kernel
theorem dX4_init_16 : decode cX4_init 16 = .ok (.new 7, 3) := by decide +kernel
theorem dX4_init_19 : decode cX4_init 19 = .ok (.dup, 1) := by decide +kernel
theorem dX4_init_20 : decode cX4_init 20 = .ok (.invokespecial 9, 3) := by decide +kernel
theorem dX4_init_23 : decode cX4_init 23 = .ok (.putfield 16, 3) := by decide +kernel
theorem dX4_init_26 : decode cX4_init 26 = .ok (.aload_n 0, 1) := by decide +kernel
theorem dX4_init_27 : decode cX4_init 27 = .ok (.new 19, 3) := by decide +kernel
theorem dX4_init_30 : decode cX4_init 30 = .ok (.dup, 1) := by decide +kernel
theorem dX4_init_31 : decode cX4_init 31 = .ok (.invokespecial 21, 3) := by decide +kernel
theorem dX4_init_34 : decode cX4_init 34 = .ok (.putfield 22, 3) := by decide +kernel
theorem dX4_init_37 : decode cX4_init 37 = .ok (.aload_n 0, 1) := by decide +kernel
theorem dX4_init_38 : decode cX4_init 38 = .ok (.new 26, 3) := by decide +kernel
theorem dX4_init_41 : decode cX4_init 41 = .ok (.dup, 1) := by decide +kernel
theorem dX4_init_42 : decode cX4_init 42 = .ok (.invokespecial 28, 3) := by decide +kernel
theorem dX4_init_45 : decode cX4_init 45 = .ok (.putfield 29, 3) := by decide +kernel
theorem dX4_init_48 : decode cX4_init 48 = .ok (.aload_n 0, 1) := by decide +kernel
theorem dX4_init_49 : decode cX4_init 49 = .ok (.iconst 2, 1) := by decide +kernel
theorem dX4_init_50 : decode cX4_init 50 = .ok (.anewarray 33, 3) := by decide +kernel
theorem dX4_init_53 : decode cX4_init 53 = .ok (.putfield 35, 3) := by decide +kernel
theorem dX4_init_56 : decode cX4_init 56 = .ok (.aload_n 0, 1) := by decide +kernel
theorem dX4_init_57 : decode cX4_init 57 = .ok (.iconst 0, 1) := by decide +kernel
theorem dX4_init_58 : decode cX4_init 58 = .ok (.putfield 39, 3) := by decide +kernel
theorem dX4_init_61 : decode cX4_init 61 = .ok (.iconst 0, 1) := by decide +kernel
theorem dX4_init_62 : decode cX4_init 62 = .ok (.istore_n 1, 1) := by decide +kernel
theorem dX4_init_63 : decode cX4_init 63 = .ok (.iload_n 1, 1) := by decide +kernel
theorem dX4_init_64 : decode cX4_init 64 = .ok (.iconst 2, 1) := by decide +kernel
theorem dX4_init_65 : decode cX4_init 65 = .ok (.if_icmp .ge 22, 3) := by decide +kernel
theorem dX4_init_68 : decode cX4_init 68 = .ok (.aload_n 0, 1) := by decide +kernel
theorem dX4_init_69 : decode cX4_init 69 = .ok (.getfield 35, 3) := by decide +kernel
theorem dX4_init_72 : decode cX4_init 72 = .ok (.iload_n 1, 1) := by decide +kernel
theorem dX4_init_73 : decode cX4_init 73 = .ok (.new 33, 3) := by decide +kernel
theorem dX4_init_76 : decode cX4_init 76 = .ok (.dup, 1) := by decide +kernel
theorem dX4_init_77 : decode cX4_init 77 = .ok (.invokespecial 43, 3) := by decide +kernel
theorem dX4_init_80 : decode cX4_init 80 = .ok (.aastore, 1) := by decide +kernel
theorem dX4_init_81 : decode cX4_init 81 = .ok (.iinc 1 1, 3) := by decide +kernel
theorem dX4_init_84 : decode cX4_init 84 = .ok (.goto (-21), 3) := by decide +kernel
theorem dX4_init_87 : decode cX4_init 87 = .ok (.return_, 1) := by decide +kernel
set_option maxRecDepth 20000 in
theorem ggX4_told_X3_weakSet : GoodIn wsX4_told wsX3_weakSet := goodIn_r _ [15, 16, 17, 18, 19, 20, 14, 21, 22, 23, 24, 25, 26, 27, 28, 29, 30, 31, 32, 33, 34, 117, 118, 119, 120, 121, 122, 123, 124] (by decide +kernel) (by decide +kernel)
set_option maxRecDepth 20000 in
theorem gX4_told_X3_weakSet : GoodIn wsX4_told (wsV RX4 57 RX3 yX3_weakSet wsX3_weakSet) := goodIn_app (goodIn_of _ (by decide +kernel)) ggX4_told_X3_weakSet
set_option maxRecDepth 20000 in
theorem ggX4_told_X3_isSafe : GoodIn wsX4_told wsX3_isSafe := goodIn_r _ [38, 39, 12, 13, 14, 15, 16, 17, 18, 19, 20, 21, 22, 23, 24, 25, 26, 27, 28, 29, 30, 31, 32, 33, 34, 117, 118, 119, 120, 121, 122, 123, 124] (by decide +kernel) (by decide +kernel)
set_option maxRecDepth 20000 in
theorem gX4_told_X3_isSafe : GoodIn wsX4_told (wsV RX4 61 RX3 yX3_isSafe wsX3_isSafe) := goodIn_app (goodIn_of _ (by decide +kernel)) ggX4_told_X3_isSafe
set_option maxRecDepth 20000 in
theorem ggX4_told_X4_maySet : GoodIn wsX4_told wsX4_maySet := goodIn_r _ [43, 1, 3, 44, 45, 46, 31, 47, 48, 2, 49, 50, 51, 14, 52, 16, 53, 54, 55, 56, 57, 58, 59, 60, 61, 23, 29, 22, 17, 28, 62, 63, 64, 65, 66, 67, 68, 69, 70, 71, 72, 73, 74, 75, 76, 77, 78, 79, 80, 81, 82, 83, 84, 85, 86, 87, 88, 89, 90, 91, 24, 25, 26, 27, 18, 19, 20, 21, 30, 32, 33, 34, 92, 93, 94, 95, 96, 97, 98, 99, 35, 36, 37, 38, 39, 12, 13, 15, 111, 112, 113, 114, 115, 116, 117, 118, 119, 120, 121, 122, 123, 124] (by decide +kernel) (by decide +kernel)
set_option maxRecDepth 20000 in
theorem gX4_told_X4_maySet : GoodIn wsX4_told (wsV RX4 65 RX4 yX4_maySet wsX4_maySet) := goodIn_app (goodIn_of _ (by decide +kernel)) ggX4_told_X4_maySet
set_option maxRecDepth 20000 in
theorem ggX4_told_X3_has : GoodIn wsX4_told wsX3_has := goodIn_r _ [52, 16, 117, 118, 119, 120, 121, 122, 123, 124] (by decide +kernel) (by decide +kernel)
set_option maxRecDepth 20000 in
theorem gX4_told_X3_has : GoodIn wsX4_told (wsV RX4 68 RX3 yX3_has wsX3_has) := goodIn_app (goodIn_of _ (by decide +kernel)) ggX4_told_X3_has
set_option maxRecDepth 20000 in
theorem ggX4_told_X3_forceUnder : GoodIn wsX4_told wsX3_forceUnder := goodIn_r _ [70, 23, 17, 71, 54, 55, 14, 56, 57, 72, 73, 74, 75, 16, 117, 118, 119, 120, 121, 122, 123, 124] (by decide +kernel) (by decide +kernel)
set_option maxRecDepth 20000 in
theorem gX4_told_X3_forceUnder : GoodIn wsX4_told (wsV RX4 72 RX3 yX3_forceUnder wsX3_forceUnder) := goodIn_app (goodIn_of _ (by decide +kernel)) ggX4_told_X3_forceUnder
set_option maxRecDepth 20000 in
theorem ggX4_told_X0_firstWrong : GoodIn wsX4_told wsX0_firstWrong := goodIn_r _ [105, 106, 107, 108, 109, 110, 50, 51, 14, 52, 16, 125, 126, 127, 117, 118, 119, 120, 121, 122, 123, 124] (by decide +kernel) (by decide +kernel)
set_option maxRecDepth 20000 in
theorem gX4_told_X0_firstWrong : GoodIn wsX4_told (wsV RX4 79 RX0 yX0_firstWrong wsX0_firstWrong) := goodIn_app (goodIn_of _ (by decide +kernel)) ggX4_told_X0_firstWrong
theorem dX4_told_0 : decode cX4_told 0 = .ok (.iload_n 1, 1) := by decide +kernel
theorem dX4_told_1 : decode cX4_told 1 = .ok (.tableswitch 216 0 13 #[71, 79, 87, 97, 107, 117, 127, 135, 143, 159, 164, 188, 196, 208], 71) := by decide +kernel
theorem dX4_told_72 : decode cX4_told 72 = .ok (.aload_n 0, 1) := by decide +kernel
theorem dX4_told_73 : decode cX4_told 73 = .ok (.getfield 10, 3) := by decide +kernel
theorem dX4_told_76 : decode cX4_told 76 = .ok (.getfield 44, 3) := by decide +kernel
theorem dX4_told_79 : decode cX4_told 79 = .ok (.ireturn, 1) := by decide +kernel
theorem dX4_told_80 : decode cX4_told 80 = .ok (.aload_n 0, 1) := by decide +kernel
theorem dX4_told_81 : decode cX4_told 81 = .ok (.getfield 10, 3) := by decide +kernel
theorem dX4_told_84 : decode cX4_told 84 = .ok (.getfield 47, 3) := by decide +kernel
theorem dX4_told_87 : decode cX4_told 87 = .ok (.ireturn, 1) := by decide +kernel
theorem dX4_told_88 : decode cX4_told 88 = .ok (.aload_n 0, 1) := by decide +kernel
theorem dX4_told_89 : decode cX4_told 89 = .ok (.getfield 10, 3) := by decide +kernel
theorem dX4_told_92 : decode cX4_told 92 = .ok (.getfield 50, 3) := by decide +kernel
theorem dX4_told_95 : decode cX4_told 95 = .ok (.iconst 0, 1) := by decide +kernel
theorem dX4_told_96 : decode cX4_told 96 = .ok (.iaload, 1) := by decide +kernel
theorem dX4_told_97 : decode cX4_told 97 = .ok (.ireturn, 1) := by decide +kernel
theorem dX4_told_98 : decode cX4_told 98 = .ok (.aload_n 0, 1) := by decide +kernel
theorem dX4_told_99 : decode cX4_told 99 = .ok (.getfield 10, 3) := by decide +kernel
theorem dX4_told_102 : decode cX4_told 102 = .ok (.getfield 50, 3) := by decide +kernel
theorem dX4_told_105 : decode cX4_told 105 = .ok (.iconst 1, 1) := by decide +kernel
theorem dX4_told_106 : decode cX4_told 106 = .ok (.iaload, 1) := by decide +kernel
theorem dX4_told_107 : decode cX4_told 107 = .ok (.ireturn, 1) := by decide +kernel
theorem dX4_told_108 : decode cX4_told 108 = .ok (.aload_n 0, 1) := by decide +kernel
theorem dX4_told_109 : decode cX4_told 109 = .ok (.getfield 10, 3) := by decide +kernel
theorem dX4_told_112 : decode cX4_told 112 = .ok (.getfield 50, 3) := by decide +kernel
theorem dX4_told_115 : decode cX4_told 115 = .ok (.iconst 2, 1) := by decide +kernel
theorem dX4_told_116 : decode cX4_told 116 = .ok (.iaload, 1) := by decide +kernel
theorem dX4_told_117 : decode cX4_told 117 = .ok (.ireturn, 1) := by decide +kernel
theorem dX4_told_118 : decode cX4_told 118 = .ok (.aload_n 0, 1) := by decide +kernel
theorem dX4_told_119 : decode cX4_told 119 = .ok (.getfield 10, 3) := by decide +kernel
theorem dX4_told_122 : decode cX4_told 122 = .ok (.getfield 50, 3) := by decide +kernel
theorem dX4_told_125 : decode cX4_told 125 = .ok (.iconst 3, 1) := by decide +kernel
theorem dX4_told_126 : decode cX4_told 126 = .ok (.iaload, 1) := by decide +kernel
theorem dX4_told_127 : decode cX4_told 127 = .ok (.ireturn, 1) := by decide +kernel
theorem dX4_told_128 : decode cX4_told 128 = .ok (.aload_n 0, 1) := by decide +kernel
theorem dX4_told_129 : decode cX4_told 129 = .ok (.getfield 10, 3) := by decide +kernel
theorem dX4_told_132 : decode cX4_told 132 = .ok (.getfield 54, 3) := by decide +kernel
theorem dX4_told_135 : decode cX4_told 135 = .ok (.ireturn, 1) := by decide +kernel
theorem dX4_told_136 : decode cX4_told 136 = .ok (.aload_n 0, 1) := by decide +kernel
theorem dX4_told_137 : decode cX4_told 137 = .ok (.getfield 10, 3) := by decide +kernel
theorem dX4_told_140 : decode cX4_told 140 = .ok (.invokevirtual 57, 3) := by decide +kernel
theorem dX4_told_143 : decode cX4_told 143 = .ok (.ireturn, 1) := by decide +kernel
theorem dX4_told_144 : decode cX4_told 144 = .ok (.aload_n 0, 1) := by decide +kernel
theorem dX4_told_145 : decode cX4_told 145 = .ok (.getfield 10, 3) := by decide +kernel
theorem dX4_told_148 : decode cX4_told 148 = .ok (.invokevirtual 61, 3) := by decide +kernel
theorem dX4_told_151 : decode cX4_told 151 = .ok (.ifCond .eq 7, 3) := by decide +kernel
theorem dX4_told_154 : decode cX4_told 154 = .ok (.iconst 1, 1) := by decide +kernel
theorem dX4_told_155 : decode cX4_told 155 = .ok (.goto 4, 3) := by decide +kernel
theorem dX4_told_158 : decode cX4_told 158 = .ok (.iconst 0, 1) := by decide +kernel
theorem dX4_told_159 : decode cX4_told 159 = .ok (.ireturn, 1) := by decide +kernel
theorem dX4_told_160 : decode cX4_told 160 = .ok (.aload_n 0, 1) := by decide +kernel
theorem dX4_told_161 : decode cX4_told 161 = .ok (.invokevirtual 65, 3) := by decide +kernel
theorem dX4_told_164 : decode cX4_told 164 = .ok (.ireturn, 1) := by decide +kernel
theorem dX4_told_165 : decode cX4_told 165 = .ok (.aload_n 0, 1) := by decide +kernel
theorem dX4_told_166 : decode cX4_told 166 = .ok (.getfield 10, 3) := by decide +kernel
theorem dX4_told_169 : decode cX4_told 169 = .ok (.iconst 0, 1) := by decide +kernel
theorem dX4_told_170 : decode cX4_told 170 = .ok (.invokevirtual 68, 3) := by decide +kernel
theorem dX4_told_173 : decode cX4_told 173 = .ok (.ifCond .eq 14, 3) := by decide +kernel
theorem dX4_told_176 : decode cX4_told 176 = .ok (.aload_n 0, 1) := by decide +kernel
theorem dX4_told_177 : decode cX4_told 177 = .ok (.getfield 10, 3) := by decide +kernel
theorem dX4_told_180 : decode cX4_told 180 = .ok (.iconst 0, 1) := by decide +kernel
theorem dX4_told_181 : decode cX4_told 181 = .ok (.invokevirtual 72, 3) := by decide +kernel
theorem dX4_told_184 : decode cX4_told 184 = .ok (.goto 4, 3) := by decide +kernel
theorem dX4_told_187 : decode cX4_told 187 = .ok (.iconst 0, 1) := by decide +kernel
theorem dX4_told_188 : decode cX4_told 188 = .ok (.ireturn, 1) := by decide +kernel
theorem dX4_told_189 : decode cX4_told 189 = .ok (.aload_n 0, 1) := by decide +kernel
theorem dX4_told_190 : decode cX4_told 190 = .ok (.getfield 29, 3) := by decide +kernel
theorem dX4_told_193 : decode cX4_told 193 = .ok (.getfield 76, 3) := by decide +kernel
theorem dX4_told_196 : decode cX4_told 196 = .ok (.ireturn, 1) := by decide +kernel
theorem dX4_told_197 : decode cX4_told 197 = .ok (.aload_n 0, 1) := by decide +kernel
theorem dX4_told_198 : decode cX4_told 198 = .ok (.getfield 29, 3) := by decide +kernel
theorem dX4_told_201 : decode cX4_told 201 = .ok (.aload_n 0, 1) := by decide +kernel
theorem dX4_told_202 : decode cX4_told 202 = .ok (.getfield 10, 3) := by decide +kernel
theorem dX4_told_205 : decode cX4_told 205 = .ok (.invokevirtual 79, 3) := by decide +kernel
theorem dX4_told_208 : decode cX4_told 208 = .ok (.ireturn, 1) := by decide +kernel
theorem dX4_told_209 : decode cX4_told 209 = .ok (.aload_n 0, 1) := by decide +kernel
theorem dX4_told_210 : decode cX4_told 210 = .ok (.getfield 22, 3) := by decide +kernel
theorem dX4_told_213 : decode cX4_told 213 = .ok (.getfield 83, 3) := by decide +kernel
theorem dX4_told_216 : decode cX4_told 216 = .ok (.ireturn, 1) := by decide +kernel
theorem dX4_told_217 : decode cX4_told 217 = .ok (.ldc 84, 2) := by decide +kernel
theorem dX4_told_219 : decode cX4_told 219 = .ok (.ireturn, 1) := by decide +kernel
set_option maxRecDepth 20000 in
theorem ggX4_floor_X3_has : GoodIn wsX4_floor wsX3_has := goodIn_r _ [10, 11, 118, 119, 120, 121, 122, 123, 124, 125] (by decide +kernel) (by decide +kernel)
set_option maxRecDepth 20000 in
theorem gX4_floor_X3_has : GoodIn wsX4_floor (wsV RX4 68 RX3 yX3_has wsX3_has) := goodIn_app (goodIn_of _ (by decide +kernel)) ggX4_floor_X3_has
set_option maxRecDepth 20000 in
theorem ggX4_floor_X3_ageOf : GoodIn wsX4_floor wsX3_ageOf := goodIn_r _ [15, 16, 17, 118, 119, 120, 121, 122, 123, 124, 125] (by decide +kernel) (by decide +kernel)
set_option maxRecDepth 20000 in
theorem gX4_floor_X3_ageOf : GoodIn wsX4_floor (wsV RX4 86 RX3 yX3_ageOf wsX3_ageOf) := goodIn_app (goodIn_of _ (by decide +kernel)) ggX4_floor_X3_ageOf
set_option maxRecDepth 20000 in
theorem ggX4_floor_X3_strengthOf : GoodIn wsX4_floor wsX3_strengthOf := goodIn_r _ [21, 22, 23, 24, 13, 14, 9, 15, 16, 17, 25, 26, 27, 28, 29, 118, 119, 120, 121, 122, 123, 124, 125] (by decide +kernel) (by decide +kernel)
set_option maxRecDepth 20000 in
theorem gX4_floor_X3_strengthOf : GoodIn wsX4_floor (wsV RX4 92 RX3 yX3_strengthOf wsX3_strengthOf) := goodIn_app (goodIn_of _ (by decide +kernel)) ggX4_floor_X3_strengthOf
set_option maxRecDepth 20000 in
theorem ggX4_floor_X3_isPropped : GoodIn wsX4_floor wsX3_isPropped := goodIn_r _ [33, 34, 118, 119, 120, 121, 122, 123, 124, 125] (by decide +kernel) (by decide +kernel)
set_option maxRecDepth 20000 in
theorem gX4_floor_X3_isPropped : GoodIn wsX4_floor (wsV RX4 98 RX3 yX3_isPropped wsX3_isPropped) := goodIn_app (goodIn_of _ (by decide +kernel)) ggX4_floor_X3_isPropped
set_option maxRecDepth 20000 in
theorem ggX4_floor_X3_forceUnder : GoodIn wsX4_floor wsX3_forceUnder := goodIn_r _ [38, 23, 39, 40, 31, 32, 9, 33, 34, 41, 42, 43, 44, 11, 118, 119, 120, 121, 122, 123, 124, 125] (by decide +kernel) (by decide +kernel)
set_option maxRecDepth 20000 in
theorem gX4_floor_X3_forceUnder : GoodIn wsX4_floor (wsV RX4 72 RX3 yX3_forceUnder wsX3_forceUnder) := goodIn_app (goodIn_of _ (by decide +kernel)) ggX4_floor_X3_forceUnder
set_option maxRecDepth 20000 in
theorem ggX4_floor_X3_lowestOf : GoodIn wsX4_floor wsX3_lowestOf := goodIn_r _ [48, 40, 31, 32, 9, 33, 34, 118, 119, 120, 121, 122, 123, 124, 125] (by decide +kernel) (by decide +kernel)
set_option maxRecDepth 20000 in
theorem gX4_floor_X3_lowestOf : GoodIn wsX4_floor (wsV RX4 101 RX3 yX3_lowestOf wsX3_lowestOf) := goodIn_app (goodIn_of _ (by decide +kernel)) ggX4_floor_X3_lowestOf
set_option maxRecDepth 20000 in
theorem ggX4_floor_X3_highestOf : GoodIn wsX4_floor wsX3_highestOf := goodIn_r _ [44, 11, 40, 31, 32, 9, 33, 34, 118, 119, 120, 121, 122, 123, 124, 125] (by decide +kernel) (by decide +kernel)
set_option maxRecDepth 20000 in
theorem gX4_floor_X3_highestOf : GoodIn wsX4_floor (wsV RX4 104 RX3 yX3_highestOf wsX3_highestOf) := goodIn_app (goodIn_of _ (by decide +kernel)) ggX4_floor_X3_highestOf
set_option maxRecDepth 20000 in
theorem ggX4_floor_X3_isGrounded : GoodIn wsX4_floor wsX3_isGrounded := goodIn_r _ [53, 54, 46, 47, 9, 48, 40, 31, 32, 33, 34, 118, 119, 120, 121, 122, 123, 124, 125] (by decide +kernel) (by decide +kernel)
set_option maxRecDepth 20000 in
theorem gX4_floor_X3_isGrounded : GoodIn wsX4_floor (wsV RX4 107 RX3 yX3_isGrounded wsX3_isGrounded) := goodIn_app (goodIn_of _ (by decide +kernel)) ggX4_floor_X3_isGrounded
set_option maxRecDepth 20000 in
theorem ggX4_floor_X4_earliestFor : GoodIn wsX4_floor wsX4_earliestFor := goodIn_r _ [58, 1, 30, 31, 32, 9, 33, 34, 59, 60, 61, 26, 62, 63, 64, 6, 7, 8, 10, 11, 65, 66, 67, 68, 23, 17, 22, 39, 16, 69, 70, 71, 72, 73, 74, 36, 37, 38, 40, 41, 42, 43, 44, 75, 76, 77, 78, 79, 80, 81, 82, 83, 84, 85, 86, 54, 46, 47, 48, 24, 13, 14, 15, 87, 19, 20, 21, 25, 27, 28, 29, 88, 89, 90, 91, 92, 93, 94, 95, 96, 97, 98, 99, 100, 101, 102, 103, 112, 113, 114, 115, 116, 117, 118, 119, 120, 121, 122, 123, 124, 125] (by decide +kernel) (by decide +kernel)
set_option maxRecDepth 20000 in
theorem gX4_floor_X4_earliestFor : GoodIn wsX4_floor (wsV RX4 110 RX4 yX4_earliestFor wsX4_earliestFor) := goodIn_app (goodIn_of _ (by decide +kernel)) ggX4_floor_X4_earliestFor
set_option maxRecDepth 20000 in
theorem ggX4_floor_X4_harmOf : GoodIn wsX4_floor wsX4_harmOf := goodIn_r _ [107, 1, 63, 30, 31, 32, 9, 33, 34, 59, 60, 61, 26, 62, 64, 6, 7, 8, 10, 11, 65, 66, 67, 68, 23, 17, 22, 39, 16, 69, 70, 71, 72, 73, 74, 36, 37, 38, 40, 41, 42, 43, 44, 75, 76, 77, 78, 79, 80, 81, 82, 83, 84, 85, 86, 54, 46, 47, 48, 24, 13, 14, 15, 87, 19, 20, 21, 25, 27, 28, 29, 88, 89, 90, 91, 92, 93, 94, 95, 96, 97, 98, 99, 100, 101, 102, 103, 108, 109, 110, 111, 112, 113, 114, 115, 116, 117, 118, 119, 120, 121, 122, 123, 124, 125] (by decide +kernel) (by decide +kernel)
set_option maxRecDepth 20000 in
theorem gX4_floor_X4_harmOf : GoodIn wsX4_floor (wsV RX4 113 RX4 yX4_harmOf wsX4_harmOf) := goodIn_app (goodIn_of _ (by decide +kernel)) ggX4_floor_X4_harmOf
theorem dX4_floor_0 : decode cX4_floor 0 = .ok (.aload_n 0, 1) := by decide +kernel
theorem dX4_floor_1 : decode cX4_floor 1 = .ok (.getfield 10, 3) := by decide +kernel
theorem dX4_floor_4 : decode cX4_floor 4 = .ok (.iload_n 1, 1) := by decide +kernel
theorem dX4_floor_5 : decode cX4_floor 5 = .ok (.invokevirtual 68, 3) := by decide +kernel
theorem dX4_floor_8 : decode cX4_floor 8 = .ok (.ifCond .ne 6, 3) := by decide +kernel
theorem dX4_floor_11 : decode cX4_floor 11 = .ok (.ldc 85, 2) := by decide +kernel
theorem dX4_floor_13 : decode cX4_floor 13 = .ok (.ireturn, 1) := by decide +kernel
theorem dX4_floor_14 : decode cX4_floor 14 = .ok (.iload_n 2, 1) := by decide +kernel
theorem dX4_floor_15 : decode cX4_floor 15 = .ok (.tableswitch 176 0 10 #[57, 66, 76, 85, 99, 116, 129, 138, 147, 164, 170], 57) := by decide +kernel
theorem dX4_floor_72 : decode cX4_floor 72 = .ok (.aload_n 0, 1) := by decide +kernel
theorem dX4_floor_73 : decode cX4_floor 73 = .ok (.getfield 10, 3) := by decide +kernel
theorem dX4_floor_76 : decode cX4_floor 76 = .ok (.iload_n 1, 1) := by decide +kernel
theorem dX4_floor_77 : decode cX4_floor 77 = .ok (.invokevirtual 86, 3) := by decide +kernel
theorem dX4_floor_80 : decode cX4_floor 80 = .ok (.ireturn, 1) := by decide +kernel
theorem dX4_floor_81 : decode cX4_floor 81 = .ok (.aload_n 0, 1) := by decide +kernel
theorem dX4_floor_82 : decode cX4_floor 82 = .ok (.getfield 10, 3) := by decide +kernel
theorem dX4_floor_85 : decode cX4_floor 85 = .ok (.getfield 89, 3) := by decide +kernel
theorem dX4_floor_88 : decode cX4_floor 88 = .ok (.iload_n 1, 1) := by decide +kernel
theorem dX4_floor_89 : decode cX4_floor 89 = .ok (.iaload, 1) := by decide +kernel
theorem dX4_floor_90 : decode cX4_floor 90 = .ok (.ireturn, 1) := by decide +kernel
theorem dX4_floor_91 : decode cX4_floor 91 = .ok (.aload_n 0, 1) := by decide +kernel
theorem dX4_floor_92 : decode cX4_floor 92 = .ok (.getfield 10, 3) := by decide +kernel
theorem dX4_floor_95 : decode cX4_floor 95 = .ok (.iload_n 1, 1) := by decide +kernel
theorem dX4_floor_96 : decode cX4_floor 96 = .ok (.invokevirtual 92, 3) := by decide +kernel
theorem dX4_floor_99 : decode cX4_floor 99 = .ok (.ireturn, 1) := by decide +kernel
theorem dX4_floor_100 : decode cX4_floor 100 = .ok (.aload_n 0, 1) := by decide +kernel
theorem dX4_floor_101 : decode cX4_floor 101 = .ok (.getfield 10, 3) := by decide +kernel
theorem dX4_floor_104 : decode cX4_floor 104 = .ok (.getfield 95, 3) := by decide +kernel
theorem dX4_floor_107 : decode cX4_floor 107 = .ok (.iload_n 1, 1) := by decide +kernel
theorem dX4_floor_108 : decode cX4_floor 108 = .ok (.iaload, 1) := by decide +kernel
theorem dX4_floor_109 : decode cX4_floor 109 = .ok (.sipush 1000, 3) := by decide +kernel
theorem dX4_floor_112 : decode cX4_floor 112 = .ok (.iadd, 1) := by decide +kernel
theorem dX4_floor_113 : decode cX4_floor 113 = .ok (.ireturn, 1) := by decide +kernel
theorem dX4_floor_114 : decode cX4_floor 114 = .ok (.aload_n 0, 1) := by decide +kernel
theorem dX4_floor_115 : decode cX4_floor 115 = .ok (.getfield 10, 3) := by decide +kernel
theorem dX4_floor_118 : decode cX4_floor 118 = .ok (.iload_n 1, 1) := by decide +kernel
theorem dX4_floor_119 : decode cX4_floor 119 = .ok (.invokevirtual 98, 3) := by decide +kernel
theorem dX4_floor_122 : decode cX4_floor 122 = .ok (.ifCond .eq 7, 3) := by decide +kernel
theorem dX4_floor_125 : decode cX4_floor 125 = .ok (.iconst 1, 1) := by decide +kernel
theorem dX4_floor_126 : decode cX4_floor 126 = .ok (.goto 4, 3) := by decide +kernel
theorem dX4_floor_129 : decode cX4_floor 129 = .ok (.iconst 0, 1) := by decide +kernel
theorem dX4_floor_130 : decode cX4_floor 130 = .ok (.ireturn, 1) := by decide +kernel
theorem dX4_floor_131 : decode cX4_floor 131 = .ok (.aload_n 0, 1) := by decide +kernel
theorem dX4_floor_132 : decode cX4_floor 132 = .ok (.getfield 10, 3) := by decide +kernel
theorem dX4_floor_135 : decode cX4_floor 135 = .ok (.iload_n 1, 1) := by decide +kernel
theorem dX4_floor_136 : decode cX4_floor 136 = .ok (.invokevirtual 72, 3) := by decide +kernel
theorem dX4_floor_139 : decode cX4_floor 139 = .ok (.sipush 1000, 3) := by decide +kernel
theorem dX4_floor_142 : decode cX4_floor 142 = .ok (.iadd, 1) := by decide +kernel
theorem dX4_floor_143 : decode cX4_floor 143 = .ok (.ireturn, 1) := by decide +kernel
theorem dX4_floor_144 : decode cX4_floor 144 = .ok (.aload_n 0, 1) := by decide +kernel
theorem dX4_floor_145 : decode cX4_floor 145 = .ok (.getfield 10, 3) := by decide +kernel
theorem dX4_floor_148 : decode cX4_floor 148 = .ok (.iload_n 1, 1) := by decide +kernel
theorem dX4_floor_149 : decode cX4_floor 149 = .ok (.invokevirtual 101, 3) := by decide +kernel
theorem dX4_floor_152 : decode cX4_floor 152 = .ok (.ireturn, 1) := by decide +kernel
theorem dX4_floor_153 : decode cX4_floor 153 = .ok (.aload_n 0, 1) := by decide +kernel
theorem dX4_floor_154 : decode cX4_floor 154 = .ok (.getfield 10, 3) := by decide +kernel
theorem dX4_floor_157 : decode cX4_floor 157 = .ok (.iload_n 1, 1) := by decide +kernel
theorem dX4_floor_158 : decode cX4_floor 158 = .ok (.invokevirtual 104, 3) := by decide +kernel
theorem dX4_floor_161 : decode cX4_floor 161 = .ok (.ireturn, 1) := by decide +kernel
theorem dX4_floor_162 : decode cX4_floor 162 = .ok (.aload_n 0, 1) := by decide +kernel
theorem dX4_floor_163 : decode cX4_floor 163 = .ok (.getfield 10, 3) := by decide +kernel
theorem dX4_floor_166 : decode cX4_floor 166 = .ok (.iload_n 1, 1) := by decide +kernel
theorem dX4_floor_167 : decode cX4_floor 167 = .ok (.invokevirtual 107, 3) := by decide +kernel
theorem dX4_floor_170 : decode cX4_floor 170 = .ok (.ifCond .eq 7, 3) := by decide +kernel
theorem dX4_floor_173 : decode cX4_floor 173 = .ok (.iconst 1, 1) := by decide +kernel
theorem dX4_floor_174 : decode cX4_floor 174 = .ok (.goto 4, 3) := by decide +kernel
theorem dX4_floor_177 : decode cX4_floor 177 = .ok (.iconst 0, 1) := by decide +kernel
theorem dX4_floor_178 : decode cX4_floor 178 = .ok (.ireturn, 1) := by decide +kernel
theorem dX4_floor_179 : decode cX4_floor 179 = .ok (.aload_n 0, 1) := by decide +kernel
theorem dX4_floor_180 : decode cX4_floor 180 = .ok (.iload_n 1, 1) := by decide +kernel
theorem dX4_floor_181 : decode cX4_floor 181 = .ok (.invokevirtual 110, 3) := by decide +kernel
theorem dX4_floor_184 : decode cX4_floor 184 = .ok (.ireturn, 1) := by decide +kernel
theorem dX4_floor_185 : decode cX4_floor 185 = .ok (.aload_n 0, 1) := by decide +kernel
theorem dX4_floor_186 : decode cX4_floor 186 = .ok (.iload_n 1, 1) := by decide +kernel
theorem dX4_floor_187 : decode cX4_floor 187 = .ok (.invokevirtual 113, 3) := by decide +kernel
theorem dX4_floor_190 : decode cX4_floor 190 = .ok (.ireturn, 1) := by decide +kernel
theorem dX4_floor_191 : decode cX4_floor 191 = .ok (.ldc 84, 2) := by decide +kernel
theorem dX4_floor_193 : decode cX4_floor 193 = .ok (.ireturn, 1) := by decide +kernel
set_option maxRecDepth 20000 in
theorem ggX4_hundredths_X4_percentAt : GoodIn wsX4_hundredths wsX4_percentAt := goodIn_r _ [5, 6, 7] (by decide +kernel) (by decide +kernel)
set_option maxRecDepth 20000 in
theorem gX4_hundredths_X4_percentAt : GoodIn wsX4_hundredths (va_wsS RX4 116 yX4_percentAt wsX4_percentAt) := goodIn_app (goodIn_of _ (by decide +kernel)) ggX4_hundredths_X4_percentAt
theorem dX4_hundredths_0 : decode cX4_hundredths 0 = .ok (.iload_n 1, 1) := by decide +kernel
theorem dX4_hundredths_1 : decode cX4_hundredths 1 = .ok (.ifCond .lt 19, 3) := by decide +kernel
theorem dX4_hundredths_4 : decode cX4_hundredths 4 = .ok (.iload_n 1, 1) := by decide +kernel
theorem dX4_hundredths_5 : decode cX4_hundredths 5 = .ok (.iconst 2, 1) := by decide +kernel
theorem dX4_hundredths_6 : decode cX4_hundredths 6 = .ok (.if_icmp .gt 14, 3) := by decide +kernel
theorem dX4_hundredths_9 : decode cX4_hundredths 9 = .ok (.iload_n 2, 1) := by decide +kernel
theorem dX4_hundredths_10 : decode cX4_hundredths 10 = .ok (.ifCond .lt 10, 3) := by decide +kernel
theorem dX4_hundredths_13 : decode cX4_hundredths 13 = .ok (.iload_n 2, 1) := by decide +kernel
theorem dX4_hundredths_14 : decode cX4_hundredths 14 = .ok (.sipush 999, 3) := by decide +kernel
theorem dX4_hundredths_17 : decode cX4_hundredths 17 = .ok (.if_icmp .le 6, 3) := by decide +kernel
theorem dX4_hundredths_20 : decode cX4_hundredths 20 = .ok (.ldc 84, 2) := by decide +kernel
theorem dX4_hundredths_22 : decode cX4_hundredths 22 = .ok (.ireturn, 1) := by decide +kernel
theorem dX4_hundredths_23 : decode cX4_hundredths 23 = .ok (.iload_n 1, 1) := by decide +kernel
theorem dX4_hundredths_24 : decode cX4_hundredths 24 = .ok (.iload_n 2, 1) := by decide +kernel
theorem dX4_hundredths_25 : decode cX4_hundredths 25 = .ok (.invokestatic 116, 3) := by decide +kernel
theorem dX4_hundredths_28 : decode cX4_hundredths 28 = .ok (.ireturn, 1) := by decide +kernel
set_option maxRecDepth 20000 in
theorem ggX4_would_X3_has : GoodIn wsX4_would wsX3_has := goodIn_r _ [9, 10, 95, 96, 97, 98, 99, 100, 101, 102] (by decide +kernel) (by decide +kernel)
set_option maxRecDepth 20000 in
theorem gX4_would_X3_has : GoodIn wsX4_would (wsV RX4 68 RX3 yX3_has wsX3_has) := goodIn_app (goodIn_of _ (by decide +kernel)) ggX4_would_X3_has
set_option maxRecDepth 20000 in
theorem ggX4_would_X3_isPropped : GoodIn wsX4_would wsX3_isPropped := goodIn_r _ [14, 15, 95, 96, 97, 98, 99, 100, 101, 102] (by decide +kernel) (by decide +kernel)
set_option maxRecDepth 20000 in
theorem gX4_would_X3_isPropped : GoodIn wsX4_would (wsV RX4 98 RX3 yX3_isPropped wsX3_isPropped) := goodIn_app (goodIn_of _ (by decide +kernel)) ggX4_would_X3_isPropped
set_option maxRecDepth 20000 in
theorem ggX4_would_X4_tryStrike : GoodIn wsX4_would wsX4_tryStrike := goodIn_r _ [20, 1, 3, 21, 5, 6, 7, 8, 9, 10, 11, 12, 13, 14, 15, 22, 23, 24, 25, 26, 27, 28, 29, 30, 31, 32, 33, 34, 35, 36, 37, 38, 39, 40, 41, 42, 43, 44, 45, 46, 47, 48, 49, 50, 51, 52, 53, 54, 55, 56, 57, 58, 59, 60, 61, 62, 63, 64, 65, 66, 67, 68, 69, 19, 70, 71, 72, 73, 74, 75, 76, 77, 78, 79, 80, 81, 82, 83, 84, 85, 86, 87, 88, 89, 90, 91, 92, 93, 94, 95, 96, 97, 98, 99, 100, 101, 102] (by decide +kernel) (by decide +kernel)
set_option maxRecDepth 20000 in
theorem gX4_would_X4_tryStrike : GoodIn wsX4_would (wsV RX4 120 RX4 yX4_tryStrike wsX4_tryStrike) := goodIn_app (goodIn_of _ (by decide +kernel)) ggX4_would_X4_tryStrike
theorem dX4_would_0 : decode cX4_would 0 = .ok (.aload_n 0, 1) := by decide +kernel
theorem dX4_would_1 : decode cX4_would 1 = .ok (.getfield 10, 3) := by decide +kernel
theorem dX4_would_4 : decode cX4_would 4 = .ok (.iload_n 1, 1) := by decide +kernel
theorem dX4_would_5 : decode cX4_would 5 = .ok (.invokevirtual 68, 3) := by decide +kernel
theorem dX4_would_8 : decode cX4_would 8 = .ok (.ifCond .eq 25, 3) := by decide +kernel
theorem dX4_would_11 : decode cX4_would 11 = .ok (.aload_n 0, 1) := by decide +kernel
theorem dX4_would_12 : decode cX4_would 12 = .ok (.getfield 10, 3) := by decide +kernel
theorem dX4_would_15 : decode cX4_would 15 = .ok (.iload_n 2, 1) := by decide +kernel
theorem dX4_would_16 : decode cX4_would 16 = .ok (.invokevirtual 68, 3) := by decide +kernel
theorem dX4_would_19 : decode cX4_would 19 = .ok (.ifCond .eq 14, 3) := by decide +kernel
theorem dX4_would_22 : decode cX4_would 22 = .ok (.aload_n 0, 1) := by decide +kernel
theorem dX4_would_23 : decode cX4_would 23 = .ok (.getfield 10, 3) := by decide +kernel
theorem dX4_would_26 : decode cX4_would 26 = .ok (.iload_n 1, 1) := by decide +kernel
theorem dX4_would_27 : decode cX4_would 27 = .ok (.invokevirtual 98, 3) := by decide +kernel
theorem dX4_would_30 : decode cX4_would 30 = .ok (.ifCond .ne 6, 3) := by decide +kernel
theorem dX4_would_33 : decode cX4_would 33 = .ok (.ldc 85, 2) := by decide +kernel
theorem dX4_would_35 : decode cX4_would 35 = .ok (.ireturn, 1) := by decide +kernel
theorem dX4_would_36 : decode cX4_would 36 = .ok (.aload_n 0, 1) := by decide +kernel
theorem dX4_would_37 : decode cX4_would 37 = .ok (.iload_n 1, 1) := by decide +kernel
theorem dX4_would_38 : decode cX4_would 38 = .ok (.iconst 0, 1) := by decide +kernel
theorem dX4_would_39 : decode cX4_would 39 = .ok (.invokevirtual 120, 3) := by decide +kernel
theorem dX4_would_42 : decode cX4_would 42 = .ok (.pop, 1) := by decide +kernel
theorem dX4_would_43 : decode cX4_would 43 = .ok (.aload_n 0, 1) := by decide +kernel
theorem dX4_would_44 : decode cX4_would 44 = .ok (.getfield 16, 3) := by decide +kernel
theorem dX4_would_47 : decode cX4_would 47 = .ok (.getfield 95, 3) := by decide +kernel
theorem dX4_would_50 : decode cX4_would 50 = .ok (.iload_n 2, 1) := by decide +kernel
theorem dX4_would_51 : decode cX4_would 51 = .ok (.iaload, 1) := by decide +kernel
theorem dX4_would_52 : decode cX4_would 52 = .ok (.sipush 1000, 3) := by decide +kernel
theorem dX4_would_55 : decode cX4_would 55 = .ok (.iadd, 1) := by decide +kernel
theorem dX4_would_56 : decode cX4_would 56 = .ok (.ireturn, 1) := by decide +kernel
set_option maxRecDepth 20000 in
theorem ggX4_cycle_X4_cycleHolds : GoodIn wsX4_cycle wsX4_cycleHolds := goodIn_r _ [6, 7, 8, 9, 10, 11, 12, 13, 14, 15, 16, 17, 18, 19, 20, 21, 22, 23, 24, 25, 26, 27, 28, 29, 30, 31, 32, 33, 34, 35, 36, 37, 38, 39, 40, 41, 42, 43, 44, 45, 46, 47, 48, 49, 50, 51, 52, 53, 54, 55, 56, 57, 58, 59, 60, 61, 62, 63, 64, 65, 66, 67, 68, 69, 70, 71, 72, 73, 74, 75, 76, 77, 78, 79, 80, 81, 82, 5, 83, 84, 85, 86, 87, 88, 89, 90, 91, 92, 93, 94, 95, 96, 97, 98, 99, 100, 101, 102, 103, 104, 105, 106, 107, 108, 109, 110, 111, 112, 113, 114, 115, 116, 117, 118, 119, 120, 121, 122, 123] (by decide +kernel) (by decide +kernel)
set_option maxRecDepth 20000 in
theorem gX4_cycle_X4_cycleHolds : GoodIn wsX4_cycle (wsV RX4 124 RX4 yX4_cycleHolds wsX4_cycleHolds) := goodIn_app (goodIn_of _ (by decide +kernel)) ggX4_cycle_X4_cycleHolds
theorem dX4_cycle_0 : decode cX4_cycle 0 = .ok (.iload_n 1, 1) := by decide +kernel
theorem dX4_cycle_1 : decode cX4_cycle 1 = .ok (.iconst 1, 1) := by decide +kernel
theorem dX4_cycle_2 : decode cX4_cycle 2 = .ok (.if_icmp .lt 8, 3) := by decide +kernel
theorem dX4_cycle_5 : decode cX4_cycle 5 = .ok (.iload_n 1, 1) := by decide +kernel
theorem dX4_cycle_6 : decode cX4_cycle 6 = .ok (.iconst 3, 1) := by decide +kernel
theorem dX4_cycle_7 : decode cX4_cycle 7 = .ok (.if_icmp .le 6, 3) := by decide +kernel
theorem dX4_cycle_10 : decode cX4_cycle 10 = .ok (.ldc 84, 2) := by decide +kernel
theorem dX4_cycle_12 : decode cX4_cycle 12 = .ok (.ireturn, 1) := by decide +kernel
theorem dX4_cycle_13 : decode cX4_cycle 13 = .ok (.iconst 1, 1) := by decide +kernel
theorem dX4_cycle_14 : decode cX4_cycle 14 = .ok (.istore_n 2, 1) := by decide +kernel
theorem dX4_cycle_15 : decode cX4_cycle 15 = .ok (.iload_n 2, 1) := by decide +kernel
theorem dX4_cycle_16 : decode cX4_cycle 16 = .ok (.bipush 28, 2) := by decide +kernel
theorem dX4_cycle_18 : decode cX4_cycle 18 = .ok (.if_icmp .gt 20, 3) := by decide +kernel
theorem dX4_cycle_21 : decode cX4_cycle 21 = .ok (.aload_n 0, 1) := by decide +kernel
theorem dX4_cycle_22 : decode cX4_cycle 22 = .ok (.iload_n 1, 1) := by decide +kernel
theorem dX4_cycle_23 : decode cX4_cycle 23 = .ok (.iload_n 2, 1) := by decide +kernel
theorem dX4_cycle_24 : decode cX4_cycle 24 = .ok (.invokevirtual 124, 3) := by decide +kernel
theorem dX4_cycle_27 : decode cX4_cycle 27 = .ok (.ifCond .eq 5, 3) := by decide +kernel
theorem dX4_cycle_30 : decode cX4_cycle 30 = .ok (.iload_n 2, 1) := by decide +kernel
theorem dX4_cycle_31 : decode cX4_cycle 31 = .ok (.ireturn, 1) := by decide +kernel
theorem dX4_cycle_32 : decode cX4_cycle 32 = .ok (.iinc 2 1, 3) := by decide +kernel
theorem dX4_cycle_35 : decode cX4_cycle 35 = .ok (.goto (-20), 3) := by decide +kernel
theorem dX4_cycle_38 : decode cX4_cycle 38 = .ok (.iconst (-1), 1) := by decide +kernel
theorem dX4_cycle_39 : decode cX4_cycle 39 = .ok (.ireturn, 1) := by decide +kernel
set_option maxRecDepth 20000 in
theorem ggX4_days_X2_note : GoodIn wsX4_days wsX2_note := goodIn_r _ [9, 10, 11, 12, 13, 14, 15, 16, 17, 18, 19, 20, 21, 22, 23, 24, 25, 26, 27, 28, 43, 44, 45, 35, 36, 37, 38, 39, 40, 41, 42] (by decide +kernel) (by decide +kernel)
set_option maxRecDepth 20000 in
theorem gX4_days_X2_note : GoodIn wsX4_days (wsV RX4 127 RX2 yX2_note wsX2_note) := goodIn_app (goodIn_of _ (by decide +kernel)) ggX4_days_X2_note
theorem dX4_days_0 : decode cX4_days 0 = .ok (.iload_n 1, 1) := by decide +kernel
theorem dX4_days_1 : decode cX4_days 1 = .ok (.iconst 1, 1) := by decide +kernel
theorem dX4_days_2 : decode cX4_days 2 = .ok (.if_icmp .lt 9, 3) := by decide +kernel
theorem dX4_days_5 : decode cX4_days 5 = .ok (.iload_n 1, 1) := by decide +kernel
theorem dX4_days_6 : decode cX4_days 6 = .ok (.bipush 60, 2) := by decide +kernel
theorem dX4_days_8 : decode cX4_days 8 = .ok (.if_icmp .le 6, 3) := by decide +kernel
theorem dX4_days_11 : decode cX4_days 11 = .ok (.ldc 84, 2) := by decide +kernel
theorem dX4_days_13 : decode cX4_days 13 = .ok (.ireturn, 1) := by decide +kernel
theorem dX4_days_14 : decode cX4_days 14 = .ok (.aload_n 0, 1) := by decide +kernel
theorem dX4_days_15 : decode cX4_days 15 = .ok (.getfield 22, 3) := by decide +kernel
theorem dX4_days_18 : decode cX4_days 18 = .ok (.aload_n 0, 1) := by decide +kernel
theorem dX4_days_19 : decode cX4_days 19 = .ok (.getfield 10, 3) := by decide +kernel
theorem dX4_days_22 : decode cX4_days 22 = .ok (.invokevirtual 127, 3) := by decide +kernel
theorem dX4_days_25 : decode cX4_days 25 = .ok (.aload_n 0, 1) := by decide +kernel
theorem dX4_days_26 : decode cX4_days 26 = .ok (.getfield 10, 3) := by decide +kernel
theorem dX4_days_29 : decode cX4_days 29 = .ok (.dup, 1) := by decide +kernel
theorem dX4_days_30 : decode cX4_days 30 = .ok (.getfield 44, 3) := by decide +kernel
theorem dX4_days_33 : decode cX4_days 33 = .ok (.iload_n 1, 1) := by decide +kernel
theorem dX4_days_34 : decode cX4_days 34 = .ok (.iadd, 1) := by decide +kernel
theorem dX4_days_35 : decode cX4_days 35 = .ok (.putfield 44, 3) := by decide +kernel
theorem dX4_days_38 : decode cX4_days 38 = .ok (.aload_n 0, 1) := by decide +kernel
theorem dX4_days_39 : decode cX4_days 39 = .ok (.getfield 10, 3) := by decide +kernel
theorem dX4_days_42 : decode cX4_days 42 = .ok (.getfield 44, 3) := by decide +kernel
theorem dX4_days_45 : decode cX4_days 45 = .ok (.ireturn, 1) := by decide +kernel
set_option maxRecDepth 20000 in
theorem ggX4_pour_X4_tryPour : GoodIn wsX4_pour wsX4_tryPour := goodIn_r _ [11, 1, 2, 6, 12, 13, 14, 15, 16, 17, 18, 19, 20, 21, 22, 23, 24, 25, 26, 27, 28, 29, 30, 31, 32, 33, 34, 35, 36, 37, 38, 39, 40, 41, 42, 43, 44, 45, 46, 47, 48, 49, 50, 51, 52, 53, 54, 55, 56, 57, 58, 59, 60, 61, 62, 63, 64, 10, 65, 66, 67, 68, 69, 70, 71, 72, 73, 74, 75, 76, 77, 78, 79, 80, 81, 82, 83, 94, 95, 96, 97, 98, 99, 100, 101, 102, 103, 104, 105, 106, 107] (by decide +kernel) (by decide +kernel)
set_option maxRecDepth 20000 in
theorem gX4_pour_X4_tryPour : GoodIn wsX4_pour (wsV RX4 132 RX4 yX4_tryPour wsX4_tryPour) := goodIn_app (goodIn_of _ (by decide +kernel)) ggX4_pour_X4_tryPour
set_option maxRecDepth 20000 in
theorem ggX4_pour_X2_note : GoodIn wsX4_pour wsX2_note := goodIn_r _ [88, 89, 90, 91, 92, 38, 39, 40, 93, 13, 14, 15, 16, 17, 18, 19, 20, 21, 22, 23, 108, 109, 110, 100, 101, 102, 103, 104, 105, 106, 107] (by decide +kernel) (by decide +kernel)
set_option maxRecDepth 20000 in
theorem gX4_pour_X2_note : GoodIn wsX4_pour (wsV RX4 127 RX2 yX2_note wsX2_note) := goodIn_app (goodIn_of _ (by decide +kernel)) ggX4_pour_X2_note
set_option maxRecDepth 20000 in
theorem ggX4_pour_X3_copyFrom : GoodIn wsX4_pour wsX3_copyFrom := goodIn_r _ [16, 17, 18, 19, 20, 21, 22, 23, 100, 101, 102, 103, 104, 105, 106, 107] (by decide +kernel) (by decide +kernel)
set_option maxRecDepth 20000 in
theorem gX4_pour_X3_copyFrom : GoodIn wsX4_pour (wsV RX4 136 RX3 yX3_copyFrom wsX3_copyFrom) := goodIn_app (goodIn_of _ (by decide +kernel)) ggX4_pour_X3_copyFrom
theorem dX4_pour_0 : decode cX4_pour 0 = .ok (.aload_n 0, 1) := by decide +kernel
theorem dX4_pour_1 : decode cX4_pour 1 = .ok (.getfield 10, 3) := by decide +kernel
theorem dX4_pour_4 : decode cX4_pour 4 = .ok (.getfield 47, 3) := by decide +kernel
theorem dX4_pour_7 : decode cX4_pour 7 = .ok (.bipush 8, 2) := by decide +kernel
theorem dX4_pour_9 : decode cX4_pour 9 = .ok (.if_icmp .lt 6, 3) := by decide +kernel
theorem dX4_pour_12 : decode cX4_pour 12 = .ok (.ldc 131, 2) := by decide +kernel
theorem dX4_pour_14 : decode cX4_pour 14 = .ok (.ireturn, 1) := by decide +kernel
theorem dX4_pour_15 : decode cX4_pour 15 = .ok (.aload_n 0, 1) := by decide +kernel
theorem dX4_pour_16 : decode cX4_pour 16 = .ok (.invokevirtual 132, 3) := by decide +kernel
theorem dX4_pour_19 : decode cX4_pour 19 = .ok (.ifCond .ne 6, 3) := by decide +kernel
theorem dX4_pour_22 : decode cX4_pour 22 = .ok (.ldc 135, 2) := by decide +kernel
theorem dX4_pour_24 : decode cX4_pour 24 = .ok (.ireturn, 1) := by decide +kernel
theorem dX4_pour_25 : decode cX4_pour 25 = .ok (.aload_n 0, 1) := by decide +kernel
theorem dX4_pour_26 : decode cX4_pour 26 = .ok (.getfield 22, 3) := by decide +kernel
theorem dX4_pour_29 : decode cX4_pour 29 = .ok (.aload_n 0, 1) := by decide +kernel
theorem dX4_pour_30 : decode cX4_pour 30 = .ok (.getfield 10, 3) := by decide +kernel
theorem dX4_pour_33 : decode cX4_pour 33 = .ok (.invokevirtual 127, 3) := by decide +kernel
theorem dX4_pour_36 : decode cX4_pour 36 = .ok (.aload_n 0, 1) := by decide +kernel
theorem dX4_pour_37 : decode cX4_pour 37 = .ok (.getfield 10, 3) := by decide +kernel
theorem dX4_pour_40 : decode cX4_pour 40 = .ok (.aload_n 0, 1) := by decide +kernel
theorem dX4_pour_41 : decode cX4_pour 41 = .ok (.getfield 16, 3) := by decide +kernel
theorem dX4_pour_44 : decode cX4_pour 44 = .ok (.invokevirtual 136, 3) := by decide +kernel
theorem dX4_pour_47 : decode cX4_pour 47 = .ok (.aload_n 0, 1) := by decide +kernel
theorem dX4_pour_48 : decode cX4_pour 48 = .ok (.getfield 10, 3) := by decide +kernel
theorem dX4_pour_51 : decode cX4_pour 51 = .ok (.getfield 47, 3) := by decide +kernel
theorem dX4_pour_54 : decode cX4_pour 54 = .ok (.iconst 1, 1) := by decide +kernel
theorem dX4_pour_55 : decode cX4_pour 55 = .ok (.isub, 1) := by decide +kernel
theorem dX4_pour_56 : decode cX4_pour 56 = .ok (.ireturn, 1) := by decide +kernel
set_option maxRecDepth 20000 in
theorem ggX4_strike_X3_has : GoodIn wsX4_strike wsX3_has := goodIn_r _ [10, 11, 107, 108, 109, 110, 111, 112, 113, 114] (by decide +kernel) (by decide +kernel)
set_option maxRecDepth 20000 in
theorem gX4_strike_X3_has : GoodIn wsX4_strike (wsV RX4 68 RX3 yX3_has wsX3_has) := goodIn_app (goodIn_of _ (by decide +kernel)) ggX4_strike_X3_has
set_option maxRecDepth 20000 in
theorem ggX4_strike_X4_tryStrike : GoodIn wsX4_strike wsX4_tryStrike := goodIn_r _ [16, 1, 5, 17, 6, 7, 8, 9, 10, 11, 18, 19, 20, 21, 22, 23, 24, 25, 26, 27, 28, 29, 30, 31, 32, 33, 34, 35, 36, 37, 38, 39, 40, 41, 42, 43, 44, 45, 46, 47, 48, 49, 50, 51, 52, 53, 54, 55, 56, 57, 58, 59, 60, 61, 62, 63, 64, 65, 66, 67, 68, 69, 70, 15, 71, 72, 73, 74, 75, 76, 77, 78, 79, 80, 81, 82, 83, 84, 85, 86, 87, 88, 89, 101, 102, 103, 104, 105, 106, 107, 108, 109, 110, 111, 112, 113, 114] (by decide +kernel) (by decide +kernel)
set_option maxRecDepth 20000 in
theorem gX4_strike_X4_tryStrike : GoodIn wsX4_strike (wsV RX4 120 RX4 yX4_tryStrike wsX4_tryStrike) := goodIn_app (goodIn_of _ (by decide +kernel)) ggX4_strike_X4_tryStrike
set_option maxRecDepth 20000 in
theorem ggX4_strike_X2_note : GoodIn wsX4_strike wsX2_note := goodIn_r _ [94, 95, 96, 97, 98, 52, 53, 54, 99, 24, 25, 9, 26, 27, 11, 28, 29, 30, 31, 22, 115, 116, 117, 107, 108, 109, 110, 111, 112, 113, 114] (by decide +kernel) (by decide +kernel)
set_option maxRecDepth 20000 in
theorem gX4_strike_X2_note : GoodIn wsX4_strike (wsV RX4 127 RX2 yX2_note wsX2_note) := goodIn_app (goodIn_of _ (by decide +kernel)) ggX4_strike_X2_note
set_option maxRecDepth 20000 in
theorem ggX4_strike_X3_copyFrom : GoodIn wsX4_strike wsX3_copyFrom := goodIn_r _ [26, 27, 11, 28, 29, 30, 31, 22, 107, 108, 109, 110, 111, 112, 113, 114] (by decide +kernel) (by decide +kernel)
set_option maxRecDepth 20000 in
theorem gX4_strike_X3_copyFrom : GoodIn wsX4_strike (wsV RX4 136 RX3 yX3_copyFrom wsX3_copyFrom) := goodIn_app (goodIn_of _ (by decide +kernel)) ggX4_strike_X3_copyFrom
set_option maxRecDepth 20000 in
theorem ggX4_strike_X3_lowestOf : GoodIn wsX4_strike wsX3_lowestOf := goodIn_r _ [61, 41, 19, 20, 9, 21, 22, 107, 108, 109, 110, 111, 112, 113, 114] (by decide +kernel) (by decide +kernel)
set_option maxRecDepth 20000 in
theorem gX4_strike_X3_lowestOf : GoodIn wsX4_strike (wsV RX4 101 RX3 yX3_lowestOf wsX3_lowestOf) := goodIn_app (goodIn_of _ (by decide +kernel)) ggX4_strike_X3_lowestOf
theorem dX4_strike_0 : decode cX4_strike 0 = .ok (.aload_n 0, 1) := by decide +kernel
theorem dX4_strike_1 : decode cX4_strike 1 = .ok (.getfield 10, 3) := by decide +kernel
theorem dX4_strike_4 : decode cX4_strike 4 = .ok (.iload_n 1, 1) := by decide +kernel
theorem dX4_strike_5 : decode cX4_strike 5 = .ok (.invokevirtual 68, 3) := by decide +kernel
theorem dX4_strike_8 : decode cX4_strike 8 = .ok (.ifCond .ne 6, 3) := by decide +kernel
theorem dX4_strike_11 : decode cX4_strike 11 = .ok (.ldc 85, 2) := by decide +kernel
theorem dX4_strike_13 : decode cX4_strike 13 = .ok (.ireturn, 1) := by decide +kernel
theorem dX4_strike_14 : decode cX4_strike 14 = .ok (.aload_n 0, 1) := by decide +kernel
theorem dX4_strike_15 : decode cX4_strike 15 = .ok (.iload_n 1, 1) := by decide +kernel
theorem dX4_strike_16 : decode cX4_strike 16 = .ok (.iconst 0, 1) := by decide +kernel
theorem dX4_strike_17 : decode cX4_strike 17 = .ok (.invokevirtual 120, 3) := by decide +kernel
theorem dX4_strike_20 : decode cX4_strike 20 = .ok (.ifCond .ne 6, 3) := by decide +kernel
theorem dX4_strike_23 : decode cX4_strike 23 = .ok (.ldc 135, 2) := by decide +kernel
theorem dX4_strike_25 : decode cX4_strike 25 = .ok (.ireturn, 1) := by decide +kernel
theorem dX4_strike_26 : decode cX4_strike 26 = .ok (.aload_n 0, 1) := by decide +kernel
theorem dX4_strike_27 : decode cX4_strike 27 = .ok (.getfield 22, 3) := by decide +kernel
theorem dX4_strike_30 : decode cX4_strike 30 = .ok (.aload_n 0, 1) := by decide +kernel
theorem dX4_strike_31 : decode cX4_strike 31 = .ok (.getfield 10, 3) := by decide +kernel
theorem dX4_strike_34 : decode cX4_strike 34 = .ok (.invokevirtual 127, 3) := by decide +kernel
theorem dX4_strike_37 : decode cX4_strike 37 = .ok (.aload_n 0, 1) := by decide +kernel
theorem dX4_strike_38 : decode cX4_strike 38 = .ok (.getfield 10, 3) := by decide +kernel
theorem dX4_strike_41 : decode cX4_strike 41 = .ok (.aload_n 0, 1) := by decide +kernel
theorem dX4_strike_42 : decode cX4_strike 42 = .ok (.getfield 16, 3) := by decide +kernel
theorem dX4_strike_45 : decode cX4_strike 45 = .ok (.invokevirtual 136, 3) := by decide +kernel
theorem dX4_strike_48 : decode cX4_strike 48 = .ok (.aload_n 0, 1) := by decide +kernel
theorem dX4_strike_49 : decode cX4_strike 49 = .ok (.getfield 10, 3) := by decide +kernel
theorem dX4_strike_52 : decode cX4_strike 52 = .ok (.iload_n 1, 1) := by decide +kernel
theorem dX4_strike_53 : decode cX4_strike 53 = .ok (.invokevirtual 101, 3) := by decide +kernel
theorem dX4_strike_56 : decode cX4_strike 56 = .ok (.ireturn, 1) := by decide +kernel
set_option maxRecDepth 20000 in
theorem ggX4_back_X3_has : GoodIn wsX4_back wsX3_has := goodIn_r _ [9, 10, 52, 53, 54, 55, 56, 57, 58, 59] (by decide +kernel) (by decide +kernel)
set_option maxRecDepth 20000 in
theorem gX4_back_X3_has : GoodIn wsX4_back (wsV RX4 68 RX3 yX3_has wsX3_has) := goodIn_app (goodIn_of _ (by decide +kernel)) ggX4_back_X3_has
set_option maxRecDepth 20000 in
theorem ggX4_back_X3_isPropped : GoodIn wsX4_back wsX3_isPropped := goodIn_r _ [14, 15, 52, 53, 54, 55, 56, 57, 58, 59] (by decide +kernel) (by decide +kernel)
set_option maxRecDepth 20000 in
theorem gX4_back_X3_isPropped : GoodIn wsX4_back (wsV RX4 98 RX3 yX3_isPropped wsX3_isPropped) := goodIn_app (goodIn_of _ (by decide +kernel)) ggX4_back_X3_isPropped
set_option maxRecDepth 20000 in
theorem ggX4_back_X2_note : GoodIn wsX4_back wsX2_note := goodIn_r _ [20, 21, 22, 23, 24, 25, 26, 27, 28, 29, 30, 8, 31, 32, 10, 33, 34, 35, 36, 15, 60, 61, 62, 52, 53, 54, 55, 56, 57, 58, 59] (by decide +kernel) (by decide +kernel)
set_option maxRecDepth 20000 in
theorem gX4_back_X2_note : GoodIn wsX4_back (wsV RX4 127 RX2 yX2_note wsX2_note) := goodIn_app (goodIn_of _ (by decide +kernel)) ggX4_back_X2_note
set_option maxRecDepth 20000 in
theorem ggX4_back_X3_putProps : GoodIn wsX4_back wsX3_putProps := goodIn_r _ [40, 15, 52, 53, 54, 55, 56, 57, 58, 59] (by decide +kernel) (by decide +kernel)
set_option maxRecDepth 20000 in
theorem gX4_back_X3_putProps : GoodIn wsX4_back (wsV RX4 139 RX3 yX3_putProps wsX3_putProps) := goodIn_app (goodIn_of _ (by decide +kernel)) ggX4_back_X3_putProps
set_option maxRecDepth 20000 in
theorem ggX4_back_X3_lowestOf : GoodIn wsX4_back wsX3_lowestOf := goodIn_r _ [44, 45, 12, 13, 8, 14, 15, 52, 53, 54, 55, 56, 57, 58, 59] (by decide +kernel) (by decide +kernel)
set_option maxRecDepth 20000 in
theorem gX4_back_X3_lowestOf : GoodIn wsX4_back (wsV RX4 101 RX3 yX3_lowestOf wsX3_lowestOf) := goodIn_app (goodIn_of _ (by decide +kernel)) ggX4_back_X3_lowestOf
theorem dX4_back_0 : decode cX4_back 0 = .ok (.aload_n 0, 1) := by decide +kernel
theorem dX4_back_1 : decode cX4_back 1 = .ok (.getfield 10, 3) := by decide +kernel
theorem dX4_back_4 : decode cX4_back 4 = .ok (.iload_n 1, 1) := by decide +kernel
theorem dX4_back_5 : decode cX4_back 5 = .ok (.invokevirtual 68, 3) := by decide +kernel
theorem dX4_back_8 : decode cX4_back 8 = .ok (.ifCond .ne 6, 3) := by decide +kernel
theorem dX4_back_11 : decode cX4_back 11 = .ok (.ldc 85, 2) := by decide +kernel
theorem dX4_back_13 : decode cX4_back 13 = .ok (.ireturn, 1) := by decide +kernel
theorem dX4_back_14 : decode cX4_back 14 = .ok (.aload_n 0, 1) := by decide +kernel
theorem dX4_back_15 : decode cX4_back 15 = .ok (.getfield 10, 3) := by decide +kernel
theorem dX4_back_18 : decode cX4_back 18 = .ok (.iload_n 1, 1) := by decide +kernel
theorem dX4_back_19 : decode cX4_back 19 = .ok (.invokevirtual 98, 3) := by decide +kernel
theorem dX4_back_22 : decode cX4_back 22 = .ok (.ifCond .eq 6, 3) := by decide +kernel
theorem dX4_back_25 : decode cX4_back 25 = .ok (.ldc 135, 2) := by decide +kernel
theorem dX4_back_27 : decode cX4_back 27 = .ok (.ireturn, 1) := by decide +kernel
theorem dX4_back_28 : decode cX4_back 28 = .ok (.aload_n 0, 1) := by decide +kernel
theorem dX4_back_29 : decode cX4_back 29 = .ok (.getfield 22, 3) := by decide +kernel
theorem dX4_back_32 : decode cX4_back 32 = .ok (.aload_n 0, 1) := by decide +kernel
theorem dX4_back_33 : decode cX4_back 33 = .ok (.getfield 10, 3) := by decide +kernel
theorem dX4_back_36 : decode cX4_back 36 = .ok (.invokevirtual 127, 3) := by decide +kernel
theorem dX4_back_39 : decode cX4_back 39 = .ok (.aload_n 0, 1) := by decide +kernel
theorem dX4_back_40 : decode cX4_back 40 = .ok (.getfield 10, 3) := by decide +kernel
theorem dX4_back_43 : decode cX4_back 43 = .ok (.iload_n 1, 1) := by decide +kernel
theorem dX4_back_44 : decode cX4_back 44 = .ok (.invokevirtual 139, 3) := by decide +kernel
theorem dX4_back_47 : decode cX4_back 47 = .ok (.aload_n 0, 1) := by decide +kernel
theorem dX4_back_48 : decode cX4_back 48 = .ok (.getfield 10, 3) := by decide +kernel
theorem dX4_back_51 : decode cX4_back 51 = .ok (.iload_n 1, 1) := by decide +kernel
theorem dX4_back_52 : decode cX4_back 52 = .ok (.invokevirtual 101, 3) := by decide +kernel
theorem dX4_back_55 : decode cX4_back 55 = .ok (.ireturn, 1) := by decide +kernel
set_option maxRecDepth 20000 in
theorem ggX4_slow_X3_has : GoodIn wsX4_slow wsX3_has := goodIn_r _ [10, 11, 40, 41, 42, 43, 44, 45, 46, 47] (by decide +kernel) (by decide +kernel)
set_option maxRecDepth 20000 in
theorem gX4_slow_X3_has : GoodIn wsX4_slow (wsV RX4 68 RX3 yX3_has wsX3_has) := goodIn_app (goodIn_of _ (by decide +kernel)) ggX4_slow_X3_has
set_option maxRecDepth 20000 in
theorem ggX4_slow_X2_note : GoodIn wsX4_slow wsX2_note := goodIn_r _ [16, 17, 18, 19, 20, 21, 22, 23, 24, 25, 26, 9, 27, 28, 11, 29, 30, 31, 32, 33, 48, 49, 50, 40, 41, 42, 43, 44, 45, 46, 47] (by decide +kernel) (by decide +kernel)
set_option maxRecDepth 20000 in
theorem gX4_slow_X2_note : GoodIn wsX4_slow (wsV RX4 127 RX2 yX2_note wsX2_note) := goodIn_app (goodIn_of _ (by decide +kernel)) ggX4_slow_X2_note
theorem dX4_slow_0 : decode cX4_slow 0 = .ok (.aload_n 0, 1) := by decide +kernel
theorem dX4_slow_1 : decode cX4_slow 1 = .ok (.getfield 10, 3) := by decide +kernel
theorem dX4_slow_4 : decode cX4_slow 4 = .ok (.iload_n 1, 1) := by decide +kernel
theorem dX4_slow_5 : decode cX4_slow 5 = .ok (.invokevirtual 68, 3) := by decide +kernel
theorem dX4_slow_8 : decode cX4_slow 8 = .ok (.ifCond .ne 6, 3) := by decide +kernel
theorem dX4_slow_11 : decode cX4_slow 11 = .ok (.ldc 85, 2) := by decide +kernel
theorem dX4_slow_13 : decode cX4_slow 13 = .ok (.ireturn, 1) := by decide +kernel
theorem dX4_slow_14 : decode cX4_slow 14 = .ok (.iload_n 2, 1) := by decide +kernel
theorem dX4_slow_15 : decode cX4_slow 15 = .ok (.ifCond .lt 9, 3) := by decide +kernel
theorem dX4_slow_18 : decode cX4_slow 18 = .ok (.iload_n 2, 1) := by decide +kernel
theorem dX4_slow_19 : decode cX4_slow 19 = .ok (.bipush 9, 2) := by decide +kernel
theorem dX4_slow_21 : decode cX4_slow 21 = .ok (.if_icmp .le 6, 3) := by decide +kernel
theorem dX4_slow_24 : decode cX4_slow 24 = .ok (.ldc 84, 2) := by decide +kernel
theorem dX4_slow_26 : decode cX4_slow 26 = .ok (.ireturn, 1) := by decide +kernel
theorem dX4_slow_27 : decode cX4_slow 27 = .ok (.aload_n 0, 1) := by decide +kernel
theorem dX4_slow_28 : decode cX4_slow 28 = .ok (.getfield 22, 3) := by decide +kernel
theorem dX4_slow_31 : decode cX4_slow 31 = .ok (.aload_n 0, 1) := by decide +kernel
theorem dX4_slow_32 : decode cX4_slow 32 = .ok (.getfield 10, 3) := by decide +kernel
theorem dX4_slow_35 : decode cX4_slow 35 = .ok (.invokevirtual 127, 3) := by decide +kernel
theorem dX4_slow_38 : decode cX4_slow 38 = .ok (.aload_n 0, 1) := by decide +kernel
theorem dX4_slow_39 : decode cX4_slow 39 = .ok (.getfield 10, 3) := by decide +kernel
theorem dX4_slow_42 : decode cX4_slow 42 = .ok (.getfield 89, 3) := by decide +kernel
theorem dX4_slow_45 : decode cX4_slow 45 = .ok (.iload_n 1, 1) := by decide +kernel
theorem dX4_slow_46 : decode cX4_slow 46 = .ok (.iaload, 1) := by decide +kernel
theorem dX4_slow_47 : decode cX4_slow 47 = .ok (.istore_n 3, 1) := by decide +kernel
theorem dX4_slow_48 : decode cX4_slow 48 = .ok (.aload_n 0, 1) := by decide +kernel
theorem dX4_slow_49 : decode cX4_slow 49 = .ok (.getfield 10, 3) := by decide +kernel
theorem dX4_slow_52 : decode cX4_slow 52 = .ok (.getfield 89, 3) := by decide +kernel
theorem dX4_slow_55 : decode cX4_slow 55 = .ok (.iload_n 1, 1) := by decide +kernel
theorem dX4_slow_56 : decode cX4_slow 56 = .ok (.iload_n 2, 1) := by decide +kernel
theorem dX4_slow_57 : decode cX4_slow 57 = .ok (.iastore, 1) := by decide +kernel
theorem dX4_slow_58 : decode cX4_slow 58 = .ok (.iload_n 3, 1) := by decide +kernel
theorem dX4_slow_59 : decode cX4_slow 59 = .ok (.ireturn, 1) := by decide +kernel
set_option maxRecDepth 20000 in
theorem ggX4_bound_X2_note : GoodIn wsX4_bound wsX2_note := goodIn_r _ [13, 14, 15, 16, 17, 18, 19, 20, 21, 22, 23, 24, 25, 26, 27, 28, 29, 30, 31, 32, 47, 48, 49, 39, 40, 41, 42, 43, 44, 45, 46] (by decide +kernel) (by decide +kernel)
set_option maxRecDepth 20000 in
theorem gX4_bound_X2_note : GoodIn wsX4_bound (wsV RX4 127 RX2 yX2_note wsX2_note) := goodIn_app (goodIn_of _ (by decide +kernel)) ggX4_bound_X2_note
theorem dX4_bound_0 : decode cX4_bound 0 = .ok (.iload_n 1, 1) := by decide +kernel
theorem dX4_bound_1 : decode cX4_bound 1 = .ok (.ifCond .lt 26, 3) := by decide +kernel
theorem dX4_bound_4 : decode cX4_bound 4 = .ok (.iload_n 1, 1) := by decide +kernel
theorem dX4_bound_5 : decode cX4_bound 5 = .ok (.iconst 4, 1) := by decide +kernel
theorem dX4_bound_6 : decode cX4_bound 6 = .ok (.if_icmp .ge 21, 3) := by decide +kernel
theorem dX4_bound_9 : decode cX4_bound 9 = .ok (.iload_n 2, 1) := by decide +kernel
theorem dX4_bound_10 : decode cX4_bound 10 = .ok (.getstatic 143, 3) := by decide +kernel
theorem dX4_bound_13 : decode cX4_bound 13 = .ok (.iload_n 1, 1) := by decide +kernel
theorem dX4_bound_14 : decode cX4_bound 14 = .ok (.iaload, 1) := by decide +kernel
theorem dX4_bound_15 : decode cX4_bound 15 = .ok (.if_icmp .lt 12, 3) := by decide +kernel
theorem dX4_bound_18 : decode cX4_bound 18 = .ok (.iload_n 2, 1) := by decide +kernel
theorem dX4_bound_19 : decode cX4_bound 19 = .ok (.getstatic 146, 3) := by decide +kernel
theorem dX4_bound_22 : decode cX4_bound 22 = .ok (.iload_n 1, 1) := by decide +kernel
theorem dX4_bound_23 : decode cX4_bound 23 = .ok (.iaload, 1) := by decide +kernel
theorem dX4_bound_24 : decode cX4_bound 24 = .ok (.if_icmp .le 6, 3) := by decide +kernel
theorem dX4_bound_27 : decode cX4_bound 27 = .ok (.ldc 84, 2) := by decide +kernel
theorem dX4_bound_29 : decode cX4_bound 29 = .ok (.ireturn, 1) := by decide +kernel
theorem dX4_bound_30 : decode cX4_bound 30 = .ok (.iload_n 1, 1) := by decide +kernel
theorem dX4_bound_31 : decode cX4_bound 31 = .ok (.ifCond .ne 16, 3) := by decide +kernel
theorem dX4_bound_34 : decode cX4_bound 34 = .ok (.aload_n 0, 1) := by decide +kernel
theorem dX4_bound_35 : decode cX4_bound 35 = .ok (.getfield 10, 3) := by decide +kernel
theorem dX4_bound_38 : decode cX4_bound 38 = .ok (.getfield 47, 3) := by decide +kernel
theorem dX4_bound_41 : decode cX4_bound 41 = .ok (.ifCond .le 6, 3) := by decide +kernel
theorem dX4_bound_44 : decode cX4_bound 44 = .ok (.ldc 135, 2) := by decide +kernel
theorem dX4_bound_46 : decode cX4_bound 46 = .ok (.ireturn, 1) := by decide +kernel
theorem dX4_bound_47 : decode cX4_bound 47 = .ok (.aload_n 0, 1) := by decide +kernel
theorem dX4_bound_48 : decode cX4_bound 48 = .ok (.getfield 22, 3) := by decide +kernel
theorem dX4_bound_51 : decode cX4_bound 51 = .ok (.aload_n 0, 1) := by decide +kernel
theorem dX4_bound_52 : decode cX4_bound 52 = .ok (.getfield 10, 3) := by decide +kernel
theorem dX4_bound_55 : decode cX4_bound 55 = .ok (.invokevirtual 127, 3) := by decide +kernel
theorem dX4_bound_58 : decode cX4_bound 58 = .ok (.aload_n 0, 1) := by decide +kernel
theorem dX4_bound_59 : decode cX4_bound 59 = .ok (.getfield 10, 3) := by decide +kernel
theorem dX4_bound_62 : decode cX4_bound 62 = .ok (.getfield 50, 3) := by decide +kernel
theorem dX4_bound_65 : decode cX4_bound 65 = .ok (.iload_n 1, 1) := by decide +kernel
theorem dX4_bound_66 : decode cX4_bound 66 = .ok (.iaload, 1) := by decide +kernel
theorem dX4_bound_67 : decode cX4_bound 67 = .ok (.istore_n 3, 1) := by decide +kernel
theorem dX4_bound_68 : decode cX4_bound 68 = .ok (.aload_n 0, 1) := by decide +kernel
theorem dX4_bound_69 : decode cX4_bound 69 = .ok (.getfield 10, 3) := by decide +kernel
theorem dX4_bound_72 : decode cX4_bound 72 = .ok (.getfield 50, 3) := by decide +kernel
theorem dX4_bound_75 : decode cX4_bound 75 = .ok (.iload_n 1, 1) := by decide +kernel
theorem dX4_bound_76 : decode cX4_bound 76 = .ok (.iload_n 2, 1) := by decide +kernel
theorem dX4_bound_77 : decode cX4_bound 77 = .ok (.iastore, 1) := by decide +kernel
theorem dX4_bound_78 : decode cX4_bound 78 = .ok (.iload_n 3, 1) := by decide +kernel
theorem dX4_bound_79 : decode cX4_bound 79 = .ok (.ireturn, 1) := by decide +kernel
set_option maxRecDepth 20000 in
theorem ggX4_clear_X2_note : GoodIn wsX4_clear wsX2_note := goodIn_r _ [8, 9, 10, 11, 12, 13, 14, 15, 16, 17, 18, 19, 20, 21, 22, 23, 24, 25, 26, 27, 46, 47, 48, 38, 39, 40, 41, 42, 43, 44, 45] (by decide +kernel) (by decide +kernel)
set_option maxRecDepth 20000 in
theorem gX4_clear_X2_note : GoodIn wsX4_clear (wsV RX4 127 RX2 yX2_note wsX2_note) := goodIn_app (goodIn_of _ (by decide +kernel)) ggX4_clear_X2_note
set_option maxRecDepth 20000 in
theorem ggX4_clear_X3_empty : GoodIn wsX4_clear wsX3_empty := goodIn_r _ [31, 26, 22, 27, 38, 39, 40, 41, 42, 43, 44, 45] (by decide +kernel) (by decide +kernel)
set_option maxRecDepth 20000 in
theorem gX4_clear_X3_empty : GoodIn wsX4_clear (wsV RX4 149 RX3 yX3_empty wsX3_empty) := goodIn_app (goodIn_of _ (by decide +kernel)) ggX4_clear_X3_empty
theorem dX4_clear_0 : decode cX4_clear 0 = .ok (.aload_n 0, 1) := by decide +kernel
theorem dX4_clear_1 : decode cX4_clear 1 = .ok (.getfield 22, 3) := by decide +kernel
theorem dX4_clear_4 : decode cX4_clear 4 = .ok (.aload_n 0, 1) := by decide +kernel
theorem dX4_clear_5 : decode cX4_clear 5 = .ok (.getfield 10, 3) := by decide +kernel
theorem dX4_clear_8 : decode cX4_clear 8 = .ok (.invokevirtual 127, 3) := by decide +kernel
theorem dX4_clear_11 : decode cX4_clear 11 = .ok (.aload_n 0, 1) := by decide +kernel
theorem dX4_clear_12 : decode cX4_clear 12 = .ok (.getfield 10, 3) := by decide +kernel
theorem dX4_clear_15 : decode cX4_clear 15 = .ok (.getfield 47, 3) := by decide +kernel
theorem dX4_clear_18 : decode cX4_clear 18 = .ok (.istore_n 1, 1) := by decide +kernel
theorem dX4_clear_19 : decode cX4_clear 19 = .ok (.aload_n 0, 1) := by decide +kernel
theorem dX4_clear_20 : decode cX4_clear 20 = .ok (.getfield 10, 3) := by decide +kernel
theorem dX4_clear_23 : decode cX4_clear 23 = .ok (.invokevirtual 149, 3) := by decide +kernel
theorem dX4_clear_26 : decode cX4_clear 26 = .ok (.iload_n 1, 1) := by decide +kernel
theorem dX4_clear_27 : decode cX4_clear 27 = .ok (.ireturn, 1) := by decide +kernel
set_option maxRecDepth 20000 in
theorem ggX4_drift_X2_note : GoodIn wsX4_drift wsX2_note := goodIn_r _ [11, 12, 13, 14, 15, 16, 17, 18, 19, 20, 21, 22, 23, 24, 25, 26, 27, 28, 29, 30, 135, 136, 137, 127, 128, 129, 130, 131, 132, 133, 134] (by decide +kernel) (by decide +kernel)
set_option maxRecDepth 20000 in
theorem gX4_drift_X2_note : GoodIn wsX4_drift (wsV RX4 127 RX2 yX2_note wsX2_note) := goodIn_app (goodIn_of _ (by decide +kernel)) ggX4_drift_X2_note
set_option maxRecDepth 20000 in
theorem ggX4_drift_X4_nextDraw : GoodIn wsX4_drift wsX4_nextDraw := goodIn_r _ [35, 36, 37, 38, 39, 121, 122, 123, 124, 125, 126] (by decide +kernel) (by decide +kernel)
set_option maxRecDepth 20000 in
theorem gX4_drift_X4_nextDraw : GoodIn wsX4_drift (wsV RX4 152 RX4 yX4_nextDraw wsX4_nextDraw) := goodIn_app (goodIn_of _ (by decide +kernel)) ggX4_drift_X4_nextDraw
set_option maxRecDepth 20000 in
theorem ggX4_drift_X4_tryPour : GoodIn wsX4_drift wsX4_tryPour := goodIn_r _ [43, 3, 6, 5, 44, 20, 21, 22, 23, 24, 25, 26, 27, 28, 29, 30, 45, 46, 47, 48, 49, 50, 51, 52, 53, 54, 55, 56, 57, 58, 16, 17, 18, 59, 60, 61, 62, 63, 64, 65, 66, 67, 68, 69, 70, 71, 72, 73, 74, 75, 76, 77, 78, 79, 80, 81, 82, 34, 83, 84, 85, 86, 87, 88, 89, 90, 91, 92, 93, 94, 95, 96, 97, 98, 99, 100, 101, 121, 122, 123, 124, 125, 126, 127, 128, 129, 130, 131, 132, 133, 134] (by decide +kernel) (by decide +kernel)
set_option maxRecDepth 20000 in
theorem gX4_drift_X4_tryPour : GoodIn wsX4_drift (wsV RX4 132 RX4 yX4_tryPour wsX4_tryPour) := goodIn_app (goodIn_of _ (by decide +kernel)) ggX4_drift_X4_tryPour
set_option maxRecDepth 20000 in
theorem ggX4_drift_X4_tryStrike : GoodIn wsX4_drift wsX4_tryStrike := goodIn_r _ [105, 3, 5, 4, 106, 107, 108, 22, 109, 25, 110, 67, 68, 69, 30, 44, 20, 21, 23, 24, 26, 27, 28, 29, 111, 112, 113, 114, 115, 116, 117, 118, 119, 66, 70, 71, 72, 73, 53, 54, 55, 56, 57, 58, 16, 17, 18, 59, 60, 61, 62, 63, 64, 65, 74, 75, 76, 77, 78, 79, 80, 81, 82, 34, 83, 84, 85, 86, 87, 88, 89, 90, 91, 92, 93, 94, 95, 96, 97, 98, 99, 100, 101, 121, 122, 123, 124, 125, 126, 127, 128, 129, 130, 131, 132, 133, 134] (by decide +kernel) (by decide +kernel)
set_option maxRecDepth 20000 in
theorem gX4_drift_X4_tryStrike : GoodIn wsX4_drift (wsV RX4 120 RX4 yX4_tryStrike wsX4_tryStrike) := goodIn_app (goodIn_of _ (by decide +kernel)) ggX4_drift_X4_tryStrike
set_option maxRecDepth 20000 in
theorem ggX4_drift_X3_copyFrom : GoodIn wsX4_drift wsX3_copyFrom := goodIn_r _ [23, 24, 25, 26, 27, 28, 29, 30, 127, 128, 129, 130, 131, 132, 133, 134] (by decide +kernel) (by decide +kernel)
set_option maxRecDepth 20000 in
theorem gX4_drift_X3_copyFrom : GoodIn wsX4_drift (wsV RX4 136 RX3 yX3_copyFrom wsX3_copyFrom) := goodIn_app (goodIn_of _ (by decide +kernel)) ggX4_drift_X3_copyFrom
set_option maxRecDepth 20000 in
theorem ggX4_drift_X3_has : GoodIn wsX4_drift wsX3_has := goodIn_r _ [109, 25, 127, 128, 129, 130, 131, 132, 133, 134] (by decide +kernel) (by decide +kernel)
set_option maxRecDepth 20000 in
theorem gX4_drift_X3_has : GoodIn wsX4_drift (wsV RX4 68 RX3 yX3_has wsX3_has) := goodIn_app (goodIn_of _ (by decide +kernel)) ggX4_drift_X3_has
set_option maxRecDepth 20000 in
theorem ggX4_drift_X3_putProps : GoodIn wsX4_drift wsX3_putProps := goodIn_r _ [52, 30, 127, 128, 129, 130, 131, 132, 133, 134] (by decide +kernel) (by decide +kernel)
set_option maxRecDepth 20000 in
theorem gX4_drift_X3_putProps : GoodIn wsX4_drift (wsV RX4 139 RX3 yX3_putProps wsX3_putProps) := goodIn_app (goodIn_of _ (by decide +kernel)) ggX4_drift_X3_putProps
theorem dX4_drift_0 : decode cX4_drift 0 = .ok (.iload_n 1, 1) := by decide +kernel
theorem dX4_drift_1 : decode cX4_drift 1 = .ok (.iconst 1, 1) := by decide +kernel
theorem dX4_drift_2 : decode cX4_drift 2 = .ok (.if_icmp .lt 9, 3) := by decide +kernel
theorem dX4_drift_5 : decode cX4_drift 5 = .ok (.iload_n 1, 1) := by decide +kernel
theorem dX4_drift_6 : decode cX4_drift 6 = .ok (.bipush 20, 2) := by decide +kernel
theorem dX4_drift_8 : decode cX4_drift 8 = .ok (.if_icmp .le 6, 3) := by decide +kernel
theorem dX4_drift_11 : decode cX4_drift 11 = .ok (.ldc 84, 2) := by decide +kernel
theorem dX4_drift_13 : decode cX4_drift 13 = .ok (.ireturn, 1) := by decide +kernel
theorem dX4_drift_14 : decode cX4_drift 14 = .ok (.iconst 0, 1) := by decide +kernel
theorem dX4_drift_15 : decode cX4_drift 15 = .ok (.istore_n 2, 1) := by decide +kernel
theorem dX4_drift_16 : decode cX4_drift 16 = .ok (.iload_n 2, 1) := by decide +kernel
theorem dX4_drift_17 : decode cX4_drift 17 = .ok (.iload_n 1, 1) := by decide +kernel
theorem dX4_drift_18 : decode cX4_drift 18 = .ok (.if_icmp .ge 134, 3) := by decide +kernel
theorem dX4_drift_21 : decode cX4_drift 21 = .ok (.aload_n 0, 1) := by decide +kernel
theorem dX4_drift_22 : decode cX4_drift 22 = .ok (.getfield 22, 3) := by decide +kernel
theorem dX4_drift_25 : decode cX4_drift 25 = .ok (.aload_n 0, 1) := by decide +kernel
theorem dX4_drift_26 : decode cX4_drift 26 = .ok (.getfield 10, 3) := by decide +kernel
theorem dX4_drift_29 : decode cX4_drift 29 = .ok (.invokevirtual 127, 3) := by decide +kernel
theorem dX4_drift_32 : decode cX4_drift 32 = .ok (.aload_n 0, 1) := by decide +kernel
theorem dX4_drift_33 : decode cX4_drift 33 = .ok (.invokevirtual 152, 3) := by decide +kernel
theorem dX4_drift_36 : decode cX4_drift 36 = .ok (.iconst 5, 1) := by decide +kernel
theorem dX4_drift_37 : decode cX4_drift 37 = .ok (.irem, 1) := by decide +kernel
theorem dX4_drift_38 : decode cX4_drift 38 = .ok (.istore_n 3, 1) := by decide +kernel
theorem dX4_drift_39 : decode cX4_drift 39 = .ok (.aload_n 0, 1) := by decide +kernel
theorem dX4_drift_40 : decode cX4_drift 40 = .ok (.invokevirtual 152, 3) := by decide +kernel
theorem dX4_drift_43 : decode cX4_drift 43 = .ok (.bipush 8, 2) := by decide +kernel
theorem dX4_drift_45 : decode cX4_drift 45 = .ok (.irem, 1) := by decide +kernel
theorem dX4_drift_46 : decode cX4_drift 46 = .ok (.istore 4, 2) := by decide +kernel
theorem dX4_drift_48 : decode cX4_drift 48 = .ok (.aload_n 0, 1) := by decide +kernel
theorem dX4_drift_49 : decode cX4_drift 49 = .ok (.invokevirtual 152, 3) := by decide +kernel
theorem dX4_drift_52 : decode cX4_drift 52 = .ok (.bipush 10, 2) := by decide +kernel
theorem dX4_drift_54 : decode cX4_drift 54 = .ok (.irem, 1) := by decide +kernel
theorem dX4_drift_55 : decode cX4_drift 55 = .ok (.istore 5, 2) := by decide +kernel
theorem dX4_drift_57 : decode cX4_drift 57 = .ok (.iload_n 3, 1) := by decide +kernel
theorem dX4_drift_58 : decode cX4_drift 58 = .ok (.iconst 2, 1) := by decide +kernel
theorem dX4_drift_59 : decode cX4_drift 59 = .ok (.if_icmp .ge 20, 3) := by decide +kernel
theorem dX4_drift_62 : decode cX4_drift 62 = .ok (.aload_n 0, 1) := by decide +kernel
theorem dX4_drift_63 : decode cX4_drift 63 = .ok (.getfield 10, 3) := by decide +kernel
theorem dX4_drift_66 : decode cX4_drift 66 = .ok (.dup, 1) := by decide +kernel
theorem dX4_drift_67 : decode cX4_drift 67 = .ok (.getfield 44, 3) := by decide +kernel
theorem dX4_drift_70 : decode cX4_drift 70 = .ok (.iload 5, 2) := by decide +kernel
theorem dX4_drift_72 : decode cX4_drift 72 = .ok (.iadd, 1) := by decide +kernel
theorem dX4_drift_73 : decode cX4_drift 73 = .ok (.putfield 44, 3) := by decide +kernel
theorem dX4_drift_76 : decode cX4_drift 76 = .ok (.goto 70, 3) := by decide +kernel
theorem dX4_drift_79 : decode cX4_drift 79 = .ok (.iload_n 3, 1) := by decide +kernel
theorem dX4_drift_80 : decode cX4_drift 80 = .ok (.iconst 2, 1) := by decide +kernel
theorem dX4_drift_81 : decode cX4_drift 81 = .ok (.if_icmp .ne 10, 3) := by decide +kernel
theorem dX4_drift_84 : decode cX4_drift 84 = .ok (.aload_n 0, 1) := by decide +kernel
theorem dX4_drift_85 : decode cX4_drift 85 = .ok (.invokevirtual 132, 3) := by decide +kernel
theorem dX4_drift_88 : decode cX4_drift 88 = .ok (.ifCond .ne 18, 3) := by decide +kernel
theorem dX4_drift_91 : decode cX4_drift 91 = .ok (.iload_n 3, 1) := by decide +kernel
theorem dX4_drift_92 : decode cX4_drift 92 = .ok (.iconst 3, 1) := by decide +kernel
theorem dX4_drift_93 : decode cX4_drift 93 = .ok (.if_icmp .ne 27, 3) := by decide +kernel
theorem dX4_drift_96 : decode cX4_drift 96 = .ok (.aload_n 0, 1) := by decide +kernel
theorem dX4_drift_97 : decode cX4_drift 97 = .ok (.iload 4, 2) := by decide +kernel
theorem dX4_drift_99 : decode cX4_drift 99 = .ok (.iconst 0, 1) := by decide +kernel
theorem dX4_drift_100 : decode cX4_drift 100 = .ok (.invokevirtual 120, 3) := by decide +kernel
theorem dX4_drift_103 : decode cX4_drift 103 = .ok (.ifCond .eq 17, 3) := by decide +kernel
theorem dX4_drift_106 : decode cX4_drift 106 = .ok (.aload_n 0, 1) := by decide +kernel
theorem dX4_drift_107 : decode cX4_drift 107 = .ok (.getfield 10, 3) := by decide +kernel
theorem dX4_drift_110 : decode cX4_drift 110 = .ok (.aload_n 0, 1) := by decide +kernel
theorem dX4_drift_111 : decode cX4_drift 111 = .ok (.getfield 16, 3) := by decide +kernel
theorem dX4_drift_114 : decode cX4_drift 114 = .ok (.invokevirtual 136, 3) := by decide +kernel
theorem dX4_drift_117 : decode cX4_drift 117 = .ok (.goto 29, 3) := by decide +kernel
theorem dX4_drift_120 : decode cX4_drift 120 = .ok (.iload_n 3, 1) := by decide +kernel
theorem dX4_drift_121 : decode cX4_drift 121 = .ok (.iconst 4, 1) := by decide +kernel
theorem dX4_drift_122 : decode cX4_drift 122 = .ok (.if_icmp .ne 24, 3) := by decide +kernel
theorem dX4_drift_125 : decode cX4_drift 125 = .ok (.aload_n 0, 1) := by decide +kernel
theorem dX4_drift_126 : decode cX4_drift 126 = .ok (.getfield 10, 3) := by decide +kernel
theorem dX4_drift_129 : decode cX4_drift 129 = .ok (.iload 4, 2) := by decide +kernel
theorem dX4_drift_131 : decode cX4_drift 131 = .ok (.invokevirtual 68, 3) := by decide +kernel
theorem dX4_drift_134 : decode cX4_drift 134 = .ok (.ifCond .eq 12, 3) := by decide +kernel
theorem dX4_drift_137 : decode cX4_drift 137 = .ok (.aload_n 0, 1) := by decide +kernel
theorem dX4_drift_138 : decode cX4_drift 138 = .ok (.getfield 10, 3) := by decide +kernel
theorem dX4_drift_141 : decode cX4_drift 141 = .ok (.iload 4, 2) := by decide +kernel
theorem dX4_drift_143 : decode cX4_drift 143 = .ok (.invokevirtual 139, 3) := by decide +kernel
theorem dX4_drift_146 : decode cX4_drift 146 = .ok (.iinc 2 1, 3) := by decide +kernel
theorem dX4_drift_149 : decode cX4_drift 149 = .ok (.goto (-133), 3) := by decide +kernel
theorem dX4_drift_152 : decode cX4_drift 152 = .ok (.aload_n 0, 1) := by decide +kernel
theorem dX4_drift_153 : decode cX4_drift 153 = .ok (.getfield 10, 3) := by decide +kernel
theorem dX4_drift_156 : decode cX4_drift 156 = .ok (.getfield 47, 3) := by decide +kernel
theorem dX4_drift_159 : decode cX4_drift 159 = .ok (.ireturn, 1) := by decide +kernel
set_option maxRecDepth 20000 in
theorem ggX4_undo_X2_takeBack : GoodIn wsX4_undo wsX2_takeBack := goodIn_r _ [11, 12, 13, 14, 15, 16, 17, 18, 19, 20, 21, 22, 23, 24, 25, 26, 33, 34, 35, 36, 37, 38, 39, 40, 41, 42, 43] (by decide +kernel) (by decide +kernel)
set_option maxRecDepth 20000 in
theorem gX4_undo_X2_takeBack : GoodIn wsX4_undo (wsV RX4 155 RX2 yX2_takeBack wsX2_takeBack) := goodIn_app (goodIn_of _ (by decide +kernel)) ggX4_undo_X2_takeBack
theorem dX4_undo_0 : decode cX4_undo 0 = .ok (.iload_n 1, 1) := by decide +kernel
theorem dX4_undo_1 : decode cX4_undo 1 = .ok (.iconst 1, 1) := by decide +kernel
theorem dX4_undo_2 : decode cX4_undo 2 = .ok (.if_icmp .lt 9, 3) := by decide +kernel
theorem dX4_undo_5 : decode cX4_undo 5 = .ok (.iload_n 1, 1) := by decide +kernel
theorem dX4_undo_6 : decode cX4_undo 6 = .ok (.bipush 20, 2) := by decide +kernel
theorem dX4_undo_8 : decode cX4_undo 8 = .ok (.if_icmp .le 6, 3) := by decide +kernel
theorem dX4_undo_11 : decode cX4_undo 11 = .ok (.ldc 84, 2) := by decide +kernel
theorem dX4_undo_13 : decode cX4_undo 13 = .ok (.ireturn, 1) := by decide +kernel
theorem dX4_undo_14 : decode cX4_undo 14 = .ok (.iload_n 1, 1) := by decide +kernel
theorem dX4_undo_15 : decode cX4_undo 15 = .ok (.aload_n 0, 1) := by decide +kernel
theorem dX4_undo_16 : decode cX4_undo 16 = .ok (.getfield 22, 3) := by decide +kernel
theorem dX4_undo_19 : decode cX4_undo 19 = .ok (.getfield 83, 3) := by decide +kernel
theorem dX4_undo_22 : decode cX4_undo 22 = .ok (.if_icmp .le 6, 3) := by decide +kernel
theorem dX4_undo_25 : decode cX4_undo 25 = .ok (.ldc 135, 2) := by decide +kernel
theorem dX4_undo_27 : decode cX4_undo 27 = .ok (.ireturn, 1) := by decide +kernel
theorem dX4_undo_28 : decode cX4_undo 28 = .ok (.aload_n 0, 1) := by decide +kernel
theorem dX4_undo_29 : decode cX4_undo 29 = .ok (.getfield 22, 3) := by decide +kernel
theorem dX4_undo_32 : decode cX4_undo 32 = .ok (.iload_n 1, 1) := by decide +kernel
theorem dX4_undo_33 : decode cX4_undo 33 = .ok (.aload_n 0, 1) := by decide +kernel
theorem dX4_undo_34 : decode cX4_undo 34 = .ok (.getfield 10, 3) := by decide +kernel
theorem dX4_undo_37 : decode cX4_undo 37 = .ok (.invokevirtual 155, 3) := by decide +kernel
theorem dX4_undo_40 : decode cX4_undo 40 = .ok (.aload_n 0, 1) := by decide +kernel
theorem dX4_undo_41 : decode cX4_undo 41 = .ok (.getfield 10, 3) := by decide +kernel
theorem dX4_undo_44 : decode cX4_undo 44 = .ok (.getfield 44, 3) := by decide +kernel
theorem dX4_undo_47 : decode cX4_undo 47 = .ok (.ireturn, 1) := by decide +kernel
set_option maxRecDepth 20000 in
theorem ggX4_write_X3_has : GoodIn wsX4_write wsX3_has := goodIn_r _ [10, 11, 29, 30, 31, 32, 33, 34, 35, 36] (by decide +kernel) (by decide +kernel)
set_option maxRecDepth 20000 in
theorem gX4_write_X3_has : GoodIn wsX4_write (wsV RX4 68 RX3 yX3_has wsX3_has) := goodIn_app (goodIn_of _ (by decide +kernel)) ggX4_write_X3_has
set_option maxRecDepth 20000 in
theorem ggX4_write_X0_add : GoodIn wsX4_write wsX0_add := goodIn_r _ [16, 17, 18, 19, 26, 27, 28] (by decide +kernel) (by decide +kernel)
set_option maxRecDepth 20000 in
theorem gX4_write_X0_add : GoodIn wsX4_write (wsV RX4 159 RX0 yX0_add wsX0_add) := goodIn_app (goodIn_of _ (by decide +kernel)) ggX4_write_X0_add
theorem dX4_write_0 : decode cX4_write 0 = .ok (.aload_n 0, 1) := by decide +kernel
theorem dX4_write_1 : decode cX4_write 1 = .ok (.getfield 10, 3) := by decide +kernel
theorem dX4_write_4 : decode cX4_write 4 = .ok (.iload_n 1, 1) := by decide +kernel
theorem dX4_write_5 : decode cX4_write 5 = .ok (.invokevirtual 68, 3) := by decide +kernel
theorem dX4_write_8 : decode cX4_write 8 = .ok (.ifCond .ne 6, 3) := by decide +kernel
theorem dX4_write_11 : decode cX4_write 11 = .ok (.ldc 85, 2) := by decide +kernel
theorem dX4_write_13 : decode cX4_write 13 = .ok (.ireturn, 1) := by decide +kernel
theorem dX4_write_14 : decode cX4_write 14 = .ok (.aload_n 0, 1) := by decide +kernel
theorem dX4_write_15 : decode cX4_write 15 = .ok (.getfield 29, 3) := by decide +kernel
theorem dX4_write_18 : decode cX4_write 18 = .ok (.getfield 76, 3) := by decide +kernel
theorem dX4_write_21 : decode cX4_write 21 = .ok (.bipush 20, 2) := by decide +kernel
theorem dX4_write_23 : decode cX4_write 23 = .ok (.if_icmp .lt 6, 3) := by decide +kernel
theorem dX4_write_26 : decode cX4_write 26 = .ok (.ldc 131, 2) := by decide +kernel
theorem dX4_write_28 : decode cX4_write 28 = .ok (.ireturn, 1) := by decide +kernel
theorem dX4_write_29 : decode cX4_write 29 = .ok (.aload_n 0, 1) := by decide +kernel
theorem dX4_write_30 : decode cX4_write 30 = .ok (.getfield 29, 3) := by decide +kernel
theorem dX4_write_33 : decode cX4_write 33 = .ok (.iload_n 1, 1) := by decide +kernel
theorem dX4_write_34 : decode cX4_write 34 = .ok (.iload_n 2, 1) := by decide +kernel
theorem dX4_write_35 : decode cX4_write 35 = .ok (.invokevirtual 159, 3) := by decide +kernel
theorem dX4_write_38 : decode cX4_write 38 = .ok (.aload_n 0, 1) := by decide +kernel
theorem dX4_write_39 : decode cX4_write 39 = .ok (.getfield 29, 3) := by decide +kernel
theorem dX4_write_42 : decode cX4_write 42 = .ok (.getfield 76, 3) := by decide +kernel
theorem dX4_write_45 : decode cX4_write 45 = .ok (.ireturn, 1) := by decide +kernel
theorem dX4_tear_0 : decode cX4_tear 0 = .ok (.aload_n 0, 1) := by decide +kernel
theorem dX4_tear_1 : decode cX4_tear 1 = .ok (.getfield 29, 3) := by decide +kernel
theorem dX4_tear_4 : decode cX4_tear 4 = .ok (.getfield 76, 3) := by decide +kernel
theorem dX4_tear_7 : decode cX4_tear 7 = .ok (.istore_n 1, 1) := by decide +kernel
theorem dX4_tear_8 : decode cX4_tear 8 = .ok (.aload_n 0, 1) := by decide +kernel
theorem dX4_tear_9 : decode cX4_tear 9 = .ok (.getfield 29, 3) := by decide +kernel
theorem dX4_tear_12 : decode cX4_tear 12 = .ok (.iconst 0, 1) := by decide +kernel
theorem dX4_tear_13 : decode cX4_tear 13 = .ok (.putfield 76, 3) := by decide +kernel
theorem dX4_tear_16 : decode cX4_tear 16 = .ok (.iload_n 1, 1) := by decide +kernel
theorem dX4_tear_17 : decode cX4_tear 17 = .ok (.ireturn, 1) := by decide +kernel
theorem dX4_seed_0 : decode cX4_seed 0 = .ok (.iload_n 1, 1) := by decide +kernel
theorem dX4_seed_1 : decode cX4_seed 1 = .ok (.ifCond .ge 6, 3) := by decide +kernel
theorem dX4_seed_4 : decode cX4_seed 4 = .ok (.ldc 84, 2) := by decide +kernel
theorem dX4_seed_6 : decode cX4_seed 6 = .ok (.ireturn, 1) := by decide +kernel
theorem dX4_seed_7 : decode cX4_seed 7 = .ok (.aload_n 0, 1) := by decide +kernel
theorem dX4_seed_8 : decode cX4_seed 8 = .ok (.getfield 39, 3) := by decide +kernel
theorem dX4_seed_11 : decode cX4_seed 11 = .ok (.istore_n 2, 1) := by decide +kernel
theorem dX4_seed_12 : decode cX4_seed 12 = .ok (.aload_n 0, 1) := by decide +kernel
theorem dX4_seed_13 : decode cX4_seed 13 = .ok (.iload_n 1, 1) := by decide +kernel
theorem dX4_seed_14 : decode cX4_seed 14 = .ok (.putfield 39, 3) := by decide +kernel
theorem dX4_seed_17 : decode cX4_seed 17 = .ok (.iload_n 2, 1) := by decide +kernel
theorem dX4_seed_18 : decode cX4_seed 18 = .ok (.ireturn, 1) := by decide +kernel
set_option maxRecDepth 20000 in
theorem ggX4_keep_X1_take : GoodIn wsX4_keep wsX1_take := goodIn_r _ [10, 11, 12, 13, 14, 15, 16, 17, 18, 19, 20, 21, 22, 23, 24, 25, 38, 39, 40, 41, 42, 43, 44, 45, 46, 47, 48] (by decide +kernel) (by decide +kernel)
set_option maxRecDepth 20000 in
theorem gX4_keep_X1_take : GoodIn wsX4_keep (wsV RX4 163 RX1 yX1_take wsX1_take) := goodIn_app (goodIn_of _ (by decide +kernel)) ggX4_keep_X1_take
set_option maxRecDepth 20000 in
theorem ggX4_keep_X2_forget : GoodIn wsX4_keep wsX2_forget := goodIn_r _ [30, 31, 49, 50, 51] (by decide +kernel) (by decide +kernel)
set_option maxRecDepth 20000 in
theorem gX4_keep_X2_forget : GoodIn wsX4_keep (wsV RX4 167 RX2 yX2_forget wsX2_forget) := goodIn_app (goodIn_of _ (by decide +kernel)) ggX4_keep_X2_forget
theorem dX4_keep_0 : decode cX4_keep 0 = .ok (.iload_n 1, 1) := by decide +kernel
theorem dX4_keep_1 : decode cX4_keep 1 = .ok (.ifCond .lt 8, 3) := by decide +kernel
theorem dX4_keep_4 : decode cX4_keep 4 = .ok (.iload_n 1, 1) := by decide +kernel
theorem dX4_keep_5 : decode cX4_keep 5 = .ok (.iconst 2, 1) := by decide +kernel
theorem dX4_keep_6 : decode cX4_keep 6 = .ok (.if_icmp .lt 6, 3) := by decide +kernel
theorem dX4_keep_9 : decode cX4_keep 9 = .ok (.ldc 85, 2) := by decide +kernel
theorem dX4_keep_11 : decode cX4_keep 11 = .ok (.ireturn, 1) := by decide +kernel
theorem dX4_keep_12 : decode cX4_keep 12 = .ok (.aload_n 0, 1) := by decide +kernel
theorem dX4_keep_13 : decode cX4_keep 13 = .ok (.getfield 35, 3) := by decide +kernel
theorem dX4_keep_16 : decode cX4_keep 16 = .ok (.iload_n 1, 1) := by decide +kernel
theorem dX4_keep_17 : decode cX4_keep 17 = .ok (.aaload, 1) := by decide +kernel
theorem dX4_keep_18 : decode cX4_keep 18 = .ok (.aload_n 0, 1) := by decide +kernel
theorem dX4_keep_19 : decode cX4_keep 19 = .ok (.getfield 10, 3) := by decide +kernel
theorem dX4_keep_22 : decode cX4_keep 22 = .ok (.aload_n 0, 1) := by decide +kernel
theorem dX4_keep_23 : decode cX4_keep 23 = .ok (.getfield 39, 3) := by decide +kernel
theorem dX4_keep_26 : decode cX4_keep 26 = .ok (.invokevirtual 163, 3) := by decide +kernel
theorem dX4_keep_29 : decode cX4_keep 29 = .ok (.aload_n 0, 1) := by decide +kernel
theorem dX4_keep_30 : decode cX4_keep 30 = .ok (.getfield 22, 3) := by decide +kernel
theorem dX4_keep_33 : decode cX4_keep 33 = .ok (.invokevirtual 167, 3) := by decide +kernel
theorem dX4_keep_36 : decode cX4_keep 36 = .ok (.iconst 1, 1) := by decide +kernel
theorem dX4_keep_37 : decode cX4_keep 37 = .ok (.ireturn, 1) := by decide +kernel
set_option maxRecDepth 20000 in
theorem ggX4_goBack_X3_copyFrom : GoodIn wsX4_goBack wsX3_copyFrom := goodIn_r _ [14, 15, 16, 17, 18, 19, 20, 21, 37, 38, 39, 40, 41, 42, 43, 44] (by decide +kernel) (by decide +kernel)
set_option maxRecDepth 20000 in
theorem gX4_goBack_X3_copyFrom : GoodIn wsX4_goBack (wsV RX4 136 RX3 yX3_copyFrom wsX3_copyFrom) := goodIn_app (goodIn_of _ (by decide +kernel)) ggX4_goBack_X3_copyFrom
set_option maxRecDepth 20000 in
theorem ggX4_goBack_X2_forget : GoodIn wsX4_goBack wsX2_forget := goodIn_r _ [26, 27, 45, 46, 47] (by decide +kernel) (by decide +kernel)
set_option maxRecDepth 20000 in
theorem gX4_goBack_X2_forget : GoodIn wsX4_goBack (wsV RX4 167 RX2 yX2_forget wsX2_forget) := goodIn_app (goodIn_of _ (by decide +kernel)) ggX4_goBack_X2_forget
theorem dX4_goBack_0 : decode cX4_goBack 0 = .ok (.iload_n 1, 1) := by decide +kernel
theorem dX4_goBack_1 : decode cX4_goBack 1 = .ok (.ifCond .lt 8, 3) := by decide +kernel
theorem dX4_goBack_4 : decode cX4_goBack 4 = .ok (.iload_n 1, 1) := by decide +kernel
theorem dX4_goBack_5 : decode cX4_goBack 5 = .ok (.iconst 2, 1) := by decide +kernel
theorem dX4_goBack_6 : decode cX4_goBack 6 = .ok (.if_icmp .lt 6, 3) := by decide +kernel
theorem dX4_goBack_9 : decode cX4_goBack 9 = .ok (.ldc 85, 2) := by decide +kernel
theorem dX4_goBack_11 : decode cX4_goBack 11 = .ok (.ireturn, 1) := by decide +kernel
theorem dX4_goBack_12 : decode cX4_goBack 12 = .ok (.aload_n 0, 1) := by decide +kernel
theorem dX4_goBack_13 : decode cX4_goBack 13 = .ok (.getfield 35, 3) := by decide +kernel
theorem dX4_goBack_16 : decode cX4_goBack 16 = .ok (.iload_n 1, 1) := by decide +kernel
theorem dX4_goBack_17 : decode cX4_goBack 17 = .ok (.aaload, 1) := by decide +kernel
theorem dX4_goBack_18 : decode cX4_goBack 18 = .ok (.getfield 170, 3) := by decide +kernel
theorem dX4_goBack_21 : decode cX4_goBack 21 = .ok (.ifCond .ne 6, 3) := by decide +kernel
theorem dX4_goBack_24 : decode cX4_goBack 24 = .ok (.ldc 135, 2) := by decide +kernel
theorem dX4_goBack_26 : decode cX4_goBack 26 = .ok (.ireturn, 1) := by decide +kernel
theorem dX4_goBack_27 : decode cX4_goBack 27 = .ok (.aload_n 0, 1) := by decide +kernel
theorem dX4_goBack_28 : decode cX4_goBack 28 = .ok (.getfield 10, 3) := by decide +kernel
theorem dX4_goBack_31 : decode cX4_goBack 31 = .ok (.aload_n 0, 1) := by decide +kernel
theorem dX4_goBack_32 : decode cX4_goBack 32 = .ok (.getfield 35, 3) := by decide +kernel
theorem dX4_goBack_35 : decode cX4_goBack 35 = .ok (.iload_n 1, 1) := by decide +kernel
theorem dX4_goBack_36 : decode cX4_goBack 36 = .ok (.aaload, 1) := by decide +kernel
theorem dX4_goBack_37 : decode cX4_goBack 37 = .ok (.getfield 174, 3) := by decide +kernel
theorem dX4_goBack_40 : decode cX4_goBack 40 = .ok (.invokevirtual 136, 3) := by decide +kernel
theorem dX4_goBack_43 : decode cX4_goBack 43 = .ok (.aload_n 0, 1) := by decide +kernel
theorem dX4_goBack_44 : decode cX4_goBack 44 = .ok (.aload_n 0, 1) := by decide +kernel
theorem dX4_goBack_45 : decode cX4_goBack 45 = .ok (.getfield 35, 3) := by decide +kernel
theorem dX4_goBack_48 : decode cX4_goBack 48 = .ok (.iload_n 1, 1) := by decide +kernel
theorem dX4_goBack_49 : decode cX4_goBack 49 = .ok (.aaload, 1) := by decide +kernel
theorem dX4_goBack_50 : decode cX4_goBack 50 = .ok (.getfield 177, 3) := by decide +kernel
theorem dX4_goBack_53 : decode cX4_goBack 53 = .ok (.putfield 39, 3) := by decide +kernel
theorem dX4_goBack_56 : decode cX4_goBack 56 = .ok (.aload_n 0, 1) := by decide +kernel
theorem dX4_goBack_57 : decode cX4_goBack 57 = .ok (.getfield 22, 3) := by decide +kernel
theorem dX4_goBack_60 : decode cX4_goBack 60 = .ok (.invokevirtual 167, 3) := by decide +kernel
theorem dX4_goBack_63 : decode cX4_goBack 63 = .ok (.iconst 1, 1) := by decide +kernel
theorem dX4_goBack_64 : decode cX4_goBack 64 = .ok (.ireturn, 1) := by decide +kernel
set_option maxRecDepth 20000 in
theorem ggX4_tryPour_X3_copyFrom : GoodIn wsX4_tryPour wsX3_copyFrom := goodIn_r _ [8, 9, 10, 11, 12, 13, 14, 15, 83, 84, 85, 86, 87, 88, 89, 90] (by decide +kernel) (by decide +kernel)
set_option maxRecDepth 20000 in
theorem gX4_tryPour_X3_copyFrom : GoodIn wsX4_tryPour (wsV RX4 136 RX3 yX3_copyFrom wsX3_copyFrom) := goodIn_app (goodIn_of _ (by decide +kernel)) ggX4_tryPour_X3_copyFrom
set_option maxRecDepth 20000 in
theorem ggX4_tryPour_X3_addFloor : GoodIn wsX4_tryPour wsX3_addFloor := goodIn_r _ [19, 10, 11, 14, 12, 13, 9, 20, 21, 22, 7, 23, 15, 24, 25, 26, 27, 28, 29, 30, 31, 32, 33, 34, 35, 36, 37, 38, 39, 40, 41, 42, 43, 44, 45, 46, 47, 48, 49, 50, 51, 52, 53, 54, 55, 56, 57, 58, 59, 60, 61, 62, 63, 64, 65, 66, 67, 68, 83, 84, 85, 86, 87, 88, 89, 90] (by decide +kernel) (by decide +kernel)
set_option maxRecDepth 20000 in
theorem gX4_tryPour_X3_addFloor : GoodIn wsX4_tryPour (wsV RX4 178 RX3 yX3_addFloor wsX3_addFloor) := goodIn_app (goodIn_of _ (by decide +kernel)) ggX4_tryPour_X3_addFloor
set_option maxRecDepth 20000 in
theorem ggX4_tryPour_X3_isSafe : GoodIn wsX4_tryPour wsX3_isSafe := goodIn_r _ [72, 73, 74, 75, 7, 76, 10, 13, 52, 53, 54, 55, 12, 9, 48, 49, 50, 51, 14, 11, 56, 57, 58, 59, 60, 83, 84, 85, 86, 87, 88, 89, 90] (by decide +kernel) (by decide +kernel)
set_option maxRecDepth 20000 in
theorem gX4_tryPour_X3_isSafe : GoodIn wsX4_tryPour (wsV RX4 61 RX3 yX3_isSafe wsX3_isSafe) := goodIn_app (goodIn_of _ (by decide +kernel)) ggX4_tryPour_X3_isSafe
theorem dX4_tryPour_0 : decode cX4_tryPour 0 = .ok (.aload_n 0, 1) := by decide +kernel
theorem dX4_tryPour_1 : decode cX4_tryPour 1 = .ok (.getfield 10, 3) := by decide +kernel
theorem dX4_tryPour_4 : decode cX4_tryPour 4 = .ok (.getfield 47, 3) := by decide +kernel
theorem dX4_tryPour_7 : decode cX4_tryPour 7 = .ok (.bipush 8, 2) := by decide +kernel
theorem dX4_tryPour_9 : decode cX4_tryPour 9 = .ok (.if_icmp .lt 5, 3) := by decide +kernel
theorem dX4_tryPour_12 : decode cX4_tryPour 12 = .ok (.iconst 0, 1) := by decide +kernel
theorem dX4_tryPour_13 : decode cX4_tryPour 13 = .ok (.ireturn, 1) := by decide +kernel
theorem dX4_tryPour_14 : decode cX4_tryPour 14 = .ok (.aload_n 0, 1) := by decide +kernel
theorem dX4_tryPour_15 : decode cX4_tryPour 15 = .ok (.getfield 16, 3) := by decide +kernel
theorem dX4_tryPour_18 : decode cX4_tryPour 18 = .ok (.aload_n 0, 1) := by decide +kernel
theorem dX4_tryPour_19 : decode cX4_tryPour 19 = .ok (.getfield 10, 3) := by decide +kernel
theorem dX4_tryPour_22 : decode cX4_tryPour 22 = .ok (.invokevirtual 136, 3) := by decide +kernel
theorem dX4_tryPour_25 : decode cX4_tryPour 25 = .ok (.aload_n 0, 1) := by decide +kernel
theorem dX4_tryPour_26 : decode cX4_tryPour 26 = .ok (.getfield 16, 3) := by decide +kernel
theorem dX4_tryPour_29 : decode cX4_tryPour 29 = .ok (.invokevirtual 178, 3) := by decide +kernel
theorem dX4_tryPour_32 : decode cX4_tryPour 32 = .ok (.aload_n 0, 1) := by decide +kernel
theorem dX4_tryPour_33 : decode cX4_tryPour 33 = .ok (.getfield 16, 3) := by decide +kernel
theorem dX4_tryPour_36 : decode cX4_tryPour 36 = .ok (.invokevirtual 61, 3) := by decide +kernel
theorem dX4_tryPour_39 : decode cX4_tryPour 39 = .ok (.ireturn, 1) := by decide +kernel
set_option maxRecDepth 20000 in
theorem ggX4_tryStrike_X3_has : GoodIn wsX4_tryStrike wsX3_has := goodIn_r _ [8, 9, 89, 90, 91, 92, 93, 94, 95, 96] (by decide +kernel) (by decide +kernel)
set_option maxRecDepth 20000 in
theorem gX4_tryStrike_X3_has : GoodIn wsX4_tryStrike (wsV RX4 68 RX3 yX3_has wsX3_has) := goodIn_app (goodIn_of _ (by decide +kernel)) ggX4_tryStrike_X3_has
set_option maxRecDepth 20000 in
theorem ggX4_tryStrike_X3_isPropped : GoodIn wsX4_tryStrike wsX3_isPropped := goodIn_r _ [13, 14, 89, 90, 91, 92, 93, 94, 95, 96] (by decide +kernel) (by decide +kernel)
set_option maxRecDepth 20000 in
theorem gX4_tryStrike_X3_isPropped : GoodIn wsX4_tryStrike (wsV RX4 98 RX3 yX3_isPropped wsX3_isPropped) := goodIn_app (goodIn_of _ (by decide +kernel)) ggX4_tryStrike_X3_isPropped
set_option maxRecDepth 20000 in
theorem ggX4_tryStrike_X3_copyFrom : GoodIn wsX4_tryStrike wsX3_copyFrom := goodIn_r _ [18, 19, 9, 20, 21, 22, 23, 14, 89, 90, 91, 92, 93, 94, 95, 96] (by decide +kernel) (by decide +kernel)
set_option maxRecDepth 20000 in
theorem gX4_tryStrike_X3_copyFrom : GoodIn wsX4_tryStrike (wsV RX4 136 RX3 yX3_copyFrom wsX3_copyFrom) := goodIn_app (goodIn_of _ (by decide +kernel)) ggX4_tryStrike_X3_copyFrom
set_option maxRecDepth 20000 in
theorem ggX4_tryStrike_X3_takeProps : GoodIn wsX4_tryStrike wsX3_takeProps := goodIn_r _ [27, 14, 28, 5, 6, 7, 8, 9, 29, 30, 31, 32, 19, 22, 33, 11, 12, 13, 34, 35, 36, 37, 38, 39, 40, 41, 42, 43, 44, 45, 46, 47, 48, 49, 50, 51, 52, 53, 54, 55, 56, 57, 23, 20, 58, 59, 60, 61, 21, 62, 63, 64, 65, 66, 67, 68, 69, 70, 71, 72, 73, 74, 89, 90, 91, 92, 93, 94, 95, 96] (by decide +kernel) (by decide +kernel)
set_option maxRecDepth 20000 in
theorem gX4_tryStrike_X3_takeProps : GoodIn wsX4_tryStrike (wsV RX4 181 RX3 yX3_takeProps wsX3_takeProps) := goodIn_app (goodIn_of _ (by decide +kernel)) ggX4_tryStrike_X3_takeProps
set_option maxRecDepth 20000 in
theorem ggX4_tryStrike_X3_isSafe : GoodIn wsX4_tryStrike wsX3_isSafe := goodIn_r _ [78, 79, 80, 81, 7, 82, 9, 22, 58, 59, 60, 61, 21, 19, 54, 55, 56, 57, 23, 20, 62, 63, 64, 65, 66, 89, 90, 91, 92, 93, 94, 95, 96] (by decide +kernel) (by decide +kernel)
set_option maxRecDepth 20000 in
theorem gX4_tryStrike_X3_isSafe : GoodIn wsX4_tryStrike (wsV RX4 61 RX3 yX3_isSafe wsX3_isSafe) := goodIn_app (goodIn_of _ (by decide +kernel)) ggX4_tryStrike_X3_isSafe
theorem dX4_tryStrike_0 : decode cX4_tryStrike 0 = .ok (.aload_n 0, 1) := by decide +kernel
theorem dX4_tryStrike_1 : decode cX4_tryStrike 1 = .ok (.getfield 10, 3) := by decide +kernel
theorem dX4_tryStrike_4 : decode cX4_tryStrike 4 = .ok (.iload_n 1, 1) := by decide +kernel
theorem dX4_tryStrike_5 : decode cX4_tryStrike 5 = .ok (.invokevirtual 68, 3) := by decide +kernel
theorem dX4_tryStrike_8 : decode cX4_tryStrike 8 = .ok (.ifCond .eq 14, 3) := by decide +kernel
theorem dX4_tryStrike_11 : decode cX4_tryStrike 11 = .ok (.aload_n 0, 1) := by decide +kernel
theorem dX4_tryStrike_12 : decode cX4_tryStrike 12 = .ok (.getfield 10, 3) := by decide +kernel
theorem dX4_tryStrike_15 : decode cX4_tryStrike 15 = .ok (.iload_n 1, 1) := by decide +kernel
theorem dX4_tryStrike_16 : decode cX4_tryStrike 16 = .ok (.invokevirtual 98, 3) := by decide +kernel
theorem dX4_tryStrike_19 : decode cX4_tryStrike 19 = .ok (.ifCond .ne 5, 3) := by decide +kernel
theorem dX4_tryStrike_22 : decode cX4_tryStrike 22 = .ok (.iconst 0, 1) := by decide +kernel
theorem dX4_tryStrike_23 : decode cX4_tryStrike 23 = .ok (.ireturn, 1) := by decide +kernel
theorem dX4_tryStrike_24 : decode cX4_tryStrike 24 = .ok (.aload_n 0, 1) := by decide +kernel
theorem dX4_tryStrike_25 : decode cX4_tryStrike 25 = .ok (.getfield 16, 3) := by decide +kernel
theorem dX4_tryStrike_28 : decode cX4_tryStrike 28 = .ok (.aload_n 0, 1) := by decide +kernel
theorem dX4_tryStrike_29 : decode cX4_tryStrike 29 = .ok (.getfield 10, 3) := by decide +kernel
theorem dX4_tryStrike_32 : decode cX4_tryStrike 32 = .ok (.invokevirtual 136, 3) := by decide +kernel
theorem dX4_tryStrike_35 : decode cX4_tryStrike 35 = .ok (.aload_n 0, 1) := by decide +kernel
theorem dX4_tryStrike_36 : decode cX4_tryStrike 36 = .ok (.getfield 16, 3) := by decide +kernel
theorem dX4_tryStrike_39 : decode cX4_tryStrike 39 = .ok (.dup, 1) := by decide +kernel
theorem dX4_tryStrike_40 : decode cX4_tryStrike 40 = .ok (.getfield 44, 3) := by decide +kernel
theorem dX4_tryStrike_43 : decode cX4_tryStrike 43 = .ok (.iload_n 2, 1) := by decide +kernel
theorem dX4_tryStrike_44 : decode cX4_tryStrike 44 = .ok (.iadd, 1) := by decide +kernel
theorem dX4_tryStrike_45 : decode cX4_tryStrike 45 = .ok (.putfield 44, 3) := by decide +kernel
theorem dX4_tryStrike_48 : decode cX4_tryStrike 48 = .ok (.aload_n 0, 1) := by decide +kernel
theorem dX4_tryStrike_49 : decode cX4_tryStrike 49 = .ok (.getfield 16, 3) := by decide +kernel
theorem dX4_tryStrike_52 : decode cX4_tryStrike 52 = .ok (.iload_n 1, 1) := by decide +kernel
theorem dX4_tryStrike_53 : decode cX4_tryStrike 53 = .ok (.invokevirtual 181, 3) := by decide +kernel
theorem dX4_tryStrike_56 : decode cX4_tryStrike 56 = .ok (.aload_n 0, 1) := by decide +kernel
theorem dX4_tryStrike_57 : decode cX4_tryStrike 57 = .ok (.getfield 16, 3) := by decide +kernel
theorem dX4_tryStrike_60 : decode cX4_tryStrike 60 = .ok (.invokevirtual 61, 3) := by decide +kernel
theorem dX4_tryStrike_63 : decode cX4_tryStrike 63 = .ok (.ireturn, 1) := by decide +kernel
set_option maxRecDepth 20000 in
theorem ggX4_maySet_X4_tryStrike : GoodIn wsX4_maySet wsX4_tryStrike := goodIn_r _ [7, 1, 8, 9, 10, 11, 12, 13, 14, 15, 16, 17, 18, 19, 20, 21, 22, 23, 24, 25, 26, 27, 28, 29, 30, 31, 32, 33, 34, 35, 36, 37, 38, 39, 40, 41, 42, 43, 44, 45, 46, 47, 48, 49, 50, 51, 52, 53, 54, 55, 56, 57, 58, 59, 60, 61, 62, 63, 64, 65, 66, 67, 68, 6, 69, 70, 71, 72, 73, 74, 75, 76, 77, 78, 79, 80, 81, 82, 83, 84, 85, 86, 87, 88, 89, 90, 91, 92, 93, 94, 95, 96, 97, 98, 99, 100, 101] (by decide +kernel) (by decide +kernel)
set_option maxRecDepth 20000 in
theorem gX4_maySet_X4_tryStrike : GoodIn wsX4_maySet (wsV RX4 120 RX4 yX4_tryStrike wsX4_tryStrike) := goodIn_app (goodIn_of _ (by decide +kernel)) ggX4_maySet_X4_tryStrike
theorem dX4_maySet_0 : decode cX4_maySet 0 = .ok (.iconst 0, 1) := by decide +kernel
theorem dX4_maySet_1 : decode cX4_maySet 1 = .ok (.istore_n 1, 1) := by decide +kernel
theorem dX4_maySet_2 : decode cX4_maySet 2 = .ok (.iconst 0, 1) := by decide +kernel
theorem dX4_maySet_3 : decode cX4_maySet 3 = .ok (.istore_n 2, 1) := by decide +kernel
theorem dX4_maySet_4 : decode cX4_maySet 4 = .ok (.iload_n 2, 1) := by decide +kernel
theorem dX4_maySet_5 : decode cX4_maySet 5 = .ok (.aload_n 0, 1) := by decide +kernel
theorem dX4_maySet_6 : decode cX4_maySet 6 = .ok (.getfield 10, 3) := by decide +kernel
theorem dX4_maySet_9 : decode cX4_maySet 9 = .ok (.getfield 47, 3) := by decide +kernel
theorem dX4_maySet_12 : decode cX4_maySet 12 = .ok (.if_icmp .ge 24, 3) := by decide +kernel
theorem dX4_maySet_15 : decode cX4_maySet 15 = .ok (.aload_n 0, 1) := by decide +kernel
theorem dX4_maySet_16 : decode cX4_maySet 16 = .ok (.iload_n 2, 1) := by decide +kernel
theorem dX4_maySet_17 : decode cX4_maySet 17 = .ok (.iconst 0, 1) := by decide +kernel
theorem dX4_maySet_18 : decode cX4_maySet 18 = .ok (.invokevirtual 120, 3) := by decide +kernel
theorem dX4_maySet_21 : decode cX4_maySet 21 = .ok (.ifCond .eq 9, 3) := by decide +kernel
theorem dX4_maySet_24 : decode cX4_maySet 24 = .ok (.iload_n 1, 1) := by decide +kernel
theorem dX4_maySet_25 : decode cX4_maySet 25 = .ok (.iconst 1, 1) := by decide +kernel
theorem dX4_maySet_26 : decode cX4_maySet 26 = .ok (.iload_n 2, 1) := by decide +kernel
theorem dX4_maySet_27 : decode cX4_maySet 27 = .ok (.ishl, 1) := by decide +kernel
theorem dX4_maySet_28 : decode cX4_maySet 28 = .ok (.ior, 1) := by decide +kernel
theorem dX4_maySet_29 : decode cX4_maySet 29 = .ok (.istore_n 1, 1) := by decide +kernel
theorem dX4_maySet_30 : decode cX4_maySet 30 = .ok (.iinc 2 1, 3) := by decide +kernel
theorem dX4_maySet_33 : decode cX4_maySet 33 = .ok (.goto (-29), 3) := by decide +kernel
theorem dX4_maySet_36 : decode cX4_maySet 36 = .ok (.iload_n 1, 1) := by decide +kernel
theorem dX4_maySet_37 : decode cX4_maySet 37 = .ok (.ireturn, 1) := by decide +kernel
set_option maxRecDepth 20000 in
theorem ggX4_earliestFor_X3_isPropped : GoodIn wsX4_earliestFor wsX3_isPropped := goodIn_r _ [6, 7, 93, 94, 95, 96, 97, 98, 99, 100] (by decide +kernel) (by decide +kernel)
set_option maxRecDepth 20000 in
theorem gX4_earliestFor_X3_isPropped : GoodIn wsX4_earliestFor (wsV RX4 98 RX3 yX3_isPropped wsX3_isPropped) := goodIn_app (goodIn_of _ (by decide +kernel)) ggX4_earliestFor_X3_isPropped
set_option maxRecDepth 20000 in
theorem ggX4_earliestFor_X4_tryStrike : GoodIn wsX4_earliestFor wsX4_tryStrike := goodIn_r _ [12, 1, 13, 14, 15, 16, 17, 5, 18, 19, 2, 3, 4, 6, 7, 20, 21, 22, 23, 24, 25, 26, 27, 28, 29, 30, 31, 32, 33, 34, 35, 36, 37, 38, 39, 40, 41, 42, 43, 44, 45, 46, 47, 48, 49, 50, 51, 52, 53, 54, 55, 56, 57, 58, 59, 60, 61, 62, 63, 64, 65, 66, 67, 11, 68, 69, 70, 71, 72, 73, 74, 75, 76, 77, 78, 79, 80, 81, 82, 83, 84, 85, 86, 87, 88, 89, 90, 91, 92, 93, 94, 95, 96, 97, 98, 99, 100] (by decide +kernel) (by decide +kernel)
set_option maxRecDepth 20000 in
theorem gX4_earliestFor_X4_tryStrike : GoodIn wsX4_earliestFor (wsV RX4 120 RX4 yX4_tryStrike wsX4_tryStrike) := goodIn_app (goodIn_of _ (by decide +kernel)) ggX4_earliestFor_X4_tryStrike
theorem dX4_earliestFor_0 : decode cX4_earliestFor 0 = .ok (.aload_n 0, 1) := by decide +kernel
theorem dX4_earliestFor_1 : decode cX4_earliestFor 1 = .ok (.getfield 10, 3) := by decide +kernel
theorem dX4_earliestFor_4 : decode cX4_earliestFor 4 = .ok (.iload_n 1, 1) := by decide +kernel
theorem dX4_earliestFor_5 : decode cX4_earliestFor 5 = .ok (.invokevirtual 98, 3) := by decide +kernel
theorem dX4_earliestFor_8 : decode cX4_earliestFor 8 = .ok (.ifCond .ne 5, 3) := by decide +kernel
theorem dX4_earliestFor_11 : decode cX4_earliestFor 11 = .ok (.iconst (-1), 1) := by decide +kernel
theorem dX4_earliestFor_12 : decode cX4_earliestFor 12 = .ok (.ireturn, 1) := by decide +kernel
theorem dX4_earliestFor_13 : decode cX4_earliestFor 13 = .ok (.iconst 0, 1) := by decide +kernel
theorem dX4_earliestFor_14 : decode cX4_earliestFor 14 = .ok (.istore_n 2, 1) := by decide +kernel
theorem dX4_earliestFor_15 : decode cX4_earliestFor 15 = .ok (.iload_n 2, 1) := by decide +kernel
theorem dX4_earliestFor_16 : decode cX4_earliestFor 16 = .ok (.bipush 60, 2) := by decide +kernel
theorem dX4_earliestFor_18 : decode cX4_earliestFor 18 = .ok (.if_icmp .gt 20, 3) := by decide +kernel
theorem dX4_earliestFor_21 : decode cX4_earliestFor 21 = .ok (.aload_n 0, 1) := by decide +kernel
theorem dX4_earliestFor_22 : decode cX4_earliestFor 22 = .ok (.iload_n 1, 1) := by decide +kernel
theorem dX4_earliestFor_23 : decode cX4_earliestFor 23 = .ok (.iload_n 2, 1) := by decide +kernel
theorem dX4_earliestFor_24 : decode cX4_earliestFor 24 = .ok (.invokevirtual 120, 3) := by decide +kernel
theorem dX4_earliestFor_27 : decode cX4_earliestFor 27 = .ok (.ifCond .eq 5, 3) := by decide +kernel
theorem dX4_earliestFor_30 : decode cX4_earliestFor 30 = .ok (.iload_n 2, 1) := by decide +kernel
theorem dX4_earliestFor_31 : decode cX4_earliestFor 31 = .ok (.ireturn, 1) := by decide +kernel
theorem dX4_earliestFor_32 : decode cX4_earliestFor 32 = .ok (.iinc 2 1, 3) := by decide +kernel
theorem dX4_earliestFor_35 : decode cX4_earliestFor 35 = .ok (.goto (-20), 3) := by decide +kernel
theorem dX4_earliestFor_38 : decode cX4_earliestFor 38 = .ok (.iconst (-1), 1) := by decide +kernel
theorem dX4_earliestFor_39 : decode cX4_earliestFor 39 = .ok (.ireturn, 1) := by decide +kernel
set_option maxRecDepth 20000 in
theorem ggX4_harmOf_X3_isPropped : GoodIn wsX4_harmOf wsX3_isPropped := goodIn_r _ [7, 8, 97, 98, 99, 100, 101, 102, 103, 104] (by decide +kernel) (by decide +kernel)
set_option maxRecDepth 20000 in
theorem gX4_harmOf_X3_isPropped : GoodIn wsX4_harmOf (wsV RX4 98 RX3 yX3_isPropped wsX3_isPropped) := goodIn_app (goodIn_of _ (by decide +kernel)) ggX4_harmOf_X3_isPropped
set_option maxRecDepth 20000 in
theorem ggX4_harmOf_X4_tryStrike : GoodIn wsX4_harmOf wsX4_tryStrike := goodIn_r _ [13, 1, 2, 14, 15, 16, 17, 6, 18, 19, 3, 4, 5, 7, 8, 20, 21, 22, 23, 24, 25, 26, 27, 28, 29, 30, 31, 32, 33, 34, 35, 36, 37, 38, 39, 40, 41, 42, 43, 44, 45, 46, 47, 48, 49, 50, 51, 52, 53, 54, 55, 56, 57, 58, 59, 60, 61, 62, 63, 64, 65, 66, 67, 12, 68, 69, 70, 71, 72, 73, 74, 75, 76, 77, 78, 79, 80, 81, 82, 83, 84, 85, 86, 91, 92, 93, 94, 95, 96, 97, 98, 99, 100, 101, 102, 103, 104] (by decide +kernel) (by decide +kernel)
set_option maxRecDepth 20000 in
theorem gX4_harmOf_X4_tryStrike : GoodIn wsX4_harmOf (wsV RX4 120 RX4 yX4_tryStrike wsX4_tryStrike) := goodIn_app (goodIn_of _ (by decide +kernel)) ggX4_harmOf_X4_tryStrike
set_option maxRecDepth 20000 in
theorem ggX4_harmOf_X3_greatestExcess : GoodIn wsX4_harmOf wsX3_greatestExcess := goodIn_r _ [90, 27, 19, 52, 53, 50, 54, 63, 64, 65, 6, 66, 26, 24, 59, 60, 61, 62, 28, 25, 67, 12, 68, 69, 70, 97, 98, 99, 100, 101, 102, 103, 104] (by decide +kernel) (by decide +kernel)
set_option maxRecDepth 20000 in
theorem gX4_harmOf_X3_greatestExcess : GoodIn wsX4_harmOf (wsV RX4 184 RX3 yX3_greatestExcess wsX3_greatestExcess) := goodIn_app (goodIn_of _ (by decide +kernel)) ggX4_harmOf_X3_greatestExcess
theorem dX4_harmOf_0 : decode cX4_harmOf 0 = .ok (.aload_n 0, 1) := by decide +kernel
theorem dX4_harmOf_1 : decode cX4_harmOf 1 = .ok (.getfield 10, 3) := by decide +kernel
theorem dX4_harmOf_4 : decode cX4_harmOf 4 = .ok (.iload_n 1, 1) := by decide +kernel
theorem dX4_harmOf_5 : decode cX4_harmOf 5 = .ok (.invokevirtual 98, 3) := by decide +kernel
theorem dX4_harmOf_8 : decode cX4_harmOf 8 = .ok (.ifCond .ne 5, 3) := by decide +kernel
theorem dX4_harmOf_11 : decode cX4_harmOf 11 = .ok (.iconst (-1), 1) := by decide +kernel
theorem dX4_harmOf_12 : decode cX4_harmOf 12 = .ok (.ireturn, 1) := by decide +kernel
theorem dX4_harmOf_13 : decode cX4_harmOf 13 = .ok (.aload_n 0, 1) := by decide +kernel
theorem dX4_harmOf_14 : decode cX4_harmOf 14 = .ok (.iload_n 1, 1) := by decide +kernel
theorem dX4_harmOf_15 : decode cX4_harmOf 15 = .ok (.iconst 0, 1) := by decide +kernel
theorem dX4_harmOf_16 : decode cX4_harmOf 16 = .ok (.invokevirtual 120, 3) := by decide +kernel
theorem dX4_harmOf_19 : decode cX4_harmOf 19 = .ok (.pop, 1) := by decide +kernel
theorem dX4_harmOf_20 : decode cX4_harmOf 20 = .ok (.aload_n 0, 1) := by decide +kernel
theorem dX4_harmOf_21 : decode cX4_harmOf 21 = .ok (.getfield 16, 3) := by decide +kernel
theorem dX4_harmOf_24 : decode cX4_harmOf 24 = .ok (.invokevirtual 184, 3) := by decide +kernel
theorem dX4_harmOf_27 : decode cX4_harmOf 27 = .ok (.sipush 1000, 3) := by decide +kernel
theorem dX4_harmOf_30 : decode cX4_harmOf 30 = .ok (.iadd, 1) := by decide +kernel
theorem dX4_harmOf_31 : decode cX4_harmOf 31 = .ok (.ireturn, 1) := by decide +kernel
set_option maxRecDepth 20000 in
theorem ggX4_cycleHolds_X3_copyFrom : GoodIn wsX4_cycleHolds wsX3_copyFrom := goodIn_r _ [9, 10, 11, 12, 13, 14, 15, 16, 111, 112, 113, 114, 115, 116, 117, 118] (by decide +kernel) (by decide +kernel)
set_option maxRecDepth 20000 in
theorem gX4_cycleHolds_X3_copyFrom : GoodIn wsX4_cycleHolds (wsV RX4 136 RX3 yX3_copyFrom wsX3_copyFrom) := goodIn_app (goodIn_of _ (by decide +kernel)) ggX4_cycleHolds_X3_copyFrom
set_option maxRecDepth 20000 in
theorem ggX4_cycleHolds_X3_empty : GoodIn wsX4_cycleHolds wsX3_empty := goodIn_r _ [20, 15, 11, 16, 111, 112, 113, 114, 115, 116, 117, 118] (by decide +kernel) (by decide +kernel)
set_option maxRecDepth 20000 in
theorem gX4_cycleHolds_X3_empty : GoodIn wsX4_cycleHolds (wsV RX4 149 RX3 yX3_empty wsX3_empty) := goodIn_app (goodIn_of _ (by decide +kernel)) ggX4_cycleHolds_X3_empty
set_option maxRecDepth 20000 in
theorem ggX4_cycleHolds_J6_bitCount_0f7a4 : GoodIn wsX4_cycleHolds wsJ6_bitCount_0f7a4 := goodIn_r _ [24, 25, 26, 27] (by decide +kernel) (by decide +kernel)
set_option maxRecDepth 20000 in
theorem gX4_cycleHolds_J6_bitCount_0f7a4 : GoodIn wsX4_cycleHolds (va_wsS RX4 187 yJ6_bitCount_0f7a4 wsJ6_bitCount_0f7a4) := goodIn_app (goodIn_of _ (by decide +kernel)) ggX4_cycleHolds_J6_bitCount_0f7a4
set_option maxRecDepth 20000 in
theorem ggX4_cycleHolds_X3_lowestPropped : GoodIn wsX4_cycleHolds wsX3_lowestPropped := goodIn_r _ [31, 11, 32, 33, 34, 8, 35, 16, 111, 112, 113, 114, 115, 116, 117, 118] (by decide +kernel) (by decide +kernel)
set_option maxRecDepth 20000 in
theorem gX4_cycleHolds_X3_lowestPropped : GoodIn wsX4_cycleHolds (wsV RX4 192 RX3 yX3_lowestPropped wsX3_lowestPropped) := goodIn_app (goodIn_of _ (by decide +kernel)) ggX4_cycleHolds_X3_lowestPropped
set_option maxRecDepth 20000 in
theorem ggX4_cycleHolds_X3_takeProps : GoodIn wsX4_cycleHolds wsX3_takeProps := goodIn_r _ [39, 16, 40, 41, 42, 8, 43, 11, 44, 45, 46, 47, 10, 14, 32, 33, 34, 35, 48, 49, 50, 51, 52, 53, 54, 55, 56, 57, 58, 59, 60, 61, 62, 63, 64, 65, 66, 67, 68, 69, 70, 71, 15, 12, 72, 73, 74, 75, 13, 76, 77, 78, 79, 80, 81, 82, 83, 84, 85, 86, 87, 88, 111, 112, 113, 114, 115, 116, 117, 118] (by decide +kernel) (by decide +kernel)
set_option maxRecDepth 20000 in
theorem gX4_cycleHolds_X3_takeProps : GoodIn wsX4_cycleHolds (wsV RX4 181 RX3 yX3_takeProps wsX3_takeProps) := goodIn_app (goodIn_of _ (by decide +kernel)) ggX4_cycleHolds_X3_takeProps
set_option maxRecDepth 20000 in
theorem ggX4_cycleHolds_X3_isSafe : GoodIn wsX4_cycleHolds wsX3_isSafe := goodIn_r _ [92, 93, 94, 95, 8, 96, 11, 14, 72, 73, 74, 75, 13, 10, 68, 69, 70, 71, 15, 12, 76, 77, 78, 79, 80, 111, 112, 113, 114, 115, 116, 117, 118] (by decide +kernel) (by decide +kernel)
set_option maxRecDepth 20000 in
theorem gX4_cycleHolds_X3_isSafe : GoodIn wsX4_cycleHolds (wsV RX4 61 RX3 yX3_isSafe wsX3_isSafe) := goodIn_app (goodIn_of _ (by decide +kernel)) ggX4_cycleHolds_X3_isSafe
set_option maxRecDepth 20000 in
theorem ggX4_cycleHolds_X3_addFloor : GoodIn wsX4_cycleHolds wsX3_addFloor := goodIn_r _ [100, 11, 12, 15, 13, 14, 10, 101, 102, 103, 8, 104, 16, 52, 53, 54, 55, 56, 57, 58, 59, 60, 61, 62, 63, 64, 65, 66, 67, 32, 33, 34, 35, 48, 49, 50, 51, 68, 69, 70, 71, 72, 73, 74, 75, 76, 77, 78, 79, 80, 81, 82, 83, 84, 85, 86, 87, 88, 111, 112, 113, 114, 115, 116, 117, 118] (by decide +kernel) (by decide +kernel)
set_option maxRecDepth 20000 in
theorem gX4_cycleHolds_X3_addFloor : GoodIn wsX4_cycleHolds (wsV RX4 178 RX3 yX3_addFloor wsX3_addFloor) := goodIn_app (goodIn_of _ (by decide +kernel)) ggX4_cycleHolds_X3_addFloor
theorem dX4_cycleHolds_0 : decode cX4_cycleHolds 0 = .ok (.aload_n 0, 1) := by decide +kernel
theorem dX4_cycleHolds_1 : decode cX4_cycleHolds 1 = .ok (.getfield 16, 3) := by decide +kernel
theorem dX4_cycleHolds_4 : decode cX4_cycleHolds 4 = .ok (.aload_n 0, 1) := by decide +kernel
theorem dX4_cycleHolds_5 : decode cX4_cycleHolds 5 = .ok (.getfield 10, 3) := by decide +kernel
theorem dX4_cycleHolds_8 : decode cX4_cycleHolds 8 = .ok (.invokevirtual 136, 3) := by decide +kernel
theorem dX4_cycleHolds_11 : decode cX4_cycleHolds 11 = .ok (.aload_n 0, 1) := by decide +kernel
theorem dX4_cycleHolds_12 : decode cX4_cycleHolds 12 = .ok (.getfield 16, 3) := by decide +kernel
theorem dX4_cycleHolds_15 : decode cX4_cycleHolds 15 = .ok (.invokevirtual 149, 3) := by decide +kernel
theorem dX4_cycleHolds_18 : decode cX4_cycleHolds 18 = .ok (.iconst 0, 1) := by decide +kernel
theorem dX4_cycleHolds_19 : decode cX4_cycleHolds 19 = .ok (.istore_n 3, 1) := by decide +kernel
theorem dX4_cycleHolds_20 : decode cX4_cycleHolds 20 = .ok (.iload_n 3, 1) := by decide +kernel
theorem dX4_cycleHolds_21 : decode cX4_cycleHolds 21 = .ok (.bipush 8, 2) := by decide +kernel
theorem dX4_cycleHolds_23 : decode cX4_cycleHolds 23 = .ok (.if_icmp .ge 78, 3) := by decide +kernel
theorem dX4_cycleHolds_26 : decode cX4_cycleHolds 26 = .ok (.aload_n 0, 1) := by decide +kernel
theorem dX4_cycleHolds_27 : decode cX4_cycleHolds 27 = .ok (.getfield 16, 3) := by decide +kernel
theorem dX4_cycleHolds_30 : decode cX4_cycleHolds 30 = .ok (.iload_n 3, 1) := by decide +kernel
theorem dX4_cycleHolds_31 : decode cX4_cycleHolds 31 = .ok (.iload_n 2, 1) := by decide +kernel
theorem dX4_cycleHolds_32 : decode cX4_cycleHolds 32 = .ok (.imul, 1) := by decide +kernel
theorem dX4_cycleHolds_33 : decode cX4_cycleHolds 33 = .ok (.putfield 44, 3) := by decide +kernel
theorem dX4_cycleHolds_36 : decode cX4_cycleHolds 36 = .ok (.aload_n 0, 1) := by decide +kernel
theorem dX4_cycleHolds_37 : decode cX4_cycleHolds 37 = .ok (.getfield 16, 3) := by decide +kernel
theorem dX4_cycleHolds_40 : decode cX4_cycleHolds 40 = .ok (.getfield 54, 3) := by decide +kernel
theorem dX4_cycleHolds_43 : decode cX4_cycleHolds 43 = .ok (.invokestatic 187, 3) := by decide +kernel
theorem dX4_cycleHolds_46 : decode cX4_cycleHolds 46 = .ok (.iload_n 1, 1) := by decide +kernel
theorem dX4_cycleHolds_47 : decode cX4_cycleHolds 47 = .ok (.if_icmp .ne 29, 3) := by decide +kernel
theorem dX4_cycleHolds_50 : decode cX4_cycleHolds 50 = .ok (.aload_n 0, 1) := by decide +kernel
theorem dX4_cycleHolds_51 : decode cX4_cycleHolds 51 = .ok (.getfield 16, 3) := by decide +kernel
theorem dX4_cycleHolds_54 : decode cX4_cycleHolds 54 = .ok (.aload_n 0, 1) := by decide +kernel
theorem dX4_cycleHolds_55 : decode cX4_cycleHolds 55 = .ok (.getfield 16, 3) := by decide +kernel
theorem dX4_cycleHolds_58 : decode cX4_cycleHolds 58 = .ok (.invokevirtual 192, 3) := by decide +kernel
theorem dX4_cycleHolds_61 : decode cX4_cycleHolds 61 = .ok (.invokevirtual 181, 3) := by decide +kernel
theorem dX4_cycleHolds_64 : decode cX4_cycleHolds 64 = .ok (.aload_n 0, 1) := by decide +kernel
theorem dX4_cycleHolds_65 : decode cX4_cycleHolds 65 = .ok (.getfield 16, 3) := by decide +kernel
theorem dX4_cycleHolds_68 : decode cX4_cycleHolds 68 = .ok (.invokevirtual 61, 3) := by decide +kernel
theorem dX4_cycleHolds_71 : decode cX4_cycleHolds 71 = .ok (.ifCond .ne 5, 3) := by decide +kernel
theorem dX4_cycleHolds_74 : decode cX4_cycleHolds 74 = .ok (.iconst 0, 1) := by decide +kernel
theorem dX4_cycleHolds_75 : decode cX4_cycleHolds 75 = .ok (.ireturn, 1) := by decide +kernel
theorem dX4_cycleHolds_76 : decode cX4_cycleHolds 76 = .ok (.aload_n 0, 1) := by decide +kernel
theorem dX4_cycleHolds_77 : decode cX4_cycleHolds 77 = .ok (.getfield 16, 3) := by decide +kernel
theorem dX4_cycleHolds_80 : decode cX4_cycleHolds 80 = .ok (.invokevirtual 178, 3) := by decide +kernel
theorem dX4_cycleHolds_83 : decode cX4_cycleHolds 83 = .ok (.aload_n 0, 1) := by decide +kernel
theorem dX4_cycleHolds_84 : decode cX4_cycleHolds 84 = .ok (.getfield 16, 3) := by decide +kernel
theorem dX4_cycleHolds_87 : decode cX4_cycleHolds 87 = .ok (.invokevirtual 61, 3) := by decide +kernel
theorem dX4_cycleHolds_90 : decode cX4_cycleHolds 90 = .ok (.ifCond .ne 5, 3) := by decide +kernel
theorem dX4_cycleHolds_93 : decode cX4_cycleHolds 93 = .ok (.iconst 0, 1) := by decide +kernel
theorem dX4_cycleHolds_94 : decode cX4_cycleHolds 94 = .ok (.ireturn, 1) := by decide +kernel
theorem dX4_cycleHolds_95 : decode cX4_cycleHolds 95 = .ok (.iinc 3 1, 3) := by decide +kernel
theorem dX4_cycleHolds_98 : decode cX4_cycleHolds 98 = .ok (.goto (-78), 3) := by decide +kernel
theorem dX4_cycleHolds_101 : decode cX4_cycleHolds 101 = .ok (.iconst 1, 1) := by decide +kernel
theorem dX4_cycleHolds_102 : decode cX4_cycleHolds 102 = .ok (.ireturn, 1) := by decide +kernel
theorem dX4_nextDraw_0 : decode cX4_nextDraw 0 = .ok (.aload_n 0, 1) := by decide +kernel
theorem dX4_nextDraw_1 : decode cX4_nextDraw 1 = .ok (.aload_n 0, 1) := by decide +kernel
theorem dX4_nextDraw_2 : decode cX4_nextDraw 2 = .ok (.getfield 39, 3) := by decide +kernel
theorem dX4_nextDraw_5 : decode cX4_nextDraw 5 = .ok (.ldc 195, 2) := by decide +kernel
theorem dX4_nextDraw_7 : decode cX4_nextDraw 7 = .ok (.imul, 1) := by decide +kernel
theorem dX4_nextDraw_8 : decode cX4_nextDraw 8 = .ok (.sipush 12345, 3) := by decide +kernel
theorem dX4_nextDraw_11 : decode cX4_nextDraw 11 = .ok (.iadd, 1) := by decide +kernel
theorem dX4_nextDraw_12 : decode cX4_nextDraw 12 = .ok (.ldc 196, 2) := by decide +kernel
theorem dX4_nextDraw_14 : decode cX4_nextDraw 14 = .ok (.iand, 1) := by decide +kernel
theorem dX4_nextDraw_15 : decode cX4_nextDraw 15 = .ok (.putfield 39, 3) := by decide +kernel
theorem dX4_nextDraw_18 : decode cX4_nextDraw 18 = .ok (.aload_n 0, 1) := by decide +kernel
theorem dX4_nextDraw_19 : decode cX4_nextDraw 19 = .ok (.getfield 39, 3) := by decide +kernel
theorem dX4_nextDraw_22 : decode cX4_nextDraw 22 = .ok (.ldc 197, 2) := by decide +kernel
theorem dX4_nextDraw_24 : decode cX4_nextDraw 24 = .ok (.idiv, 1) := by decide +kernel
theorem dX4_nextDraw_25 : decode cX4_nextDraw 25 = .ok (.ireturn, 1) := by decide +kernel
theorem dX4_percentAt_0 : decode cX4_percentAt 0 = .ok (.iload_n 1, 1) := by decide +kernel
theorem dX4_percentAt_1 : decode cX4_percentAt 1 = .ok (.ifCond .gt 5, 3) := by decide +kernel
theorem dX4_percentAt_4 : decode cX4_percentAt 4 = .ok (.iconst 0, 1) := by decide +kernel
theorem dX4_percentAt_5 : decode cX4_percentAt 5 = .ok (.ireturn, 1) := by decide +kernel
theorem dX4_percentAt_6 : decode cX4_percentAt 6 = .ok (.iload_n 0, 1) := by decide +kernel
theorem dX4_percentAt_7 : decode cX4_percentAt 7 = .ok (.lookupswitch 56 #[(0, 25), (1, 40)], 25) := by decide +kernel
theorem dX4_percentAt_32 : decode cX4_percentAt 32 = .ok (.ldc2_w 198, 3) := by decide +kernel
theorem dX4_percentAt_35 : decode cX4_percentAt 35 = .ok (.iload_n 1, 1) := by decide +kernel
theorem dX4_percentAt_36 : decode cX4_percentAt 36 = .ok (.i2l, 1) := by decide +kernel
theorem dX4_percentAt_37 : decode cX4_percentAt 37 = .ok (.lmul, 1) := by decide +kernel
theorem dX4_percentAt_38 : decode cX4_percentAt 38 = .ok (.iload_n 1, 1) := by decide +kernel
theorem dX4_percentAt_39 : decode cX4_percentAt 39 = .ok (.i2l, 1) := by decide +kernel
theorem dX4_percentAt_40 : decode cX4_percentAt 40 = .ok (.ldc2_w 200, 3) := by decide +kernel
theorem dX4_percentAt_43 : decode cX4_percentAt 43 = .ok (.ladd, 1) := by decide +kernel
theorem dX4_percentAt_44 : decode cX4_percentAt 44 = .ok (.ldiv, 1) := by decide +kernel
theorem dX4_percentAt_45 : decode cX4_percentAt 45 = .ok (.l2i, 1) := by decide +kernel
theorem dX4_percentAt_46 : decode cX4_percentAt 46 = .ok (.ireturn, 1) := by decide +kernel
theorem dX4_percentAt_47 : decode cX4_percentAt 47 = .ok (.iload_n 1, 1) := by decide +kernel
theorem dX4_percentAt_48 : decode cX4_percentAt 48 = .ok (.bipush 10, 2) := by decide +kernel
theorem dX4_percentAt_50 : decode cX4_percentAt 50 = .ok (.if_icmp .lt 8, 3) := by decide +kernel
theorem dX4_percentAt_53 : decode cX4_percentAt 53 = .ok (.bipush 100, 2) := by decide +kernel
theorem dX4_percentAt_55 : decode cX4_percentAt 55 = .ok (.goto 7, 3) := by decide +kernel
theorem dX4_percentAt_58 : decode cX4_percentAt 58 = .ok (.bipush 10, 2) := by decide +kernel
theorem dX4_percentAt_60 : decode cX4_percentAt 60 = .ok (.iload_n 1, 1) := by decide +kernel
theorem dX4_percentAt_61 : decode cX4_percentAt 61 = .ok (.imul, 1) := by decide +kernel
theorem dX4_percentAt_62 : decode cX4_percentAt 62 = .ok (.ireturn, 1) := by decide +kernel
theorem dX4_percentAt_63 : decode cX4_percentAt 63 = .ok (.bipush 20, 2) := by decide +kernel
theorem dX4_percentAt_65 : decode cX4_percentAt 65 = .ok (.istore_n 2, 1) := by decide +kernel
theorem dX4_percentAt_66 : decode cX4_percentAt 66 = .ok (.iload_n 1, 1) := by decide +kernel
theorem dX4_percentAt_67 : decode cX4_percentAt 67 = .ok (.istore_n 3, 1) := by decide +kernel
theorem dX4_percentAt_68 : decode cX4_percentAt 68 = .ok (.iconst 0, 1) := by decide +kernel
theorem dX4_percentAt_69 : decode cX4_percentAt 69 = .ok (.istore 4, 2) := by decide +kernel
theorem dX4_percentAt_71 : decode cX4_percentAt 71 = .ok (.iload 4, 2) := by decide +kernel
theorem dX4_percentAt_73 : decode cX4_percentAt 73 = .ok (.iconst 4, 1) := by decide +kernel
theorem dX4_percentAt_74 : decode cX4_percentAt 74 = .ok (.if_icmp .ge 21, 3) := by decide +kernel
theorem dX4_percentAt_77 : decode cX4_percentAt 77 = .ok (.iload_n 3, 1) := by decide +kernel
theorem dX4_percentAt_78 : decode cX4_percentAt 78 = .ok (.iconst 1, 1) := by decide +kernel
theorem dX4_percentAt_79 : decode cX4_percentAt 79 = .ok (.if_icmp .le 16, 3) := by decide +kernel
theorem dX4_percentAt_82 : decode cX4_percentAt 82 = .ok (.iload_n 3, 1) := by decide +kernel
theorem dX4_percentAt_83 : decode cX4_percentAt 83 = .ok (.iconst 2, 1) := by decide +kernel
theorem dX4_percentAt_84 : decode cX4_percentAt 84 = .ok (.idiv, 1) := by decide +kernel
theorem dX4_percentAt_85 : decode cX4_percentAt 85 = .ok (.istore_n 3, 1) := by decide +kernel
theorem dX4_percentAt_86 : decode cX4_percentAt 86 = .ok (.iinc 2 20, 3) := by decide +kernel
theorem dX4_percentAt_89 : decode cX4_percentAt 89 = .ok (.iinc 4 1, 3) := by decide +kernel
theorem dX4_percentAt_92 : decode cX4_percentAt 92 = .ok (.goto (-21), 3) := by decide +kernel
theorem dX4_percentAt_95 : decode cX4_percentAt 95 = .ok (.iload_n 2, 1) := by decide +kernel
theorem dX4_percentAt_96 : decode cX4_percentAt 96 = .ok (.ireturn, 1) := by decide +kernel
theorem dJ6_bitCount_0f7a4_0 : decode cJ6_bitCount_0f7a4 0 = .ok (.iload_n 0, 1) := by decide +kernel
theorem dJ6_bitCount_0f7a4_1 : decode cJ6_bitCount_0f7a4 1 = .ok (.iload_n 0, 1) := by decide +kernel
theorem dJ6_bitCount_0f7a4_2 : decode cJ6_bitCount_0f7a4 2 = .ok (.iconst 1, 1) := by decide +kernel
theorem dJ6_bitCount_0f7a4_3 : decode cJ6_bitCount_0f7a4 3 = .ok (.iushr, 1) := by decide +kernel
theorem dJ6_bitCount_0f7a4_4 : decode cJ6_bitCount_0f7a4 4 = .ok (.ldc_w 265, 3) := by decide +kernel
theorem dJ6_bitCount_0f7a4_7 : decode cJ6_bitCount_0f7a4 7 = .ok (.iand, 1) := by decide +kernel
theorem dJ6_bitCount_0f7a4_8 : decode cJ6_bitCount_0f7a4 8 = .ok (.isub, 1) := by decide +kernel
theorem dJ6_bitCount_0f7a4_9 : decode cJ6_bitCount_0f7a4 9 = .ok (.istore_n 0, 1) := by decide +kernel
theorem dJ6_bitCount_0f7a4_10 : decode cJ6_bitCount_0f7a4 10 = .ok (.iload_n 0, 1) := by decide +kernel
theorem dJ6_bitCount_0f7a4_11 : decode cJ6_bitCount_0f7a4 11 = .ok (.ldc_w 266, 3) := by decide +kernel
theorem dJ6_bitCount_0f7a4_14 : decode cJ6_bitCount_0f7a4 14 = .ok (.iand, 1) := by decide +kernel
theorem dJ6_bitCount_0f7a4_15 : decode cJ6_bitCount_0f7a4 15 = .ok (.iload_n 0, 1) := by decide +kernel
theorem dJ6_bitCount_0f7a4_16 : decode cJ6_bitCount_0f7a4 16 = .ok (.iconst 2, 1) := by decide +kernel
theorem dJ6_bitCount_0f7a4_17 : decode cJ6_bitCount_0f7a4 17 = .ok (.iushr, 1) := by decide +kernel
theorem dJ6_bitCount_0f7a4_18 : decode cJ6_bitCount_0f7a4 18 = .ok (.ldc_w 266, 3) := by decide +kernel
theorem dJ6_bitCount_0f7a4_21 : decode cJ6_bitCount_0f7a4 21 = .ok (.iand, 1) := by decide +kernel
theorem dJ6_bitCount_0f7a4_22 : decode cJ6_bitCount_0f7a4 22 = .ok (.iadd, 1) := by decide +kernel
theorem dJ6_bitCount_0f7a4_23 : decode cJ6_bitCount_0f7a4 23 = .ok (.istore_n 0, 1) := by decide +kernel
theorem dJ6_bitCount_0f7a4_24 : decode cJ6_bitCount_0f7a4 24 = .ok (.iload_n 0, 1) := by decide +kernel
theorem dJ6_bitCount_0f7a4_25 : decode cJ6_bitCount_0f7a4 25 = .ok (.iload_n 0, 1) := by decide +kernel
theorem dJ6_bitCount_0f7a4_26 : decode cJ6_bitCount_0f7a4 26 = .ok (.iconst 4, 1) := by decide +kernel
theorem dJ6_bitCount_0f7a4_27 : decode cJ6_bitCount_0f7a4 27 = .ok (.iushr, 1) := by decide +kernel
theorem dJ6_bitCount_0f7a4_28 : decode cJ6_bitCount_0f7a4 28 = .ok (.iadd, 1) := by decide +kernel
theorem dJ6_bitCount_0f7a4_29 : decode cJ6_bitCount_0f7a4 29 = .ok (.ldc_w 267, 3) := by decide +kernel
theorem dJ6_bitCount_0f7a4_32 : decode cJ6_bitCount_0f7a4 32 = .ok (.iand, 1) := by decide +kernel
theorem dJ6_bitCount_0f7a4_33 : decode cJ6_bitCount_0f7a4 33 = .ok (.istore_n 0, 1) := by decide +kernel
theorem dJ6_bitCount_0f7a4_34 : decode cJ6_bitCount_0f7a4 34 = .ok (.iload_n 0, 1) := by decide +kernel
theorem dJ6_bitCount_0f7a4_35 : decode cJ6_bitCount_0f7a4 35 = .ok (.iload_n 0, 1) := by decide +kernel
theorem dJ6_bitCount_0f7a4_36 : decode cJ6_bitCount_0f7a4 36 = .ok (.bipush 8, 2) := by decide +kernel
theorem dJ6_bitCount_0f7a4_38 : decode cJ6_bitCount_0f7a4 38 = .ok (.iushr, 1) := by decide +kernel
theorem dJ6_bitCount_0f7a4_39 : decode cJ6_bitCount_0f7a4 39 = .ok (.iadd, 1) := by decide +kernel
theorem dJ6_bitCount_0f7a4_40 : decode cJ6_bitCount_0f7a4 40 = .ok (.istore_n 0, 1) := by decide +kernel
theorem dJ6_bitCount_0f7a4_41 : decode cJ6_bitCount_0f7a4 41 = .ok (.iload_n 0, 1) := by decide +kernel
theorem dJ6_bitCount_0f7a4_42 : decode cJ6_bitCount_0f7a4 42 = .ok (.iload_n 0, 1) := by decide +kernel
theorem dJ6_bitCount_0f7a4_43 : decode cJ6_bitCount_0f7a4 43 = .ok (.bipush 16, 2) := by decide +kernel
theorem dJ6_bitCount_0f7a4_45 : decode cJ6_bitCount_0f7a4 45 = .ok (.iushr, 1) := by decide +kernel
theorem dJ6_bitCount_0f7a4_46 : decode cJ6_bitCount_0f7a4 46 = .ok (.iadd, 1) := by decide +kernel
theorem dJ6_bitCount_0f7a4_47 : decode cJ6_bitCount_0f7a4 47 = .ok (.istore_n 0, 1) := by decide +kernel
theorem dJ6_bitCount_0f7a4_48 : decode cJ6_bitCount_0f7a4 48 = .ok (.iload_n 0, 1) := by decide +kernel
theorem dJ6_bitCount_0f7a4_49 : decode cJ6_bitCount_0f7a4 49 = .ok (.bipush 63, 2) := by decide +kernel
theorem dJ6_bitCount_0f7a4_51 : decode cJ6_bitCount_0f7a4 51 = .ok (.iand, 1) := by decide +kernel
theorem dJ6_bitCount_0f7a4_52 : decode cJ6_bitCount_0f7a4 52 = .ok (.ireturn, 1) := by decide +kernel
theorem dJ9_max_7cf53_0 : decode cJ9_max_7cf53 0 = .ok (.iload_n 0, 1) := by decide +kernel
theorem dJ9_max_7cf53_1 : decode cJ9_max_7cf53 1 = .ok (.iload_n 1, 1) := by decide +kernel
theorem dJ9_max_7cf53_2 : decode cJ9_max_7cf53 2 = .ok (.if_icmp .lt 7, 3) := by decide +kernel
theorem dJ9_max_7cf53_5 : decode cJ9_max_7cf53 5 = .ok (.iload_n 0, 1) := by decide +kernel
theorem dJ9_max_7cf53_6 : decode cJ9_max_7cf53 6 = .ok (.goto 4, 3) := by decide +kernel
theorem dJ9_max_7cf53_9 : decode cJ9_max_7cf53 9 = .ok (.iload_n 1, 1) := by decide +kernel
theorem dJ9_max_7cf53_10 : decode cJ9_max_7cf53 10 = .ok (.ireturn, 1) := by decide +kernel
theorem dJ9_min_7cf53_0 : decode cJ9_min_7cf53 0 = .ok (.iload_n 0, 1) := by decide +kernel
theorem dJ9_min_7cf53_1 : decode cJ9_min_7cf53 1 = .ok (.iload_n 1, 1) := by decide +kernel
theorem dJ9_min_7cf53_2 : decode cJ9_min_7cf53 2 = .ok (.if_icmp .gt 7, 3) := by decide +kernel
theorem dJ9_min_7cf53_5 : decode cJ9_min_7cf53 5 = .ok (.iload_n 0, 1) := by decide +kernel
theorem dJ9_min_7cf53_6 : decode cJ9_min_7cf53 6 = .ok (.goto 4, 3) := by decide +kernel
theorem dJ9_min_7cf53_9 : decode cJ9_min_7cf53 9 = .ok (.iload_n 1, 1) := by decide +kernel
theorem dJ9_min_7cf53_10 : decode cJ9_min_7cf53 10 = .ok (.ireturn, 1) := by decide +kernel
theorem dJ7_fill_53178_0 : decode cJ7_fill_53178 0 = .ok (.iconst 0, 1) := by decide +kernel
theorem dJ7_fill_53178_1 : decode cJ7_fill_53178 1 = .ok (.istore_n 2, 1) := by decide +kernel
theorem dJ7_fill_53178_2 : decode cJ7_fill_53178 2 = .ok (.aload_n 0, 1) := by decide +kernel
theorem dJ7_fill_53178_3 : decode cJ7_fill_53178 3 = .ok (.arraylength, 1) := by decide +kernel
theorem dJ7_fill_53178_4 : decode cJ7_fill_53178 4 = .ok (.istore_n 3, 1) := by decide +kernel
theorem dJ7_fill_53178_5 : decode cJ7_fill_53178 5 = .ok (.iload_n 2, 1) := by decide +kernel
theorem dJ7_fill_53178_6 : decode cJ7_fill_53178 6 = .ok (.iload_n 3, 1) := by decide +kernel
theorem dJ7_fill_53178_7 : decode cJ7_fill_53178 7 = .ok (.if_icmp .ge 13, 3) := by decide +kernel
theorem dJ7_fill_53178_10 : decode cJ7_fill_53178 10 = .ok (.aload_n 0, 1) := by decide +kernel
theorem dJ7_fill_53178_11 : decode cJ7_fill_53178 11 = .ok (.iload_n 2, 1) := by decide +kernel
theorem dJ7_fill_53178_12 : decode cJ7_fill_53178 12 = .ok (.iload_n 1, 1) := by decide +kernel
theorem dJ7_fill_53178_13 : decode cJ7_fill_53178 13 = .ok (.iastore, 1) := by decide +kernel
theorem dJ7_fill_53178_14 : decode cJ7_fill_53178 14 = .ok (.iinc 2 1, 3) := by decide +kernel
theorem dJ7_fill_53178_17 : decode cJ7_fill_53178 17 = .ok (.goto (-12), 3) := by decide +kernel
theorem dJ7_fill_53178_20 : decode cJ7_fill_53178 20 = .ok (.return_, 1) := by decide +kernel
