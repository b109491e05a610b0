theorem dX5_init_0 : decode cX5_init 0 = .ok (.aload_n 0, 1) := by decide +kernel
theorem dX5_init_1 : decode cX5_init 1 = .ok (.invokespecial 1, 3) := by decide +kernel
theorem dX5_init_4 : decode cX5_init 4 = .ok (.aload_n 0, 1) := by decide +kernel
theorem dX5_init_5 : decode cX5_init 5 = .ok (.bipush 38, 2) := by decide +kernel
theorem dX5_init_7 : decode cX5_init 7 = .ok (.newarray .int, 2) := by decide +kernel
theorem dX5_init_9 : decode cX5_init 9 = .ok (.putfield 7, 3) := by decide +kernel
theorem dX5_init_12 : decode cX5_init 12 = .ok (.aload_n 0, 1) := by decide +kernel
theorem dX5_init_13 : decode cX5_init 13 = .ok (.bipush 38, 2) := by decide +kernel
theorem dX5_init_15 : decode cX5_init 15 = .ok (.newarray .int, 2) := by decide +kernel
theorem dX5_init_17 : decode cX5_init 17 = .ok (.putfield 13, 3) := by decide +kernel
theorem dX5_init_20 : decode cX5_init 20 = .ok (.aload_n 0, 1) := by decide +kernel
theorem dX5_init_21 : decode cX5_init 21 = .ok (.sipush 760, 3) := by decide +kernel
theorem dX5_init_24 : decode cX5_init 24 = .ok (.newarray .int, 2) := by decide +kernel
theorem dX5_init_26 : decode cX5_init 26 = .ok (.putfield 16, 3) := by decide +kernel
theorem dX5_init_29 : decode cX5_init 29 = .ok (.aload_n 0, 1) := by decide +kernel
theorem dX5_init_30 : decode cX5_init 30 = .ok (.bipush 76, 2) := by decide +kernel
theorem dX5_init_32 : decode cX5_init 32 = .ok (.newarray .int, 2) := by decide +kernel
theorem dX5_init_34 : decode cX5_init 34 = .ok (.putfield 19, 3) := by decide +kernel
theorem dX5_init_37 : decode cX5_init 37 = .ok (.aload_n 0, 1) := by decide +kernel
theorem dX5_init_38 : decode cX5_init 38 = .ok (.iconst 2, 1) := by decide +kernel
theorem dX5_init_39 : decode cX5_init 39 = .ok (.newarray .long, 2) := by decide +kernel
theorem dX5_init_41 : decode cX5_init 41 = .ok (.putfield 22, 3) := by decide +kernel
theorem dX5_init_44 : decode cX5_init 44 = .ok (.aload_n 0, 1) := by decide +kernel
theorem dX5_init_45 : decode cX5_init 45 = .ok (.iconst 2, 1) := by decide +kernel
theorem dX5_init_46 : decode cX5_init 46 = .ok (.newarray .boolean, 2) := by decide +kernel
theorem dX5_init_48 : decode cX5_init 48 = .ok (.putfield 26, 3) := by decide +kernel
theorem dX5_init_51 : decode cX5_init 51 = .ok (.aload_n 0, 1) := by decide +kernel
theorem dX5_init_52 : decode cX5_init 52 = .ok (.bipush 40, 2) := by decide +kernel
theorem dX5_init_54 : decode cX5_init 54 = .ok (.newarray .int, 2) := by decide +kernel
theorem dX5_init_56 : decode cX5_init 56 = .ok (.putfield 30, 3) := by decide +kernel
theorem dX5_init_59 : decode cX5_init 59 = .ok (.aload_n 0, 1) := by decide +kernel
theorem dX5_init_60 : decode cX5_init 60 = .ok (.bipush 8, 2) := by decide +kernel
theorem dX5_init_62 : decode cX5_init 62 = .ok (.newarray .int, 2) := by decide +kernel
theorem dX5_init_64 : decode cX5_init 64 = .ok (.putfield 33, 3) := by decide +kernel
theorem dX5_init_67 : decode cX5_init 67 = .ok (.aload_n 0, 1) := by decide +kernel
theorem dX5_init_68 : decode cX5_init 68 = .ok (.getfield 7, 3) := by decide +kernel
theorem dX5_init_71 : decode cX5_init 71 = .ok (.iconst 2, 1) := by decide +kernel
theorem dX5_init_72 : decode cX5_init 72 = .ok (.bipush 20, 2) := by decide +kernel
theorem dX5_init_74 : decode cX5_init 74 = .ok (.iastore, 1) := by decide +kernel
theorem dX5_init_75 : decode cX5_init 75 = .ok (.aload_n 0, 1) := by decide +kernel
theorem dX5_init_76 : decode cX5_init 76 = .ok (.getfield 7, 3) := by decide +kernel
theorem dX5_init_79 : decode cX5_init 79 = .ok (.iconst 3, 1) := by decide +kernel
theorem dX5_init_80 : decode cX5_init 80 = .ok (.bipush 60, 2) := by decide +kernel
theorem dX5_init_82 : decode cX5_init 82 = .ok (.iastore, 1) := by decide +kernel
theorem dX5_init_83 : decode cX5_init 83 = .ok (.return_, 1) := by decide +kernel
theorem dX5_in_0 : decode cX5_in 0 = .ok (.iload_n 0, 1) := by decide +kernel
theorem dX5_in_1 : decode cX5_in 1 = .ok (.iload_n 1, 1) := by decide +kernel
theorem dX5_in_2 : decode cX5_in 2 = .ok (.if_icmp .lt 12, 3) := by decide +kernel
theorem dX5_in_5 : decode cX5_in 5 = .ok (.iload_n 0, 1) := by decide +kernel
theorem dX5_in_6 : decode cX5_in 6 = .ok (.iload_n 2, 1) := by decide +kernel
theorem dX5_in_7 : decode cX5_in 7 = .ok (.if_icmp .gt 7, 3) := by decide +kernel
theorem dX5_in_10 : decode cX5_in 10 = .ok (.iconst 1, 1) := by decide +kernel
theorem dX5_in_11 : decode cX5_in 11 = .ok (.goto 4, 3) := by decide +kernel
theorem dX5_in_14 : decode cX5_in 14 = .ok (.iconst 0, 1) := by decide +kernel
theorem dX5_in_15 : decode cX5_in 15 = .ok (.ireturn, 1) := by decide +kernel
set_option maxRecDepth 20000 in
theorem ggX5_isFloor_X5_in : GoodIn wsX5_isFloor wsX5_in := goodIn_r _ [5] (by decide +kernel) (by decide +kernel)
set_option maxRecDepth 20000 in
theorem gX5_isFloor_X5_in : GoodIn wsX5_isFloor (va_wsS RX5 36 yX5_in wsX5_in) := goodIn_app (goodIn_of _ (by decide +kernel)) ggX5_isFloor_X5_in
theorem dX5_isFloor_0 : decode cX5_isFloor 0 = .ok (.iload_n 1, 1) := by decide +kernel
theorem dX5_isFloor_1 : decode cX5_isFloor 1 = .ok (.iconst 0, 1) := by decide +kernel
theorem dX5_isFloor_2 : decode cX5_isFloor 2 = .ok (.aload_n 0, 1) := by decide +kernel
theorem dX5_isFloor_3 : decode cX5_isFloor 3 = .ok (.getfield 7, 3) := by decide +kernel
theorem dX5_isFloor_6 : decode cX5_isFloor 6 = .ok (.iconst 1, 1) := by decide +kernel
theorem dX5_isFloor_7 : decode cX5_isFloor 7 = .ok (.iaload, 1) := by decide +kernel
theorem dX5_isFloor_8 : decode cX5_isFloor 8 = .ok (.iconst 1, 1) := by decide +kernel
theorem dX5_isFloor_9 : decode cX5_isFloor 9 = .ok (.isub, 1) := by decide +kernel
theorem dX5_isFloor_10 : decode cX5_isFloor 10 = .ok (.invokestatic 36, 3) := by decide +kernel
theorem dX5_isFloor_13 : decode cX5_isFloor 13 = .ok (.ireturn, 1) := by decide +kernel
theorem dX5_of_0 : decode cX5_of 0 = .ok (.aload_n 0, 1) := by decide +kernel
theorem dX5_of_1 : decode cX5_of 1 = .ok (.getfield 7, 3) := by decide +kernel
theorem dX5_of_4 : decode cX5_of 4 = .ok (.bipush 6, 2) := by decide +kernel
theorem dX5_of_6 : decode cX5_of 6 = .ok (.iconst 4, 1) := by decide +kernel
theorem dX5_of_7 : decode cX5_of 7 = .ok (.iload_n 1, 1) := by decide +kernel
theorem dX5_of_8 : decode cX5_of 8 = .ok (.imul, 1) := by decide +kernel
theorem dX5_of_9 : decode cX5_of 9 = .ok (.iadd, 1) := by decide +kernel
theorem dX5_of_10 : decode cX5_of 10 = .ok (.iload_n 2, 1) := by decide +kernel
theorem dX5_of_11 : decode cX5_of 11 = .ok (.iadd, 1) := by decide +kernel
theorem dX5_of_12 : decode cX5_of 12 = .ok (.iaload, 1) := by decide +kernel
theorem dX5_of_13 : decode cX5_of 13 = .ok (.ireturn, 1) := by decide +kernel
theorem dX5_put_0 : decode cX5_put 0 = .ok (.aload_n 0, 1) := by decide +kernel
theorem dX5_put_1 : decode cX5_put 1 = .ok (.getfield 7, 3) := by decide +kernel
theorem dX5_put_4 : decode cX5_put 4 = .ok (.bipush 6, 2) := by decide +kernel
theorem dX5_put_6 : decode cX5_put 6 = .ok (.iconst 4, 1) := by decide +kernel
theorem dX5_put_7 : decode cX5_put 7 = .ok (.iload_n 1, 1) := by decide +kernel
theorem dX5_put_8 : decode cX5_put 8 = .ok (.imul, 1) := by decide +kernel
theorem dX5_put_9 : decode cX5_put 9 = .ok (.iadd, 1) := by decide +kernel
theorem dX5_put_10 : decode cX5_put 10 = .ok (.iload_n 2, 1) := by decide +kernel
theorem dX5_put_11 : decode cX5_put 11 = .ok (.iadd, 1) := by decide +kernel
theorem dX5_put_12 : decode cX5_put 12 = .ok (.iload_n 3, 1) := by decide +kernel
theorem dX5_put_13 : decode cX5_put 13 = .ok (.iastore, 1) := by decide +kernel
theorem dX5_put_14 : decode cX5_put 14 = .ok (.return_, 1) := by decide +kernel
theorem dX5_notes_0 : decode cX5_notes 0 = .ok (.aload_n 0, 1) := by decide +kernel
theorem dX5_notes_1 : decode cX5_notes 1 = .ok (.getfield 40, 3) := by decide +kernel
theorem dX5_notes_4 : decode cX5_notes 4 = .ok (.bipush 20, 2) := by decide +kernel
theorem dX5_notes_6 : decode cX5_notes 6 = .ok (.if_icmp .ne 43, 3) := by decide +kernel
theorem dX5_notes_9 : decode cX5_notes 9 = .ok (.iconst 0, 1) := by decide +kernel
theorem dX5_notes_10 : decode cX5_notes 10 = .ok (.istore_n 1, 1) := by decide +kernel
theorem dX5_notes_11 : decode cX5_notes 11 = .ok (.iload_n 1, 1) := by decide +kernel
theorem dX5_notes_12 : decode cX5_notes 12 = .ok (.sipush 722, 3) := by decide +kernel
theorem dX5_notes_15 : decode cX5_notes 15 = .ok (.if_icmp .ge 24, 3) := by decide +kernel
theorem dX5_notes_18 : decode cX5_notes 18 = .ok (.aload_n 0, 1) := by decide +kernel
theorem dX5_notes_19 : decode cX5_notes 19 = .ok (.getfield 16, 3) := by decide +kernel
theorem dX5_notes_22 : decode cX5_notes 22 = .ok (.iload_n 1, 1) := by decide +kernel
theorem dX5_notes_23 : decode cX5_notes 23 = .ok (.aload_n 0, 1) := by decide +kernel
theorem dX5_notes_24 : decode cX5_notes 24 = .ok (.getfield 16, 3) := by decide +kernel
theorem dX5_notes_27 : decode cX5_notes 27 = .ok (.iload_n 1, 1) := by decide +kernel
theorem dX5_notes_28 : decode cX5_notes 28 = .ok (.bipush 38, 2) := by decide +kernel
theorem dX5_notes_30 : decode cX5_notes 30 = .ok (.iadd, 1) := by decide +kernel
theorem dX5_notes_31 : decode cX5_notes 31 = .ok (.iaload, 1) := by decide +kernel
theorem dX5_notes_32 : decode cX5_notes 32 = .ok (.iastore, 1) := by decide +kernel
theorem dX5_notes_33 : decode cX5_notes 33 = .ok (.iinc 1 1, 3) := by decide +kernel
theorem dX5_notes_36 : decode cX5_notes 36 = .ok (.goto (-25), 3) := by decide +kernel
theorem dX5_notes_39 : decode cX5_notes 39 = .ok (.aload_n 0, 1) := by decide +kernel
theorem dX5_notes_40 : decode cX5_notes 40 = .ok (.dup, 1) := by decide +kernel
theorem dX5_notes_41 : decode cX5_notes 41 = .ok (.getfield 40, 3) := by decide +kernel
theorem dX5_notes_44 : decode cX5_notes 44 = .ok (.iconst 1, 1) := by decide +kernel
theorem dX5_notes_45 : decode cX5_notes 45 = .ok (.isub, 1) := by decide +kernel
theorem dX5_notes_46 : decode cX5_notes 46 = .ok (.putfield 40, 3) := by decide +kernel
theorem dX5_notes_49 : decode cX5_notes 49 = .ok (.iconst 0, 1) := by decide +kernel
theorem dX5_notes_50 : decode cX5_notes 50 = .ok (.istore_n 1, 1) := by decide +kernel
theorem dX5_notes_51 : decode cX5_notes 51 = .ok (.iload_n 1, 1) := by decide +kernel
theorem dX5_notes_52 : decode cX5_notes 52 = .ok (.bipush 38, 2) := by decide +kernel
theorem dX5_notes_54 : decode cX5_notes 54 = .ok (.if_icmp .ge 29, 3) := by decide +kernel
theorem dX5_notes_57 : decode cX5_notes 57 = .ok (.aload_n 0, 1) := by decide +kernel
theorem dX5_notes_58 : decode cX5_notes 58 = .ok (.getfield 16, 3) := by decide +kernel
theorem dX5_notes_61 : decode cX5_notes 61 = .ok (.bipush 38, 2) := by decide +kernel
theorem dX5_notes_63 : decode cX5_notes 63 = .ok (.aload_n 0, 1) := by decide +kernel
theorem dX5_notes_64 : decode cX5_notes 64 = .ok (.getfield 40, 3) := by decide +kernel
theorem dX5_notes_67 : decode cX5_notes 67 = .ok (.imul, 1) := by decide +kernel
theorem dX5_notes_68 : decode cX5_notes 68 = .ok (.iload_n 1, 1) := by decide +kernel
theorem dX5_notes_69 : decode cX5_notes 69 = .ok (.iadd, 1) := by decide +kernel
theorem dX5_notes_70 : decode cX5_notes 70 = .ok (.aload_n 0, 1) := by decide +kernel
theorem dX5_notes_71 : decode cX5_notes 71 = .ok (.getfield 7, 3) := by decide +kernel
theorem dX5_notes_74 : decode cX5_notes 74 = .ok (.iload_n 1, 1) := by decide +kernel
theorem dX5_notes_75 : decode cX5_notes 75 = .ok (.iaload, 1) := by decide +kernel
theorem dX5_notes_76 : decode cX5_notes 76 = .ok (.iastore, 1) := by decide +kernel
theorem dX5_notes_77 : decode cX5_notes 77 = .ok (.iinc 1 1, 3) := by decide +kernel
theorem dX5_notes_80 : decode cX5_notes 80 = .ok (.goto (-29), 3) := by decide +kernel
theorem dX5_notes_83 : decode cX5_notes 83 = .ok (.aload_n 0, 1) := by decide +kernel
theorem dX5_notes_84 : decode cX5_notes 84 = .ok (.dup, 1) := by decide +kernel
theorem dX5_notes_85 : decode cX5_notes 85 = .ok (.getfield 40, 3) := by decide +kernel
theorem dX5_notes_88 : decode cX5_notes 88 = .ok (.iconst 1, 1) := by decide +kernel
theorem dX5_notes_89 : decode cX5_notes 89 = .ok (.iadd, 1) := by decide +kernel
theorem dX5_notes_90 : decode cX5_notes 90 = .ok (.putfield 40, 3) := by decide +kernel
theorem dX5_notes_93 : decode cX5_notes 93 = .ok (.return_, 1) := by decide +kernel
theorem dX5_lays_0 : decode cX5_lays 0 = .ok (.iconst 0, 1) := by decide +kernel
theorem dX5_lays_1 : decode cX5_lays 1 = .ok (.istore_n 1, 1) := by decide +kernel
theorem dX5_lays_2 : decode cX5_lays 2 = .ok (.iload_n 1, 1) := by decide +kernel
theorem dX5_lays_3 : decode cX5_lays 3 = .ok (.bipush 38, 2) := by decide +kernel
theorem dX5_lays_5 : decode cX5_lays 5 = .ok (.if_icmp .ge 21, 3) := by decide +kernel
theorem dX5_lays_8 : decode cX5_lays 8 = .ok (.aload_n 0, 1) := by decide +kernel
theorem dX5_lays_9 : decode cX5_lays 9 = .ok (.getfield 13, 3) := by decide +kernel
theorem dX5_lays_12 : decode cX5_lays 12 = .ok (.iload_n 1, 1) := by decide +kernel
theorem dX5_lays_13 : decode cX5_lays 13 = .ok (.aload_n 0, 1) := by decide +kernel
theorem dX5_lays_14 : decode cX5_lays 14 = .ok (.getfield 7, 3) := by decide +kernel
theorem dX5_lays_17 : decode cX5_lays 17 = .ok (.iload_n 1, 1) := by decide +kernel
theorem dX5_lays_18 : decode cX5_lays 18 = .ok (.iaload, 1) := by decide +kernel
theorem dX5_lays_19 : decode cX5_lays 19 = .ok (.iastore, 1) := by decide +kernel
theorem dX5_lays_20 : decode cX5_lays 20 = .ok (.iinc 1 1, 3) := by decide +kernel
theorem dX5_lays_23 : decode cX5_lays 23 = .ok (.goto (-21), 3) := by decide +kernel
theorem dX5_lays_26 : decode cX5_lays 26 = .ok (.return_, 1) := by decide +kernel
theorem dX5_takesBack_0 : decode cX5_takesBack 0 = .ok (.iconst 0, 1) := by decide +kernel
theorem dX5_takesBack_1 : decode cX5_takesBack 1 = .ok (.istore_n 1, 1) := by decide +kernel
theorem dX5_takesBack_2 : decode cX5_takesBack 2 = .ok (.iload_n 1, 1) := by decide +kernel
theorem dX5_takesBack_3 : decode cX5_takesBack 3 = .ok (.bipush 38, 2) := by decide +kernel
theorem dX5_takesBack_5 : decode cX5_takesBack 5 = .ok (.if_icmp .ge 21, 3) := by decide +kernel
theorem dX5_takesBack_8 : decode cX5_takesBack 8 = .ok (.aload_n 0, 1) := by decide +kernel
theorem dX5_takesBack_9 : decode cX5_takesBack 9 = .ok (.getfield 7, 3) := by decide +kernel
theorem dX5_takesBack_12 : decode cX5_takesBack 12 = .ok (.iload_n 1, 1) := by decide +kernel
theorem dX5_takesBack_13 : decode cX5_takesBack 13 = .ok (.aload_n 0, 1) := by decide +kernel
theorem dX5_takesBack_14 : decode cX5_takesBack 14 = .ok (.getfield 13, 3) := by decide +kernel
theorem dX5_takesBack_17 : decode cX5_takesBack 17 = .ok (.iload_n 1, 1) := by decide +kernel
theorem dX5_takesBack_18 : decode cX5_takesBack 18 = .ok (.iaload, 1) := by decide +kernel
theorem dX5_takesBack_19 : decode cX5_takesBack 19 = .ok (.iastore, 1) := by decide +kernel
theorem dX5_takesBack_20 : decode cX5_takesBack 20 = .ok (.iinc 1 1, 3) := by decide +kernel
theorem dX5_takesBack_23 : decode cX5_takesBack 23 = .ok (.goto (-21), 3) := by decide +kernel
theorem dX5_takesBack_26 : decode cX5_takesBack 26 = .ok (.return_, 1) := by decide +kernel
set_option maxRecDepth 20000 in
theorem ggX5_age_X5_of : GoodIn wsX5_age wsX5_of := goodIn_r _ [6, 1, 7, 8, 9, 10, 11, 12, 13, 14, 15, 16, 17] (by decide +kernel) (by decide +kernel)
set_option maxRecDepth 20000 in
theorem gX5_age_X5_of : GoodIn wsX5_age (wsV RX5 44 RX5 yX5_of wsX5_of) := goodIn_app (goodIn_of _ (by decide +kernel)) ggX5_age_X5_of
theorem dX5_age_0 : decode cX5_age 0 = .ok (.aload_n 0, 1) := by decide +kernel
theorem dX5_age_1 : decode cX5_age 1 = .ok (.getfield 7, 3) := by decide +kernel
theorem dX5_age_4 : decode cX5_age 4 = .ok (.iconst 0, 1) := by decide +kernel
theorem dX5_age_5 : decode cX5_age 5 = .ok (.iaload, 1) := by decide +kernel
theorem dX5_age_6 : decode cX5_age 6 = .ok (.aload_n 0, 1) := by decide +kernel
theorem dX5_age_7 : decode cX5_age 7 = .ok (.iload_n 1, 1) := by decide +kernel
theorem dX5_age_8 : decode cX5_age 8 = .ok (.iconst 0, 1) := by decide +kernel
theorem dX5_age_9 : decode cX5_age 9 = .ok (.invokevirtual 44, 3) := by decide +kernel
theorem dX5_age_12 : decode cX5_age 12 = .ok (.isub, 1) := by decide +kernel
theorem dX5_age_13 : decode cX5_age 13 = .ok (.ireturn, 1) := by decide +kernel
theorem dX5_hundredthsBy_0 : decode cX5_hundredthsBy 0 = .ok (.iload_n 0, 1) := by decide +kernel
theorem dX5_hundredthsBy_1 : decode cX5_hundredthsBy 1 = .ok (.ifCond .ne 12, 3) := by decide +kernel
theorem dX5_hundredthsBy_4 : decode cX5_hundredthsBy 4 = .ok (.bipush 100, 2) := by decide +kernel
theorem dX5_hundredthsBy_6 : decode cX5_hundredthsBy 6 = .ok (.iload_n 1, 1) := by decide +kernel
theorem dX5_hundredthsBy_7 : decode cX5_hundredthsBy 7 = .ok (.imul, 1) := by decide +kernel
theorem dX5_hundredthsBy_8 : decode cX5_hundredthsBy 8 = .ok (.iload_n 1, 1) := by decide +kernel
theorem dX5_hundredthsBy_9 : decode cX5_hundredthsBy 9 = .ok (.iconst 4, 1) := by decide +kernel
theorem dX5_hundredthsBy_10 : decode cX5_hundredthsBy 10 = .ok (.iadd, 1) := by decide +kernel
theorem dX5_hundredthsBy_11 : decode cX5_hundredthsBy 11 = .ok (.idiv, 1) := by decide +kernel
theorem dX5_hundredthsBy_12 : decode cX5_hundredthsBy 12 = .ok (.ireturn, 1) := by decide +kernel
theorem dX5_hundredthsBy_13 : decode cX5_hundredthsBy 13 = .ok (.iload_n 0, 1) := by decide +kernel
theorem dX5_hundredthsBy_14 : decode cX5_hundredthsBy 14 = .ok (.iconst 1, 1) := by decide +kernel
theorem dX5_hundredthsBy_15 : decode cX5_hundredthsBy 15 = .ok (.if_icmp .ne 19, 3) := by decide +kernel
theorem dX5_hundredthsBy_18 : decode cX5_hundredthsBy 18 = .ok (.iload_n 1, 1) := by decide +kernel
theorem dX5_hundredthsBy_19 : decode cX5_hundredthsBy 19 = .ok (.bipush 10, 2) := by decide +kernel
theorem dX5_hundredthsBy_21 : decode cX5_hundredthsBy 21 = .ok (.if_icmp .le 8, 3) := by decide +kernel
theorem dX5_hundredthsBy_24 : decode cX5_hundredthsBy 24 = .ok (.bipush 100, 2) := by decide +kernel
theorem dX5_hundredthsBy_26 : decode cX5_hundredthsBy 26 = .ok (.goto 7, 3) := by decide +kernel
theorem dX5_hundredthsBy_29 : decode cX5_hundredthsBy 29 = .ok (.bipush 10, 2) := by decide +kernel
theorem dX5_hundredthsBy_31 : decode cX5_hundredthsBy 31 = .ok (.iload_n 1, 1) := by decide +kernel
theorem dX5_hundredthsBy_32 : decode cX5_hundredthsBy 32 = .ok (.imul, 1) := by decide +kernel
theorem dX5_hundredthsBy_33 : decode cX5_hundredthsBy 33 = .ok (.ireturn, 1) := by decide +kernel
theorem dX5_hundredthsBy_34 : decode cX5_hundredthsBy 34 = .ok (.iload_n 1, 1) := by decide +kernel
theorem dX5_hundredthsBy_35 : decode cX5_hundredthsBy 35 = .ok (.ifCond .ne 7, 3) := by decide +kernel
theorem dX5_hundredthsBy_38 : decode cX5_hundredthsBy 38 = .ok (.iconst 0, 1) := by decide +kernel
theorem dX5_hundredthsBy_39 : decode cX5_hundredthsBy 39 = .ok (.goto 5, 3) := by decide +kernel
theorem dX5_hundredthsBy_42 : decode cX5_hundredthsBy 42 = .ok (.bipush 20, 2) := by decide +kernel
theorem dX5_hundredthsBy_44 : decode cX5_hundredthsBy 44 = .ok (.istore_n 2, 1) := by decide +kernel
theorem dX5_hundredthsBy_45 : decode cX5_hundredthsBy 45 = .ok (.iload_n 1, 1) := by decide +kernel
theorem dX5_hundredthsBy_46 : decode cX5_hundredthsBy 46 = .ok (.istore_n 3, 1) := by decide +kernel
theorem dX5_hundredthsBy_47 : decode cX5_hundredthsBy 47 = .ok (.iload_n 3, 1) := by decide +kernel
theorem dX5_hundredthsBy_48 : decode cX5_hundredthsBy 48 = .ok (.iconst 1, 1) := by decide +kernel
theorem dX5_hundredthsBy_49 : decode cX5_hundredthsBy 49 = .ok (.if_icmp .le 13, 3) := by decide +kernel
theorem dX5_hundredthsBy_52 : decode cX5_hundredthsBy 52 = .ok (.iload_n 3, 1) := by decide +kernel
theorem dX5_hundredthsBy_53 : decode cX5_hundredthsBy 53 = .ok (.iconst 2, 1) := by decide +kernel
theorem dX5_hundredthsBy_54 : decode cX5_hundredthsBy 54 = .ok (.idiv, 1) := by decide +kernel
theorem dX5_hundredthsBy_55 : decode cX5_hundredthsBy 55 = .ok (.istore_n 3, 1) := by decide +kernel
theorem dX5_hundredthsBy_56 : decode cX5_hundredthsBy 56 = .ok (.iinc 2 20, 3) := by decide +kernel
theorem dX5_hundredthsBy_59 : decode cX5_hundredthsBy 59 = .ok (.goto (-12), 3) := by decide +kernel
theorem dX5_hundredthsBy_62 : decode cX5_hundredthsBy 62 = .ok (.iload_n 2, 1) := by decide +kernel
theorem dX5_hundredthsBy_63 : decode cX5_hundredthsBy 63 = .ok (.bipush 100, 2) := by decide +kernel
theorem dX5_hundredthsBy_65 : decode cX5_hundredthsBy 65 = .ok (.if_icmp .le 8, 3) := by decide +kernel
theorem dX5_hundredthsBy_68 : decode cX5_hundredthsBy 68 = .ok (.bipush 100, 2) := by decide +kernel
theorem dX5_hundredthsBy_70 : decode cX5_hundredthsBy 70 = .ok (.goto 4, 3) := by decide +kernel
theorem dX5_hundredthsBy_73 : decode cX5_hundredthsBy 73 = .ok (.iload_n 2, 1) := by decide +kernel
theorem dX5_hundredthsBy_74 : decode cX5_hundredthsBy 74 = .ok (.ireturn, 1) := by decide +kernel
set_option maxRecDepth 20000 in
theorem ggX5_strength_X5_age : GoodIn wsX5_strength wsX5_age := goodIn_r _ [6, 1, 7, 8, 9, 5, 10, 14, 15, 16, 17, 18, 19, 20, 21, 22, 23, 24] (by decide +kernel) (by decide +kernel)
set_option maxRecDepth 20000 in
theorem gX5_strength_X5_age : GoodIn wsX5_strength (wsV RX5 48 RX5 yX5_age wsX5_age) := goodIn_app (goodIn_of _ (by decide +kernel)) ggX5_strength_X5_age
set_option maxRecDepth 20000 in
theorem ggX5_strength_X5_of : GoodIn wsX5_strength wsX5_of := goodIn_r _ [10, 1, 14, 15, 16, 17, 18, 19, 20, 21, 22, 23, 24] (by decide +kernel) (by decide +kernel)
set_option maxRecDepth 20000 in
theorem gX5_strength_X5_of : GoodIn wsX5_strength (wsV RX5 44 RX5 yX5_of wsX5_of) := goodIn_app (goodIn_of _ (by decide +kernel)) ggX5_strength_X5_of
set_option maxRecDepth 20000 in
theorem ggX5_strength_X5_hundredthsBy : GoodIn wsX5_strength wsX5_hundredthsBy := goodIn_r _ [13] (by decide +kernel) (by decide +kernel)
set_option maxRecDepth 20000 in
theorem gX5_strength_X5_hundredthsBy : GoodIn wsX5_strength (va_wsS RX5 52 yX5_hundredthsBy wsX5_hundredthsBy) := goodIn_app (goodIn_of _ (by decide +kernel)) ggX5_strength_X5_hundredthsBy
theorem dX5_strength_0 : decode cX5_strength 0 = .ok (.aload_n 0, 1) := by decide +kernel
theorem dX5_strength_1 : decode cX5_strength 1 = .ok (.iload_n 1, 1) := by decide +kernel
theorem dX5_strength_2 : decode cX5_strength 2 = .ok (.invokevirtual 48, 3) := by decide +kernel
theorem dX5_strength_5 : decode cX5_strength 5 = .ok (.bipush 10, 2) := by decide +kernel
theorem dX5_strength_7 : decode cX5_strength 7 = .ok (.aload_n 0, 1) := by decide +kernel
theorem dX5_strength_8 : decode cX5_strength 8 = .ok (.iload_n 1, 1) := by decide +kernel
theorem dX5_strength_9 : decode cX5_strength 9 = .ok (.iconst 1, 1) := by decide +kernel
theorem dX5_strength_10 : decode cX5_strength 10 = .ok (.invokevirtual 44, 3) := by decide +kernel
theorem dX5_strength_13 : decode cX5_strength 13 = .ok (.isub, 1) := by decide +kernel
theorem dX5_strength_14 : decode cX5_strength 14 = .ok (.imul, 1) := by decide +kernel
theorem dX5_strength_15 : decode cX5_strength 15 = .ok (.bipush 10, 2) := by decide +kernel
theorem dX5_strength_17 : decode cX5_strength 17 = .ok (.idiv, 1) := by decide +kernel
theorem dX5_strength_18 : decode cX5_strength 18 = .ok (.istore_n 2, 1) := by decide +kernel
theorem dX5_strength_19 : decode cX5_strength 19 = .ok (.aload_n 0, 1) := by decide +kernel
theorem dX5_strength_20 : decode cX5_strength 20 = .ok (.getfield 7, 3) := by decide +kernel
theorem dX5_strength_23 : decode cX5_strength 23 = .ok (.iconst 3, 1) := by decide +kernel
theorem dX5_strength_24 : decode cX5_strength 24 = .ok (.iaload, 1) := by decide +kernel
theorem dX5_strength_25 : decode cX5_strength 25 = .ok (.aload_n 0, 1) := by decide +kernel
theorem dX5_strength_26 : decode cX5_strength 26 = .ok (.getfield 7, 3) := by decide +kernel
theorem dX5_strength_29 : decode cX5_strength 29 = .ok (.iconst 4, 1) := by decide +kernel
theorem dX5_strength_30 : decode cX5_strength 30 = .ok (.iaload, 1) := by decide +kernel
theorem dX5_strength_31 : decode cX5_strength 31 = .ok (.iload_n 2, 1) := by decide +kernel
theorem dX5_strength_32 : decode cX5_strength 32 = .ok (.invokestatic 52, 3) := by decide +kernel
theorem dX5_strength_35 : decode cX5_strength 35 = .ok (.imul, 1) := by decide +kernel
theorem dX5_strength_36 : decode cX5_strength 36 = .ok (.bipush 100, 2) := by decide +kernel
theorem dX5_strength_38 : decode cX5_strength 38 = .ok (.idiv, 1) := by decide +kernel
theorem dX5_strength_39 : decode cX5_strength 39 = .ok (.ireturn, 1) := by decide +kernel
set_option maxRecDepth 20000 in
theorem ggX5_isPropped_X5_of : GoodIn wsX5_isPropped wsX5_of := goodIn_r _ [5, 6, 7, 8, 9, 10, 11, 12, 13, 14, 15, 16, 17] (by decide +kernel) (by decide +kernel)
set_option maxRecDepth 20000 in
theorem gX5_isPropped_X5_of : GoodIn wsX5_isPropped (wsV RX5 44 RX5 yX5_of wsX5_of) := goodIn_app (goodIn_of _ (by decide +kernel)) ggX5_isPropped_X5_of
theorem dX5_isPropped_0 : decode cX5_isPropped 0 = .ok (.aload_n 0, 1) := by decide +kernel
theorem dX5_isPropped_1 : decode cX5_isPropped 1 = .ok (.iload_n 1, 1) := by decide +kernel
theorem dX5_isPropped_2 : decode cX5_isPropped 2 = .ok (.iconst 3, 1) := by decide +kernel
theorem dX5_isPropped_3 : decode cX5_isPropped 3 = .ok (.invokevirtual 44, 3) := by decide +kernel
theorem dX5_isPropped_6 : decode cX5_isPropped 6 = .ok (.iconst 1, 1) := by decide +kernel
theorem dX5_isPropped_7 : decode cX5_isPropped 7 = .ok (.if_icmp .ne 7, 3) := by decide +kernel
theorem dX5_isPropped_10 : decode cX5_isPropped 10 = .ok (.iconst 1, 1) := by decide +kernel
theorem dX5_isPropped_11 : decode cX5_isPropped 11 = .ok (.goto 4, 3) := by decide +kernel
theorem dX5_isPropped_14 : decode cX5_isPropped 14 = .ok (.iconst 0, 1) := by decide +kernel
theorem dX5_isPropped_15 : decode cX5_isPropped 15 = .ok (.ireturn, 1) := by decide +kernel
set_option maxRecDepth 20000 in
theorem ggX5_lowest_X5_isPropped : GoodIn wsX5_lowest wsX5_isPropped := goodIn_r _ [5, 6, 7, 8, 4, 9, 10, 11, 12, 13, 14, 15, 16, 17, 18, 19, 20, 21] (by decide +kernel) (by decide +kernel)
set_option maxRecDepth 20000 in
theorem gX5_lowest_X5_isPropped : GoodIn wsX5_lowest (wsV RX5 55 RX5 yX5_isPropped wsX5_isPropped) := goodIn_app (goodIn_of _ (by decide +kernel)) ggX5_lowest_X5_isPropped
theorem dX5_lowest_0 : decode cX5_lowest 0 = .ok (.iload_n 1, 1) := by decide +kernel
theorem dX5_lowest_1 : decode cX5_lowest 1 = .ok (.istore_n 2, 1) := by decide +kernel
theorem dX5_lowest_2 : decode cX5_lowest 2 = .ok (.iload_n 2, 1) := by decide +kernel
theorem dX5_lowest_3 : decode cX5_lowest 3 = .ok (.ifCond .le 17, 3) := by decide +kernel
theorem dX5_lowest_6 : decode cX5_lowest 6 = .ok (.aload_n 0, 1) := by decide +kernel
theorem dX5_lowest_7 : decode cX5_lowest 7 = .ok (.iload_n 2, 1) := by decide +kernel
theorem dX5_lowest_8 : decode cX5_lowest 8 = .ok (.invokevirtual 55, 3) := by decide +kernel
theorem dX5_lowest_11 : decode cX5_lowest 11 = .ok (.ifCond .eq 9, 3) := by decide +kernel
theorem dX5_lowest_14 : decode cX5_lowest 14 = .ok (.iinc 2 (-1), 3) := by decide +kernel
theorem dX5_lowest_17 : decode cX5_lowest 17 = .ok (.goto (-15), 3) := by decide +kernel
theorem dX5_lowest_20 : decode cX5_lowest 20 = .ok (.iload_n 2, 1) := by decide +kernel
theorem dX5_lowest_21 : decode cX5_lowest 21 = .ok (.ireturn, 1) := by decide +kernel
set_option maxRecDepth 20000 in
theorem ggX5_highest_X5_isPropped : GoodIn wsX5_highest wsX5_isPropped := goodIn_r _ [6, 7, 8, 9, 5, 10, 1, 11, 12, 13, 14, 15, 16, 17, 18, 19, 20, 21] (by decide +kernel) (by decide +kernel)
set_option maxRecDepth 20000 in
theorem gX5_highest_X5_isPropped : GoodIn wsX5_highest (wsV RX5 55 RX5 yX5_isPropped wsX5_isPropped) := goodIn_app (goodIn_of _ (by decide +kernel)) ggX5_highest_X5_isPropped
theorem dX5_highest_0 : decode cX5_highest 0 = .ok (.iload_n 1, 1) := by decide +kernel
theorem dX5_highest_1 : decode cX5_highest 1 = .ok (.istore_n 2, 1) := by decide +kernel
theorem dX5_highest_2 : decode cX5_highest 2 = .ok (.iload_n 2, 1) := by decide +kernel
theorem dX5_highest_3 : decode cX5_highest 3 = .ok (.iconst 1, 1) := by decide +kernel
theorem dX5_highest_4 : decode cX5_highest 4 = .ok (.iadd, 1) := by decide +kernel
theorem dX5_highest_5 : decode cX5_highest 5 = .ok (.aload_n 0, 1) := by decide +kernel
theorem dX5_highest_6 : decode cX5_highest 6 = .ok (.getfield 7, 3) := by decide +kernel
theorem dX5_highest_9 : decode cX5_highest 9 = .ok (.iconst 1, 1) := by decide +kernel
theorem dX5_highest_10 : decode cX5_highest 10 = .ok (.iaload, 1) := by decide +kernel
theorem dX5_highest_11 : decode cX5_highest 11 = .ok (.if_icmp .ge 19, 3) := by decide +kernel
theorem dX5_highest_14 : decode cX5_highest 14 = .ok (.aload_n 0, 1) := by decide +kernel
theorem dX5_highest_15 : decode cX5_highest 15 = .ok (.iload_n 2, 1) := by decide +kernel
theorem dX5_highest_16 : decode cX5_highest 16 = .ok (.iconst 1, 1) := by decide +kernel
theorem dX5_highest_17 : decode cX5_highest 17 = .ok (.iadd, 1) := by decide +kernel
theorem dX5_highest_18 : decode cX5_highest 18 = .ok (.invokevirtual 55, 3) := by decide +kernel
theorem dX5_highest_21 : decode cX5_highest 21 = .ok (.ifCond .eq 9, 3) := by decide +kernel
theorem dX5_highest_24 : decode cX5_highest 24 = .ok (.iinc 2 1, 3) := by decide +kernel
theorem dX5_highest_27 : decode cX5_highest 27 = .ok (.goto (-25), 3) := by decide +kernel
theorem dX5_highest_30 : decode cX5_highest 30 = .ok (.iload_n 2, 1) := by decide +kernel
theorem dX5_highest_31 : decode cX5_highest 31 = .ok (.ireturn, 1) := by decide +kernel
set_option maxRecDepth 20000 in
theorem ggX5_isGrounded_X5_lowest : GoodIn wsX5_isGrounded wsX5_lowest := goodIn_r _ [5, 6, 7, 8, 4, 9, 10, 11, 12, 13, 14, 15, 16, 17, 18, 19, 20, 21, 22, 23, 24, 25] (by decide +kernel) (by decide +kernel)
set_option maxRecDepth 20000 in
theorem gX5_isGrounded_X5_lowest : GoodIn wsX5_isGrounded (wsV RX5 59 RX5 yX5_lowest wsX5_lowest) := goodIn_app (goodIn_of _ (by decide +kernel)) ggX5_isGrounded_X5_lowest
set_option maxRecDepth 20000 in
theorem ggX5_isGrounded_X5_isPropped : GoodIn wsX5_isGrounded wsX5_isPropped := goodIn_r _ [9, 10, 11, 12, 4, 13, 14, 15, 16, 17, 18, 19, 20, 21, 22, 23, 24, 25] (by decide +kernel) (by decide +kernel)
set_option maxRecDepth 20000 in
theorem gX5_isGrounded_X5_isPropped : GoodIn wsX5_isGrounded (wsV RX5 55 RX5 yX5_isPropped wsX5_isPropped) := goodIn_app (goodIn_of _ (by decide +kernel)) ggX5_isGrounded_X5_isPropped
theorem dX5_isGrounded_0 : decode cX5_isGrounded 0 = .ok (.aload_n 0, 1) := by decide +kernel
theorem dX5_isGrounded_1 : decode cX5_isGrounded 1 = .ok (.iload_n 1, 1) := by decide +kernel
theorem dX5_isGrounded_2 : decode cX5_isGrounded 2 = .ok (.invokevirtual 59, 3) := by decide +kernel
theorem dX5_isGrounded_5 : decode cX5_isGrounded 5 = .ok (.ifCond .ne 15, 3) := by decide +kernel
theorem dX5_isGrounded_8 : decode cX5_isGrounded 8 = .ok (.aload_n 0, 1) := by decide +kernel
theorem dX5_isGrounded_9 : decode cX5_isGrounded 9 = .ok (.iconst 0, 1) := by decide +kernel
theorem dX5_isGrounded_10 : decode cX5_isGrounded 10 = .ok (.invokevirtual 55, 3) := by decide +kernel
theorem dX5_isGrounded_13 : decode cX5_isGrounded 13 = .ok (.ifCond .eq 7, 3) := by decide +kernel
theorem dX5_isGrounded_16 : decode cX5_isGrounded 16 = .ok (.iconst 1, 1) := by decide +kernel
theorem dX5_isGrounded_17 : decode cX5_isGrounded 17 = .ok (.goto 4, 3) := by decide +kernel
theorem dX5_isGrounded_20 : decode cX5_isGrounded 20 = .ok (.iconst 0, 1) := by decide +kernel
theorem dX5_isGrounded_21 : decode cX5_isGrounded 21 = .ok (.ireturn, 1) := by decide +kernel
set_option maxRecDepth 20000 in
theorem ggX5_force_X5_highest : GoodIn wsX5_force wsX5_highest := goodIn_r _ [6, 1, 7, 8, 9, 5, 10, 11, 12, 13, 14, 15, 16, 17, 18, 19, 20, 21, 22, 23, 24, 25] (by decide +kernel) (by decide +kernel)
set_option maxRecDepth 20000 in
theorem gX5_force_X5_highest : GoodIn wsX5_force (wsV RX5 62 RX5 yX5_highest wsX5_highest) := goodIn_app (goodIn_of _ (by decide +kernel)) ggX5_force_X5_highest
set_option maxRecDepth 20000 in
theorem ggX5_force_X5_isPropped : GoodIn wsX5_force wsX5_isPropped := goodIn_r _ [10, 11, 12, 13, 5, 14, 1, 15, 16, 17, 18, 19, 20, 21, 22, 23, 24, 25] (by decide +kernel) (by decide +kernel)
set_option maxRecDepth 20000 in
theorem gX5_force_X5_isPropped : GoodIn wsX5_force (wsV RX5 55 RX5 yX5_isPropped wsX5_isPropped) := goodIn_app (goodIn_of _ (by decide +kernel)) ggX5_force_X5_isPropped
set_option maxRecDepth 20000 in
theorem ggX5_force_X5_of : GoodIn wsX5_force wsX5_of := goodIn_r _ [14, 1, 15, 16, 17, 18, 19, 20, 21, 22, 23, 24, 25] (by decide +kernel) (by decide +kernel)
set_option maxRecDepth 20000 in
theorem gX5_force_X5_of : GoodIn wsX5_force (wsV RX5 44 RX5 yX5_of wsX5_of) := goodIn_app (goodIn_of _ (by decide +kernel)) ggX5_force_X5_of
theorem dX5_force_0 : decode cX5_force 0 = .ok (.iconst 0, 1) := by decide +kernel
theorem dX5_force_1 : decode cX5_force 1 = .ok (.istore_n 2, 1) := by decide +kernel
theorem dX5_force_2 : decode cX5_force 2 = .ok (.iload_n 1, 1) := by decide +kernel
theorem dX5_force_3 : decode cX5_force 3 = .ok (.istore_n 3, 1) := by decide +kernel
theorem dX5_force_4 : decode cX5_force 4 = .ok (.iload_n 3, 1) := by decide +kernel
theorem dX5_force_5 : decode cX5_force 5 = .ok (.aload_n 0, 1) := by decide +kernel
theorem dX5_force_6 : decode cX5_force 6 = .ok (.iload_n 1, 1) := by decide +kernel
theorem dX5_force_7 : decode cX5_force 7 = .ok (.invokevirtual 62, 3) := by decide +kernel
theorem dX5_force_10 : decode cX5_force 10 = .ok (.if_icmp .gt 33, 3) := by decide +kernel
theorem dX5_force_13 : decode cX5_force 13 = .ok (.aload_n 0, 1) := by decide +kernel
theorem dX5_force_14 : decode cX5_force 14 = .ok (.iload_n 1, 1) := by decide +kernel
theorem dX5_force_15 : decode cX5_force 15 = .ok (.invokevirtual 55, 3) := by decide +kernel
theorem dX5_force_18 : decode cX5_force 18 = .ok (.ifCond .eq 25, 3) := by decide +kernel
theorem dX5_force_21 : decode cX5_force 21 = .ok (.iload_n 2, 1) := by decide +kernel
theorem dX5_force_22 : decode cX5_force 22 = .ok (.aload_n 0, 1) := by decide +kernel
theorem dX5_force_23 : decode cX5_force 23 = .ok (.getfield 7, 3) := by decide +kernel
theorem dX5_force_26 : decode cX5_force 26 = .ok (.iconst 2, 1) := by decide +kernel
theorem dX5_force_27 : decode cX5_force 27 = .ok (.iaload, 1) := by decide +kernel
theorem dX5_force_28 : decode cX5_force 28 = .ok (.aload_n 0, 1) := by decide +kernel
theorem dX5_force_29 : decode cX5_force 29 = .ok (.iload_n 3, 1) := by decide +kernel
theorem dX5_force_30 : decode cX5_force 30 = .ok (.iconst 2, 1) := by decide +kernel
theorem dX5_force_31 : decode cX5_force 31 = .ok (.invokevirtual 44, 3) := by decide +kernel
theorem dX5_force_34 : decode cX5_force 34 = .ok (.isub, 1) := by decide +kernel
theorem dX5_force_35 : decode cX5_force 35 = .ok (.iadd, 1) := by decide +kernel
theorem dX5_force_36 : decode cX5_force 36 = .ok (.istore_n 2, 1) := by decide +kernel
theorem dX5_force_37 : decode cX5_force 37 = .ok (.iinc 3 1, 3) := by decide +kernel
theorem dX5_force_40 : decode cX5_force 40 = .ok (.goto (-36), 3) := by decide +kernel
theorem dX5_force_43 : decode cX5_force 43 = .ok (.iload_n 2, 1) := by decide +kernel
theorem dX5_force_44 : decode cX5_force 44 = .ok (.ireturn, 1) := by decide +kernel
set_option maxRecDepth 20000 in
theorem ggX5_shares_X5_isGrounded : GoodIn wsX5_shares wsX5_isGrounded := goodIn_r _ [7, 8, 9, 10, 6, 11, 12, 13, 14, 15, 16, 17, 18, 19, 2, 39, 40, 41, 42, 43, 44, 45, 46, 47, 48, 49] (by decide +kernel) (by decide +kernel)
set_option maxRecDepth 20000 in
theorem gX5_shares_X5_isGrounded : GoodIn wsX5_shares (wsV RX5 65 RX5 yX5_isGrounded wsX5_isGrounded) := goodIn_app (goodIn_of _ (by decide +kernel)) ggX5_shares_X5_isGrounded
set_option maxRecDepth 20000 in
theorem ggX5_shares_X5_lowest : GoodIn wsX5_shares wsX5_lowest := goodIn_r _ [11, 12, 13, 14, 6, 15, 16, 17, 18, 19, 2, 39, 40, 41, 42, 43, 44, 45, 46, 47, 48, 49] (by decide +kernel) (by decide +kernel)
set_option maxRecDepth 20000 in
theorem gX5_shares_X5_lowest : GoodIn wsX5_shares (wsV RX5 59 RX5 yX5_lowest wsX5_lowest) := goodIn_app (goodIn_of _ (by decide +kernel)) ggX5_shares_X5_lowest
set_option maxRecDepth 20000 in
theorem ggX5_shares_X5_highest : GoodIn wsX5_shares wsX5_highest := goodIn_r _ [23, 2, 12, 13, 14, 6, 15, 16, 17, 18, 19, 39, 40, 41, 42, 43, 44, 45, 46, 47, 48, 49] (by decide +kernel) (by decide +kernel)
set_option maxRecDepth 20000 in
theorem gX5_shares_X5_highest : GoodIn wsX5_shares (wsV RX5 62 RX5 yX5_highest wsX5_highest) := goodIn_app (goodIn_of _ (by decide +kernel)) ggX5_shares_X5_highest
set_option maxRecDepth 20000 in
theorem ggX5_shares_X5_age : GoodIn wsX5_shares wsX5_age := goodIn_r _ [27, 2, 16, 17, 18, 6, 19, 39, 40, 41, 42, 43, 44, 45, 46, 47, 48, 49] (by decide +kernel) (by decide +kernel)
set_option maxRecDepth 20000 in
theorem gX5_shares_X5_age : GoodIn wsX5_shares (wsV RX5 48 RX5 yX5_age wsX5_age) := goodIn_app (goodIn_of _ (by decide +kernel)) ggX5_shares_X5_age
set_option maxRecDepth 20000 in
theorem ggX5_shares_X5_strength : GoodIn wsX5_shares wsX5_strength := goodIn_r _ [31, 2, 24, 25, 26, 6, 27, 16, 17, 18, 19, 32, 33, 34, 39, 40, 41, 42, 43, 44, 45, 46, 47, 48, 49] (by decide +kernel) (by decide +kernel)
set_option maxRecDepth 20000 in
theorem gX5_shares_X5_strength : GoodIn wsX5_shares (wsV RX5 68 RX5 yX5_strength wsX5_strength) := goodIn_app (goodIn_of _ (by decide +kernel)) ggX5_shares_X5_strength
set_option maxRecDepth 20000 in
theorem ggX5_shares_X5_of : GoodIn wsX5_shares wsX5_of := goodIn_r _ [19, 2, 39, 40, 41, 42, 43, 44, 45, 46, 47, 48, 49] (by decide +kernel) (by decide +kernel)
set_option maxRecDepth 20000 in
theorem gX5_shares_X5_of : GoodIn wsX5_shares (wsV RX5 44 RX5 yX5_of wsX5_of) := goodIn_app (goodIn_of _ (by decide +kernel)) ggX5_shares_X5_of
set_option maxRecDepth 20000 in
theorem ggX5_shares_X5_put : GoodIn wsX5_shares wsX5_put := goodIn_r _ [38, 2, 39, 40, 41, 42, 43, 44, 45, 46, 47, 48, 49] (by decide +kernel) (by decide +kernel)
set_option maxRecDepth 20000 in
theorem gX5_shares_X5_put : GoodIn wsX5_shares (wsV RX5 71 RX5 yX5_put wsX5_put) := goodIn_app (goodIn_of _ (by decide +kernel)) ggX5_shares_X5_put
theorem dX5_shares_0 : decode cX5_shares 0 = .ok (.aload_n 0, 1) := by decide +kernel
theorem dX5_shares_1 : decode cX5_shares 1 = .ok (.iload_n 1, 1) := by decide +kernel
theorem dX5_shares_2 : decode cX5_shares 2 = .ok (.invokevirtual 65, 3) := by decide +kernel
theorem dX5_shares_5 : decode cX5_shares 5 = .ok (.ifCond .eq 4, 3) := by decide +kernel
theorem dX5_shares_8 : decode cX5_shares 8 = .ok (.return_, 1) := by decide +kernel
theorem dX5_shares_9 : decode cX5_shares 9 = .ok (.aload_n 0, 1) := by decide +kernel
theorem dX5_shares_10 : decode cX5_shares 10 = .ok (.iload_n 1, 1) := by decide +kernel
theorem dX5_shares_11 : decode cX5_shares 11 = .ok (.invokevirtual 59, 3) := by decide +kernel
theorem dX5_shares_14 : decode cX5_shares 14 = .ok (.istore_n 3, 1) := by decide +kernel
theorem dX5_shares_15 : decode cX5_shares 15 = .ok (.aload_n 0, 1) := by decide +kernel
theorem dX5_shares_16 : decode cX5_shares 16 = .ok (.iload_n 1, 1) := by decide +kernel
theorem dX5_shares_17 : decode cX5_shares 17 = .ok (.invokevirtual 62, 3) := by decide +kernel
theorem dX5_shares_20 : decode cX5_shares 20 = .ok (.istore 4, 2) := by decide +kernel
theorem dX5_shares_22 : decode cX5_shares 22 = .ok (.iconst 0, 1) := by decide +kernel
theorem dX5_shares_23 : decode cX5_shares 23 = .ok (.istore 5, 2) := by decide +kernel
theorem dX5_shares_25 : decode cX5_shares 25 = .ok (.iload_n 3, 1) := by decide +kernel
theorem dX5_shares_26 : decode cX5_shares 26 = .ok (.istore 6, 2) := by decide +kernel
theorem dX5_shares_28 : decode cX5_shares 28 = .ok (.iload 6, 2) := by decide +kernel
theorem dX5_shares_30 : decode cX5_shares 30 = .ok (.iload 4, 2) := by decide +kernel
theorem dX5_shares_32 : decode cX5_shares 32 = .ok (.if_icmp .gt 79, 3) := by decide +kernel
theorem dX5_shares_35 : decode cX5_shares 35 = .ok (.aload_n 0, 1) := by decide +kernel
theorem dX5_shares_36 : decode cX5_shares 36 = .ok (.getfield 33, 3) := by decide +kernel
theorem dX5_shares_39 : decode cX5_shares 39 = .ok (.iload 6, 2) := by decide +kernel
theorem dX5_shares_41 : decode cX5_shares 41 = .ok (.aload_n 0, 1) := by decide +kernel
theorem dX5_shares_42 : decode cX5_shares 42 = .ok (.getfield 7, 3) := by decide +kernel
theorem dX5_shares_45 : decode cX5_shares 45 = .ok (.iconst 5, 1) := by decide +kernel
theorem dX5_shares_46 : decode cX5_shares 46 = .ok (.iaload, 1) := by decide +kernel
theorem dX5_shares_47 : decode cX5_shares 47 = .ok (.ifCond .ne 20, 3) := by decide +kernel
theorem dX5_shares_50 : decode cX5_shares 50 = .ok (.aload_n 0, 1) := by decide +kernel
theorem dX5_shares_51 : decode cX5_shares 51 = .ok (.iload 6, 2) := by decide +kernel
theorem dX5_shares_53 : decode cX5_shares 53 = .ok (.invokevirtual 48, 3) := by decide +kernel
theorem dX5_shares_56 : decode cX5_shares 56 = .ok (.ifCond .le 7, 3) := by decide +kernel
theorem dX5_shares_59 : decode cX5_shares 59 = .ok (.iconst 1, 1) := by decide +kernel
theorem dX5_shares_60 : decode cX5_shares 60 = .ok (.goto 32, 3) := by decide +kernel
theorem dX5_shares_63 : decode cX5_shares 63 = .ok (.iconst 0, 1) := by decide +kernel
theorem dX5_shares_64 : decode cX5_shares 64 = .ok (.goto 28, 3) := by decide +kernel
theorem dX5_shares_67 : decode cX5_shares 67 = .ok (.aload_n 0, 1) := by decide +kernel
theorem dX5_shares_68 : decode cX5_shares 68 = .ok (.getfield 7, 3) := by decide +kernel
theorem dX5_shares_71 : decode cX5_shares 71 = .ok (.iconst 5, 1) := by decide +kernel
theorem dX5_shares_72 : decode cX5_shares 72 = .ok (.iaload, 1) := by decide +kernel
theorem dX5_shares_73 : decode cX5_shares 73 = .ok (.iconst 1, 1) := by decide +kernel
theorem dX5_shares_74 : decode cX5_shares 74 = .ok (.if_icmp .ne 12, 3) := by decide +kernel
theorem dX5_shares_77 : decode cX5_shares 77 = .ok (.aload_n 0, 1) := by decide +kernel
theorem dX5_shares_78 : decode cX5_shares 78 = .ok (.iload 6, 2) := by decide +kernel
theorem dX5_shares_80 : decode cX5_shares 80 = .ok (.invokevirtual 68, 3) := by decide +kernel
theorem dX5_shares_83 : decode cX5_shares 83 = .ok (.goto 9, 3) := by decide +kernel
theorem dX5_shares_86 : decode cX5_shares 86 = .ok (.aload_n 0, 1) := by decide +kernel
theorem dX5_shares_87 : decode cX5_shares 87 = .ok (.iload 6, 2) := by decide +kernel
theorem dX5_shares_89 : decode cX5_shares 89 = .ok (.invokevirtual 48, 3) := by decide +kernel
theorem dX5_shares_92 : decode cX5_shares 92 = .ok (.iastore, 1) := by decide +kernel
theorem dX5_shares_93 : decode cX5_shares 93 = .ok (.iload 5, 2) := by decide +kernel
theorem dX5_shares_95 : decode cX5_shares 95 = .ok (.aload_n 0, 1) := by decide +kernel
theorem dX5_shares_96 : decode cX5_shares 96 = .ok (.getfield 33, 3) := by decide +kernel
theorem dX5_shares_99 : decode cX5_shares 99 = .ok (.iload 6, 2) := by decide +kernel
theorem dX5_shares_101 : decode cX5_shares 101 = .ok (.iaload, 1) := by decide +kernel
theorem dX5_shares_102 : decode cX5_shares 102 = .ok (.iadd, 1) := by decide +kernel
theorem dX5_shares_103 : decode cX5_shares 103 = .ok (.istore 5, 2) := by decide +kernel
theorem dX5_shares_105 : decode cX5_shares 105 = .ok (.iinc 6 1, 3) := by decide +kernel
theorem dX5_shares_108 : decode cX5_shares 108 = .ok (.goto (-80), 3) := by decide +kernel
theorem dX5_shares_111 : decode cX5_shares 111 = .ok (.iload_n 3, 1) := by decide +kernel
theorem dX5_shares_112 : decode cX5_shares 112 = .ok (.istore 6, 2) := by decide +kernel
theorem dX5_shares_114 : decode cX5_shares 114 = .ok (.iload 6, 2) := by decide +kernel
theorem dX5_shares_116 : decode cX5_shares 116 = .ok (.iload 4, 2) := by decide +kernel
theorem dX5_shares_118 : decode cX5_shares 118 = .ok (.if_icmp .gt 22, 3) := by decide +kernel
theorem dX5_shares_121 : decode cX5_shares 121 = .ok (.iload 5, 2) := by decide +kernel
theorem dX5_shares_123 : decode cX5_shares 123 = .ok (.ifCond .ne 17, 3) := by decide +kernel
theorem dX5_shares_126 : decode cX5_shares 126 = .ok (.aload_n 0, 1) := by decide +kernel
theorem dX5_shares_127 : decode cX5_shares 127 = .ok (.getfield 33, 3) := by decide +kernel
theorem dX5_shares_130 : decode cX5_shares 130 = .ok (.iload 6, 2) := by decide +kernel
theorem dX5_shares_132 : decode cX5_shares 132 = .ok (.iconst 1, 1) := by decide +kernel
theorem dX5_shares_133 : decode cX5_shares 133 = .ok (.iastore, 1) := by decide +kernel
theorem dX5_shares_134 : decode cX5_shares 134 = .ok (.iinc 6 1, 3) := by decide +kernel
theorem dX5_shares_137 : decode cX5_shares 137 = .ok (.goto (-23), 3) := by decide +kernel
theorem dX5_shares_140 : decode cX5_shares 140 = .ok (.iload 5, 2) := by decide +kernel
theorem dX5_shares_142 : decode cX5_shares 142 = .ok (.ifCond .ne 12, 3) := by decide +kernel
theorem dX5_shares_145 : decode cX5_shares 145 = .ok (.iload 4, 2) := by decide +kernel
theorem dX5_shares_147 : decode cX5_shares 147 = .ok (.iload_n 3, 1) := by decide +kernel
theorem dX5_shares_148 : decode cX5_shares 148 = .ok (.isub, 1) := by decide +kernel
theorem dX5_shares_149 : decode cX5_shares 149 = .ok (.iconst 1, 1) := by decide +kernel
theorem dX5_shares_150 : decode cX5_shares 150 = .ok (.iadd, 1) := by decide +kernel
theorem dX5_shares_151 : decode cX5_shares 151 = .ok (.goto 5, 3) := by decide +kernel
theorem dX5_shares_154 : decode cX5_shares 154 = .ok (.iload 5, 2) := by decide +kernel
theorem dX5_shares_156 : decode cX5_shares 156 = .ok (.istore 5, 2) := by decide +kernel
theorem dX5_shares_158 : decode cX5_shares 158 = .ok (.iload_n 2, 1) := by decide +kernel
theorem dX5_shares_159 : decode cX5_shares 159 = .ok (.istore 6, 2) := by decide +kernel
theorem dX5_shares_161 : decode cX5_shares 161 = .ok (.iload_n 3, 1) := by decide +kernel
theorem dX5_shares_162 : decode cX5_shares 162 = .ok (.istore 7, 2) := by decide +kernel
theorem dX5_shares_164 : decode cX5_shares 164 = .ok (.iload 7, 2) := by decide +kernel
theorem dX5_shares_166 : decode cX5_shares 166 = .ok (.iload 4, 2) := by decide +kernel
theorem dX5_shares_168 : decode cX5_shares 168 = .ok (.if_icmp .gt 51, 3) := by decide +kernel
theorem dX5_shares_171 : decode cX5_shares 171 = .ok (.iload_n 2, 1) := by decide +kernel
theorem dX5_shares_172 : decode cX5_shares 172 = .ok (.i2l, 1) := by decide +kernel
theorem dX5_shares_173 : decode cX5_shares 173 = .ok (.aload_n 0, 1) := by decide +kernel
theorem dX5_shares_174 : decode cX5_shares 174 = .ok (.getfield 33, 3) := by decide +kernel
theorem dX5_shares_177 : decode cX5_shares 177 = .ok (.iload 7, 2) := by decide +kernel
theorem dX5_shares_179 : decode cX5_shares 179 = .ok (.iaload, 1) := by decide +kernel
theorem dX5_shares_180 : decode cX5_shares 180 = .ok (.i2l, 1) := by decide +kernel
theorem dX5_shares_181 : decode cX5_shares 181 = .ok (.lmul, 1) := by decide +kernel
theorem dX5_shares_182 : decode cX5_shares 182 = .ok (.iload 5, 2) := by decide +kernel
theorem dX5_shares_184 : decode cX5_shares 184 = .ok (.i2l, 1) := by decide +kernel
theorem dX5_shares_185 : decode cX5_shares 185 = .ok (.ldiv, 1) := by decide +kernel
theorem dX5_shares_186 : decode cX5_shares 186 = .ok (.l2i, 1) := by decide +kernel
theorem dX5_shares_187 : decode cX5_shares 187 = .ok (.istore 8, 2) := by decide +kernel
theorem dX5_shares_189 : decode cX5_shares 189 = .ok (.aload_n 0, 1) := by decide +kernel
theorem dX5_shares_190 : decode cX5_shares 190 = .ok (.iload 7, 2) := by decide +kernel
theorem dX5_shares_192 : decode cX5_shares 192 = .ok (.iconst 2, 1) := by decide +kernel
theorem dX5_shares_193 : decode cX5_shares 193 = .ok (.aload_n 0, 1) := by decide +kernel
theorem dX5_shares_194 : decode cX5_shares 194 = .ok (.iload 7, 2) := by decide +kernel
theorem dX5_shares_196 : decode cX5_shares 196 = .ok (.iconst 2, 1) := by decide +kernel
theorem dX5_shares_197 : decode cX5_shares 197 = .ok (.invokevirtual 44, 3) := by decide +kernel
theorem dX5_shares_200 : decode cX5_shares 200 = .ok (.iload 8, 2) := by decide +kernel
theorem dX5_shares_202 : decode cX5_shares 202 = .ok (.iadd, 1) := by decide +kernel
theorem dX5_shares_203 : decode cX5_shares 203 = .ok (.invokevirtual 71, 3) := by decide +kernel
theorem dX5_shares_206 : decode cX5_shares 206 = .ok (.iload 6, 2) := by decide +kernel
theorem dX5_shares_208 : decode cX5_shares 208 = .ok (.iload 8, 2) := by decide +kernel
theorem dX5_shares_210 : decode cX5_shares 210 = .ok (.isub, 1) := by decide +kernel
theorem dX5_shares_211 : decode cX5_shares 211 = .ok (.istore 6, 2) := by decide +kernel
theorem dX5_shares_213 : decode cX5_shares 213 = .ok (.iinc 7 1, 3) := by decide +kernel
theorem dX5_shares_216 : decode cX5_shares 216 = .ok (.goto (-52), 3) := by decide +kernel
theorem dX5_shares_219 : decode cX5_shares 219 = .ok (.iload 6, 2) := by decide +kernel
theorem dX5_shares_221 : decode cX5_shares 221 = .ok (.ifCond .eq 77, 3) := by decide +kernel
theorem dX5_shares_224 : decode cX5_shares 224 = .ok (.iload_n 3, 1) := by decide +kernel
theorem dX5_shares_225 : decode cX5_shares 225 = .ok (.istore 7, 2) := by decide +kernel
theorem dX5_shares_227 : decode cX5_shares 227 = .ok (.iload 7, 2) := by decide +kernel
theorem dX5_shares_229 : decode cX5_shares 229 = .ok (.iload 4, 2) := by decide +kernel
theorem dX5_shares_231 : decode cX5_shares 231 = .ok (.if_icmp .gt 64, 3) := by decide +kernel
theorem dX5_shares_234 : decode cX5_shares 234 = .ok (.iload 6, 2) := by decide +kernel
theorem dX5_shares_236 : decode cX5_shares 236 = .ok (.ifCond .eq 59, 3) := by decide +kernel
theorem dX5_shares_239 : decode cX5_shares 239 = .ok (.aload_n 0, 1) := by decide +kernel
theorem dX5_shares_240 : decode cX5_shares 240 = .ok (.getfield 33, 3) := by decide +kernel
theorem dX5_shares_243 : decode cX5_shares 243 = .ok (.iload 7, 2) := by decide +kernel
theorem dX5_shares_245 : decode cX5_shares 245 = .ok (.iaload, 1) := by decide +kernel
theorem dX5_shares_246 : decode cX5_shares 246 = .ok (.ifCond .ne 7, 3) := by decide +kernel
theorem dX5_shares_249 : decode cX5_shares 249 = .ok (.iconst 0, 1) := by decide +kernel
theorem dX5_shares_250 : decode cX5_shares 250 = .ok (.goto 13, 3) := by decide +kernel
theorem dX5_shares_253 : decode cX5_shares 253 = .ok (.iload 6, 2) := by decide +kernel
theorem dX5_shares_255 : decode cX5_shares 255 = .ok (.ifCond .le 7, 3) := by decide +kernel
theorem dX5_shares_258 : decode cX5_shares 258 = .ok (.iconst 1, 1) := by decide +kernel
theorem dX5_shares_259 : decode cX5_shares 259 = .ok (.goto 4, 3) := by decide +kernel
theorem dX5_shares_262 : decode cX5_shares 262 = .ok (.iconst (-1), 1) := by decide +kernel
theorem dX5_shares_263 : decode cX5_shares 263 = .ok (.istore 8, 2) := by decide +kernel
theorem dX5_shares_265 : decode cX5_shares 265 = .ok (.aload_n 0, 1) := by decide +kernel
theorem dX5_shares_266 : decode cX5_shares 266 = .ok (.iload 7, 2) := by decide +kernel
theorem dX5_shares_268 : decode cX5_shares 268 = .ok (.iconst 2, 1) := by decide +kernel
theorem dX5_shares_269 : decode cX5_shares 269 = .ok (.aload_n 0, 1) := by decide +kernel
theorem dX5_shares_270 : decode cX5_shares 270 = .ok (.iload 7, 2) := by decide +kernel
theorem dX5_shares_272 : decode cX5_shares 272 = .ok (.iconst 2, 1) := by decide +kernel
theorem dX5_shares_273 : decode cX5_shares 273 = .ok (.invokevirtual 44, 3) := by decide +kernel
theorem dX5_shares_276 : decode cX5_shares 276 = .ok (.iload 8, 2) := by decide +kernel
theorem dX5_shares_278 : decode cX5_shares 278 = .ok (.iadd, 1) := by decide +kernel
theorem dX5_shares_279 : decode cX5_shares 279 = .ok (.invokevirtual 71, 3) := by decide +kernel
theorem dX5_shares_282 : decode cX5_shares 282 = .ok (.iload 6, 2) := by decide +kernel
theorem dX5_shares_284 : decode cX5_shares 284 = .ok (.iload 8, 2) := by decide +kernel
theorem dX5_shares_286 : decode cX5_shares 286 = .ok (.isub, 1) := by decide +kernel
theorem dX5_shares_287 : decode cX5_shares 287 = .ok (.istore 6, 2) := by decide +kernel
theorem dX5_shares_289 : decode cX5_shares 289 = .ok (.iinc 7 1, 3) := by decide +kernel
theorem dX5_shares_292 : decode cX5_shares 292 = .ok (.goto (-65), 3) := by decide +kernel
theorem dX5_shares_295 : decode cX5_shares 295 = .ok (.goto (-76), 3) := by decide +kernel
theorem dX5_shares_298 : decode cX5_shares 298 = .ok (.return_, 1) := by decide +kernel
set_option maxRecDepth 20000 in
theorem ggX5_weak_X5_of : GoodIn wsX5_weak wsX5_of := goodIn_r _ [6, 1, 18, 19, 20, 21, 22, 23, 24, 25, 26, 27, 28] (by decide +kernel) (by decide +kernel)
set_option maxRecDepth 20000 in
theorem gX5_weak_X5_of : GoodIn wsX5_weak (wsV RX5 44 RX5 yX5_of wsX5_of) := goodIn_app (goodIn_of _ (by decide +kernel)) ggX5_weak_X5_of
set_option maxRecDepth 20000 in
theorem ggX5_weak_X5_strength : GoodIn wsX5_weak wsX5_strength := goodIn_r _ [10, 1, 11, 12, 13, 5, 14, 2, 3, 4, 6, 15, 16, 17, 18, 19, 20, 21, 22, 23, 24, 25, 26, 27, 28] (by decide +kernel) (by decide +kernel)
set_option maxRecDepth 20000 in
theorem gX5_weak_X5_strength : GoodIn wsX5_weak (wsV RX5 68 RX5 yX5_strength wsX5_strength) := goodIn_app (goodIn_of _ (by decide +kernel)) ggX5_weak_X5_strength
theorem dX5_weak_0 : decode cX5_weak 0 = .ok (.iconst 0, 1) := by decide +kernel
theorem dX5_weak_1 : decode cX5_weak 1 = .ok (.istore_n 1, 1) := by decide +kernel
theorem dX5_weak_2 : decode cX5_weak 2 = .ok (.iconst 0, 1) := by decide +kernel
theorem dX5_weak_3 : decode cX5_weak 3 = .ok (.istore_n 2, 1) := by decide +kernel
theorem dX5_weak_4 : decode cX5_weak 4 = .ok (.iload_n 2, 1) := by decide +kernel
theorem dX5_weak_5 : decode cX5_weak 5 = .ok (.aload_n 0, 1) := by decide +kernel
theorem dX5_weak_6 : decode cX5_weak 6 = .ok (.getfield 7, 3) := by decide +kernel
theorem dX5_weak_9 : decode cX5_weak 9 = .ok (.iconst 1, 1) := by decide +kernel
theorem dX5_weak_10 : decode cX5_weak 10 = .ok (.iaload, 1) := by decide +kernel
theorem dX5_weak_11 : decode cX5_weak 11 = .ok (.if_icmp .ge 33, 3) := by decide +kernel
theorem dX5_weak_14 : decode cX5_weak 14 = .ok (.iload_n 1, 1) := by decide +kernel
theorem dX5_weak_15 : decode cX5_weak 15 = .ok (.aload_n 0, 1) := by decide +kernel
theorem dX5_weak_16 : decode cX5_weak 16 = .ok (.iload_n 2, 1) := by decide +kernel
theorem dX5_weak_17 : decode cX5_weak 17 = .ok (.iconst 2, 1) := by decide +kernel
theorem dX5_weak_18 : decode cX5_weak 18 = .ok (.invokevirtual 44, 3) := by decide +kernel
theorem dX5_weak_21 : decode cX5_weak 21 = .ok (.aload_n 0, 1) := by decide +kernel
theorem dX5_weak_22 : decode cX5_weak 22 = .ok (.iload_n 2, 1) := by decide +kernel
theorem dX5_weak_23 : decode cX5_weak 23 = .ok (.invokevirtual 68, 3) := by decide +kernel
theorem dX5_weak_26 : decode cX5_weak 26 = .ok (.if_icmp .le 9, 3) := by decide +kernel
theorem dX5_weak_29 : decode cX5_weak 29 = .ok (.iconst 1, 1) := by decide +kernel
theorem dX5_weak_30 : decode cX5_weak 30 = .ok (.iload_n 2, 1) := by decide +kernel
theorem dX5_weak_31 : decode cX5_weak 31 = .ok (.ishl, 1) := by decide +kernel
theorem dX5_weak_32 : decode cX5_weak 32 = .ok (.goto 4, 3) := by decide +kernel
theorem dX5_weak_35 : decode cX5_weak 35 = .ok (.iconst 0, 1) := by decide +kernel
theorem dX5_weak_36 : decode cX5_weak 36 = .ok (.ior, 1) := by decide +kernel
theorem dX5_weak_37 : decode cX5_weak 37 = .ok (.istore_n 1, 1) := by decide +kernel
theorem dX5_weak_38 : decode cX5_weak 38 = .ok (.iinc 2 1, 3) := by decide +kernel
theorem dX5_weak_41 : decode cX5_weak 41 = .ok (.goto (-37), 3) := by decide +kernel
theorem dX5_weak_44 : decode cX5_weak 44 = .ok (.iload_n 1, 1) := by decide +kernel
theorem dX5_weak_45 : decode cX5_weak 45 = .ok (.ireturn, 1) := by decide +kernel
set_option maxRecDepth 20000 in
theorem ggX5_pours_X5_put : GoodIn wsX5_pours wsX5_put := goodIn_r _ [6, 1, 43, 44, 45, 46, 47, 48, 49, 50, 51, 52, 53] (by decide +kernel) (by decide +kernel)
set_option maxRecDepth 20000 in
theorem gX5_pours_X5_put : GoodIn wsX5_pours (wsV RX5 71 RX5 yX5_put wsX5_put) := goodIn_app (goodIn_of _ (by decide +kernel)) ggX5_pours_X5_put
set_option maxRecDepth 20000 in
theorem ggX5_pours_X5_shares : GoodIn wsX5_pours wsX5_shares := goodIn_r _ [10, 11, 1, 12, 13, 14, 5, 15, 16, 17, 18, 19, 20, 21, 22, 23, 24, 25, 26, 27, 28, 29, 30, 31, 32, 33, 34, 35, 36, 37, 38, 39, 40, 41, 42, 2, 3, 4, 6, 43, 44, 45, 46, 47, 48, 49, 50, 51, 52, 53] (by decide +kernel) (by decide +kernel)
set_option maxRecDepth 20000 in
theorem gX5_pours_X5_shares : GoodIn wsX5_pours (wsV RX5 75 RX5 yX5_shares wsX5_shares) := goodIn_app (goodIn_of _ (by decide +kernel)) ggX5_pours_X5_shares
theorem dX5_pours_0 : decode cX5_pours 0 = .ok (.aload_n 0, 1) := by decide +kernel
theorem dX5_pours_1 : decode cX5_pours 1 = .ok (.getfield 7, 3) := by decide +kernel
theorem dX5_pours_4 : decode cX5_pours 4 = .ok (.iconst 1, 1) := by decide +kernel
theorem dX5_pours_5 : decode cX5_pours 5 = .ok (.iaload, 1) := by decide +kernel
theorem dX5_pours_6 : decode cX5_pours 6 = .ok (.istore_n 1, 1) := by decide +kernel
theorem dX5_pours_7 : decode cX5_pours 7 = .ok (.aload_n 0, 1) := by decide +kernel
theorem dX5_pours_8 : decode cX5_pours 8 = .ok (.iload_n 1, 1) := by decide +kernel
theorem dX5_pours_9 : decode cX5_pours 9 = .ok (.iconst 0, 1) := by decide +kernel
theorem dX5_pours_10 : decode cX5_pours 10 = .ok (.aload_n 0, 1) := by decide +kernel
theorem dX5_pours_11 : decode cX5_pours 11 = .ok (.getfield 7, 3) := by decide +kernel
theorem dX5_pours_14 : decode cX5_pours 14 = .ok (.iconst 0, 1) := by decide +kernel
theorem dX5_pours_15 : decode cX5_pours 15 = .ok (.iaload, 1) := by decide +kernel
theorem dX5_pours_16 : decode cX5_pours 16 = .ok (.invokevirtual 71, 3) := by decide +kernel
theorem dX5_pours_19 : decode cX5_pours 19 = .ok (.aload_n 0, 1) := by decide +kernel
theorem dX5_pours_20 : decode cX5_pours 20 = .ok (.iload_n 1, 1) := by decide +kernel
theorem dX5_pours_21 : decode cX5_pours 21 = .ok (.iconst 1, 1) := by decide +kernel
theorem dX5_pours_22 : decode cX5_pours 22 = .ok (.iconst 0, 1) := by decide +kernel
theorem dX5_pours_23 : decode cX5_pours 23 = .ok (.invokevirtual 71, 3) := by decide +kernel
theorem dX5_pours_26 : decode cX5_pours 26 = .ok (.aload_n 0, 1) := by decide +kernel
theorem dX5_pours_27 : decode cX5_pours 27 = .ok (.iload_n 1, 1) := by decide +kernel
theorem dX5_pours_28 : decode cX5_pours 28 = .ok (.iconst 2, 1) := by decide +kernel
theorem dX5_pours_29 : decode cX5_pours 29 = .ok (.iconst 0, 1) := by decide +kernel
theorem dX5_pours_30 : decode cX5_pours 30 = .ok (.invokevirtual 71, 3) := by decide +kernel
theorem dX5_pours_33 : decode cX5_pours 33 = .ok (.aload_n 0, 1) := by decide +kernel
theorem dX5_pours_34 : decode cX5_pours 34 = .ok (.iload_n 1, 1) := by decide +kernel
theorem dX5_pours_35 : decode cX5_pours 35 = .ok (.iconst 3, 1) := by decide +kernel
theorem dX5_pours_36 : decode cX5_pours 36 = .ok (.iconst 1, 1) := by decide +kernel
theorem dX5_pours_37 : decode cX5_pours 37 = .ok (.invokevirtual 71, 3) := by decide +kernel
theorem dX5_pours_40 : decode cX5_pours 40 = .ok (.aload_n 0, 1) := by decide +kernel
theorem dX5_pours_41 : decode cX5_pours 41 = .ok (.getfield 7, 3) := by decide +kernel
theorem dX5_pours_44 : decode cX5_pours 44 = .ok (.iconst 1, 1) := by decide +kernel
theorem dX5_pours_45 : decode cX5_pours 45 = .ok (.dup2, 1) := by decide +kernel
theorem dX5_pours_46 : decode cX5_pours 46 = .ok (.iaload, 1) := by decide +kernel
theorem dX5_pours_47 : decode cX5_pours 47 = .ok (.iconst 1, 1) := by decide +kernel
theorem dX5_pours_48 : decode cX5_pours 48 = .ok (.iadd, 1) := by decide +kernel
theorem dX5_pours_49 : decode cX5_pours 49 = .ok (.iastore, 1) := by decide +kernel
theorem dX5_pours_50 : decode cX5_pours 50 = .ok (.aload_n 0, 1) := by decide +kernel
theorem dX5_pours_51 : decode cX5_pours 51 = .ok (.iload_n 1, 1) := by decide +kernel
theorem dX5_pours_52 : decode cX5_pours 52 = .ok (.aload_n 0, 1) := by decide +kernel
theorem dX5_pours_53 : decode cX5_pours 53 = .ok (.getfield 7, 3) := by decide +kernel
theorem dX5_pours_56 : decode cX5_pours 56 = .ok (.iconst 2, 1) := by decide +kernel
theorem dX5_pours_57 : decode cX5_pours 57 = .ok (.iaload, 1) := by decide +kernel
theorem dX5_pours_58 : decode cX5_pours 58 = .ok (.invokevirtual 75, 3) := by decide +kernel
theorem dX5_pours_61 : decode cX5_pours 61 = .ok (.return_, 1) := by decide +kernel
set_option maxRecDepth 20000 in
theorem ggX5_strikes_X5_force : GoodIn wsX5_strikes wsX5_force := goodIn_r _ [5, 6, 7, 8, 9, 4, 10, 11, 12, 13, 14, 15, 16, 17, 18, 47, 48, 49, 50, 51, 52, 53, 54, 55, 56, 57] (by decide +kernel) (by decide +kernel)
set_option maxRecDepth 20000 in
theorem gX5_strikes_X5_force : GoodIn wsX5_strikes (wsV RX5 79 RX5 yX5_force wsX5_force) := goodIn_app (goodIn_of _ (by decide +kernel)) ggX5_strikes_X5_force
set_option maxRecDepth 20000 in
theorem ggX5_strikes_X5_put : GoodIn wsX5_strikes wsX5_put := goodIn_r _ [22, 6, 47, 48, 49, 50, 51, 52, 53, 54, 55, 56, 57] (by decide +kernel) (by decide +kernel)
set_option maxRecDepth 20000 in
theorem gX5_strikes_X5_put : GoodIn wsX5_strikes (wsV RX5 71 RX5 yX5_put wsX5_put) := goodIn_app (goodIn_of _ (by decide +kernel)) ggX5_strikes_X5_put
set_option maxRecDepth 20000 in
theorem ggX5_strikes_X5_shares : GoodIn wsX5_strikes wsX5_shares := goodIn_r _ [26, 27, 6, 28, 29, 30, 4, 31, 32, 33, 34, 35, 11, 12, 13, 14, 15, 16, 17, 18, 7, 8, 9, 10, 36, 37, 38, 39, 40, 41, 42, 43, 44, 45, 46, 19, 20, 21, 22, 47, 48, 49, 50, 51, 52, 53, 54, 55, 56, 57] (by decide +kernel) (by decide +kernel)
set_option maxRecDepth 20000 in
theorem gX5_strikes_X5_shares : GoodIn wsX5_strikes (wsV RX5 75 RX5 yX5_shares wsX5_shares) := goodIn_app (goodIn_of _ (by decide +kernel)) ggX5_strikes_X5_shares
theorem dX5_strikes_0 : decode cX5_strikes 0 = .ok (.aload_n 0, 1) := by decide +kernel
theorem dX5_strikes_1 : decode cX5_strikes 1 = .ok (.iload_n 1, 1) := by decide +kernel
theorem dX5_strikes_2 : decode cX5_strikes 2 = .ok (.invokevirtual 79, 3) := by decide +kernel
theorem dX5_strikes_5 : decode cX5_strikes 5 = .ok (.istore_n 2, 1) := by decide +kernel
theorem dX5_strikes_6 : decode cX5_strikes 6 = .ok (.aload_n 0, 1) := by decide +kernel
theorem dX5_strikes_7 : decode cX5_strikes 7 = .ok (.iload_n 1, 1) := by decide +kernel
theorem dX5_strikes_8 : decode cX5_strikes 8 = .ok (.iconst 3, 1) := by decide +kernel
theorem dX5_strikes_9 : decode cX5_strikes 9 = .ok (.iconst 0, 1) := by decide +kernel
theorem dX5_strikes_10 : decode cX5_strikes 10 = .ok (.invokevirtual 71, 3) := by decide +kernel
theorem dX5_strikes_13 : decode cX5_strikes 13 = .ok (.aload_n 0, 1) := by decide +kernel
theorem dX5_strikes_14 : decode cX5_strikes 14 = .ok (.iload_n 1, 1) := by decide +kernel
theorem dX5_strikes_15 : decode cX5_strikes 15 = .ok (.iload_n 2, 1) := by decide +kernel
theorem dX5_strikes_16 : decode cX5_strikes 16 = .ok (.invokevirtual 75, 3) := by decide +kernel
theorem dX5_strikes_19 : decode cX5_strikes 19 = .ok (.iload_n 1, 1) := by decide +kernel
theorem dX5_strikes_20 : decode cX5_strikes 20 = .ok (.ifCond .le 12, 3) := by decide +kernel
theorem dX5_strikes_23 : decode cX5_strikes 23 = .ok (.aload_n 0, 1) := by decide +kernel
theorem dX5_strikes_24 : decode cX5_strikes 24 = .ok (.iload_n 1, 1) := by decide +kernel
theorem dX5_strikes_25 : decode cX5_strikes 25 = .ok (.iconst 1, 1) := by decide +kernel
theorem dX5_strikes_26 : decode cX5_strikes 26 = .ok (.isub, 1) := by decide +kernel
theorem dX5_strikes_27 : decode cX5_strikes 27 = .ok (.iload_n 2, 1) := by decide +kernel
theorem dX5_strikes_28 : decode cX5_strikes 28 = .ok (.ineg, 1) := by decide +kernel
theorem dX5_strikes_29 : decode cX5_strikes 29 = .ok (.invokevirtual 75, 3) := by decide +kernel
theorem dX5_strikes_32 : decode cX5_strikes 32 = .ok (.return_, 1) := by decide +kernel
set_option maxRecDepth 20000 in
theorem ggX5_mayStrike_X5_isFloor : GoodIn wsX5_mayStrike wsX5_isFloor := goodIn_r _ [5, 6, 7, 8, 4, 9, 71, 72, 73, 74, 75, 76, 77, 78, 79, 80, 81] (by decide +kernel) (by decide +kernel)
set_option maxRecDepth 20000 in
theorem gX5_mayStrike_X5_isFloor : GoodIn wsX5_mayStrike (wsV RX5 82 RX5 yX5_isFloor wsX5_isFloor) := goodIn_app (goodIn_of _ (by decide +kernel)) ggX5_mayStrike_X5_isFloor
set_option maxRecDepth 20000 in
theorem ggX5_mayStrike_X5_isPropped : GoodIn wsX5_mayStrike wsX5_isPropped := goodIn_r _ [13, 14, 15, 16, 4, 17, 6, 71, 72, 73, 74, 75, 76, 77, 78, 79, 80, 81] (by decide +kernel) (by decide +kernel)
set_option maxRecDepth 20000 in
theorem gX5_mayStrike_X5_isPropped : GoodIn wsX5_mayStrike (wsV RX5 55 RX5 yX5_isPropped wsX5_isPropped) := goodIn_app (goodIn_of _ (by decide +kernel)) ggX5_mayStrike_X5_isPropped
set_option maxRecDepth 20000 in
theorem ggX5_mayStrike_X5_lays : GoodIn wsX5_mayStrike wsX5_lays := goodIn_r _ [21, 22, 6, 71, 72, 73, 74, 75, 76, 77, 78, 79, 80, 81] (by decide +kernel) (by decide +kernel)
set_option maxRecDepth 20000 in
theorem gX5_mayStrike_X5_lays : GoodIn wsX5_mayStrike (wsV RX5 85 RX5 yX5_lays wsX5_lays) := goodIn_app (goodIn_of _ (by decide +kernel)) ggX5_mayStrike_X5_lays
set_option maxRecDepth 20000 in
theorem ggX5_mayStrike_X5_strikes : GoodIn wsX5_mayStrike wsX5_strikes := goodIn_r _ [26, 27, 28, 29, 4, 30, 6, 31, 32, 33, 34, 10, 11, 12, 13, 14, 15, 16, 17, 35, 36, 37, 38, 39, 40, 41, 42, 43, 44, 45, 46, 47, 48, 49, 50, 51, 52, 53, 54, 55, 56, 57, 58, 59, 60, 61, 62, 71, 72, 73, 74, 75, 76, 77, 78, 79, 80, 81] (by decide +kernel) (by decide +kernel)
set_option maxRecDepth 20000 in
theorem gX5_mayStrike_X5_strikes : GoodIn wsX5_mayStrike (wsV RX5 88 RX5 yX5_strikes wsX5_strikes) := goodIn_app (goodIn_of _ (by decide +kernel)) ggX5_mayStrike_X5_strikes
set_option maxRecDepth 20000 in
theorem ggX5_mayStrike_X5_weak : GoodIn wsX5_mayStrike wsX5_weak := goodIn_r _ [66, 6, 14, 15, 16, 4, 17, 56, 57, 58, 59, 52, 53, 54, 55, 60, 61, 62, 71, 72, 73, 74, 75, 76, 77, 78, 79, 80, 81] (by decide +kernel) (by decide +kernel)
set_option maxRecDepth 20000 in
theorem gX5_mayStrike_X5_weak : GoodIn wsX5_mayStrike (wsV RX5 92 RX5 yX5_weak wsX5_weak) := goodIn_app (goodIn_of _ (by decide +kernel)) ggX5_mayStrike_X5_weak
set_option maxRecDepth 20000 in
theorem ggX5_mayStrike_X5_takesBack : GoodIn wsX5_mayStrike wsX5_takesBack := goodIn_r _ [70, 6, 22, 71, 72, 73, 74, 75, 76, 77, 78, 79, 80, 81] (by decide +kernel) (by decide +kernel)
set_option maxRecDepth 20000 in
theorem gX5_mayStrike_X5_takesBack : GoodIn wsX5_mayStrike (wsV RX5 96 RX5 yX5_takesBack wsX5_takesBack) := goodIn_app (goodIn_of _ (by decide +kernel)) ggX5_mayStrike_X5_takesBack
theorem dX5_mayStrike_0 : decode cX5_mayStrike 0 = .ok (.aload_n 0, 1) := by decide +kernel
theorem dX5_mayStrike_1 : decode cX5_mayStrike 1 = .ok (.iload_n 1, 1) := by decide +kernel
theorem dX5_mayStrike_2 : decode cX5_mayStrike 2 = .ok (.invokevirtual 82, 3) := by decide +kernel
theorem dX5_mayStrike_5 : decode cX5_mayStrike 5 = .ok (.ifCond .eq 11, 3) := by decide +kernel
theorem dX5_mayStrike_8 : decode cX5_mayStrike 8 = .ok (.aload_n 0, 1) := by decide +kernel
theorem dX5_mayStrike_9 : decode cX5_mayStrike 9 = .ok (.iload_n 1, 1) := by decide +kernel
theorem dX5_mayStrike_10 : decode cX5_mayStrike 10 = .ok (.invokevirtual 55, 3) := by decide +kernel
theorem dX5_mayStrike_13 : decode cX5_mayStrike 13 = .ok (.ifCond .ne 5, 3) := by decide +kernel
theorem dX5_mayStrike_16 : decode cX5_mayStrike 16 = .ok (.iconst 0, 1) := by decide +kernel
theorem dX5_mayStrike_17 : decode cX5_mayStrike 17 = .ok (.ireturn, 1) := by decide +kernel
theorem dX5_mayStrike_18 : decode cX5_mayStrike 18 = .ok (.aload_n 0, 1) := by decide +kernel
theorem dX5_mayStrike_19 : decode cX5_mayStrike 19 = .ok (.invokevirtual 85, 3) := by decide +kernel
theorem dX5_mayStrike_22 : decode cX5_mayStrike 22 = .ok (.aload_n 0, 1) := by decide +kernel
theorem dX5_mayStrike_23 : decode cX5_mayStrike 23 = .ok (.iload_n 1, 1) := by decide +kernel
theorem dX5_mayStrike_24 : decode cX5_mayStrike 24 = .ok (.invokevirtual 88, 3) := by decide +kernel
theorem dX5_mayStrike_27 : decode cX5_mayStrike 27 = .ok (.aload_n 0, 1) := by decide +kernel
theorem dX5_mayStrike_28 : decode cX5_mayStrike 28 = .ok (.invokevirtual 92, 3) := by decide +kernel
theorem dX5_mayStrike_31 : decode cX5_mayStrike 31 = .ok (.ifCond .ne 7, 3) := by decide +kernel
theorem dX5_mayStrike_34 : decode cX5_mayStrike 34 = .ok (.iconst 1, 1) := by decide +kernel
theorem dX5_mayStrike_35 : decode cX5_mayStrike 35 = .ok (.goto 4, 3) := by decide +kernel
theorem dX5_mayStrike_38 : decode cX5_mayStrike 38 = .ok (.iconst 0, 1) := by decide +kernel
theorem dX5_mayStrike_39 : decode cX5_mayStrike 39 = .ok (.istore_n 2, 1) := by decide +kernel
theorem dX5_mayStrike_40 : decode cX5_mayStrike 40 = .ok (.aload_n 0, 1) := by decide +kernel
theorem dX5_mayStrike_41 : decode cX5_mayStrike 41 = .ok (.invokevirtual 96, 3) := by decide +kernel
theorem dX5_mayStrike_44 : decode cX5_mayStrike 44 = .ok (.iload_n 2, 1) := by decide +kernel
theorem dX5_mayStrike_45 : decode cX5_mayStrike 45 = .ok (.ireturn, 1) := by decide +kernel
set_option maxRecDepth 20000 in
theorem ggX5_mayPour_X5_lays : GoodIn wsX5_mayPour wsX5_lays := goodIn_r _ [6, 7, 1, 60, 61, 62, 63, 64, 65, 66, 67, 68, 69, 70] (by decide +kernel) (by decide +kernel)
set_option maxRecDepth 20000 in
theorem gX5_mayPour_X5_lays : GoodIn wsX5_mayPour (wsV RX5 85 RX5 yX5_lays wsX5_lays) := goodIn_app (goodIn_of _ (by decide +kernel)) ggX5_mayPour_X5_lays
set_option maxRecDepth 20000 in
theorem ggX5_mayPour_X5_pours : GoodIn wsX5_mayPour wsX5_pours := goodIn_r _ [11, 1, 12, 13, 14, 5, 15, 16, 17, 18, 19, 20, 21, 22, 23, 24, 25, 26, 27, 28, 29, 30, 31, 32, 33, 34, 35, 36, 37, 38, 39, 40, 41, 42, 43, 44, 45, 46, 47, 48, 49, 50, 51, 60, 61, 62, 63, 64, 65, 66, 67, 68, 69, 70] (by decide +kernel) (by decide +kernel)
set_option maxRecDepth 20000 in
theorem gX5_mayPour_X5_pours : GoodIn wsX5_mayPour (wsV RX5 99 RX5 yX5_pours wsX5_pours) := goodIn_app (goodIn_of _ (by decide +kernel)) ggX5_mayPour_X5_pours
set_option maxRecDepth 20000 in
theorem ggX5_mayPour_X5_weak : GoodIn wsX5_mayPour wsX5_weak := goodIn_r _ [55, 1, 33, 34, 35, 5, 36, 45, 46, 47, 48, 41, 42, 43, 44, 49, 50, 51, 60, 61, 62, 63, 64, 65, 66, 67, 68, 69, 70] (by decide +kernel) (by decide +kernel)
set_option maxRecDepth 20000 in
theorem gX5_mayPour_X5_weak : GoodIn wsX5_mayPour (wsV RX5 92 RX5 yX5_weak wsX5_weak) := goodIn_app (goodIn_of _ (by decide +kernel)) ggX5_mayPour_X5_weak
set_option maxRecDepth 20000 in
theorem ggX5_mayPour_X5_takesBack : GoodIn wsX5_mayPour wsX5_takesBack := goodIn_r _ [59, 1, 7, 60, 61, 62, 63, 64, 65, 66, 67, 68, 69, 70] (by decide +kernel) (by decide +kernel)
set_option maxRecDepth 20000 in
theorem gX5_mayPour_X5_takesBack : GoodIn wsX5_mayPour (wsV RX5 96 RX5 yX5_takesBack wsX5_takesBack) := goodIn_app (goodIn_of _ (by decide +kernel)) ggX5_mayPour_X5_takesBack
theorem dX5_mayPour_0 : decode cX5_mayPour 0 = .ok (.aload_n 0, 1) := by decide +kernel
theorem dX5_mayPour_1 : decode cX5_mayPour 1 = .ok (.getfield 7, 3) := by decide +kernel
theorem dX5_mayPour_4 : decode cX5_mayPour 4 = .ok (.iconst 1, 1) := by decide +kernel
theorem dX5_mayPour_5 : decode cX5_mayPour 5 = .ok (.iaload, 1) := by decide +kernel
theorem dX5_mayPour_6 : decode cX5_mayPour 6 = .ok (.bipush 8, 2) := by decide +kernel
theorem dX5_mayPour_8 : decode cX5_mayPour 8 = .ok (.if_icmp .ne 5, 3) := by decide +kernel
theorem dX5_mayPour_11 : decode cX5_mayPour 11 = .ok (.iconst 0, 1) := by decide +kernel
theorem dX5_mayPour_12 : decode cX5_mayPour 12 = .ok (.ireturn, 1) := by decide +kernel
theorem dX5_mayPour_13 : decode cX5_mayPour 13 = .ok (.aload_n 0, 1) := by decide +kernel
theorem dX5_mayPour_14 : decode cX5_mayPour 14 = .ok (.invokevirtual 85, 3) := by decide +kernel
theorem dX5_mayPour_17 : decode cX5_mayPour 17 = .ok (.aload_n 0, 1) := by decide +kernel
theorem dX5_mayPour_18 : decode cX5_mayPour 18 = .ok (.invokevirtual 99, 3) := by decide +kernel
theorem dX5_mayPour_21 : decode cX5_mayPour 21 = .ok (.aload_n 0, 1) := by decide +kernel
theorem dX5_mayPour_22 : decode cX5_mayPour 22 = .ok (.invokevirtual 92, 3) := by decide +kernel
theorem dX5_mayPour_25 : decode cX5_mayPour 25 = .ok (.ifCond .ne 7, 3) := by decide +kernel
theorem dX5_mayPour_28 : decode cX5_mayPour 28 = .ok (.iconst 1, 1) := by decide +kernel
theorem dX5_mayPour_29 : decode cX5_mayPour 29 = .ok (.goto 4, 3) := by decide +kernel
theorem dX5_mayPour_32 : decode cX5_mayPour 32 = .ok (.iconst 0, 1) := by decide +kernel
theorem dX5_mayPour_33 : decode cX5_mayPour 33 = .ok (.istore_n 1, 1) := by decide +kernel
theorem dX5_mayPour_34 : decode cX5_mayPour 34 = .ok (.aload_n 0, 1) := by decide +kernel
theorem dX5_mayPour_35 : decode cX5_mayPour 35 = .ok (.invokevirtual 96, 3) := by decide +kernel
theorem dX5_mayPour_38 : decode cX5_mayPour 38 = .ok (.iload_n 1, 1) := by decide +kernel
theorem dX5_mayPour_39 : decode cX5_mayPour 39 = .ok (.ireturn, 1) := by decide +kernel
set_option maxRecDepth 20000 in
theorem ggX5_earliest_X5_mayStrike : GoodIn wsX5_earliest wsX5_mayStrike := goodIn_r _ [6, 7, 8, 9, 5, 10, 1, 11, 12, 13, 14, 15, 16, 17, 18, 19, 20, 21, 22, 23, 24, 25, 26, 27, 28, 29, 30, 31, 32, 33, 34, 35, 36, 37, 38, 39, 40, 41, 42, 43, 44, 45, 46, 47, 48, 49, 50, 51, 52, 53, 54, 55, 56, 57, 58, 59, 60, 61, 62, 63, 64, 65, 66, 67, 68, 69, 70, 71, 72, 73, 74, 75, 76, 77, 78, 79, 80, 81, 82, 83, 84, 85] (by decide +kernel) (by decide +kernel)
set_option maxRecDepth 20000 in
theorem gX5_earliest_X5_mayStrike : GoodIn wsX5_earliest (wsV RX5 102 RX5 yX5_mayStrike wsX5_mayStrike) := goodIn_app (goodIn_of _ (by decide +kernel)) ggX5_earliest_X5_mayStrike
theorem dX5_earliest_0 : decode cX5_earliest 0 = .ok (.aload_n 0, 1) := by decide +kernel
theorem dX5_earliest_1 : decode cX5_earliest 1 = .ok (.getfield 7, 3) := by decide +kernel
theorem dX5_earliest_4 : decode cX5_earliest 4 = .ok (.iconst 0, 1) := by decide +kernel
theorem dX5_earliest_5 : decode cX5_earliest 5 = .ok (.iaload, 1) := by decide +kernel
theorem dX5_earliest_6 : decode cX5_earliest 6 = .ok (.istore_n 2, 1) := by decide +kernel
theorem dX5_earliest_7 : decode cX5_earliest 7 = .ok (.iconst (-1), 1) := by decide +kernel
theorem dX5_earliest_8 : decode cX5_earliest 8 = .ok (.istore_n 3, 1) := by decide +kernel
theorem dX5_earliest_9 : decode cX5_earliest 9 = .ok (.iconst 0, 1) := by decide +kernel
theorem dX5_earliest_10 : decode cX5_earliest 10 = .ok (.istore 4, 2) := by decide +kernel
theorem dX5_earliest_12 : decode cX5_earliest 12 = .ok (.iload 4, 2) := by decide +kernel
theorem dX5_earliest_14 : decode cX5_earliest 14 = .ok (.bipush 61, 2) := by decide +kernel
theorem dX5_earliest_16 : decode cX5_earliest 16 = .ok (.if_icmp .ge 39, 3) := by decide +kernel
theorem dX5_earliest_19 : decode cX5_earliest 19 = .ok (.iload_n 3, 1) := by decide +kernel
theorem dX5_earliest_20 : decode cX5_earliest 20 = .ok (.iconst (-1), 1) := by decide +kernel
theorem dX5_earliest_21 : decode cX5_earliest 21 = .ok (.if_icmp .ne 34, 3) := by decide +kernel
theorem dX5_earliest_24 : decode cX5_earliest 24 = .ok (.aload_n 0, 1) := by decide +kernel
theorem dX5_earliest_25 : decode cX5_earliest 25 = .ok (.getfield 7, 3) := by decide +kernel
theorem dX5_earliest_28 : decode cX5_earliest 28 = .ok (.iconst 0, 1) := by decide +kernel
theorem dX5_earliest_29 : decode cX5_earliest 29 = .ok (.iload_n 2, 1) := by decide +kernel
theorem dX5_earliest_30 : decode cX5_earliest 30 = .ok (.iload 4, 2) := by decide +kernel
theorem dX5_earliest_32 : decode cX5_earliest 32 = .ok (.iadd, 1) := by decide +kernel
theorem dX5_earliest_33 : decode cX5_earliest 33 = .ok (.iastore, 1) := by decide +kernel
theorem dX5_earliest_34 : decode cX5_earliest 34 = .ok (.aload_n 0, 1) := by decide +kernel
theorem dX5_earliest_35 : decode cX5_earliest 35 = .ok (.iload_n 1, 1) := by decide +kernel
theorem dX5_earliest_36 : decode cX5_earliest 36 = .ok (.invokevirtual 102, 3) := by decide +kernel
theorem dX5_earliest_39 : decode cX5_earliest 39 = .ok (.ifCond .eq 8, 3) := by decide +kernel
theorem dX5_earliest_42 : decode cX5_earliest 42 = .ok (.iload 4, 2) := by decide +kernel
theorem dX5_earliest_44 : decode cX5_earliest 44 = .ok (.goto 4, 3) := by decide +kernel
theorem dX5_earliest_47 : decode cX5_earliest 47 = .ok (.iconst (-1), 1) := by decide +kernel
theorem dX5_earliest_48 : decode cX5_earliest 48 = .ok (.istore_n 3, 1) := by decide +kernel
theorem dX5_earliest_49 : decode cX5_earliest 49 = .ok (.iinc 4 1, 3) := by decide +kernel
theorem dX5_earliest_52 : decode cX5_earliest 52 = .ok (.goto (-40), 3) := by decide +kernel
theorem dX5_earliest_55 : decode cX5_earliest 55 = .ok (.aload_n 0, 1) := by decide +kernel
theorem dX5_earliest_56 : decode cX5_earliest 56 = .ok (.getfield 7, 3) := by decide +kernel
theorem dX5_earliest_59 : decode cX5_earliest 59 = .ok (.iconst 0, 1) := by decide +kernel
theorem dX5_earliest_60 : decode cX5_earliest 60 = .ok (.iload_n 2, 1) := by decide +kernel
theorem dX5_earliest_61 : decode cX5_earliest 61 = .ok (.iastore, 1) := by decide +kernel
theorem dX5_earliest_62 : decode cX5_earliest 62 = .ok (.iload_n 3, 1) := by decide +kernel
theorem dX5_earliest_63 : decode cX5_earliest 63 = .ok (.ireturn, 1) := by decide +kernel
set_option maxRecDepth 20000 in
theorem ggX5_harm_X5_isPropped : GoodIn wsX5_harm wsX5_isPropped := goodIn_r _ [6, 7, 8, 9, 5, 10, 1, 60, 61, 62, 63, 64, 65, 66, 67, 68, 69, 70] (by decide +kernel) (by decide +kernel)
set_option maxRecDepth 20000 in
theorem gX5_harm_X5_isPropped : GoodIn wsX5_harm (wsV RX5 55 RX5 yX5_isPropped wsX5_isPropped) := goodIn_app (goodIn_of _ (by decide +kernel)) ggX5_harm_X5_isPropped
set_option maxRecDepth 20000 in
theorem ggX5_harm_X5_lays : GoodIn wsX5_harm wsX5_lays := goodIn_r _ [14, 15, 1, 60, 61, 62, 63, 64, 65, 66, 67, 68, 69, 70] (by decide +kernel) (by decide +kernel)
set_option maxRecDepth 20000 in
theorem gX5_harm_X5_lays : GoodIn wsX5_harm (wsV RX5 85 RX5 yX5_lays wsX5_lays) := goodIn_app (goodIn_of _ (by decide +kernel)) ggX5_harm_X5_lays
set_option maxRecDepth 20000 in
theorem ggX5_harm_X5_strikes : GoodIn wsX5_harm wsX5_strikes := goodIn_r _ [19, 20, 21, 22, 5, 23, 1, 24, 25, 26, 27, 2, 3, 4, 6, 7, 8, 9, 10, 28, 29, 30, 31, 32, 33, 34, 35, 36, 37, 38, 39, 40, 41, 42, 43, 44, 45, 46, 47, 48, 49, 50, 51, 52, 53, 54, 55, 60, 61, 62, 63, 64, 65, 66, 67, 68, 69, 70] (by decide +kernel) (by decide +kernel)
set_option maxRecDepth 20000 in
theorem gX5_harm_X5_strikes : GoodIn wsX5_harm (wsV RX5 88 RX5 yX5_strikes wsX5_strikes) := goodIn_app (goodIn_of _ (by decide +kernel)) ggX5_harm_X5_strikes
set_option maxRecDepth 20000 in
theorem ggX5_harm_X5_of : GoodIn wsX5_harm wsX5_of := goodIn_r _ [10, 1, 60, 61, 62, 63, 64, 65, 66, 67, 68, 69, 70] (by decide +kernel) (by decide +kernel)
set_option maxRecDepth 20000 in
theorem gX5_harm_X5_of : GoodIn wsX5_harm (wsV RX5 44 RX5 yX5_of wsX5_of) := goodIn_app (goodIn_of _ (by decide +kernel)) ggX5_harm_X5_of
set_option maxRecDepth 20000 in
theorem ggX5_harm_X5_strength : GoodIn wsX5_harm wsX5_strength := goodIn_r _ [52, 1, 45, 46, 47, 5, 48, 7, 8, 9, 10, 53, 54, 55, 60, 61, 62, 63, 64, 65, 66, 67, 68, 69, 70] (by decide +kernel) (by decide +kernel)
set_option maxRecDepth 20000 in
theorem gX5_harm_X5_strength : GoodIn wsX5_harm (wsV RX5 68 RX5 yX5_strength wsX5_strength) := goodIn_app (goodIn_of _ (by decide +kernel)) ggX5_harm_X5_strength
set_option maxRecDepth 20000 in
theorem ggX5_harm_X5_takesBack : GoodIn wsX5_harm wsX5_takesBack := goodIn_r _ [59, 1, 15, 60, 61, 62, 63, 64, 65, 66, 67, 68, 69, 70] (by decide +kernel) (by decide +kernel)
set_option maxRecDepth 20000 in
theorem gX5_harm_X5_takesBack : GoodIn wsX5_harm (wsV RX5 96 RX5 yX5_takesBack wsX5_takesBack) := goodIn_app (goodIn_of _ (by decide +kernel)) ggX5_harm_X5_takesBack
theorem dX5_harm_0 : decode cX5_harm 0 = .ok (.aload_n 0, 1) := by decide +kernel
theorem dX5_harm_1 : decode cX5_harm 1 = .ok (.iload_n 1, 1) := by decide +kernel
theorem dX5_harm_2 : decode cX5_harm 2 = .ok (.invokevirtual 55, 3) := by decide +kernel
theorem dX5_harm_5 : decode cX5_harm 5 = .ok (.ifCond .ne 5, 3) := by decide +kernel
theorem dX5_harm_8 : decode cX5_harm 8 = .ok (.iconst (-1), 1) := by decide +kernel
theorem dX5_harm_9 : decode cX5_harm 9 = .ok (.ireturn, 1) := by decide +kernel
theorem dX5_harm_10 : decode cX5_harm 10 = .ok (.aload_n 0, 1) := by decide +kernel
theorem dX5_harm_11 : decode cX5_harm 11 = .ok (.invokevirtual 85, 3) := by decide +kernel
theorem dX5_harm_14 : decode cX5_harm 14 = .ok (.aload_n 0, 1) := by decide +kernel
theorem dX5_harm_15 : decode cX5_harm 15 = .ok (.iload_n 1, 1) := by decide +kernel
theorem dX5_harm_16 : decode cX5_harm 16 = .ok (.invokevirtual 88, 3) := by decide +kernel
theorem dX5_harm_19 : decode cX5_harm 19 = .ok (.aload_n 0, 1) := by decide +kernel
theorem dX5_harm_20 : decode cX5_harm 20 = .ok (.iconst 0, 1) := by decide +kernel
theorem dX5_harm_21 : decode cX5_harm 21 = .ok (.iconst 2, 1) := by decide +kernel
theorem dX5_harm_22 : decode cX5_harm 22 = .ok (.invokevirtual 44, 3) := by decide +kernel
theorem dX5_harm_25 : decode cX5_harm 25 = .ok (.aload_n 0, 1) := by decide +kernel
theorem dX5_harm_26 : decode cX5_harm 26 = .ok (.iconst 0, 1) := by decide +kernel
theorem dX5_harm_27 : decode cX5_harm 27 = .ok (.invokevirtual 68, 3) := by decide +kernel
theorem dX5_harm_30 : decode cX5_harm 30 = .ok (.isub, 1) := by decide +kernel
theorem dX5_harm_31 : decode cX5_harm 31 = .ok (.istore_n 2, 1) := by decide +kernel
theorem dX5_harm_32 : decode cX5_harm 32 = .ok (.iconst 1, 1) := by decide +kernel
theorem dX5_harm_33 : decode cX5_harm 33 = .ok (.istore_n 3, 1) := by decide +kernel
theorem dX5_harm_34 : decode cX5_harm 34 = .ok (.iload_n 3, 1) := by decide +kernel
theorem dX5_harm_35 : decode cX5_harm 35 = .ok (.aload_n 0, 1) := by decide +kernel
theorem dX5_harm_36 : decode cX5_harm 36 = .ok (.getfield 7, 3) := by decide +kernel
theorem dX5_harm_39 : decode cX5_harm 39 = .ok (.iconst 1, 1) := by decide +kernel
theorem dX5_harm_40 : decode cX5_harm 40 = .ok (.iaload, 1) := by decide +kernel
theorem dX5_harm_41 : decode cX5_harm 41 = .ok (.if_icmp .ge 36, 3) := by decide +kernel
theorem dX5_harm_44 : decode cX5_harm 44 = .ok (.aload_n 0, 1) := by decide +kernel
theorem dX5_harm_45 : decode cX5_harm 45 = .ok (.iload_n 3, 1) := by decide +kernel
theorem dX5_harm_46 : decode cX5_harm 46 = .ok (.iconst 2, 1) := by decide +kernel
theorem dX5_harm_47 : decode cX5_harm 47 = .ok (.invokevirtual 44, 3) := by decide +kernel
theorem dX5_harm_50 : decode cX5_harm 50 = .ok (.aload_n 0, 1) := by decide +kernel
theorem dX5_harm_51 : decode cX5_harm 51 = .ok (.iload_n 3, 1) := by decide +kernel
theorem dX5_harm_52 : decode cX5_harm 52 = .ok (.invokevirtual 68, 3) := by decide +kernel
theorem dX5_harm_55 : decode cX5_harm 55 = .ok (.isub, 1) := by decide +kernel
theorem dX5_harm_56 : decode cX5_harm 56 = .ok (.istore 4, 2) := by decide +kernel
theorem dX5_harm_58 : decode cX5_harm 58 = .ok (.iload 4, 2) := by decide +kernel
theorem dX5_harm_60 : decode cX5_harm 60 = .ok (.iload_n 2, 1) := by decide +kernel
theorem dX5_harm_61 : decode cX5_harm 61 = .ok (.if_icmp .le 8, 3) := by decide +kernel
theorem dX5_harm_64 : decode cX5_harm 64 = .ok (.iload 4, 2) := by decide +kernel
theorem dX5_harm_66 : decode cX5_harm 66 = .ok (.goto 4, 3) := by decide +kernel
theorem dX5_harm_69 : decode cX5_harm 69 = .ok (.iload_n 2, 1) := by decide +kernel
theorem dX5_harm_70 : decode cX5_harm 70 = .ok (.istore_n 2, 1) := by decide +kernel
theorem dX5_harm_71 : decode cX5_harm 71 = .ok (.iinc 3 1, 3) := by decide +kernel
theorem dX5_harm_74 : decode cX5_harm 74 = .ok (.goto (-40), 3) := by decide +kernel
theorem dX5_harm_77 : decode cX5_harm 77 = .ok (.aload_n 0, 1) := by decide +kernel
theorem dX5_harm_78 : decode cX5_harm 78 = .ok (.invokevirtual 96, 3) := by decide +kernel
theorem dX5_harm_81 : decode cX5_harm 81 = .ok (.iload_n 2, 1) := by decide +kernel
theorem dX5_harm_82 : decode cX5_harm 82 = .ok (.sipush 1000, 3) := by decide +kernel
theorem dX5_harm_85 : decode cX5_harm 85 = .ok (.iadd, 1) := by decide +kernel
theorem dX5_harm_86 : decode cX5_harm 86 = .ok (.ireturn, 1) := by decide +kernel
set_option maxRecDepth 20000 in
theorem ggX5_propped_X5_isPropped : GoodIn wsX5_propped wsX5_isPropped := goodIn_r _ [6, 7, 8, 9, 5, 10, 1, 11, 12, 13, 14, 15, 16, 17, 18, 19, 20, 21] (by decide +kernel) (by decide +kernel)
set_option maxRecDepth 20000 in
theorem gX5_propped_X5_isPropped : GoodIn wsX5_propped (wsV RX5 55 RX5 yX5_isPropped wsX5_isPropped) := goodIn_app (goodIn_of _ (by decide +kernel)) ggX5_propped_X5_isPropped
theorem dX5_propped_0 : decode cX5_propped 0 = .ok (.iconst 0, 1) := by decide +kernel
theorem dX5_propped_1 : decode cX5_propped 1 = .ok (.istore_n 1, 1) := by decide +kernel
theorem dX5_propped_2 : decode cX5_propped 2 = .ok (.iconst 0, 1) := by decide +kernel
theorem dX5_propped_3 : decode cX5_propped 3 = .ok (.istore_n 2, 1) := by decide +kernel
theorem dX5_propped_4 : decode cX5_propped 4 = .ok (.iload_n 2, 1) := by decide +kernel
theorem dX5_propped_5 : decode cX5_propped 5 = .ok (.aload_n 0, 1) := by decide +kernel
theorem dX5_propped_6 : decode cX5_propped 6 = .ok (.getfield 7, 3) := by decide +kernel
theorem dX5_propped_9 : decode cX5_propped 9 = .ok (.iconst 1, 1) := by decide +kernel
theorem dX5_propped_10 : decode cX5_propped 10 = .ok (.iaload, 1) := by decide +kernel
theorem dX5_propped_11 : decode cX5_propped 11 = .ok (.if_icmp .ge 27, 3) := by decide +kernel
theorem dX5_propped_14 : decode cX5_propped 14 = .ok (.iload_n 1, 1) := by decide +kernel
theorem dX5_propped_15 : decode cX5_propped 15 = .ok (.aload_n 0, 1) := by decide +kernel
theorem dX5_propped_16 : decode cX5_propped 16 = .ok (.iload_n 2, 1) := by decide +kernel
theorem dX5_propped_17 : decode cX5_propped 17 = .ok (.invokevirtual 55, 3) := by decide +kernel
theorem dX5_propped_20 : decode cX5_propped 20 = .ok (.ifCond .eq 9, 3) := by decide +kernel
theorem dX5_propped_23 : decode cX5_propped 23 = .ok (.iconst 1, 1) := by decide +kernel
theorem dX5_propped_24 : decode cX5_propped 24 = .ok (.iload_n 2, 1) := by decide +kernel
theorem dX5_propped_25 : decode cX5_propped 25 = .ok (.ishl, 1) := by decide +kernel
theorem dX5_propped_26 : decode cX5_propped 26 = .ok (.goto 4, 3) := by decide +kernel
theorem dX5_propped_29 : decode cX5_propped 29 = .ok (.iconst 0, 1) := by decide +kernel
theorem dX5_propped_30 : decode cX5_propped 30 = .ok (.ior, 1) := by decide +kernel
theorem dX5_propped_31 : decode cX5_propped 31 = .ok (.istore_n 1, 1) := by decide +kernel
theorem dX5_propped_32 : decode cX5_propped 32 = .ok (.iinc 2 1, 3) := by decide +kernel
theorem dX5_propped_35 : decode cX5_propped 35 = .ok (.goto (-31), 3) := by decide +kernel
theorem dX5_propped_38 : decode cX5_propped 38 = .ok (.iload_n 1, 1) := by decide +kernel
theorem dX5_propped_39 : decode cX5_propped 39 = .ok (.ireturn, 1) := by decide +kernel
set_option maxRecDepth 20000 in
theorem ggX5_may_X5_mayStrike : GoodIn wsX5_may wsX5_mayStrike := goodIn_r _ [6, 7, 8, 9, 5, 10, 1, 11, 12, 13, 14, 15, 16, 17, 18, 19, 20, 21, 22, 23, 24, 25, 26, 27, 28, 29, 30, 31, 32, 33, 34, 35, 36, 37, 38, 39, 40, 41, 42, 43, 44, 45, 46, 47, 48, 49, 50, 51, 52, 53, 54, 55, 56, 57, 58, 59, 60, 61, 62, 63, 64, 65, 66, 67, 68, 69, 70, 71, 72, 73, 74, 75, 76, 77, 78, 79, 80, 81, 82, 83, 84, 85] (by decide +kernel) (by decide +kernel)
set_option maxRecDepth 20000 in
theorem gX5_may_X5_mayStrike : GoodIn wsX5_may (wsV RX5 102 RX5 yX5_mayStrike wsX5_mayStrike) := goodIn_app (goodIn_of _ (by decide +kernel)) ggX5_may_X5_mayStrike
theorem dX5_may_0 : decode cX5_may 0 = .ok (.iconst 0, 1) := by decide +kernel
theorem dX5_may_1 : decode cX5_may 1 = .ok (.istore_n 1, 1) := by decide +kernel
theorem dX5_may_2 : decode cX5_may 2 = .ok (.iconst 0, 1) := by decide +kernel
theorem dX5_may_3 : decode cX5_may 3 = .ok (.istore_n 2, 1) := by decide +kernel
theorem dX5_may_4 : decode cX5_may 4 = .ok (.iload_n 2, 1) := by decide +kernel
theorem dX5_may_5 : decode cX5_may 5 = .ok (.aload_n 0, 1) := by decide +kernel
theorem dX5_may_6 : decode cX5_may 6 = .ok (.getfield 7, 3) := by decide +kernel
theorem dX5_may_9 : decode cX5_may 9 = .ok (.iconst 1, 1) := by decide +kernel
theorem dX5_may_10 : decode cX5_may 10 = .ok (.iaload, 1) := by decide +kernel
theorem dX5_may_11 : decode cX5_may 11 = .ok (.if_icmp .ge 27, 3) := by decide +kernel
theorem dX5_may_14 : decode cX5_may 14 = .ok (.iload_n 1, 1) := by decide +kernel
theorem dX5_may_15 : decode cX5_may 15 = .ok (.aload_n 0, 1) := by decide +kernel
theorem dX5_may_16 : decode cX5_may 16 = .ok (.iload_n 2, 1) := by decide +kernel
theorem dX5_may_17 : decode cX5_may 17 = .ok (.invokevirtual 102, 3) := by decide +kernel
theorem dX5_may_20 : decode cX5_may 20 = .ok (.ifCond .eq 9, 3) := by decide +kernel
theorem dX5_may_23 : decode cX5_may 23 = .ok (.iconst 1, 1) := by decide +kernel
theorem dX5_may_24 : decode cX5_may 24 = .ok (.iload_n 2, 1) := by decide +kernel
theorem dX5_may_25 : decode cX5_may 25 = .ok (.ishl, 1) := by decide +kernel
theorem dX5_may_26 : decode cX5_may 26 = .ok (.goto 4, 3) := by decide +kernel
theorem dX5_may_29 : decode cX5_may 29 = .ok (.iconst 0, 1) := by decide +kernel
theorem dX5_may_30 : decode cX5_may 30 = .ok (.ior, 1) := by decide +kernel
theorem dX5_may_31 : decode cX5_may 31 = .ok (.istore_n 1, 1) := by decide +kernel
theorem dX5_may_32 : decode cX5_may 32 = .ok (.iinc 2 1, 3) := by decide +kernel
theorem dX5_may_35 : decode cX5_may 35 = .ok (.goto (-31), 3) := by decide +kernel
theorem dX5_may_38 : decode cX5_may 38 = .ok (.iload_n 1, 1) := by decide +kernel
theorem dX5_may_39 : decode cX5_may 39 = .ok (.ireturn, 1) := by decide +kernel
set_option maxRecDepth 20000 in
theorem ggX5_wrong_X5_isFloor : GoodIn wsX5_wrong wsX5_isFloor := goodIn_r _ [7, 8, 9, 10, 6, 11, 16, 17, 18, 19, 20, 21, 22, 23, 24, 25, 26] (by decide +kernel) (by decide +kernel)
set_option maxRecDepth 20000 in
theorem gX5_wrong_X5_isFloor : GoodIn wsX5_wrong (wsV RX5 82 RX5 yX5_isFloor wsX5_isFloor) := goodIn_app (goodIn_of _ (by decide +kernel)) ggX5_wrong_X5_isFloor
set_option maxRecDepth 20000 in
theorem ggX5_wrong_X5_of : GoodIn wsX5_wrong wsX5_of := goodIn_r _ [15, 8, 16, 17, 18, 19, 20, 21, 22, 23, 24, 25, 26] (by decide +kernel) (by decide +kernel)
set_option maxRecDepth 20000 in
theorem gX5_wrong_X5_of : GoodIn wsX5_wrong (wsV RX5 44 RX5 yX5_of wsX5_of) := goodIn_app (goodIn_of _ (by decide +kernel)) ggX5_wrong_X5_of
theorem dX5_wrong_0 : decode cX5_wrong 0 = .ok (.iconst 0, 1) := by decide +kernel
theorem dX5_wrong_1 : decode cX5_wrong 1 = .ok (.istore_n 1, 1) := by decide +kernel
theorem dX5_wrong_2 : decode cX5_wrong 2 = .ok (.iload_n 1, 1) := by decide +kernel
theorem dX5_wrong_3 : decode cX5_wrong 3 = .ok (.aload_n 0, 1) := by decide +kernel
theorem dX5_wrong_4 : decode cX5_wrong 4 = .ok (.getfield 105, 3) := by decide +kernel
theorem dX5_wrong_7 : decode cX5_wrong 7 = .ok (.if_icmp .ge 52, 3) := by decide +kernel
theorem dX5_wrong_10 : decode cX5_wrong 10 = .ok (.aload_n 0, 1) := by decide +kernel
theorem dX5_wrong_11 : decode cX5_wrong 11 = .ok (.aload_n 0, 1) := by decide +kernel
theorem dX5_wrong_12 : decode cX5_wrong 12 = .ok (.getfield 30, 3) := by decide +kernel
theorem dX5_wrong_15 : decode cX5_wrong 15 = .ok (.iconst 2, 1) := by decide +kernel
theorem dX5_wrong_16 : decode cX5_wrong 16 = .ok (.iload_n 1, 1) := by decide +kernel
theorem dX5_wrong_17 : decode cX5_wrong 17 = .ok (.imul, 1) := by decide +kernel
theorem dX5_wrong_18 : decode cX5_wrong 18 = .ok (.iaload, 1) := by decide +kernel
theorem dX5_wrong_19 : decode cX5_wrong 19 = .ok (.invokevirtual 82, 3) := by decide +kernel
theorem dX5_wrong_22 : decode cX5_wrong 22 = .ok (.ifCond .eq 29, 3) := by decide +kernel
theorem dX5_wrong_25 : decode cX5_wrong 25 = .ok (.aload_n 0, 1) := by decide +kernel
theorem dX5_wrong_26 : decode cX5_wrong 26 = .ok (.aload_n 0, 1) := by decide +kernel
theorem dX5_wrong_27 : decode cX5_wrong 27 = .ok (.getfield 30, 3) := by decide +kernel
theorem dX5_wrong_30 : decode cX5_wrong 30 = .ok (.iconst 2, 1) := by decide +kernel
theorem dX5_wrong_31 : decode cX5_wrong 31 = .ok (.iload_n 1, 1) := by decide +kernel
theorem dX5_wrong_32 : decode cX5_wrong 32 = .ok (.imul, 1) := by decide +kernel
theorem dX5_wrong_33 : decode cX5_wrong 33 = .ok (.iaload, 1) := by decide +kernel
theorem dX5_wrong_34 : decode cX5_wrong 34 = .ok (.iconst 2, 1) := by decide +kernel
theorem dX5_wrong_35 : decode cX5_wrong 35 = .ok (.invokevirtual 44, 3) := by decide +kernel
theorem dX5_wrong_38 : decode cX5_wrong 38 = .ok (.aload_n 0, 1) := by decide +kernel
theorem dX5_wrong_39 : decode cX5_wrong 39 = .ok (.getfield 30, 3) := by decide +kernel
theorem dX5_wrong_42 : decode cX5_wrong 42 = .ok (.iconst 2, 1) := by decide +kernel
theorem dX5_wrong_43 : decode cX5_wrong 43 = .ok (.iload_n 1, 1) := by decide +kernel
theorem dX5_wrong_44 : decode cX5_wrong 44 = .ok (.imul, 1) := by decide +kernel
theorem dX5_wrong_45 : decode cX5_wrong 45 = .ok (.iconst 1, 1) := by decide +kernel
theorem dX5_wrong_46 : decode cX5_wrong 46 = .ok (.iadd, 1) := by decide +kernel
theorem dX5_wrong_47 : decode cX5_wrong 47 = .ok (.iaload, 1) := by decide +kernel
theorem dX5_wrong_48 : decode cX5_wrong 48 = .ok (.if_icmp .eq 5, 3) := by decide +kernel
theorem dX5_wrong_51 : decode cX5_wrong 51 = .ok (.iload_n 1, 1) := by decide +kernel
theorem dX5_wrong_52 : decode cX5_wrong 52 = .ok (.ireturn, 1) := by decide +kernel
theorem dX5_wrong_53 : decode cX5_wrong 53 = .ok (.iinc 1 1, 3) := by decide +kernel
theorem dX5_wrong_56 : decode cX5_wrong 56 = .ok (.goto (-54), 3) := by decide +kernel
theorem dX5_wrong_59 : decode cX5_wrong 59 = .ok (.iconst (-1), 1) := by decide +kernel
theorem dX5_wrong_60 : decode cX5_wrong 60 = .ok (.ireturn, 1) := by decide +kernel
set_option maxRecDepth 20000 in
theorem ggX5_told_X5_propped : GoodIn wsX5_told wsX5_propped := goodIn_r _ [9, 1, 10, 11, 12, 8, 13, 14, 15, 16, 17, 91, 92, 93, 94, 95, 96, 97, 98, 99, 100, 101] (by decide +kernel) (by decide +kernel)
set_option maxRecDepth 20000 in
theorem gX5_told_X5_propped : GoodIn wsX5_told (wsV RX5 108 RX5 yX5_propped wsX5_propped) := goodIn_app (goodIn_of _ (by decide +kernel)) ggX5_told_X5_propped
set_option maxRecDepth 20000 in
theorem ggX5_told_X5_weak : GoodIn wsX5_told wsX5_weak := goodIn_r _ [21, 1, 14, 15, 16, 8, 17, 22, 23, 24, 25, 26, 27, 28, 29, 30, 31, 32, 91, 92, 93, 94, 95, 96, 97, 98, 99, 100, 101] (by decide +kernel) (by decide +kernel)
set_option maxRecDepth 20000 in
theorem gX5_told_X5_weak : GoodIn wsX5_told (wsV RX5 92 RX5 yX5_weak wsX5_weak) := goodIn_app (goodIn_of _ (by decide +kernel)) ggX5_told_X5_weak
set_option maxRecDepth 20000 in
theorem ggX5_told_X5_may : GoodIn wsX5_told wsX5_may := goodIn_r _ [36, 1, 37, 38, 39, 8, 40, 41, 42, 43, 44, 45, 46, 47, 10, 11, 12, 13, 14, 15, 16, 17, 48, 49, 50, 51, 52, 53, 54, 55, 56, 57, 58, 59, 60, 61, 62, 63, 64, 65, 66, 67, 68, 69, 70, 71, 72, 73, 74, 75, 76, 77, 78, 79, 80, 81, 26, 27, 28, 29, 22, 23, 24, 25, 30, 31, 32, 18, 19, 20, 21, 82, 83, 84, 85, 91, 92, 93, 94, 95, 96, 97, 98, 99, 100, 101] (by decide +kernel) (by decide +kernel)
set_option maxRecDepth 20000 in
theorem gX5_told_X5_may : GoodIn wsX5_told (wsV RX5 111 RX5 yX5_may wsX5_may) := goodIn_app (goodIn_of _ (by decide +kernel)) ggX5_told_X5_may
set_option maxRecDepth 20000 in
theorem ggX5_told_X5_force : GoodIn wsX5_told wsX5_force := goodIn_r _ [60, 1, 61, 62, 63, 8, 64, 10, 11, 12, 13, 14, 15, 16, 17, 91, 92, 93, 94, 95, 96, 97, 98, 99, 100, 101] (by decide +kernel) (by decide +kernel)
set_option maxRecDepth 20000 in
theorem gX5_told_X5_force : GoodIn wsX5_told (wsV RX5 79 RX5 yX5_force wsX5_force) := goodIn_app (goodIn_of _ (by decide +kernel)) ggX5_told_X5_force
set_option maxRecDepth 20000 in
theorem ggX5_told_X5_wrong : GoodIn wsX5_told wsX5_wrong := goodIn_r _ [89, 2, 90, 41, 42, 43, 8, 44, 1, 45, 46, 47, 14, 15, 16, 17, 91, 92, 93, 94, 95, 96, 97, 98, 99, 100, 101] (by decide +kernel) (by decide +kernel)
set_option maxRecDepth 20000 in
theorem gX5_told_X5_wrong : GoodIn wsX5_told (wsV RX5 114 RX5 yX5_wrong wsX5_wrong) := goodIn_app (goodIn_of _ (by decide +kernel)) ggX5_told_X5_wrong
