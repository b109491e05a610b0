theorem dX0_init_0 : decode cX0_init 0 = .ok (.aload_n 0, 1) := by decide +kernel
theorem dX0_init_1 : decode cX0_init 1 = .ok (.invokespecial 3, 3) := by decide +kernel
theorem dX0_init_4 : decode cX0_init 4 = .ok (.aload_n 0, 1) := by decide +kernel
theorem dX0_init_5 : decode cX0_init 5 = .ok (.bipush 20, 2) := by decide +kernel
theorem dX0_init_7 : decode cX0_init 7 = .ok (.newarray .int, 2) := by decide +kernel
theorem dX0_init_9 : decode cX0_init 9 = .ok (.putfield 9, 3) := by decide +kernel
theorem dX0_init_12 : decode cX0_init 12 = .ok (.aload_n 0, 1) := by decide +kernel
theorem dX0_init_13 : decode cX0_init 13 = .ok (.bipush 20, 2) := by decide +kernel
theorem dX0_init_15 : decode cX0_init 15 = .ok (.newarray .int, 2) := by decide +kernel
theorem dX0_init_17 : decode cX0_init 17 = .ok (.putfield 15, 3) := by decide +kernel
theorem dX0_init_20 : decode cX0_init 20 = .ok (.aload_n 0, 1) := by decide +kernel
theorem dX0_init_21 : decode cX0_init 21 = .ok (.iconst 0, 1) := by decide +kernel
theorem dX0_init_22 : decode cX0_init 22 = .ok (.putfield 18, 3) := by decide +kernel
theorem dX0_init_25 : decode cX0_init 25 = .ok (.return_, 1) := by decide +kernel
theorem dX0_add_0 : decode cX0_add 0 = .ok (.aload_n 0, 1) := by decide +kernel
theorem dX0_add_1 : decode cX0_add 1 = .ok (.getfield 18, 3) := by decide +kernel
theorem dX0_add_4 : decode cX0_add 4 = .ok (.bipush 20, 2) := by decide +kernel
theorem dX0_add_6 : decode cX0_add 6 = .ok (.if_icmp .lt 4, 3) := by decide +kernel
theorem dX0_add_9 : decode cX0_add 9 = .ok (.return_, 1) := by decide +kernel
theorem dX0_add_10 : decode cX0_add 10 = .ok (.aload_n 0, 1) := by decide +kernel
theorem dX0_add_11 : decode cX0_add 11 = .ok (.getfield 9, 3) := by decide +kernel
theorem dX0_add_14 : decode cX0_add 14 = .ok (.aload_n 0, 1) := by decide +kernel
theorem dX0_add_15 : decode cX0_add 15 = .ok (.getfield 18, 3) := by decide +kernel
theorem dX0_add_18 : decode cX0_add 18 = .ok (.iload_n 1, 1) := by decide +kernel
theorem dX0_add_19 : decode cX0_add 19 = .ok (.iastore, 1) := by decide +kernel
theorem dX0_add_20 : decode cX0_add 20 = .ok (.aload_n 0, 1) := by decide +kernel
theorem dX0_add_21 : decode cX0_add 21 = .ok (.getfield 15, 3) := by decide +kernel
theorem dX0_add_24 : decode cX0_add 24 = .ok (.aload_n 0, 1) := by decide +kernel
theorem dX0_add_25 : decode cX0_add 25 = .ok (.getfield 18, 3) := by decide +kernel
theorem dX0_add_28 : decode cX0_add 28 = .ok (.iload_n 2, 1) := by decide +kernel
theorem dX0_add_29 : decode cX0_add 29 = .ok (.iastore, 1) := by decide +kernel
theorem dX0_add_30 : decode cX0_add 30 = .ok (.aload_n 0, 1) := by decide +kernel
theorem dX0_add_31 : decode cX0_add 31 = .ok (.dup, 1) := by decide +kernel
theorem dX0_add_32 : decode cX0_add 32 = .ok (.getfield 18, 3) := by decide +kernel
theorem dX0_add_35 : decode cX0_add 35 = .ok (.iconst 1, 1) := by decide +kernel
theorem dX0_add_36 : decode cX0_add 36 = .ok (.iadd, 1) := by decide +kernel
theorem dX0_add_37 : decode cX0_add 37 = .ok (.putfield 18, 3) := by decide +kernel
theorem dX0_add_40 : decode cX0_add 40 = .ok (.return_, 1) := by decide +kernel
set_option maxRecDepth 20000 in
theorem ggX0_firstWrong_X3_has : GoodIn wsX0_firstWrong wsX3_has := goodIn_r _ [9, 10, 14, 15, 16, 17, 18, 19, 20, 21] (by decide +kernel) (by decide +kernel)
set_option maxRecDepth 20000 in
theorem gX0_firstWrong_X3_has : GoodIn wsX0_firstWrong (wsV RX0 22 RX3 yX3_has wsX3_has) := goodIn_app (goodIn_of _ (by decide +kernel)) ggX0_firstWrong_X3_has
theorem dX0_firstWrong_0 : decode cX0_firstWrong 0 = .ok (.iconst 0, 1) := by decide +kernel
theorem dX0_firstWrong_1 : decode cX0_firstWrong 1 = .ok (.istore_n 2, 1) := by decide +kernel
theorem dX0_firstWrong_2 : decode cX0_firstWrong 2 = .ok (.iload_n 2, 1) := by decide +kernel
theorem dX0_firstWrong_3 : decode cX0_firstWrong 3 = .ok (.aload_n 0, 1) := by decide +kernel
theorem dX0_firstWrong_4 : decode cX0_firstWrong 4 = .ok (.getfield 18, 3) := by decide +kernel
theorem dX0_firstWrong_7 : decode cX0_firstWrong 7 = .ok (.if_icmp .ge 44, 3) := by decide +kernel
theorem dX0_firstWrong_10 : decode cX0_firstWrong 10 = .ok (.aload_n 1, 1) := by decide +kernel
theorem dX0_firstWrong_11 : decode cX0_firstWrong 11 = .ok (.aload_n 0, 1) := by decide +kernel
theorem dX0_firstWrong_12 : decode cX0_firstWrong 12 = .ok (.getfield 9, 3) := by decide +kernel
theorem dX0_firstWrong_15 : decode cX0_firstWrong 15 = .ok (.iload_n 2, 1) := by decide +kernel
theorem dX0_firstWrong_16 : decode cX0_firstWrong 16 = .ok (.iaload, 1) := by decide +kernel
theorem dX0_firstWrong_17 : decode cX0_firstWrong 17 = .ok (.invokevirtual 22, 3) := by decide +kernel
theorem dX0_firstWrong_20 : decode cX0_firstWrong 20 = .ok (.ifCond .eq 23, 3) := by decide +kernel
theorem dX0_firstWrong_23 : decode cX0_firstWrong 23 = .ok (.aload_n 1, 1) := by decide +kernel
theorem dX0_firstWrong_24 : decode cX0_firstWrong 24 = .ok (.getfield 28, 3) := by decide +kernel
theorem dX0_firstWrong_27 : decode cX0_firstWrong 27 = .ok (.aload_n 0, 1) := by decide +kernel
theorem dX0_firstWrong_28 : decode cX0_firstWrong 28 = .ok (.getfield 9, 3) := by decide +kernel
theorem dX0_firstWrong_31 : decode cX0_firstWrong 31 = .ok (.iload_n 2, 1) := by decide +kernel
theorem dX0_firstWrong_32 : decode cX0_firstWrong 32 = .ok (.iaload, 1) := by decide +kernel
theorem dX0_firstWrong_33 : decode cX0_firstWrong 33 = .ok (.iaload, 1) := by decide +kernel
theorem dX0_firstWrong_34 : decode cX0_firstWrong 34 = .ok (.aload_n 0, 1) := by decide +kernel
theorem dX0_firstWrong_35 : decode cX0_firstWrong 35 = .ok (.getfield 15, 3) := by decide +kernel
theorem dX0_firstWrong_38 : decode cX0_firstWrong 38 = .ok (.iload_n 2, 1) := by decide +kernel
theorem dX0_firstWrong_39 : decode cX0_firstWrong 39 = .ok (.iaload, 1) := by decide +kernel
theorem dX0_firstWrong_40 : decode cX0_firstWrong 40 = .ok (.if_icmp .eq 5, 3) := by decide +kernel
theorem dX0_firstWrong_43 : decode cX0_firstWrong 43 = .ok (.iload_n 2, 1) := by decide +kernel
theorem dX0_firstWrong_44 : decode cX0_firstWrong 44 = .ok (.ireturn, 1) := by decide +kernel
theorem dX0_firstWrong_45 : decode cX0_firstWrong 45 = .ok (.iinc 2 1, 3) := by decide +kernel
theorem dX0_firstWrong_48 : decode cX0_firstWrong 48 = .ok (.goto (-46), 3) := by decide +kernel
theorem dX0_firstWrong_51 : decode cX0_firstWrong 51 = .ok (.iconst (-1), 1) := by decide +kernel
theorem dX0_firstWrong_52 : decode cX0_firstWrong 52 = .ok (.ireturn, 1) := by decide +kernel
set_option maxRecDepth 20000 in
theorem ggX1_init_X3_init : GoodIn wsX1_init wsX3_init := goodIn_r _ [11, 12, 2, 3, 13, 14, 15, 16, 17, 18, 19, 20, 21, 22, 23, 24, 25, 26, 27, 28, 29] (by decide +kernel) (by decide +kernel)
set_option maxRecDepth 20000 in
theorem gX1_init_X3_init_n9 : GoodIn wsX1_init (wsX3_init) := ggX1_init_X3_init
theorem dX1_init_0 : decode cX1_init 0 = .ok (.aload_n 0, 1) := by decide +kernel
theorem dX1_init_1 : decode cX1_init 1 = .ok (.invokespecial 1, 3) := by decide +kernel
theorem dX1_init_4 : decode cX1_init 4 = .ok (.aload_n 0, 1) := by decide +kernel
theorem dX1_init_5 : decode cX1_init 5 = .ok (.new 7, 3) := by decide +kernel
theorem dX1_init_8 : decode cX1_init 8 = .ok (.dup, 1) := by decide +kernel
theorem dX1_init_9 : decode cX1_init 9 = .ok (.invokespecial 9, 3) := by decide +kernel
theorem dX1_init_12 : decode cX1_init 12 = .ok (.putfield 10, 3) := by decide +kernel
theorem dX1_init_15 : decode cX1_init 15 = .ok (.aload_n 0, 1) := by decide +kernel
theorem dX1_init_16 : decode cX1_init 16 = .ok (.iconst 0, 1) := by decide +kernel
theorem dX1_init_17 : decode cX1_init 17 = .ok (.putfield 16, 3) := by decide +kernel
theorem dX1_init_20 : decode cX1_init 20 = .ok (.aload_n 0, 1) := by decide +kernel
theorem dX1_init_21 : decode cX1_init 21 = .ok (.iconst 0, 1) := by decide +kernel
theorem dX1_init_22 : decode cX1_init 22 = .ok (.putfield 20, 3) := by decide +kernel
theorem dX1_init_25 : decode cX1_init 25 = .ok (.return_, 1) := by decide +kernel
set_option maxRecDepth 20000 in
theorem ggX1_take_X3_copyFrom : GoodIn wsX1_take wsX3_copyFrom := goodIn_r _ [8, 9, 10, 11, 12, 13, 14, 15, 19, 20, 21, 22, 23, 24, 25, 26] (by decide +kernel) (by decide +kernel)
set_option maxRecDepth 20000 in
theorem gX1_take_X3_copyFrom : GoodIn wsX1_take (wsV RX1 24 RX3 yX3_copyFrom wsX3_copyFrom) := goodIn_app (goodIn_of _ (by decide +kernel)) ggX1_take_X3_copyFrom
theorem dX1_take_0 : decode cX1_take 0 = .ok (.aload_n 0, 1) := by decide +kernel
theorem dX1_take_1 : decode cX1_take 1 = .ok (.getfield 10, 3) := by decide +kernel
theorem dX1_take_4 : decode cX1_take 4 = .ok (.aload_n 1, 1) := by decide +kernel
theorem dX1_take_5 : decode cX1_take 5 = .ok (.invokevirtual 24, 3) := by decide +kernel
theorem dX1_take_8 : decode cX1_take 8 = .ok (.aload_n 0, 1) := by decide +kernel
theorem dX1_take_9 : decode cX1_take 9 = .ok (.iload_n 2, 1) := by decide +kernel
theorem dX1_take_10 : decode cX1_take 10 = .ok (.putfield 16, 3) := by decide +kernel
theorem dX1_take_13 : decode cX1_take 13 = .ok (.aload_n 0, 1) := by decide +kernel
theorem dX1_take_14 : decode cX1_take 14 = .ok (.iconst 1, 1) := by decide +kernel
theorem dX1_take_15 : decode cX1_take 15 = .ok (.putfield 20, 3) := by decide +kernel
theorem dX1_take_18 : decode cX1_take 18 = .ok (.return_, 1) := by decide +kernel
set_option maxRecDepth 20000 in
theorem ggX2_init_X3_init : GoodIn wsX2_init wsX3_init := goodIn_r _ [11, 12, 2, 3, 13, 14, 15, 16, 17, 18, 19, 20, 21, 25, 26, 27, 28, 29, 30, 31, 32] (by decide +kernel) (by decide +kernel)
set_option maxRecDepth 20000 in
theorem gX2_init_X3_init_n24 : GoodIn wsX2_init (wsX3_init) := ggX2_init_X3_init
theorem dX2_init_0 : decode cX2_init 0 = .ok (.aload_n 0, 1) := by decide +kernel
theorem dX2_init_1 : decode cX2_init 1 = .ok (.invokespecial 3, 3) := by decide +kernel
theorem dX2_init_4 : decode cX2_init 4 = .ok (.aload_n 0, 1) := by decide +kernel
theorem dX2_init_5 : decode cX2_init 5 = .ok (.bipush 20, 2) := by decide +kernel
theorem dX2_init_7 : decode cX2_init 7 = .ok (.anewarray 9, 3) := by decide +kernel
theorem dX2_init_10 : decode cX2_init 10 = .ok (.putfield 11, 3) := by decide +kernel
theorem dX2_init_13 : decode cX2_init 13 = .ok (.aload_n 0, 1) := by decide +kernel
theorem dX2_init_14 : decode cX2_init 14 = .ok (.iconst 0, 1) := by decide +kernel
theorem dX2_init_15 : decode cX2_init 15 = .ok (.putfield 17, 3) := by decide +kernel
theorem dX2_init_18 : decode cX2_init 18 = .ok (.aload_n 0, 1) := by decide +kernel
theorem dX2_init_19 : decode cX2_init 19 = .ok (.iconst 0, 1) := by decide +kernel
theorem dX2_init_20 : decode cX2_init 20 = .ok (.putfield 21, 3) := by decide +kernel
theorem dX2_init_23 : decode cX2_init 23 = .ok (.iconst 0, 1) := by decide +kernel
theorem dX2_init_24 : decode cX2_init 24 = .ok (.istore_n 1, 1) := by decide +kernel
theorem dX2_init_25 : decode cX2_init 25 = .ok (.iload_n 1, 1) := by decide +kernel
theorem dX2_init_26 : decode cX2_init 26 = .ok (.bipush 20, 2) := by decide +kernel
theorem dX2_init_28 : decode cX2_init 28 = .ok (.if_icmp .ge 22, 3) := by decide +kernel
theorem dX2_init_31 : decode cX2_init 31 = .ok (.aload_n 0, 1) := by decide +kernel
theorem dX2_init_32 : decode cX2_init 32 = .ok (.getfield 11, 3) := by decide +kernel
theorem dX2_init_35 : decode cX2_init 35 = .ok (.iload_n 1, 1) := by decide +kernel
theorem dX2_init_36 : decode cX2_init 36 = .ok (.new 9, 3) := by decide +kernel
theorem dX2_init_39 : decode cX2_init 39 = .ok (.dup, 1) := by decide +kernel
theorem dX2_init_40 : decode cX2_init 40 = .ok (.invokespecial 24, 3) := by decide +kernel
theorem dX2_init_43 : decode cX2_init 43 = .ok (.aastore, 1) := by decide +kernel
theorem dX2_init_44 : decode cX2_init 44 = .ok (.iinc 1 1, 3) := by decide +kernel
theorem dX2_init_47 : decode cX2_init 47 = .ok (.goto (-22), 3) := by decide +kernel
theorem dX2_init_50 : decode cX2_init 50 = .ok (.return_, 1) := by decide +kernel
set_option maxRecDepth 20000 in
theorem ggX2_note_X3_copyFrom : GoodIn wsX2_note wsX3_copyFrom := goodIn_r _ [12, 13, 14, 15, 16, 17, 18, 19, 23, 24, 25, 26, 27, 28, 29, 30] (by decide +kernel) (by decide +kernel)
set_option maxRecDepth 20000 in
theorem gX2_note_X3_copyFrom : GoodIn wsX2_note (wsV RX2 25 RX3 yX3_copyFrom wsX3_copyFrom) := goodIn_app (goodIn_of _ (by decide +kernel)) ggX2_note_X3_copyFrom
theorem dX2_note_0 : decode cX2_note 0 = .ok (.aload_n 0, 1) := by decide +kernel
theorem dX2_note_1 : decode cX2_note 1 = .ok (.getfield 11, 3) := by decide +kernel
theorem dX2_note_4 : decode cX2_note 4 = .ok (.aload_n 0, 1) := by decide +kernel
theorem dX2_note_5 : decode cX2_note 5 = .ok (.getfield 17, 3) := by decide +kernel
theorem dX2_note_8 : decode cX2_note 8 = .ok (.aaload, 1) := by decide +kernel
theorem dX2_note_9 : decode cX2_note 9 = .ok (.aload_n 1, 1) := by decide +kernel
theorem dX2_note_10 : decode cX2_note 10 = .ok (.invokevirtual 25, 3) := by decide +kernel
theorem dX2_note_13 : decode cX2_note 13 = .ok (.aload_n 0, 1) := by decide +kernel
theorem dX2_note_14 : decode cX2_note 14 = .ok (.aload_n 0, 1) := by decide +kernel
theorem dX2_note_15 : decode cX2_note 15 = .ok (.getfield 17, 3) := by decide +kernel
theorem dX2_note_18 : decode cX2_note 18 = .ok (.iconst 1, 1) := by decide +kernel
theorem dX2_note_19 : decode cX2_note 19 = .ok (.iadd, 1) := by decide +kernel
theorem dX2_note_20 : decode cX2_note 20 = .ok (.bipush 20, 2) := by decide +kernel
theorem dX2_note_22 : decode cX2_note 22 = .ok (.irem, 1) := by decide +kernel
theorem dX2_note_23 : decode cX2_note 23 = .ok (.putfield 17, 3) := by decide +kernel
theorem dX2_note_26 : decode cX2_note 26 = .ok (.aload_n 0, 1) := by decide +kernel
theorem dX2_note_27 : decode cX2_note 27 = .ok (.aload_n 0, 1) := by decide +kernel
theorem dX2_note_28 : decode cX2_note 28 = .ok (.getfield 21, 3) := by decide +kernel
theorem dX2_note_31 : decode cX2_note 31 = .ok (.iconst 1, 1) := by decide +kernel
theorem dX2_note_32 : decode cX2_note 32 = .ok (.iadd, 1) := by decide +kernel
theorem dX2_note_33 : decode cX2_note 33 = .ok (.bipush 20, 2) := by decide +kernel
theorem dX2_note_35 : decode cX2_note 35 = .ok (.invokestatic 29, 3) := by decide +kernel
theorem dX2_note_38 : decode cX2_note 38 = .ok (.putfield 21, 3) := by decide +kernel
theorem dX2_note_41 : decode cX2_note 41 = .ok (.return_, 1) := by decide +kernel
set_option maxRecDepth 20000 in
theorem ggX2_takeBack_X3_copyFrom : GoodIn wsX2_takeBack wsX3_copyFrom := goodIn_r _ [8, 9, 10, 11, 12, 13, 14, 15, 19, 20, 21, 22, 23, 24, 25, 26] (by decide +kernel) (by decide +kernel)
set_option maxRecDepth 20000 in
theorem gX2_takeBack_X3_copyFrom : GoodIn wsX2_takeBack (wsV RX2 25 RX3 yX3_copyFrom wsX3_copyFrom) := goodIn_app (goodIn_of _ (by decide +kernel)) ggX2_takeBack_X3_copyFrom
theorem dX2_takeBack_0 : decode cX2_takeBack 0 = .ok (.iload_n 1, 1) := by decide +kernel
theorem dX2_takeBack_1 : decode cX2_takeBack 1 = .ok (.iconst 1, 1) := by decide +kernel
theorem dX2_takeBack_2 : decode cX2_takeBack 2 = .ok (.if_icmp .lt 11, 3) := by decide +kernel
theorem dX2_takeBack_5 : decode cX2_takeBack 5 = .ok (.iload_n 1, 1) := by decide +kernel
theorem dX2_takeBack_6 : decode cX2_takeBack 6 = .ok (.aload_n 0, 1) := by decide +kernel
theorem dX2_takeBack_7 : decode cX2_takeBack 7 = .ok (.getfield 21, 3) := by decide +kernel
theorem dX2_takeBack_10 : decode cX2_takeBack 10 = .ok (.if_icmp .le 4, 3) := by decide +kernel
theorem dX2_takeBack_13 : decode cX2_takeBack 13 = .ok (.return_, 1) := by decide +kernel
theorem dX2_takeBack_14 : decode cX2_takeBack 14 = .ok (.aload_n 0, 1) := by decide +kernel
theorem dX2_takeBack_15 : decode cX2_takeBack 15 = .ok (.aload_n 0, 1) := by decide +kernel
theorem dX2_takeBack_16 : decode cX2_takeBack 16 = .ok (.getfield 17, 3) := by decide +kernel
theorem dX2_takeBack_19 : decode cX2_takeBack 19 = .ok (.bipush 20, 2) := by decide +kernel
theorem dX2_takeBack_21 : decode cX2_takeBack 21 = .ok (.iadd, 1) := by decide +kernel
theorem dX2_takeBack_22 : decode cX2_takeBack 22 = .ok (.iload_n 1, 1) := by decide +kernel
theorem dX2_takeBack_23 : decode cX2_takeBack 23 = .ok (.isub, 1) := by decide +kernel
theorem dX2_takeBack_24 : decode cX2_takeBack 24 = .ok (.bipush 20, 2) := by decide +kernel
theorem dX2_takeBack_26 : decode cX2_takeBack 26 = .ok (.irem, 1) := by decide +kernel
theorem dX2_takeBack_27 : decode cX2_takeBack 27 = .ok (.putfield 17, 3) := by decide +kernel
theorem dX2_takeBack_30 : decode cX2_takeBack 30 = .ok (.aload_n 0, 1) := by decide +kernel
theorem dX2_takeBack_31 : decode cX2_takeBack 31 = .ok (.dup, 1) := by decide +kernel
theorem dX2_takeBack_32 : decode cX2_takeBack 32 = .ok (.getfield 21, 3) := by decide +kernel
theorem dX2_takeBack_35 : decode cX2_takeBack 35 = .ok (.iload_n 1, 1) := by decide +kernel
theorem dX2_takeBack_36 : decode cX2_takeBack 36 = .ok (.isub, 1) := by decide +kernel
theorem dX2_takeBack_37 : decode cX2_takeBack 37 = .ok (.putfield 21, 3) := by decide +kernel
theorem dX2_takeBack_40 : decode cX2_takeBack 40 = .ok (.aload_n 2, 1) := by decide +kernel
theorem dX2_takeBack_41 : decode cX2_takeBack 41 = .ok (.aload_n 0, 1) := by decide +kernel
theorem dX2_takeBack_42 : decode cX2_takeBack 42 = .ok (.getfield 11, 3) := by decide +kernel
theorem dX2_takeBack_45 : decode cX2_takeBack 45 = .ok (.aload_n 0, 1) := by decide +kernel
theorem dX2_takeBack_46 : decode cX2_takeBack 46 = .ok (.getfield 17, 3) := by decide +kernel
theorem dX2_takeBack_49 : decode cX2_takeBack 49 = .ok (.aaload, 1) := by decide +kernel
theorem dX2_takeBack_50 : decode cX2_takeBack 50 = .ok (.invokevirtual 25, 3) := by decide +kernel
theorem dX2_takeBack_53 : decode cX2_takeBack 53 = .ok (.return_, 1) := by decide +kernel
theorem dX2_forget_0 : decode cX2_forget 0 = .ok (.aload_n 0, 1) := by decide +kernel
theorem dX2_forget_1 : decode cX2_forget 1 = .ok (.iconst 0, 1) := by decide +kernel
theorem dX2_forget_2 : decode cX2_forget 2 = .ok (.putfield 21, 3) := by decide +kernel
theorem dX2_forget_5 : decode cX2_forget 5 = .ok (.return_, 1) := by decide +kernel
theorem dX3_init_0 : decode cX3_init 0 = .ok (.aload_n 0, 1) := by decide +kernel
theorem dX3_init_1 : decode cX3_init 1 = .ok (.invokespecial 3, 3) := by decide +kernel
theorem dX3_init_4 : decode cX3_init 4 = .ok (.aload_n 0, 1) := by decide +kernel
theorem dX3_init_5 : decode cX3_init 5 = .ok (.iconst 4, 1) := by decide +kernel
theorem dX3_init_6 : decode cX3_init 6 = .ok (.newarray .int, 2) := by decide +kernel
theorem dX3_init_8 : decode cX3_init 8 = .ok (.dup, 1) := by decide +kernel
theorem dX3_init_9 : decode cX3_init 9 = .ok (.iconst 0, 1) := by decide +kernel
theorem dX3_init_10 : decode cX3_init 10 = .ok (.bipush 20, 2) := by decide +kernel
theorem dX3_init_12 : decode cX3_init 12 = .ok (.iastore, 1) := by decide +kernel
theorem dX3_init_13 : decode cX3_init 13 = .ok (.dup, 1) := by decide +kernel
theorem dX3_init_14 : decode cX3_init 14 = .ok (.iconst 1, 1) := by decide +kernel
theorem dX3_init_15 : decode cX3_init 15 = .ok (.bipush 60, 2) := by decide +kernel
theorem dX3_init_17 : decode cX3_init 17 = .ok (.iastore, 1) := by decide +kernel
theorem dX3_init_18 : decode cX3_init 18 = .ok (.dup, 1) := by decide +kernel
theorem dX3_init_19 : decode cX3_init 19 = .ok (.iconst 2, 1) := by decide +kernel
theorem dX3_init_20 : decode cX3_init 20 = .ok (.iconst 0, 1) := by decide +kernel
theorem dX3_init_21 : decode cX3_init 21 = .ok (.iastore, 1) := by decide +kernel
theorem dX3_init_22 : decode cX3_init 22 = .ok (.dup, 1) := by decide +kernel
theorem dX3_init_23 : decode cX3_init 23 = .ok (.iconst 3, 1) := by decide +kernel
theorem dX3_init_24 : decode cX3_init 24 = .ok (.iconst 0, 1) := by decide +kernel
theorem dX3_init_25 : decode cX3_init 25 = .ok (.iastore, 1) := by decide +kernel
theorem dX3_init_26 : decode cX3_init 26 = .ok (.putfield 9, 3) := by decide +kernel
theorem dX3_init_29 : decode cX3_init 29 = .ok (.aload_n 0, 1) := by decide +kernel
theorem dX3_init_30 : decode cX3_init 30 = .ok (.bipush 8, 2) := by decide +kernel
theorem dX3_init_32 : decode cX3_init 32 = .ok (.newarray .int, 2) := by decide +kernel
theorem dX3_init_34 : decode cX3_init 34 = .ok (.putfield 15, 3) := by decide +kernel
theorem dX3_init_37 : decode cX3_init 37 = .ok (.aload_n 0, 1) := by decide +kernel
theorem dX3_init_38 : decode cX3_init 38 = .ok (.bipush 8, 2) := by decide +kernel
theorem dX3_init_40 : decode cX3_init 40 = .ok (.newarray .int, 2) := by decide +kernel
theorem dX3_init_42 : decode cX3_init 42 = .ok (.putfield 18, 3) := by decide +kernel
theorem dX3_init_45 : decode cX3_init 45 = .ok (.aload_n 0, 1) := by decide +kernel
theorem dX3_init_46 : decode cX3_init 46 = .ok (.bipush 8, 2) := by decide +kernel
theorem dX3_init_48 : decode cX3_init 48 = .ok (.newarray .int, 2) := by decide +kernel
theorem dX3_init_50 : decode cX3_init 50 = .ok (.putfield 21, 3) := by decide +kernel
theorem dX3_init_53 : decode cX3_init 53 = .ok (.aload_n 0, 1) := by decide +kernel
theorem dX3_init_54 : decode cX3_init 54 = .ok (.bipush 8, 2) := by decide +kernel
theorem dX3_init_56 : decode cX3_init 56 = .ok (.newarray .int, 2) := by decide +kernel
theorem dX3_init_58 : decode cX3_init 58 = .ok (.putfield 24, 3) := by decide +kernel
theorem dX3_init_61 : decode cX3_init 61 = .ok (.aload_n 0, 1) := by decide +kernel
theorem dX3_init_62 : decode cX3_init 62 = .ok (.iconst 0, 1) := by decide +kernel
theorem dX3_init_63 : decode cX3_init 63 = .ok (.putfield 27, 3) := by decide +kernel
theorem dX3_init_66 : decode cX3_init 66 = .ok (.aload_n 0, 1) := by decide +kernel
theorem dX3_init_67 : decode cX3_init 67 = .ok (.iconst 0, 1) := by decide +kernel
theorem dX3_init_68 : decode cX3_init 68 = .ok (.putfield 31, 3) := by decide +kernel
theorem dX3_init_71 : decode cX3_init 71 = .ok (.aload_n 0, 1) := by decide +kernel
theorem dX3_init_72 : decode cX3_init 72 = .ok (.iconst 0, 1) := by decide +kernel
theorem dX3_init_73 : decode cX3_init 73 = .ok (.putfield 34, 3) := by decide +kernel
theorem dX3_init_76 : decode cX3_init 76 = .ok (.return_, 1) := by decide +kernel
theorem dX3_copyFrom_0 : decode cX3_copyFrom 0 = .ok (.iconst 0, 1) := by decide +kernel
theorem dX3_copyFrom_1 : decode cX3_copyFrom 1 = .ok (.istore_n 2, 1) := by decide +kernel
theorem dX3_copyFrom_2 : decode cX3_copyFrom 2 = .ok (.iload_n 2, 1) := by decide +kernel
theorem dX3_copyFrom_3 : decode cX3_copyFrom 3 = .ok (.iconst 4, 1) := by decide +kernel
theorem dX3_copyFrom_4 : decode cX3_copyFrom 4 = .ok (.if_icmp .ge 21, 3) := by decide +kernel
theorem dX3_copyFrom_7 : decode cX3_copyFrom 7 = .ok (.aload_n 0, 1) := by decide +kernel
theorem dX3_copyFrom_8 : decode cX3_copyFrom 8 = .ok (.getfield 9, 3) := by decide +kernel
theorem dX3_copyFrom_11 : decode cX3_copyFrom 11 = .ok (.iload_n 2, 1) := by decide +kernel
theorem dX3_copyFrom_12 : decode cX3_copyFrom 12 = .ok (.aload_n 1, 1) := by decide +kernel
theorem dX3_copyFrom_13 : decode cX3_copyFrom 13 = .ok (.getfield 9, 3) := by decide +kernel
theorem dX3_copyFrom_16 : decode cX3_copyFrom 16 = .ok (.iload_n 2, 1) := by decide +kernel
theorem dX3_copyFrom_17 : decode cX3_copyFrom 17 = .ok (.iaload, 1) := by decide +kernel
theorem dX3_copyFrom_18 : decode cX3_copyFrom 18 = .ok (.iastore, 1) := by decide +kernel
theorem dX3_copyFrom_19 : decode cX3_copyFrom 19 = .ok (.iinc 2 1, 3) := by decide +kernel
theorem dX3_copyFrom_22 : decode cX3_copyFrom 22 = .ok (.goto (-20), 3) := by decide +kernel
theorem dX3_copyFrom_25 : decode cX3_copyFrom 25 = .ok (.iconst 0, 1) := by decide +kernel
theorem dX3_copyFrom_26 : decode cX3_copyFrom 26 = .ok (.istore_n 2, 1) := by decide +kernel
theorem dX3_copyFrom_27 : decode cX3_copyFrom 27 = .ok (.iload_n 2, 1) := by decide +kernel
theorem dX3_copyFrom_28 : decode cX3_copyFrom 28 = .ok (.aload_n 1, 1) := by decide +kernel
theorem dX3_copyFrom_29 : decode cX3_copyFrom 29 = .ok (.getfield 31, 3) := by decide +kernel
theorem dX3_copyFrom_32 : decode cX3_copyFrom 32 = .ok (.if_icmp .ge 45, 3) := by decide +kernel
theorem dX3_copyFrom_35 : decode cX3_copyFrom 35 = .ok (.aload_n 0, 1) := by decide +kernel
theorem dX3_copyFrom_36 : decode cX3_copyFrom 36 = .ok (.getfield 15, 3) := by decide +kernel
theorem dX3_copyFrom_39 : decode cX3_copyFrom 39 = .ok (.iload_n 2, 1) := by decide +kernel
theorem dX3_copyFrom_40 : decode cX3_copyFrom 40 = .ok (.aload_n 1, 1) := by decide +kernel
theorem dX3_copyFrom_41 : decode cX3_copyFrom 41 = .ok (.getfield 15, 3) := by decide +kernel
theorem dX3_copyFrom_44 : decode cX3_copyFrom 44 = .ok (.iload_n 2, 1) := by decide +kernel
theorem dX3_copyFrom_45 : decode cX3_copyFrom 45 = .ok (.iaload, 1) := by decide +kernel
theorem dX3_copyFrom_46 : decode cX3_copyFrom 46 = .ok (.iastore, 1) := by decide +kernel
theorem dX3_copyFrom_47 : decode cX3_copyFrom 47 = .ok (.aload_n 0, 1) := by decide +kernel
theorem dX3_copyFrom_48 : decode cX3_copyFrom 48 = .ok (.getfield 18, 3) := by decide +kernel
theorem dX3_copyFrom_51 : decode cX3_copyFrom 51 = .ok (.iload_n 2, 1) := by decide +kernel
theorem dX3_copyFrom_52 : decode cX3_copyFrom 52 = .ok (.aload_n 1, 1) := by decide +kernel
theorem dX3_copyFrom_53 : decode cX3_copyFrom 53 = .ok (.getfield 18, 3) := by decide +kernel
theorem dX3_copyFrom_56 : decode cX3_copyFrom 56 = .ok (.iload_n 2, 1) := by decide +kernel
theorem dX3_copyFrom_57 : decode cX3_copyFrom 57 = .ok (.iaload, 1) := by decide +kernel
theorem dX3_copyFrom_58 : decode cX3_copyFrom 58 = .ok (.iastore, 1) := by decide +kernel
theorem dX3_copyFrom_59 : decode cX3_copyFrom 59 = .ok (.aload_n 0, 1) := by decide +kernel
theorem dX3_copyFrom_60 : decode cX3_copyFrom 60 = .ok (.getfield 21, 3) := by decide +kernel
theorem dX3_copyFrom_63 : decode cX3_copyFrom 63 = .ok (.iload_n 2, 1) := by decide +kernel
theorem dX3_copyFrom_64 : decode cX3_copyFrom 64 = .ok (.aload_n 1, 1) := by decide +kernel
theorem dX3_copyFrom_65 : decode cX3_copyFrom 65 = .ok (.getfield 21, 3) := by decide +kernel
theorem dX3_copyFrom_68 : decode cX3_copyFrom 68 = .ok (.iload_n 2, 1) := by decide +kernel
theorem dX3_copyFrom_69 : decode cX3_copyFrom 69 = .ok (.iaload, 1) := by decide +kernel
theorem dX3_copyFrom_70 : decode cX3_copyFrom 70 = .ok (.iastore, 1) := by decide +kernel
theorem dX3_copyFrom_71 : decode cX3_copyFrom 71 = .ok (.iinc 2 1, 3) := by decide +kernel
theorem dX3_copyFrom_74 : decode cX3_copyFrom 74 = .ok (.goto (-47), 3) := by decide +kernel
theorem dX3_copyFrom_77 : decode cX3_copyFrom 77 = .ok (.aload_n 0, 1) := by decide +kernel
theorem dX3_copyFrom_78 : decode cX3_copyFrom 78 = .ok (.aload_n 1, 1) := by decide +kernel
theorem dX3_copyFrom_79 : decode cX3_copyFrom 79 = .ok (.getfield 27, 3) := by decide +kernel
theorem dX3_copyFrom_82 : decode cX3_copyFrom 82 = .ok (.putfield 27, 3) := by decide +kernel
theorem dX3_copyFrom_85 : decode cX3_copyFrom 85 = .ok (.aload_n 0, 1) := by decide +kernel
theorem dX3_copyFrom_86 : decode cX3_copyFrom 86 = .ok (.aload_n 1, 1) := by decide +kernel
theorem dX3_copyFrom_87 : decode cX3_copyFrom 87 = .ok (.getfield 31, 3) := by decide +kernel
theorem dX3_copyFrom_90 : decode cX3_copyFrom 90 = .ok (.putfield 31, 3) := by decide +kernel
theorem dX3_copyFrom_93 : decode cX3_copyFrom 93 = .ok (.aload_n 0, 1) := by decide +kernel
theorem dX3_copyFrom_94 : decode cX3_copyFrom 94 = .ok (.aload_n 1, 1) := by decide +kernel
theorem dX3_copyFrom_95 : decode cX3_copyFrom 95 = .ok (.getfield 34, 3) := by decide +kernel
theorem dX3_copyFrom_98 : decode cX3_copyFrom 98 = .ok (.putfield 34, 3) := by decide +kernel
theorem dX3_copyFrom_101 : decode cX3_copyFrom 101 = .ok (.return_, 1) := by decide +kernel
theorem dX3_empty_0 : decode cX3_empty 0 = .ok (.aload_n 0, 1) := by decide +kernel
theorem dX3_empty_1 : decode cX3_empty 1 = .ok (.iconst 0, 1) := by decide +kernel
theorem dX3_empty_2 : decode cX3_empty 2 = .ok (.putfield 27, 3) := by decide +kernel
theorem dX3_empty_5 : decode cX3_empty 5 = .ok (.aload_n 0, 1) := by decide +kernel
theorem dX3_empty_6 : decode cX3_empty 6 = .ok (.iconst 0, 1) := by decide +kernel
theorem dX3_empty_7 : decode cX3_empty 7 = .ok (.putfield 31, 3) := by decide +kernel
theorem dX3_empty_10 : decode cX3_empty 10 = .ok (.aload_n 0, 1) := by decide +kernel
theorem dX3_empty_11 : decode cX3_empty 11 = .ok (.iconst 0, 1) := by decide +kernel
theorem dX3_empty_12 : decode cX3_empty 12 = .ok (.putfield 34, 3) := by decide +kernel
theorem dX3_empty_15 : decode cX3_empty 15 = .ok (.return_, 1) := by decide +kernel
theorem dX3_has_0 : decode cX3_has 0 = .ok (.iload_n 1, 1) := by decide +kernel
theorem dX3_has_1 : decode cX3_has 1 = .ok (.ifCond .lt 15, 3) := by decide +kernel
theorem dX3_has_4 : decode cX3_has 4 = .ok (.iload_n 1, 1) := by decide +kernel
theorem dX3_has_5 : decode cX3_has 5 = .ok (.aload_n 0, 1) := by decide +kernel
theorem dX3_has_6 : decode cX3_has 6 = .ok (.getfield 31, 3) := by decide +kernel
theorem dX3_has_9 : decode cX3_has 9 = .ok (.if_icmp .ge 7, 3) := by decide +kernel
theorem dX3_has_12 : decode cX3_has 12 = .ok (.iconst 1, 1) := by decide +kernel
theorem dX3_has_13 : decode cX3_has 13 = .ok (.goto 4, 3) := by decide +kernel
theorem dX3_has_16 : decode cX3_has 16 = .ok (.iconst 0, 1) := by decide +kernel
theorem dX3_has_17 : decode cX3_has 17 = .ok (.ireturn, 1) := by decide +kernel
theorem dX3_ageOf_0 : decode cX3_ageOf 0 = .ok (.aload_n 0, 1) := by decide +kernel
theorem dX3_ageOf_1 : decode cX3_ageOf 1 = .ok (.getfield 27, 3) := by decide +kernel
theorem dX3_ageOf_4 : decode cX3_ageOf 4 = .ok (.aload_n 0, 1) := by decide +kernel
theorem dX3_ageOf_5 : decode cX3_ageOf 5 = .ok (.getfield 15, 3) := by decide +kernel
theorem dX3_ageOf_8 : decode cX3_ageOf 8 = .ok (.iload_n 1, 1) := by decide +kernel
theorem dX3_ageOf_9 : decode cX3_ageOf 9 = .ok (.iaload, 1) := by decide +kernel
theorem dX3_ageOf_10 : decode cX3_ageOf 10 = .ok (.isub, 1) := by decide +kernel
theorem dX3_ageOf_11 : decode cX3_ageOf 11 = .ok (.ireturn, 1) := by decide +kernel
set_option maxRecDepth 20000 in
theorem ggX3_strengthOf_X3_ageOf : GoodIn wsX3_strengthOf wsX3_ageOf := goodIn_r _ [7, 8, 9, 15, 16, 17, 18, 19, 20, 21, 22] (by decide +kernel) (by decide +kernel)
set_option maxRecDepth 20000 in
theorem gX3_strengthOf_X3_ageOf : GoodIn wsX3_strengthOf (wsV RX3 37 RX3 yX3_ageOf wsX3_ageOf) := goodIn_app (goodIn_of _ (by decide +kernel)) ggX3_strengthOf_X3_ageOf
set_option maxRecDepth 20000 in
theorem ggX3_strengthOf_X4_percentAt : GoodIn wsX3_strengthOf wsX4_percentAt := goodIn_r _ [12, 13, 14] (by decide +kernel) (by decide +kernel)
set_option maxRecDepth 20000 in
theorem gX3_strengthOf_X4_percentAt_n41 : GoodIn wsX3_strengthOf (wsX4_percentAt) := ggX3_strengthOf_X4_percentAt
theorem dX3_strengthOf_0 : decode cX3_strengthOf 0 = .ok (.aload_n 0, 1) := by decide +kernel
theorem dX3_strengthOf_1 : decode cX3_strengthOf 1 = .ok (.iload_n 1, 1) := by decide +kernel
theorem dX3_strengthOf_2 : decode cX3_strengthOf 2 = .ok (.invokevirtual 37, 3) := by decide +kernel
theorem dX3_strengthOf_5 : decode cX3_strengthOf 5 = .ok (.bipush 10, 2) := by decide +kernel
theorem dX3_strengthOf_7 : decode cX3_strengthOf 7 = .ok (.aload_n 0, 1) := by decide +kernel
theorem dX3_strengthOf_8 : decode cX3_strengthOf 8 = .ok (.getfield 18, 3) := by decide +kernel
theorem dX3_strengthOf_11 : decode cX3_strengthOf 11 = .ok (.iload_n 1, 1) := by decide +kernel
theorem dX3_strengthOf_12 : decode cX3_strengthOf 12 = .ok (.iaload, 1) := by decide +kernel
theorem dX3_strengthOf_13 : decode cX3_strengthOf 13 = .ok (.isub, 1) := by decide +kernel
theorem dX3_strengthOf_14 : decode cX3_strengthOf 14 = .ok (.imul, 1) := by decide +kernel
theorem dX3_strengthOf_15 : decode cX3_strengthOf 15 = .ok (.bipush 10, 2) := by decide +kernel
theorem dX3_strengthOf_17 : decode cX3_strengthOf 17 = .ok (.idiv, 1) := by decide +kernel
theorem dX3_strengthOf_18 : decode cX3_strengthOf 18 = .ok (.istore_n 2, 1) := by decide +kernel
theorem dX3_strengthOf_19 : decode cX3_strengthOf 19 = .ok (.aload_n 0, 1) := by decide +kernel
theorem dX3_strengthOf_20 : decode cX3_strengthOf 20 = .ok (.getfield 9, 3) := by decide +kernel
theorem dX3_strengthOf_23 : decode cX3_strengthOf 23 = .ok (.iconst 1, 1) := by decide +kernel
theorem dX3_strengthOf_24 : decode cX3_strengthOf 24 = .ok (.iaload, 1) := by decide +kernel
theorem dX3_strengthOf_25 : decode cX3_strengthOf 25 = .ok (.aload_n 0, 1) := by decide +kernel
theorem dX3_strengthOf_26 : decode cX3_strengthOf 26 = .ok (.getfield 9, 3) := by decide +kernel
theorem dX3_strengthOf_29 : decode cX3_strengthOf 29 = .ok (.iconst 2, 1) := by decide +kernel
theorem dX3_strengthOf_30 : decode cX3_strengthOf 30 = .ok (.iaload, 1) := by decide +kernel
theorem dX3_strengthOf_31 : decode cX3_strengthOf 31 = .ok (.iload_n 2, 1) := by decide +kernel
theorem dX3_strengthOf_32 : decode cX3_strengthOf 32 = .ok (.invokestatic 41, 3) := by decide +kernel
theorem dX3_strengthOf_35 : decode cX3_strengthOf 35 = .ok (.imul, 1) := by decide +kernel
theorem dX3_strengthOf_36 : decode cX3_strengthOf 36 = .ok (.bipush 100, 2) := by decide +kernel
theorem dX3_strengthOf_38 : decode cX3_strengthOf 38 = .ok (.idiv, 1) := by decide +kernel
theorem dX3_strengthOf_39 : decode cX3_strengthOf 39 = .ok (.ireturn, 1) := by decide +kernel
theorem dX3_isPropped_0 : decode cX3_isPropped 0 = .ok (.aload_n 0, 1) := by decide +kernel
theorem dX3_isPropped_1 : decode cX3_isPropped 1 = .ok (.getfield 34, 3) := by decide +kernel
theorem dX3_isPropped_4 : decode cX3_isPropped 4 = .ok (.iload_n 1, 1) := by decide +kernel
theorem dX3_isPropped_5 : decode cX3_isPropped 5 = .ok (.ishr, 1) := by decide +kernel
theorem dX3_isPropped_6 : decode cX3_isPropped 6 = .ok (.iconst 1, 1) := by decide +kernel
theorem dX3_isPropped_7 : decode cX3_isPropped 7 = .ok (.iand, 1) := by decide +kernel
theorem dX3_isPropped_8 : decode cX3_isPropped 8 = .ok (.iconst 1, 1) := by decide +kernel
theorem dX3_isPropped_9 : decode cX3_isPropped 9 = .ok (.if_icmp .ne 7, 3) := by decide +kernel
theorem dX3_isPropped_12 : decode cX3_isPropped 12 = .ok (.iconst 1, 1) := by decide +kernel
theorem dX3_isPropped_13 : decode cX3_isPropped 13 = .ok (.goto 4, 3) := by decide +kernel
theorem dX3_isPropped_16 : decode cX3_isPropped 16 = .ok (.iconst 0, 1) := by decide +kernel
theorem dX3_isPropped_17 : decode cX3_isPropped 17 = .ok (.ireturn, 1) := by decide +kernel
set_option maxRecDepth 20000 in
theorem ggX3_lowestPropped_X3_isPropped : GoodIn wsX3_lowestPropped wsX3_isPropped := goodIn_r _ [6, 7, 8, 9, 10, 11, 12, 13, 14, 15] (by decide +kernel) (by decide +kernel)
set_option maxRecDepth 20000 in
theorem gX3_lowestPropped_X3_isPropped : GoodIn wsX3_lowestPropped (wsV RX3 45 RX3 yX3_isPropped wsX3_isPropped) := goodIn_app (goodIn_of _ (by decide +kernel)) ggX3_lowestPropped_X3_isPropped
theorem dX3_lowestPropped_0 : decode cX3_lowestPropped 0 = .ok (.iconst 0, 1) := by decide +kernel
theorem dX3_lowestPropped_1 : decode cX3_lowestPropped 1 = .ok (.istore_n 1, 1) := by decide +kernel
theorem dX3_lowestPropped_2 : decode cX3_lowestPropped 2 = .ok (.iload_n 1, 1) := by decide +kernel
theorem dX3_lowestPropped_3 : decode cX3_lowestPropped 3 = .ok (.aload_n 0, 1) := by decide +kernel
theorem dX3_lowestPropped_4 : decode cX3_lowestPropped 4 = .ok (.getfield 31, 3) := by decide +kernel
theorem dX3_lowestPropped_7 : decode cX3_lowestPropped 7 = .ok (.if_icmp .ge 17, 3) := by decide +kernel
theorem dX3_lowestPropped_10 : decode cX3_lowestPropped 10 = .ok (.aload_n 0, 1) := by decide +kernel
theorem dX3_lowestPropped_11 : decode cX3_lowestPropped 11 = .ok (.iload_n 1, 1) := by decide +kernel
theorem dX3_lowestPropped_12 : decode cX3_lowestPropped 12 = .ok (.invokevirtual 45, 3) := by decide +kernel
theorem dX3_lowestPropped_15 : decode cX3_lowestPropped 15 = .ok (.ifCond .ne 9, 3) := by decide +kernel
theorem dX3_lowestPropped_18 : decode cX3_lowestPropped 18 = .ok (.iinc 1 1, 3) := by decide +kernel
theorem dX3_lowestPropped_21 : decode cX3_lowestPropped 21 = .ok (.goto (-19), 3) := by decide +kernel
theorem dX3_lowestPropped_24 : decode cX3_lowestPropped 24 = .ok (.iload_n 1, 1) := by decide +kernel
theorem dX3_lowestPropped_25 : decode cX3_lowestPropped 25 = .ok (.ireturn, 1) := by decide +kernel
set_option maxRecDepth 20000 in
theorem ggX3_lowestOf_X3_isPropped : GoodIn wsX3_lowestOf wsX3_isPropped := goodIn_r _ [5, 6, 7, 8, 9, 10, 11, 12, 13, 14] (by decide +kernel) (by decide +kernel)
set_option maxRecDepth 20000 in
theorem gX3_lowestOf_X3_isPropped : GoodIn wsX3_lowestOf (wsV RX3 45 RX3 yX3_isPropped wsX3_isPropped) := goodIn_app (goodIn_of _ (by decide +kernel)) ggX3_lowestOf_X3_isPropped
theorem dX3_lowestOf_0 : decode cX3_lowestOf 0 = .ok (.iload_n 1, 1) := by decide +kernel
theorem dX3_lowestOf_1 : decode cX3_lowestOf 1 = .ok (.istore_n 2, 1) := by decide +kernel
theorem dX3_lowestOf_2 : decode cX3_lowestOf 2 = .ok (.iload_n 2, 1) := by decide +kernel
theorem dX3_lowestOf_3 : decode cX3_lowestOf 3 = .ok (.ifCond .le 17, 3) := by decide +kernel
theorem dX3_lowestOf_6 : decode cX3_lowestOf 6 = .ok (.aload_n 0, 1) := by decide +kernel
theorem dX3_lowestOf_7 : decode cX3_lowestOf 7 = .ok (.iload_n 2, 1) := by decide +kernel
theorem dX3_lowestOf_8 : decode cX3_lowestOf 8 = .ok (.invokevirtual 45, 3) := by decide +kernel
theorem dX3_lowestOf_11 : decode cX3_lowestOf 11 = .ok (.ifCond .eq 9, 3) := by decide +kernel
theorem dX3_lowestOf_14 : decode cX3_lowestOf 14 = .ok (.iinc 2 (-1), 3) := by decide +kernel
theorem dX3_lowestOf_17 : decode cX3_lowestOf 17 = .ok (.goto (-15), 3) := by decide +kernel
theorem dX3_lowestOf_20 : decode cX3_lowestOf 20 = .ok (.iload_n 2, 1) := by decide +kernel
theorem dX3_lowestOf_21 : decode cX3_lowestOf 21 = .ok (.ireturn, 1) := by decide +kernel
set_option maxRecDepth 20000 in
theorem ggX3_highestOf_X3_isPropped : GoodIn wsX3_highestOf wsX3_isPropped := goodIn_r _ [6, 7, 8, 9, 10, 11, 12, 13, 14, 15] (by decide +kernel) (by decide +kernel)
set_option maxRecDepth 20000 in
theorem gX3_highestOf_X3_isPropped : GoodIn wsX3_highestOf (wsV RX3 45 RX3 yX3_isPropped wsX3_isPropped) := goodIn_app (goodIn_of _ (by decide +kernel)) ggX3_highestOf_X3_isPropped
theorem dX3_highestOf_0 : decode cX3_highestOf 0 = .ok (.iload_n 1, 1) := by decide +kernel
theorem dX3_highestOf_1 : decode cX3_highestOf 1 = .ok (.istore_n 2, 1) := by decide +kernel
theorem dX3_highestOf_2 : decode cX3_highestOf 2 = .ok (.iload_n 2, 1) := by decide +kernel
theorem dX3_highestOf_3 : decode cX3_highestOf 3 = .ok (.iconst 1, 1) := by decide +kernel
theorem dX3_highestOf_4 : decode cX3_highestOf 4 = .ok (.iadd, 1) := by decide +kernel
theorem dX3_highestOf_5 : decode cX3_highestOf 5 = .ok (.aload_n 0, 1) := by decide +kernel
theorem dX3_highestOf_6 : decode cX3_highestOf 6 = .ok (.getfield 31, 3) := by decide +kernel
theorem dX3_highestOf_9 : decode cX3_highestOf 9 = .ok (.if_icmp .ge 19, 3) := by decide +kernel
theorem dX3_highestOf_12 : decode cX3_highestOf 12 = .ok (.aload_n 0, 1) := by decide +kernel
theorem dX3_highestOf_13 : decode cX3_highestOf 13 = .ok (.iload_n 2, 1) := by decide +kernel
theorem dX3_highestOf_14 : decode cX3_highestOf 14 = .ok (.iconst 1, 1) := by decide +kernel
theorem dX3_highestOf_15 : decode cX3_highestOf 15 = .ok (.iadd, 1) := by decide +kernel
theorem dX3_highestOf_16 : decode cX3_highestOf 16 = .ok (.invokevirtual 45, 3) := by decide +kernel
theorem dX3_highestOf_19 : decode cX3_highestOf 19 = .ok (.ifCond .eq 9, 3) := by decide +kernel
theorem dX3_highestOf_22 : decode cX3_highestOf 22 = .ok (.iinc 2 1, 3) := by decide +kernel
theorem dX3_highestOf_25 : decode cX3_highestOf 25 = .ok (.goto (-23), 3) := by decide +kernel
theorem dX3_highestOf_28 : decode cX3_highestOf 28 = .ok (.iload_n 2, 1) := by decide +kernel
theorem dX3_highestOf_29 : decode cX3_highestOf 29 = .ok (.ireturn, 1) := by decide +kernel
set_option maxRecDepth 20000 in
theorem ggX3_isGrounded_X3_lowestOf : GoodIn wsX3_isGrounded wsX3_lowestOf := goodIn_r _ [5, 6, 7, 8, 4, 9, 10, 11, 12, 13, 14, 15, 16, 17, 18] (by decide +kernel) (by decide +kernel)
set_option maxRecDepth 20000 in
theorem gX3_isGrounded_X3_lowestOf : GoodIn wsX3_isGrounded (wsV RX3 49 RX3 yX3_lowestOf wsX3_lowestOf) := goodIn_app (goodIn_of _ (by decide +kernel)) ggX3_isGrounded_X3_lowestOf
set_option maxRecDepth 20000 in
theorem ggX3_isGrounded_X3_isPropped : GoodIn wsX3_isGrounded wsX3_isPropped := goodIn_r _ [9, 10, 11, 12, 13, 14, 15, 16, 17, 18] (by decide +kernel) (by decide +kernel)
set_option maxRecDepth 20000 in
theorem gX3_isGrounded_X3_isPropped : GoodIn wsX3_isGrounded (wsV RX3 45 RX3 yX3_isPropped wsX3_isPropped) := goodIn_app (goodIn_of _ (by decide +kernel)) ggX3_isGrounded_X3_isPropped
theorem dX3_isGrounded_0 : decode cX3_isGrounded 0 = .ok (.aload_n 0, 1) := by decide +kernel
theorem dX3_isGrounded_1 : decode cX3_isGrounded 1 = .ok (.iload_n 1, 1) := by decide +kernel
theorem dX3_isGrounded_2 : decode cX3_isGrounded 2 = .ok (.invokevirtual 49, 3) := by decide +kernel
theorem dX3_isGrounded_5 : decode cX3_isGrounded 5 = .ok (.ifCond .ne 15, 3) := by decide +kernel
theorem dX3_isGrounded_8 : decode cX3_isGrounded 8 = .ok (.aload_n 0, 1) := by decide +kernel
theorem dX3_isGrounded_9 : decode cX3_isGrounded 9 = .ok (.iconst 0, 1) := by decide +kernel
theorem dX3_isGrounded_10 : decode cX3_isGrounded 10 = .ok (.invokevirtual 45, 3) := by decide +kernel
theorem dX3_isGrounded_13 : decode cX3_isGrounded 13 = .ok (.ifCond .eq 7, 3) := by decide +kernel
theorem dX3_isGrounded_16 : decode cX3_isGrounded 16 = .ok (.iconst 1, 1) := by decide +kernel
theorem dX3_isGrounded_17 : decode cX3_isGrounded 17 = .ok (.goto 4, 3) := by decide +kernel
theorem dX3_isGrounded_20 : decode cX3_isGrounded 20 = .ok (.iconst 0, 1) := by decide +kernel
theorem dX3_isGrounded_21 : decode cX3_isGrounded 21 = .ok (.ireturn, 1) := by decide +kernel
set_option maxRecDepth 20000 in
theorem ggX3_forceUnder_X3_isPropped : GoodIn wsX3_forceUnder wsX3_isPropped := goodIn_r _ [7, 8, 14, 15, 16, 17, 18, 19, 20, 21] (by decide +kernel) (by decide +kernel)
set_option maxRecDepth 20000 in
theorem gX3_forceUnder_X3_isPropped : GoodIn wsX3_forceUnder (wsV RX3 45 RX3 yX3_isPropped wsX3_isPropped) := goodIn_app (goodIn_of _ (by decide +kernel)) ggX3_forceUnder_X3_isPropped
set_option maxRecDepth 20000 in
theorem ggX3_forceUnder_X3_highestOf : GoodIn wsX3_forceUnder wsX3_highestOf := goodIn_r _ [12, 13, 3, 4, 5, 6, 7, 8, 14, 15, 16, 17, 18, 19, 20, 21] (by decide +kernel) (by decide +kernel)
set_option maxRecDepth 20000 in
theorem gX3_forceUnder_X3_highestOf : GoodIn wsX3_forceUnder (wsV RX3 52 RX3 yX3_highestOf wsX3_highestOf) := goodIn_app (goodIn_of _ (by decide +kernel)) ggX3_forceUnder_X3_highestOf
theorem dX3_forceUnder_0 : decode cX3_forceUnder 0 = .ok (.aload_n 0, 1) := by decide +kernel
theorem dX3_forceUnder_1 : decode cX3_forceUnder 1 = .ok (.iload_n 1, 1) := by decide +kernel
theorem dX3_forceUnder_2 : decode cX3_forceUnder 2 = .ok (.invokevirtual 45, 3) := by decide +kernel
theorem dX3_forceUnder_5 : decode cX3_forceUnder 5 = .ok (.ifCond .ne 5, 3) := by decide +kernel
theorem dX3_forceUnder_8 : decode cX3_forceUnder 8 = .ok (.iconst 0, 1) := by decide +kernel
theorem dX3_forceUnder_9 : decode cX3_forceUnder 9 = .ok (.ireturn, 1) := by decide +kernel
theorem dX3_forceUnder_10 : decode cX3_forceUnder 10 = .ok (.iconst 0, 1) := by decide +kernel
theorem dX3_forceUnder_11 : decode cX3_forceUnder 11 = .ok (.istore_n 2, 1) := by decide +kernel
theorem dX3_forceUnder_12 : decode cX3_forceUnder 12 = .ok (.aload_n 0, 1) := by decide +kernel
theorem dX3_forceUnder_13 : decode cX3_forceUnder 13 = .ok (.iload_n 1, 1) := by decide +kernel
theorem dX3_forceUnder_14 : decode cX3_forceUnder 14 = .ok (.invokevirtual 52, 3) := by decide +kernel
theorem dX3_forceUnder_17 : decode cX3_forceUnder 17 = .ok (.istore_n 3, 1) := by decide +kernel
theorem dX3_forceUnder_18 : decode cX3_forceUnder 18 = .ok (.iload_n 1, 1) := by decide +kernel
theorem dX3_forceUnder_19 : decode cX3_forceUnder 19 = .ok (.istore 4, 2) := by decide +kernel
theorem dX3_forceUnder_21 : decode cX3_forceUnder 21 = .ok (.iload 4, 2) := by decide +kernel
theorem dX3_forceUnder_23 : decode cX3_forceUnder 23 = .ok (.iload_n 3, 1) := by decide +kernel
theorem dX3_forceUnder_24 : decode cX3_forceUnder 24 = .ok (.if_icmp .gt 26, 3) := by decide +kernel
theorem dX3_forceUnder_27 : decode cX3_forceUnder 27 = .ok (.iload_n 2, 1) := by decide +kernel
theorem dX3_forceUnder_28 : decode cX3_forceUnder 28 = .ok (.aload_n 0, 1) := by decide +kernel
theorem dX3_forceUnder_29 : decode cX3_forceUnder 29 = .ok (.getfield 9, 3) := by decide +kernel
theorem dX3_forceUnder_32 : decode cX3_forceUnder 32 = .ok (.iconst 0, 1) := by decide +kernel
theorem dX3_forceUnder_33 : decode cX3_forceUnder 33 = .ok (.iaload, 1) := by decide +kernel
theorem dX3_forceUnder_34 : decode cX3_forceUnder 34 = .ok (.aload_n 0, 1) := by decide +kernel
theorem dX3_forceUnder_35 : decode cX3_forceUnder 35 = .ok (.getfield 21, 3) := by decide +kernel
theorem dX3_forceUnder_38 : decode cX3_forceUnder 38 = .ok (.iload 4, 2) := by decide +kernel
theorem dX3_forceUnder_40 : decode cX3_forceUnder 40 = .ok (.iaload, 1) := by decide +kernel
theorem dX3_forceUnder_41 : decode cX3_forceUnder 41 = .ok (.isub, 1) := by decide +kernel
theorem dX3_forceUnder_42 : decode cX3_forceUnder 42 = .ok (.iadd, 1) := by decide +kernel
theorem dX3_forceUnder_43 : decode cX3_forceUnder 43 = .ok (.istore_n 2, 1) := by decide +kernel
theorem dX3_forceUnder_44 : decode cX3_forceUnder 44 = .ok (.iinc 4 1, 3) := by decide +kernel
theorem dX3_forceUnder_47 : decode cX3_forceUnder 47 = .ok (.goto (-26), 3) := by decide +kernel
theorem dX3_forceUnder_50 : decode cX3_forceUnder 50 = .ok (.iload_n 2, 1) := by decide +kernel
theorem dX3_forceUnder_51 : decode cX3_forceUnder 51 = .ok (.ireturn, 1) := by decide +kernel
set_option maxRecDepth 20000 in
theorem ggX3_weakSet_X3_strengthOf : GoodIn wsX3_weakSet wsX3_strengthOf := goodIn_r _ [7, 8, 9, 10, 11, 12, 6, 13, 14, 15, 16, 17, 18, 19, 20, 21, 22, 23, 24, 25, 26, 27, 28] (by decide +kernel) (by decide +kernel)
set_option maxRecDepth 20000 in
theorem gX3_weakSet_X3_strengthOf : GoodIn wsX3_weakSet (wsV RX3 55 RX3 yX3_strengthOf wsX3_strengthOf) := goodIn_app (goodIn_of _ (by decide +kernel)) ggX3_weakSet_X3_strengthOf
theorem dX3_weakSet_0 : decode cX3_weakSet 0 = .ok (.iconst 0, 1) := by decide +kernel
theorem dX3_weakSet_1 : decode cX3_weakSet 1 = .ok (.istore_n 1, 1) := by decide +kernel
theorem dX3_weakSet_2 : decode cX3_weakSet 2 = .ok (.iconst 0, 1) := by decide +kernel
theorem dX3_weakSet_3 : decode cX3_weakSet 3 = .ok (.istore_n 2, 1) := by decide +kernel
theorem dX3_weakSet_4 : decode cX3_weakSet 4 = .ok (.iload_n 2, 1) := by decide +kernel
theorem dX3_weakSet_5 : decode cX3_weakSet 5 = .ok (.aload_n 0, 1) := by decide +kernel
theorem dX3_weakSet_6 : decode cX3_weakSet 6 = .ok (.getfield 31, 3) := by decide +kernel
theorem dX3_weakSet_9 : decode cX3_weakSet 9 = .ok (.if_icmp .ge 29, 3) := by decide +kernel
theorem dX3_weakSet_12 : decode cX3_weakSet 12 = .ok (.aload_n 0, 1) := by decide +kernel
theorem dX3_weakSet_13 : decode cX3_weakSet 13 = .ok (.getfield 21, 3) := by decide +kernel
theorem dX3_weakSet_16 : decode cX3_weakSet 16 = .ok (.iload_n 2, 1) := by decide +kernel
theorem dX3_weakSet_17 : decode cX3_weakSet 17 = .ok (.iaload, 1) := by decide +kernel
theorem dX3_weakSet_18 : decode cX3_weakSet 18 = .ok (.aload_n 0, 1) := by decide +kernel
theorem dX3_weakSet_19 : decode cX3_weakSet 19 = .ok (.iload_n 2, 1) := by decide +kernel
theorem dX3_weakSet_20 : decode cX3_weakSet 20 = .ok (.invokevirtual 55, 3) := by decide +kernel
theorem dX3_weakSet_23 : decode cX3_weakSet 23 = .ok (.if_icmp .le 9, 3) := by decide +kernel
theorem dX3_weakSet_26 : decode cX3_weakSet 26 = .ok (.iload_n 1, 1) := by decide +kernel
theorem dX3_weakSet_27 : decode cX3_weakSet 27 = .ok (.iconst 1, 1) := by decide +kernel
theorem dX3_weakSet_28 : decode cX3_weakSet 28 = .ok (.iload_n 2, 1) := by decide +kernel
theorem dX3_weakSet_29 : decode cX3_weakSet 29 = .ok (.ishl, 1) := by decide +kernel
theorem dX3_weakSet_30 : decode cX3_weakSet 30 = .ok (.ior, 1) := by decide +kernel
theorem dX3_weakSet_31 : decode cX3_weakSet 31 = .ok (.istore_n 1, 1) := by decide +kernel
theorem dX3_weakSet_32 : decode cX3_weakSet 32 = .ok (.iinc 2 1, 3) := by decide +kernel
theorem dX3_weakSet_35 : decode cX3_weakSet 35 = .ok (.goto (-31), 3) := by decide +kernel
theorem dX3_weakSet_38 : decode cX3_weakSet 38 = .ok (.iload_n 1, 1) := by decide +kernel
theorem dX3_weakSet_39 : decode cX3_weakSet 39 = .ok (.ireturn, 1) := by decide +kernel
set_option maxRecDepth 20000 in
theorem ggX3_isSafe_X3_weakSet : GoodIn wsX3_isSafe wsX3_weakSet := goodIn_r _ [5, 6, 7, 8, 9, 10, 4, 11, 12, 13, 14, 15, 16, 17, 18, 19, 20, 21, 22, 23, 24, 25, 26, 27, 28, 29, 30, 31, 32] (by decide +kernel) (by decide +kernel)
set_option maxRecDepth 20000 in
theorem gX3_isSafe_X3_weakSet : GoodIn wsX3_isSafe (wsV RX3 58 RX3 yX3_weakSet wsX3_weakSet) := goodIn_app (goodIn_of _ (by decide +kernel)) ggX3_isSafe_X3_weakSet
theorem dX3_isSafe_0 : decode cX3_isSafe 0 = .ok (.aload_n 0, 1) := by decide +kernel
theorem dX3_isSafe_1 : decode cX3_isSafe 1 = .ok (.invokevirtual 58, 3) := by decide +kernel
theorem dX3_isSafe_4 : decode cX3_isSafe 4 = .ok (.ifCond .ne 7, 3) := by decide +kernel
theorem dX3_isSafe_7 : decode cX3_isSafe 7 = .ok (.iconst 1, 1) := by decide +kernel
theorem dX3_isSafe_8 : decode cX3_isSafe 8 = .ok (.goto 4, 3) := by decide +kernel
theorem dX3_isSafe_11 : decode cX3_isSafe 11 = .ok (.iconst 0, 1) := by decide +kernel
theorem dX3_isSafe_12 : decode cX3_isSafe 12 = .ok (.ireturn, 1) := by decide +kernel
set_option maxRecDepth 20000 in
theorem ggX3_greatestExcess_X3_strengthOf : GoodIn wsX3_greatestExcess wsX3_strengthOf := goodIn_r _ [11, 12, 13, 14, 15, 16, 10, 17, 18, 19, 20, 21, 22, 23, 24, 25, 26, 27, 28, 29, 30, 31, 32] (by decide +kernel) (by decide +kernel)
set_option maxRecDepth 20000 in
theorem gX3_greatestExcess_X3_strengthOf : GoodIn wsX3_greatestExcess (wsV RX3 55 RX3 yX3_strengthOf wsX3_strengthOf) := goodIn_app (goodIn_of _ (by decide +kernel)) ggX3_greatestExcess_X3_strengthOf
theorem dX3_greatestExcess_0 : decode cX3_greatestExcess 0 = .ok (.aload_n 0, 1) := by decide +kernel
theorem dX3_greatestExcess_1 : decode cX3_greatestExcess 1 = .ok (.getfield 21, 3) := by decide +kernel
theorem dX3_greatestExcess_4 : decode cX3_greatestExcess 4 = .ok (.iconst 0, 1) := by decide +kernel
theorem dX3_greatestExcess_5 : decode cX3_greatestExcess 5 = .ok (.iaload, 1) := by decide +kernel
theorem dX3_greatestExcess_6 : decode cX3_greatestExcess 6 = .ok (.aload_n 0, 1) := by decide +kernel
theorem dX3_greatestExcess_7 : decode cX3_greatestExcess 7 = .ok (.iconst 0, 1) := by decide +kernel
theorem dX3_greatestExcess_8 : decode cX3_greatestExcess 8 = .ok (.invokevirtual 55, 3) := by decide +kernel
theorem dX3_greatestExcess_11 : decode cX3_greatestExcess 11 = .ok (.isub, 1) := by decide +kernel
theorem dX3_greatestExcess_12 : decode cX3_greatestExcess 12 = .ok (.istore_n 1, 1) := by decide +kernel
theorem dX3_greatestExcess_13 : decode cX3_greatestExcess 13 = .ok (.iconst 1, 1) := by decide +kernel
theorem dX3_greatestExcess_14 : decode cX3_greatestExcess 14 = .ok (.istore_n 2, 1) := by decide +kernel
theorem dX3_greatestExcess_15 : decode cX3_greatestExcess 15 = .ok (.iload_n 2, 1) := by decide +kernel
theorem dX3_greatestExcess_16 : decode cX3_greatestExcess 16 = .ok (.aload_n 0, 1) := by decide +kernel
theorem dX3_greatestExcess_17 : decode cX3_greatestExcess 17 = .ok (.getfield 31, 3) := by decide +kernel
theorem dX3_greatestExcess_20 : decode cX3_greatestExcess 20 = .ok (.if_icmp .ge 26, 3) := by decide +kernel
theorem dX3_greatestExcess_23 : decode cX3_greatestExcess 23 = .ok (.iload_n 1, 1) := by decide +kernel
theorem dX3_greatestExcess_24 : decode cX3_greatestExcess 24 = .ok (.aload_n 0, 1) := by decide +kernel
theorem dX3_greatestExcess_25 : decode cX3_greatestExcess 25 = .ok (.getfield 21, 3) := by decide +kernel
theorem dX3_greatestExcess_28 : decode cX3_greatestExcess 28 = .ok (.iload_n 2, 1) := by decide +kernel
theorem dX3_greatestExcess_29 : decode cX3_greatestExcess 29 = .ok (.iaload, 1) := by decide +kernel
theorem dX3_greatestExcess_30 : decode cX3_greatestExcess 30 = .ok (.aload_n 0, 1) := by decide +kernel
theorem dX3_greatestExcess_31 : decode cX3_greatestExcess 31 = .ok (.iload_n 2, 1) := by decide +kernel
theorem dX3_greatestExcess_32 : decode cX3_greatestExcess 32 = .ok (.invokevirtual 55, 3) := by decide +kernel
theorem dX3_greatestExcess_35 : decode cX3_greatestExcess 35 = .ok (.isub, 1) := by decide +kernel
theorem dX3_greatestExcess_36 : decode cX3_greatestExcess 36 = .ok (.invokestatic 62, 3) := by decide +kernel
theorem dX3_greatestExcess_39 : decode cX3_greatestExcess 39 = .ok (.istore_n 1, 1) := by decide +kernel
theorem dX3_greatestExcess_40 : decode cX3_greatestExcess 40 = .ok (.iinc 2 1, 3) := by decide +kernel
theorem dX3_greatestExcess_43 : decode cX3_greatestExcess 43 = .ok (.goto (-28), 3) := by decide +kernel
theorem dX3_greatestExcess_46 : decode cX3_greatestExcess 46 = .ok (.iload_n 1, 1) := by decide +kernel
theorem dX3_greatestExcess_47 : decode cX3_greatestExcess 47 = .ok (.ireturn, 1) := by decide +kernel
set_option maxRecDepth 20000 in
theorem ggX3_addFloor_X3_putProps : GoodIn wsX3_addFloor wsX3_putProps := goodIn_r _ [11, 12, 58, 59, 60, 61, 62, 63, 64, 65] (by decide +kernel) (by decide +kernel)
set_option maxRecDepth 20000 in
theorem gX3_addFloor_X3_putProps : GoodIn wsX3_addFloor (wsV RX3 67 RX3 yX3_putProps wsX3_putProps) := goodIn_app (goodIn_of _ (by decide +kernel)) ggX3_addFloor_X3_putProps
set_option maxRecDepth 20000 in
theorem ggX3_addFloor_X3_shareAmong : GoodIn wsX3_addFloor wsX3_shareAmong := goodIn_r _ [16, 6, 17, 18, 19, 20, 21, 22, 23, 24, 5, 25, 26, 27, 10, 28, 29, 30, 31, 32, 12, 33, 34, 35, 36, 1, 37, 38, 39, 40, 3, 2, 41, 42, 43, 44, 4, 45, 46, 47, 48, 49, 50, 51, 52, 53, 54, 55, 56, 57, 58, 59, 60, 61, 62, 63, 64, 65] (by decide +kernel) (by decide +kernel)
set_option maxRecDepth 20000 in
theorem gX3_addFloor_X3_shareAmong : GoodIn wsX3_addFloor (wsV RX3 71 RX3 yX3_shareAmong wsX3_shareAmong) := goodIn_app (goodIn_of _ (by decide +kernel)) ggX3_addFloor_X3_shareAmong
theorem dX3_addFloor_0 : decode cX3_addFloor 0 = .ok (.aload_n 0, 1) := by decide +kernel
theorem dX3_addFloor_1 : decode cX3_addFloor 1 = .ok (.getfield 31, 3) := by decide +kernel
theorem dX3_addFloor_4 : decode cX3_addFloor 4 = .ok (.bipush 8, 2) := by decide +kernel
theorem dX3_addFloor_6 : decode cX3_addFloor 6 = .ok (.if_icmp .lt 4, 3) := by decide +kernel
theorem dX3_addFloor_9 : decode cX3_addFloor 9 = .ok (.return_, 1) := by decide +kernel
theorem dX3_addFloor_10 : decode cX3_addFloor 10 = .ok (.aload_n 0, 1) := by decide +kernel
theorem dX3_addFloor_11 : decode cX3_addFloor 11 = .ok (.getfield 31, 3) := by decide +kernel
theorem dX3_addFloor_14 : decode cX3_addFloor 14 = .ok (.istore_n 1, 1) := by decide +kernel
theorem dX3_addFloor_15 : decode cX3_addFloor 15 = .ok (.aload_n 0, 1) := by decide +kernel
theorem dX3_addFloor_16 : decode cX3_addFloor 16 = .ok (.getfield 15, 3) := by decide +kernel
theorem dX3_addFloor_19 : decode cX3_addFloor 19 = .ok (.iload_n 1, 1) := by decide +kernel
theorem dX3_addFloor_20 : decode cX3_addFloor 20 = .ok (.aload_n 0, 1) := by decide +kernel
theorem dX3_addFloor_21 : decode cX3_addFloor 21 = .ok (.getfield 27, 3) := by decide +kernel
theorem dX3_addFloor_24 : decode cX3_addFloor 24 = .ok (.iastore, 1) := by decide +kernel
theorem dX3_addFloor_25 : decode cX3_addFloor 25 = .ok (.aload_n 0, 1) := by decide +kernel
theorem dX3_addFloor_26 : decode cX3_addFloor 26 = .ok (.getfield 18, 3) := by decide +kernel
theorem dX3_addFloor_29 : decode cX3_addFloor 29 = .ok (.iload_n 1, 1) := by decide +kernel
theorem dX3_addFloor_30 : decode cX3_addFloor 30 = .ok (.iconst 0, 1) := by decide +kernel
theorem dX3_addFloor_31 : decode cX3_addFloor 31 = .ok (.iastore, 1) := by decide +kernel
theorem dX3_addFloor_32 : decode cX3_addFloor 32 = .ok (.aload_n 0, 1) := by decide +kernel
theorem dX3_addFloor_33 : decode cX3_addFloor 33 = .ok (.getfield 21, 3) := by decide +kernel
theorem dX3_addFloor_36 : decode cX3_addFloor 36 = .ok (.iload_n 1, 1) := by decide +kernel
theorem dX3_addFloor_37 : decode cX3_addFloor 37 = .ok (.iconst 0, 1) := by decide +kernel
theorem dX3_addFloor_38 : decode cX3_addFloor 38 = .ok (.iastore, 1) := by decide +kernel
theorem dX3_addFloor_39 : decode cX3_addFloor 39 = .ok (.aload_n 0, 1) := by decide +kernel
theorem dX3_addFloor_40 : decode cX3_addFloor 40 = .ok (.dup, 1) := by decide +kernel
theorem dX3_addFloor_41 : decode cX3_addFloor 41 = .ok (.getfield 31, 3) := by decide +kernel
theorem dX3_addFloor_44 : decode cX3_addFloor 44 = .ok (.iconst 1, 1) := by decide +kernel
theorem dX3_addFloor_45 : decode cX3_addFloor 45 = .ok (.iadd, 1) := by decide +kernel
theorem dX3_addFloor_46 : decode cX3_addFloor 46 = .ok (.putfield 31, 3) := by decide +kernel
theorem dX3_addFloor_49 : decode cX3_addFloor 49 = .ok (.aload_n 0, 1) := by decide +kernel
theorem dX3_addFloor_50 : decode cX3_addFloor 50 = .ok (.iload_n 1, 1) := by decide +kernel
theorem dX3_addFloor_51 : decode cX3_addFloor 51 = .ok (.invokevirtual 67, 3) := by decide +kernel
theorem dX3_addFloor_54 : decode cX3_addFloor 54 = .ok (.aload_n 0, 1) := by decide +kernel
theorem dX3_addFloor_55 : decode cX3_addFloor 55 = .ok (.iload_n 1, 1) := by decide +kernel
theorem dX3_addFloor_56 : decode cX3_addFloor 56 = .ok (.aload_n 0, 1) := by decide +kernel
theorem dX3_addFloor_57 : decode cX3_addFloor 57 = .ok (.getfield 9, 3) := by decide +kernel
theorem dX3_addFloor_60 : decode cX3_addFloor 60 = .ok (.iconst 0, 1) := by decide +kernel
theorem dX3_addFloor_61 : decode cX3_addFloor 61 = .ok (.iaload, 1) := by decide +kernel
theorem dX3_addFloor_62 : decode cX3_addFloor 62 = .ok (.invokevirtual 71, 3) := by decide +kernel
theorem dX3_addFloor_65 : decode cX3_addFloor 65 = .ok (.return_, 1) := by decide +kernel
theorem dX3_putProps_0 : decode cX3_putProps 0 = .ok (.aload_n 0, 1) := by decide +kernel
theorem dX3_putProps_1 : decode cX3_putProps 1 = .ok (.dup, 1) := by decide +kernel
theorem dX3_putProps_2 : decode cX3_putProps 2 = .ok (.getfield 34, 3) := by decide +kernel
theorem dX3_putProps_5 : decode cX3_putProps 5 = .ok (.iconst 1, 1) := by decide +kernel
theorem dX3_putProps_6 : decode cX3_putProps 6 = .ok (.iload_n 1, 1) := by decide +kernel
theorem dX3_putProps_7 : decode cX3_putProps 7 = .ok (.ishl, 1) := by decide +kernel
theorem dX3_putProps_8 : decode cX3_putProps 8 = .ok (.ior, 1) := by decide +kernel
theorem dX3_putProps_9 : decode cX3_putProps 9 = .ok (.putfield 34, 3) := by decide +kernel
theorem dX3_putProps_12 : decode cX3_putProps 12 = .ok (.return_, 1) := by decide +kernel
set_option maxRecDepth 20000 in
theorem ggX3_takeProps_X3_has : GoodIn wsX3_takeProps wsX3_has := goodIn_r _ [6, 7, 62, 63, 64, 65, 66, 67, 68, 69] (by decide +kernel) (by decide +kernel)
set_option maxRecDepth 20000 in
theorem gX3_takeProps_X3_has : GoodIn wsX3_takeProps (wsV RX3 75 RX3 yX3_has wsX3_has) := goodIn_app (goodIn_of _ (by decide +kernel)) ggX3_takeProps_X3_has
set_option maxRecDepth 20000 in
theorem ggX3_takeProps_X3_forceUnder : GoodIn wsX3_takeProps wsX3_forceUnder := goodIn_r _ [11, 12, 13, 14, 15, 16, 5, 17, 1, 18, 19, 20, 21, 7, 62, 63, 64, 65, 66, 67, 68, 69] (by decide +kernel) (by decide +kernel)
set_option maxRecDepth 20000 in
theorem gX3_takeProps_X3_forceUnder : GoodIn wsX3_takeProps (wsV RX3 78 RX3 yX3_forceUnder wsX3_forceUnder) := goodIn_app (goodIn_of _ (by decide +kernel)) ggX3_takeProps_X3_forceUnder
set_option maxRecDepth 20000 in
theorem ggX3_takeProps_X3_shareAmong : GoodIn wsX3_takeProps wsX3_shareAmong := goodIn_r _ [25, 12, 26, 27, 28, 29, 30, 31, 32, 33, 13, 34, 35, 36, 5, 37, 14, 15, 16, 17, 1, 18, 19, 20, 21, 7, 38, 39, 40, 41, 42, 43, 44, 45, 46, 47, 48, 49, 50, 51, 52, 53, 54, 55, 56, 57, 58, 59, 60, 61, 62, 63, 64, 65, 66, 67, 68, 69] (by decide +kernel) (by decide +kernel)
set_option maxRecDepth 20000 in
theorem gX3_takeProps_X3_shareAmong : GoodIn wsX3_takeProps (wsV RX3 71 RX3 yX3_shareAmong wsX3_shareAmong) := goodIn_app (goodIn_of _ (by decide +kernel)) ggX3_takeProps_X3_shareAmong
theorem dX3_takeProps_0 : decode cX3_takeProps 0 = .ok (.aload_n 0, 1) := by decide +kernel
theorem dX3_takeProps_1 : decode cX3_takeProps 1 = .ok (.iload_n 1, 1) := by decide +kernel
theorem dX3_takeProps_2 : decode cX3_takeProps 2 = .ok (.invokevirtual 75, 3) := by decide +kernel
theorem dX3_takeProps_5 : decode cX3_takeProps 5 = .ok (.ifCond .ne 4, 3) := by decide +kernel
theorem dX3_takeProps_8 : decode cX3_takeProps 8 = .ok (.return_, 1) := by decide +kernel
theorem dX3_takeProps_9 : decode cX3_takeProps 9 = .ok (.aload_n 0, 1) := by decide +kernel
theorem dX3_takeProps_10 : decode cX3_takeProps 10 = .ok (.iload_n 1, 1) := by decide +kernel
theorem dX3_takeProps_11 : decode cX3_takeProps 11 = .ok (.invokevirtual 78, 3) := by decide +kernel
theorem dX3_takeProps_14 : decode cX3_takeProps 14 = .ok (.istore_n 2, 1) := by decide +kernel
theorem dX3_takeProps_15 : decode cX3_takeProps 15 = .ok (.aload_n 0, 1) := by decide +kernel
theorem dX3_takeProps_16 : decode cX3_takeProps 16 = .ok (.dup, 1) := by decide +kernel
theorem dX3_takeProps_17 : decode cX3_takeProps 17 = .ok (.getfield 34, 3) := by decide +kernel
theorem dX3_takeProps_20 : decode cX3_takeProps 20 = .ok (.iconst 1, 1) := by decide +kernel
theorem dX3_takeProps_21 : decode cX3_takeProps 21 = .ok (.iload_n 1, 1) := by decide +kernel
theorem dX3_takeProps_22 : decode cX3_takeProps 22 = .ok (.ishl, 1) := by decide +kernel
theorem dX3_takeProps_23 : decode cX3_takeProps 23 = .ok (.iconst (-1), 1) := by decide +kernel
theorem dX3_takeProps_24 : decode cX3_takeProps 24 = .ok (.ixor, 1) := by decide +kernel
theorem dX3_takeProps_25 : decode cX3_takeProps 25 = .ok (.iand, 1) := by decide +kernel
theorem dX3_takeProps_26 : decode cX3_takeProps 26 = .ok (.putfield 34, 3) := by decide +kernel
theorem dX3_takeProps_29 : decode cX3_takeProps 29 = .ok (.aload_n 0, 1) := by decide +kernel
theorem dX3_takeProps_30 : decode cX3_takeProps 30 = .ok (.iload_n 1, 1) := by decide +kernel
theorem dX3_takeProps_31 : decode cX3_takeProps 31 = .ok (.iload_n 2, 1) := by decide +kernel
theorem dX3_takeProps_32 : decode cX3_takeProps 32 = .ok (.invokevirtual 71, 3) := by decide +kernel
theorem dX3_takeProps_35 : decode cX3_takeProps 35 = .ok (.iload_n 1, 1) := by decide +kernel
theorem dX3_takeProps_36 : decode cX3_takeProps 36 = .ok (.ifCond .le 12, 3) := by decide +kernel
theorem dX3_takeProps_39 : decode cX3_takeProps 39 = .ok (.aload_n 0, 1) := by decide +kernel
theorem dX3_takeProps_40 : decode cX3_takeProps 40 = .ok (.iload_n 1, 1) := by decide +kernel
theorem dX3_takeProps_41 : decode cX3_takeProps 41 = .ok (.iconst 1, 1) := by decide +kernel
theorem dX3_takeProps_42 : decode cX3_takeProps 42 = .ok (.isub, 1) := by decide +kernel
theorem dX3_takeProps_43 : decode cX3_takeProps 43 = .ok (.iload_n 2, 1) := by decide +kernel
theorem dX3_takeProps_44 : decode cX3_takeProps 44 = .ok (.ineg, 1) := by decide +kernel
theorem dX3_takeProps_45 : decode cX3_takeProps 45 = .ok (.invokevirtual 71, 3) := by decide +kernel
theorem dX3_takeProps_48 : decode cX3_takeProps 48 = .ok (.return_, 1) := by decide +kernel
set_option maxRecDepth 20000 in
theorem ggX3_shareAmong_X3_lowestOf : GoodIn wsX3_shareAmong wsX3_lowestOf := goodIn_r _ [15, 16, 17, 18, 14, 19, 20, 50, 51, 52, 53, 54, 55, 56, 57] (by decide +kernel) (by decide +kernel)
set_option maxRecDepth 20000 in
theorem gX3_shareAmong_X3_lowestOf : GoodIn wsX3_shareAmong (wsV RX3 49 RX3 yX3_lowestOf wsX3_lowestOf) := goodIn_app (goodIn_of _ (by decide +kernel)) ggX3_shareAmong_X3_lowestOf
set_option maxRecDepth 20000 in
theorem ggX3_shareAmong_X3_isPropped : GoodIn wsX3_shareAmong wsX3_isPropped := goodIn_r _ [19, 20, 50, 51, 52, 53, 54, 55, 56, 57] (by decide +kernel) (by decide +kernel)
set_option maxRecDepth 20000 in
theorem gX3_shareAmong_X3_isPropped : GoodIn wsX3_shareAmong (wsV RX3 45 RX3 yX3_isPropped wsX3_isPropped) := goodIn_app (goodIn_of _ (by decide +kernel)) ggX3_shareAmong_X3_isPropped
set_option maxRecDepth 20000 in
theorem ggX3_shareAmong_X3_highestOf : GoodIn wsX3_shareAmong wsX3_highestOf := goodIn_r _ [24, 25, 16, 17, 18, 14, 19, 20, 50, 51, 52, 53, 54, 55, 56, 57] (by decide +kernel) (by decide +kernel)
set_option maxRecDepth 20000 in
theorem gX3_shareAmong_X3_highestOf : GoodIn wsX3_shareAmong (wsV RX3 52 RX3 yX3_highestOf wsX3_highestOf) := goodIn_app (goodIn_of _ (by decide +kernel)) ggX3_shareAmong_X3_highestOf
set_option maxRecDepth 20000 in
theorem ggX3_shareAmong_X3_ageOf : GoodIn wsX3_shareAmong wsX3_ageOf := goodIn_r _ [29, 30, 31, 50, 51, 52, 53, 54, 55, 56, 57] (by decide +kernel) (by decide +kernel)
set_option maxRecDepth 20000 in
theorem gX3_shareAmong_X3_ageOf : GoodIn wsX3_shareAmong (wsV RX3 37 RX3 yX3_ageOf wsX3_ageOf) := goodIn_app (goodIn_of _ (by decide +kernel)) ggX3_shareAmong_X3_ageOf
set_option maxRecDepth 20000 in
theorem ggX3_shareAmong_X3_strengthOf : GoodIn wsX3_shareAmong wsX3_strengthOf := goodIn_r _ [35, 36, 1, 26, 27, 28, 14, 29, 30, 31, 37, 38, 39, 40, 41, 50, 51, 52, 53, 54, 55, 56, 57] (by decide +kernel) (by decide +kernel)
set_option maxRecDepth 20000 in
theorem gX3_shareAmong_X3_strengthOf : GoodIn wsX3_shareAmong (wsV RX3 55 RX3 yX3_strengthOf wsX3_strengthOf) := goodIn_app (goodIn_of _ (by decide +kernel)) ggX3_shareAmong_X3_strengthOf
set_option maxRecDepth 20000 in
theorem ggX3_shareAmong_J7_fill_53178 : GoodIn wsX3_shareAmong wsJ7_fill_53178 := goodIn_r _ [45] (by decide +kernel) (by decide +kernel)
set_option maxRecDepth 20000 in
theorem gX3_shareAmong_J7_fill_53178 : GoodIn wsX3_shareAmong (va_wsS RX3 84 yJ7_fill_53178 wsJ7_fill_53178) := goodIn_app (goodIn_of _ (by decide +kernel)) ggX3_shareAmong_J7_fill_53178
set_option maxRecDepth 20000 in
theorem ggX3_shareAmong_X3_spreadByOnes : GoodIn wsX3_shareAmong wsX3_spreadByOnes := goodIn_r _ [49, 2, 10, 50, 51, 52, 53, 54, 55, 56, 57] (by decide +kernel) (by decide +kernel)
set_option maxRecDepth 20000 in
theorem gX3_shareAmong_X3_spreadByOnes : GoodIn wsX3_shareAmong (wsV RX3 90 RX3 yX3_spreadByOnes wsX3_spreadByOnes) := goodIn_app (goodIn_of _ (by decide +kernel)) ggX3_shareAmong_X3_spreadByOnes
theorem dX3_shareAmong_0 : decode cX3_shareAmong 0 = .ok (.aload_n 0, 1) := by decide +kernel
theorem dX3_shareAmong_1 : decode cX3_shareAmong 1 = .ok (.iload_n 1, 1) := by decide +kernel
theorem dX3_shareAmong_2 : decode cX3_shareAmong 2 = .ok (.invokevirtual 49, 3) := by decide +kernel
theorem dX3_shareAmong_5 : decode cX3_shareAmong 5 = .ok (.istore_n 3, 1) := by decide +kernel
theorem dX3_shareAmong_6 : decode cX3_shareAmong 6 = .ok (.iload_n 3, 1) := by decide +kernel
theorem dX3_shareAmong_7 : decode cX3_shareAmong 7 = .ok (.ifCond .ne 12, 3) := by decide +kernel
theorem dX3_shareAmong_10 : decode cX3_shareAmong 10 = .ok (.aload_n 0, 1) := by decide +kernel
theorem dX3_shareAmong_11 : decode cX3_shareAmong 11 = .ok (.iconst 0, 1) := by decide +kernel
theorem dX3_shareAmong_12 : decode cX3_shareAmong 12 = .ok (.invokevirtual 45, 3) := by decide +kernel
theorem dX3_shareAmong_15 : decode cX3_shareAmong 15 = .ok (.ifCond .eq 4, 3) := by decide +kernel
theorem dX3_shareAmong_18 : decode cX3_shareAmong 18 = .ok (.return_, 1) := by decide +kernel
theorem dX3_shareAmong_19 : decode cX3_shareAmong 19 = .ok (.aload_n 0, 1) := by decide +kernel
theorem dX3_shareAmong_20 : decode cX3_shareAmong 20 = .ok (.iload_n 1, 1) := by decide +kernel
theorem dX3_shareAmong_21 : decode cX3_shareAmong 21 = .ok (.invokevirtual 52, 3) := by decide +kernel
theorem dX3_shareAmong_24 : decode cX3_shareAmong 24 = .ok (.istore 4, 2) := by decide +kernel
theorem dX3_shareAmong_26 : decode cX3_shareAmong 26 = .ok (.aload_n 0, 1) := by decide +kernel
theorem dX3_shareAmong_27 : decode cX3_shareAmong 27 = .ok (.getfield 9, 3) := by decide +kernel
theorem dX3_shareAmong_30 : decode cX3_shareAmong 30 = .ok (.iconst 3, 1) := by decide +kernel
theorem dX3_shareAmong_31 : decode cX3_shareAmong 31 = .ok (.iaload, 1) := by decide +kernel
theorem dX3_shareAmong_32 : decode cX3_shareAmong 32 = .ok (.istore 5, 2) := by decide +kernel
theorem dX3_shareAmong_34 : decode cX3_shareAmong 34 = .ok (.lconst 0, 1) := by decide +kernel
theorem dX3_shareAmong_35 : decode cX3_shareAmong 35 = .ok (.lstore 6, 2) := by decide +kernel
theorem dX3_shareAmong_37 : decode cX3_shareAmong 37 = .ok (.iload_n 3, 1) := by decide +kernel
theorem dX3_shareAmong_38 : decode cX3_shareAmong 38 = .ok (.istore 8, 2) := by decide +kernel
theorem dX3_shareAmong_40 : decode cX3_shareAmong 40 = .ok (.iload 8, 2) := by decide +kernel
theorem dX3_shareAmong_42 : decode cX3_shareAmong 42 = .ok (.iload 4, 2) := by decide +kernel
theorem dX3_shareAmong_44 : decode cX3_shareAmong 44 = .ok (.if_icmp .gt 69, 3) := by decide +kernel
theorem dX3_shareAmong_47 : decode cX3_shareAmong 47 = .ok (.aload_n 0, 1) := by decide +kernel
theorem dX3_shareAmong_48 : decode cX3_shareAmong 48 = .ok (.iload 8, 2) := by decide +kernel
theorem dX3_shareAmong_50 : decode cX3_shareAmong 50 = .ok (.invokevirtual 37, 3) := by decide +kernel
theorem dX3_shareAmong_53 : decode cX3_shareAmong 53 = .ok (.istore 9, 2) := by decide +kernel
theorem dX3_shareAmong_55 : decode cX3_shareAmong 55 = .ok (.aload_n 0, 1) := by decide +kernel
theorem dX3_shareAmong_56 : decode cX3_shareAmong 56 = .ok (.getfield 24, 3) := by decide +kernel
theorem dX3_shareAmong_59 : decode cX3_shareAmong 59 = .ok (.iload 8, 2) := by decide +kernel
theorem dX3_shareAmong_61 : decode cX3_shareAmong 61 = .ok (.iload 5, 2) := by decide +kernel
theorem dX3_shareAmong_63 : decode cX3_shareAmong 63 = .ok (.iconst 1, 1) := by decide +kernel
theorem dX3_shareAmong_64 : decode cX3_shareAmong 64 = .ok (.if_icmp .ne 12, 3) := by decide +kernel
theorem dX3_shareAmong_67 : decode cX3_shareAmong 67 = .ok (.aload_n 0, 1) := by decide +kernel
theorem dX3_shareAmong_68 : decode cX3_shareAmong 68 = .ok (.iload 8, 2) := by decide +kernel
theorem dX3_shareAmong_70 : decode cX3_shareAmong 70 = .ok (.invokevirtual 55, 3) := by decide +kernel
theorem dX3_shareAmong_73 : decode cX3_shareAmong 73 = .ok (.goto 20, 3) := by decide +kernel
theorem dX3_shareAmong_76 : decode cX3_shareAmong 76 = .ok (.iload 5, 2) := by decide +kernel
theorem dX3_shareAmong_78 : decode cX3_shareAmong 78 = .ok (.iconst 2, 1) := by decide +kernel
theorem dX3_shareAmong_79 : decode cX3_shareAmong 79 = .ok (.if_icmp .ne 8, 3) := by decide +kernel
theorem dX3_shareAmong_82 : decode cX3_shareAmong 82 = .ok (.iload 9, 2) := by decide +kernel
theorem dX3_shareAmong_84 : decode cX3_shareAmong 84 = .ok (.goto 9, 3) := by decide +kernel
theorem dX3_shareAmong_87 : decode cX3_shareAmong 87 = .ok (.iload 9, 2) := by decide +kernel
theorem dX3_shareAmong_89 : decode cX3_shareAmong 89 = .ok (.iconst 1, 1) := by decide +kernel
theorem dX3_shareAmong_90 : decode cX3_shareAmong 90 = .ok (.invokestatic 81, 3) := by decide +kernel
theorem dX3_shareAmong_93 : decode cX3_shareAmong 93 = .ok (.iastore, 1) := by decide +kernel
theorem dX3_shareAmong_94 : decode cX3_shareAmong 94 = .ok (.lload 6, 2) := by decide +kernel
theorem dX3_shareAmong_96 : decode cX3_shareAmong 96 = .ok (.aload_n 0, 1) := by decide +kernel
theorem dX3_shareAmong_97 : decode cX3_shareAmong 97 = .ok (.getfield 24, 3) := by decide +kernel
theorem dX3_shareAmong_100 : decode cX3_shareAmong 100 = .ok (.iload 8, 2) := by decide +kernel
theorem dX3_shareAmong_102 : decode cX3_shareAmong 102 = .ok (.iaload, 1) := by decide +kernel
theorem dX3_shareAmong_103 : decode cX3_shareAmong 103 = .ok (.i2l, 1) := by decide +kernel
theorem dX3_shareAmong_104 : decode cX3_shareAmong 104 = .ok (.ladd, 1) := by decide +kernel
theorem dX3_shareAmong_105 : decode cX3_shareAmong 105 = .ok (.lstore 6, 2) := by decide +kernel
theorem dX3_shareAmong_107 : decode cX3_shareAmong 107 = .ok (.iinc 8 1, 3) := by decide +kernel
theorem dX3_shareAmong_110 : decode cX3_shareAmong 110 = .ok (.goto (-70), 3) := by decide +kernel
theorem dX3_shareAmong_113 : decode cX3_shareAmong 113 = .ok (.lload 6, 2) := by decide +kernel
theorem dX3_shareAmong_115 : decode cX3_shareAmong 115 = .ok (.lconst 0, 1) := by decide +kernel
theorem dX3_shareAmong_116 : decode cX3_shareAmong 116 = .ok (.lcmp, 1) := by decide +kernel
theorem dX3_shareAmong_117 : decode cX3_shareAmong 117 = .ok (.ifCond .gt 24, 3) := by decide +kernel
theorem dX3_shareAmong_120 : decode cX3_shareAmong 120 = .ok (.aload_n 0, 1) := by decide +kernel
theorem dX3_shareAmong_121 : decode cX3_shareAmong 121 = .ok (.getfield 24, 3) := by decide +kernel
theorem dX3_shareAmong_124 : decode cX3_shareAmong 124 = .ok (.iconst 1, 1) := by decide +kernel
theorem dX3_shareAmong_125 : decode cX3_shareAmong 125 = .ok (.invokestatic 84, 3) := by decide +kernel
theorem dX3_shareAmong_128 : decode cX3_shareAmong 128 = .ok (.iconst 1, 1) := by decide +kernel
theorem dX3_shareAmong_129 : decode cX3_shareAmong 129 = .ok (.iload 4, 2) := by decide +kernel
theorem dX3_shareAmong_131 : decode cX3_shareAmong 131 = .ok (.iload_n 3, 1) := by decide +kernel
theorem dX3_shareAmong_132 : decode cX3_shareAmong 132 = .ok (.isub, 1) := by decide +kernel
theorem dX3_shareAmong_133 : decode cX3_shareAmong 133 = .ok (.iconst 1, 1) := by decide +kernel
theorem dX3_shareAmong_134 : decode cX3_shareAmong 134 = .ok (.iadd, 1) := by decide +kernel
theorem dX3_shareAmong_135 : decode cX3_shareAmong 135 = .ok (.invokestatic 62, 3) := by decide +kernel
theorem dX3_shareAmong_138 : decode cX3_shareAmong 138 = .ok (.i2l, 1) := by decide +kernel
theorem dX3_shareAmong_139 : decode cX3_shareAmong 139 = .ok (.lstore 6, 2) := by decide +kernel
theorem dX3_shareAmong_141 : decode cX3_shareAmong 141 = .ok (.iload_n 2, 1) := by decide +kernel
theorem dX3_shareAmong_142 : decode cX3_shareAmong 142 = .ok (.istore 8, 2) := by decide +kernel
theorem dX3_shareAmong_144 : decode cX3_shareAmong 144 = .ok (.iload_n 3, 1) := by decide +kernel
theorem dX3_shareAmong_145 : decode cX3_shareAmong 145 = .ok (.istore 9, 2) := by decide +kernel
theorem dX3_shareAmong_147 : decode cX3_shareAmong 147 = .ok (.iload 9, 2) := by decide +kernel
theorem dX3_shareAmong_149 : decode cX3_shareAmong 149 = .ok (.iload 4, 2) := by decide +kernel
theorem dX3_shareAmong_151 : decode cX3_shareAmong 151 = .ok (.if_icmp .gt 45, 3) := by decide +kernel
theorem dX3_shareAmong_154 : decode cX3_shareAmong 154 = .ok (.iload_n 2, 1) := by decide +kernel
theorem dX3_shareAmong_155 : decode cX3_shareAmong 155 = .ok (.i2l, 1) := by decide +kernel
theorem dX3_shareAmong_156 : decode cX3_shareAmong 156 = .ok (.aload_n 0, 1) := by decide +kernel
theorem dX3_shareAmong_157 : decode cX3_shareAmong 157 = .ok (.getfield 24, 3) := by decide +kernel
theorem dX3_shareAmong_160 : decode cX3_shareAmong 160 = .ok (.iload 9, 2) := by decide +kernel
theorem dX3_shareAmong_162 : decode cX3_shareAmong 162 = .ok (.iaload, 1) := by decide +kernel
theorem dX3_shareAmong_163 : decode cX3_shareAmong 163 = .ok (.i2l, 1) := by decide +kernel
theorem dX3_shareAmong_164 : decode cX3_shareAmong 164 = .ok (.lmul, 1) := by decide +kernel
theorem dX3_shareAmong_165 : decode cX3_shareAmong 165 = .ok (.lload 6, 2) := by decide +kernel
theorem dX3_shareAmong_167 : decode cX3_shareAmong 167 = .ok (.ldiv, 1) := by decide +kernel
theorem dX3_shareAmong_168 : decode cX3_shareAmong 168 = .ok (.l2i, 1) := by decide +kernel
theorem dX3_shareAmong_169 : decode cX3_shareAmong 169 = .ok (.istore 10, 2) := by decide +kernel
theorem dX3_shareAmong_171 : decode cX3_shareAmong 171 = .ok (.aload_n 0, 1) := by decide +kernel
theorem dX3_shareAmong_172 : decode cX3_shareAmong 172 = .ok (.getfield 21, 3) := by decide +kernel
theorem dX3_shareAmong_175 : decode cX3_shareAmong 175 = .ok (.iload 9, 2) := by decide +kernel
theorem dX3_shareAmong_177 : decode cX3_shareAmong 177 = .ok (.dup2, 1) := by decide +kernel
theorem dX3_shareAmong_178 : decode cX3_shareAmong 178 = .ok (.iaload, 1) := by decide +kernel
theorem dX3_shareAmong_179 : decode cX3_shareAmong 179 = .ok (.iload 10, 2) := by decide +kernel
theorem dX3_shareAmong_181 : decode cX3_shareAmong 181 = .ok (.iadd, 1) := by decide +kernel
theorem dX3_shareAmong_182 : decode cX3_shareAmong 182 = .ok (.iastore, 1) := by decide +kernel
theorem dX3_shareAmong_183 : decode cX3_shareAmong 183 = .ok (.iload 8, 2) := by decide +kernel
theorem dX3_shareAmong_185 : decode cX3_shareAmong 185 = .ok (.iload 10, 2) := by decide +kernel
theorem dX3_shareAmong_187 : decode cX3_shareAmong 187 = .ok (.isub, 1) := by decide +kernel
theorem dX3_shareAmong_188 : decode cX3_shareAmong 188 = .ok (.istore 8, 2) := by decide +kernel
theorem dX3_shareAmong_190 : decode cX3_shareAmong 190 = .ok (.iinc 9 1, 3) := by decide +kernel
theorem dX3_shareAmong_193 : decode cX3_shareAmong 193 = .ok (.goto (-46), 3) := by decide +kernel
theorem dX3_shareAmong_196 : decode cX3_shareAmong 196 = .ok (.aload_n 0, 1) := by decide +kernel
theorem dX3_shareAmong_197 : decode cX3_shareAmong 197 = .ok (.iload_n 3, 1) := by decide +kernel
theorem dX3_shareAmong_198 : decode cX3_shareAmong 198 = .ok (.iload 4, 2) := by decide +kernel
theorem dX3_shareAmong_200 : decode cX3_shareAmong 200 = .ok (.iload 8, 2) := by decide +kernel
theorem dX3_shareAmong_202 : decode cX3_shareAmong 202 = .ok (.invokevirtual 90, 3) := by decide +kernel
theorem dX3_shareAmong_205 : decode cX3_shareAmong 205 = .ok (.return_, 1) := by decide +kernel
theorem dX3_spreadByOnes_0 : decode cX3_spreadByOnes 0 = .ok (.iload_n 3, 1) := by decide +kernel
theorem dX3_spreadByOnes_1 : decode cX3_spreadByOnes 1 = .ok (.ifCond .ge 7, 3) := by decide +kernel
theorem dX3_spreadByOnes_4 : decode cX3_spreadByOnes 4 = .ok (.iconst (-1), 1) := by decide +kernel
theorem dX3_spreadByOnes_5 : decode cX3_spreadByOnes 5 = .ok (.goto 4, 3) := by decide +kernel
theorem dX3_spreadByOnes_8 : decode cX3_spreadByOnes 8 = .ok (.iconst 1, 1) := by decide +kernel
theorem dX3_spreadByOnes_9 : decode cX3_spreadByOnes 9 = .ok (.istore 4, 2) := by decide +kernel
theorem dX3_spreadByOnes_11 : decode cX3_spreadByOnes 11 = .ok (.iload_n 3, 1) := by decide +kernel
theorem dX3_spreadByOnes_12 : decode cX3_spreadByOnes 12 = .ok (.istore 5, 2) := by decide +kernel
theorem dX3_spreadByOnes_14 : decode cX3_spreadByOnes 14 = .ok (.iload_n 1, 1) := by decide +kernel
theorem dX3_spreadByOnes_15 : decode cX3_spreadByOnes 15 = .ok (.istore 6, 2) := by decide +kernel
theorem dX3_spreadByOnes_17 : decode cX3_spreadByOnes 17 = .ok (.iload 6, 2) := by decide +kernel
theorem dX3_spreadByOnes_19 : decode cX3_spreadByOnes 19 = .ok (.iload_n 2, 1) := by decide +kernel
theorem dX3_spreadByOnes_20 : decode cX3_spreadByOnes 20 = .ok (.if_icmp .gt 43, 3) := by decide +kernel
theorem dX3_spreadByOnes_23 : decode cX3_spreadByOnes 23 = .ok (.iload 5, 2) := by decide +kernel
theorem dX3_spreadByOnes_25 : decode cX3_spreadByOnes 25 = .ok (.ifCond .eq 38, 3) := by decide +kernel
theorem dX3_spreadByOnes_28 : decode cX3_spreadByOnes 28 = .ok (.aload_n 0, 1) := by decide +kernel
theorem dX3_spreadByOnes_29 : decode cX3_spreadByOnes 29 = .ok (.getfield 24, 3) := by decide +kernel
theorem dX3_spreadByOnes_32 : decode cX3_spreadByOnes 32 = .ok (.iload 6, 2) := by decide +kernel
theorem dX3_spreadByOnes_34 : decode cX3_spreadByOnes 34 = .ok (.iaload, 1) := by decide +kernel
theorem dX3_spreadByOnes_35 : decode cX3_spreadByOnes 35 = .ok (.ifCond .le 22, 3) := by decide +kernel
theorem dX3_spreadByOnes_38 : decode cX3_spreadByOnes 38 = .ok (.aload_n 0, 1) := by decide +kernel
theorem dX3_spreadByOnes_39 : decode cX3_spreadByOnes 39 = .ok (.getfield 21, 3) := by decide +kernel
theorem dX3_spreadByOnes_42 : decode cX3_spreadByOnes 42 = .ok (.iload 6, 2) := by decide +kernel
theorem dX3_spreadByOnes_44 : decode cX3_spreadByOnes 44 = .ok (.dup2, 1) := by decide +kernel
theorem dX3_spreadByOnes_45 : decode cX3_spreadByOnes 45 = .ok (.iaload, 1) := by decide +kernel
theorem dX3_spreadByOnes_46 : decode cX3_spreadByOnes 46 = .ok (.iload 4, 2) := by decide +kernel
theorem dX3_spreadByOnes_48 : decode cX3_spreadByOnes 48 = .ok (.iadd, 1) := by decide +kernel
theorem dX3_spreadByOnes_49 : decode cX3_spreadByOnes 49 = .ok (.iastore, 1) := by decide +kernel
theorem dX3_spreadByOnes_50 : decode cX3_spreadByOnes 50 = .ok (.iload 5, 2) := by decide +kernel
theorem dX3_spreadByOnes_52 : decode cX3_spreadByOnes 52 = .ok (.iload 4, 2) := by decide +kernel
theorem dX3_spreadByOnes_54 : decode cX3_spreadByOnes 54 = .ok (.isub, 1) := by decide +kernel
theorem dX3_spreadByOnes_55 : decode cX3_spreadByOnes 55 = .ok (.istore 5, 2) := by decide +kernel
theorem dX3_spreadByOnes_57 : decode cX3_spreadByOnes 57 = .ok (.iinc 6 1, 3) := by decide +kernel
theorem dX3_spreadByOnes_60 : decode cX3_spreadByOnes 60 = .ok (.goto (-43), 3) := by decide +kernel
theorem dX3_spreadByOnes_63 : decode cX3_spreadByOnes 63 = .ok (.return_, 1) := by decide +kernel
