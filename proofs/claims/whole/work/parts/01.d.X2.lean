theorem dX2_init_0 : decode cX2_init 0 = .ok (.aload_n 0, 1) := by decide +kernel
theorem dX2_init_1 : decode cX2_init 1 = .ok (.invokespecial 3, 3) := by decide +kernel
theorem dX2_init_4 : decode cX2_init 4 = .ok (.aload_n 0, 1) := by decide +kernel
theorem dX2_init_5 : decode cX2_init 5 = .ok (.bipush 20, 2) := by decide +kernel
theorem dX2_init_7 : decode cX2_init 7 = .ok (.newarray .int, 2) := by decide +kernel
theorem dX2_init_9 : decode cX2_init 9 = .ok (.putfield 9, 3) := by decide +kernel
theorem dX2_init_12 : decode cX2_init 12 = .ok (.aload_n 0, 1) := by decide +kernel
theorem dX2_init_13 : decode cX2_init 13 = .ok (.bipush 100, 2) := by decide +kernel
theorem dX2_init_15 : decode cX2_init 15 = .ok (.newarray .int, 2) := by decide +kernel
theorem dX2_init_17 : decode cX2_init 17 = .ok (.putfield 15, 3) := by decide +kernel
theorem dX2_init_20 : decode cX2_init 20 = .ok (.aload_n 0, 1) := by decide +kernel
theorem dX2_init_21 : decode cX2_init 21 = .ok (.bipush 6, 2) := by decide +kernel
theorem dX2_init_23 : decode cX2_init 23 = .ok (.newarray .int, 2) := by decide +kernel
theorem dX2_init_25 : decode cX2_init 25 = .ok (.putfield 18, 3) := by decide +kernel
theorem dX2_init_28 : decode cX2_init 28 = .ok (.aload_n 0, 1) := by decide +kernel
theorem dX2_init_29 : decode cX2_init 29 = .ok (.bipush 64, 2) := by decide +kernel
theorem dX2_init_31 : decode cX2_init 31 = .ok (.newarray .int, 2) := by decide +kernel
theorem dX2_init_33 : decode cX2_init 33 = .ok (.putfield 21, 3) := by decide +kernel
theorem dX2_init_36 : decode cX2_init 36 = .ok (.aload_n 0, 1) := by decide +kernel
theorem dX2_init_37 : decode cX2_init 37 = .ok (.sipush 1344, 3) := by decide +kernel
theorem dX2_init_40 : decode cX2_init 40 = .ok (.newarray .int, 2) := by decide +kernel
theorem dX2_init_42 : decode cX2_init 42 = .ok (.putfield 24, 3) := by decide +kernel
theorem dX2_init_45 : decode cX2_init 45 = .ok (.aload_n 0, 1) := by decide +kernel
theorem dX2_init_46 : decode cX2_init 46 = .ok (.bipush 8, 2) := by decide +kernel
theorem dX2_init_48 : decode cX2_init 48 = .ok (.newarray .int, 2) := by decide +kernel
theorem dX2_init_50 : decode cX2_init 50 = .ok (.putfield 27, 3) := by decide +kernel
theorem dX2_init_53 : decode cX2_init 53 = .ok (.aload_n 0, 1) := by decide +kernel
theorem dX2_init_54 : decode cX2_init 54 = .ok (.bipush 8, 2) := by decide +kernel
theorem dX2_init_56 : decode cX2_init 56 = .ok (.newarray .int, 2) := by decide +kernel
theorem dX2_init_58 : decode cX2_init 58 = .ok (.putfield 30, 3) := by decide +kernel
theorem dX2_init_61 : decode cX2_init 61 = .ok (.aload_n 0, 1) := by decide +kernel
theorem dX2_init_62 : decode cX2_init 62 = .ok (.iconst 1, 1) := by decide +kernel
theorem dX2_init_63 : decode cX2_init 63 = .ok (.putfield 33, 3) := by decide +kernel
theorem dX2_init_66 : decode cX2_init 66 = .ok (.aload_n 0, 1) := by decide +kernel
theorem dX2_init_67 : decode cX2_init 67 = .ok (.iconst 0, 1) := by decide +kernel
theorem dX2_init_68 : decode cX2_init 68 = .ok (.putfield 37, 3) := by decide +kernel
theorem dX2_init_71 : decode cX2_init 71 = .ok (.aload_n 0, 1) := by decide +kernel
theorem dX2_init_72 : decode cX2_init 72 = .ok (.iconst 0, 1) := by decide +kernel
theorem dX2_init_73 : decode cX2_init 73 = .ok (.putfield 41, 3) := by decide +kernel
theorem dX2_init_76 : decode cX2_init 76 = .ok (.aload_n 0, 1) := by decide +kernel
theorem dX2_init_77 : decode cX2_init 77 = .ok (.iconst 0, 1) := by decide +kernel
theorem dX2_init_78 : decode cX2_init 78 = .ok (.putfield 44, 3) := by decide +kernel
theorem dX2_init_81 : decode cX2_init 81 = .ok (.aload_n 0, 1) := by decide +kernel
theorem dX2_init_82 : decode cX2_init 82 = .ok (.iconst (-1), 1) := by decide +kernel
theorem dX2_init_83 : decode cX2_init 83 = .ok (.putfield 47, 3) := by decide +kernel
theorem dX2_init_86 : decode cX2_init 86 = .ok (.aload_n 0, 1) := by decide +kernel
theorem dX2_init_87 : decode cX2_init 87 = .ok (.iconst 0, 1) := by decide +kernel
theorem dX2_init_88 : decode cX2_init 88 = .ok (.putfield 50, 3) := by decide +kernel
theorem dX2_init_91 : decode cX2_init 91 = .ok (.aload_n 0, 1) := by decide +kernel
theorem dX2_init_92 : decode cX2_init 92 = .ok (.aload_n 1, 1) := by decide +kernel
theorem dX2_init_93 : decode cX2_init 93 = .ok (.putfield 53, 3) := by decide +kernel
theorem dX2_init_96 : decode cX2_init 96 = .ok (.return_, 1) := by decide +kernel
theorem dX2_forget_0 : decode cX2_forget 0 = .ok (.aload_n 0, 1) := by decide +kernel
theorem dX2_forget_1 : decode cX2_forget 1 = .ok (.iconst 1, 1) := by decide +kernel
theorem dX2_forget_2 : decode cX2_forget 2 = .ok (.putfield 33, 3) := by decide +kernel
theorem dX2_forget_5 : decode cX2_forget 5 = .ok (.return_, 1) := by decide +kernel
set_option maxRecDepth 20000 in
theorem ggX2_lookAnew_X4_size : GoodIn wsX2_lookAnew wsX4_size := goodIn_r _ [16, 17, 129, 130, 131, 132] (by decide +kernel) (by decide +kernel)
set_option maxRecDepth 20000 in
theorem gX2_lookAnew_X4_size : GoodIn wsX2_lookAnew (wsV RX2 63 RX4 yX4_size wsX4_size) := goodIn_app (goodIn_of _ (by decide +kernel)) ggX2_lookAnew_X4_size
set_option maxRecDepth 20000 in
theorem ggX2_lookAnew_X2_orderBows : GoodIn wsX2_lookAnew wsX2_orderBows := goodIn_r _ [22, 7, 23, 24, 25, 26, 21, 27, 2, 28, 29, 30, 15, 31, 17, 32, 33, 109, 110, 111, 112, 113, 114, 115, 116, 117, 118, 119, 120, 121, 122, 123, 124, 125, 126, 127, 128, 129, 130, 131, 132] (by decide +kernel) (by decide +kernel)
set_option maxRecDepth 20000 in
theorem gX2_lookAnew_X2_orderBows : GoodIn wsX2_lookAnew (wsV RX2 75 RX2 yX2_orderBows wsX2_orderBows) := goodIn_app (goodIn_of _ (by decide +kernel)) ggX2_lookAnew_X2_orderBows
set_option maxRecDepth 20000 in
theorem ggX2_lookAnew_X2_countSteps : GoodIn wsX2_lookAnew wsX2_countSteps := goodIn_r _ [37, 7, 23, 38, 24, 25, 26, 21, 27, 2, 28, 29, 30, 15, 31, 17, 32, 33, 109, 110, 111, 112, 113, 114, 115, 116, 117, 118, 119, 120, 121, 122, 123, 124, 125, 126, 127, 128, 129, 130, 131, 132] (by decide +kernel) (by decide +kernel)
set_option maxRecDepth 20000 in
theorem gX2_lookAnew_X2_countSteps : GoodIn wsX2_lookAnew (wsV RX2 78 RX2 yX2_countSteps wsX2_countSteps) := goodIn_app (goodIn_of _ (by decide +kernel)) ggX2_lookAnew_X2_countSteps
set_option maxRecDepth 20000 in
theorem ggX2_lookAnew_X2_findDoubts : GoodIn wsX2_lookAnew wsX2_findDoubts := goodIn_r _ [42, 43, 44, 7, 2, 45, 46, 47, 48, 49, 50, 51, 52, 29, 30, 15, 31, 17, 32, 33, 109, 110, 111, 112, 113, 114, 115, 116, 117, 118, 119, 120, 121, 122, 123, 124, 125, 126, 127, 128, 129, 130, 131, 132] (by decide +kernel) (by decide +kernel)
set_option maxRecDepth 20000 in
theorem gX2_lookAnew_X2_findDoubts : GoodIn wsX2_lookAnew (wsV RX2 81 RX2 yX2_findDoubts wsX2_findDoubts) := goodIn_app (goodIn_of _ (by decide +kernel)) ggX2_lookAnew_X2_findDoubts
set_option maxRecDepth 20000 in
theorem ggX2_lookAnew_X2_size : GoodIn wsX2_lookAnew wsX2_size := goodIn_r _ [56, 43, 109, 110, 111, 112, 113, 114, 115, 116, 117, 118, 119, 120, 121, 122] (by decide +kernel) (by decide +kernel)
set_option maxRecDepth 20000 in
theorem gX2_lookAnew_X2_size : GoodIn wsX2_lookAnew (wsV RX2 84 RX2 yX2_size wsX2_size) := goodIn_app (goodIn_of _ (by decide +kernel)) ggX2_lookAnew_X2_size
set_option maxRecDepth 20000 in
theorem ggX2_lookAnew_X2_weightOf : GoodIn wsX2_lookAnew wsX2_weightOf := goodIn_r _ [60, 43, 2, 45, 28, 29, 30, 15, 31, 17, 32, 33, 109, 110, 111, 112, 113, 114, 115, 116, 117, 118, 119, 120, 121, 122, 123, 124, 125, 126, 127, 128, 129, 130, 131, 132] (by decide +kernel) (by decide +kernel)
set_option maxRecDepth 20000 in
theorem gX2_lookAnew_X2_weightOf : GoodIn wsX2_lookAnew (wsV RX2 85 RX2 yX2_weightOf wsX2_weightOf) := goodIn_app (goodIn_of _ (by decide +kernel)) ggX2_lookAnew_X2_weightOf
set_option maxRecDepth 20000 in
theorem ggX2_lookAnew_X2_judge : GoodIn wsX2_lookAnew wsX2_judge := goodIn_r _ [64, 2, 9, 65, 66, 5, 67, 11, 10, 68, 8, 69, 70, 71, 21, 72, 73, 74, 7, 23, 75, 76, 77, 78, 44, 79, 80, 81, 82, 43, 45, 28, 29, 30, 15, 31, 17, 32, 33, 83, 84, 85, 86, 87, 88, 89, 90, 91, 92, 93, 94, 95, 96, 12, 13, 14, 16, 97, 98, 99, 100, 101, 102, 103, 104, 38, 105, 106, 107, 108, 53, 54, 55, 56, 109, 110, 111, 112, 113, 114, 115, 116, 117, 118, 119, 120, 121, 122, 123, 124, 125, 126, 127, 128, 129, 130, 131, 132] (by decide +kernel) (by decide +kernel)
set_option maxRecDepth 20000 in
theorem gX2_lookAnew_X2_judge : GoodIn wsX2_lookAnew (wsV RX2 89 RX2 yX2_judge wsX2_judge) := goodIn_app (goodIn_of _ (by decide +kernel)) ggX2_lookAnew_X2_judge
theorem dX2_lookAnew_0 : decode cX2_lookAnew 0 = .ok (.aload_n 0, 1) := by decide +kernel
theorem dX2_lookAnew_1 : decode cX2_lookAnew 1 = .ok (.getfield 33, 3) := by decide +kernel
theorem dX2_lookAnew_4 : decode cX2_lookAnew 4 = .ok (.ifCond .ne 4, 3) := by decide +kernel
theorem dX2_lookAnew_7 : decode cX2_lookAnew 7 = .ok (.return_, 1) := by decide +kernel
theorem dX2_lookAnew_8 : decode cX2_lookAnew 8 = .ok (.aload_n 0, 1) := by decide +kernel
theorem dX2_lookAnew_9 : decode cX2_lookAnew 9 = .ok (.iconst 0, 1) := by decide +kernel
theorem dX2_lookAnew_10 : decode cX2_lookAnew 10 = .ok (.putfield 33, 3) := by decide +kernel
theorem dX2_lookAnew_13 : decode cX2_lookAnew 13 = .ok (.aload_n 0, 1) := by decide +kernel
theorem dX2_lookAnew_14 : decode cX2_lookAnew 14 = .ok (.aload_n 0, 1) := by decide +kernel
theorem dX2_lookAnew_15 : decode cX2_lookAnew 15 = .ok (.getfield 53, 3) := by decide +kernel
theorem dX2_lookAnew_18 : decode cX2_lookAnew 18 = .ok (.getfield 57, 3) := by decide +kernel
theorem dX2_lookAnew_21 : decode cX2_lookAnew 21 = .ok (.invokevirtual 63, 3) := by decide +kernel
theorem dX2_lookAnew_24 : decode cX2_lookAnew 24 = .ok (.bipush 20, 2) := by decide +kernel
theorem dX2_lookAnew_26 : decode cX2_lookAnew 26 = .ok (.invokestatic 69, 3) := by decide +kernel
theorem dX2_lookAnew_29 : decode cX2_lookAnew 29 = .ok (.putfield 37, 3) := by decide +kernel
theorem dX2_lookAnew_32 : decode cX2_lookAnew 32 = .ok (.aload_n 0, 1) := by decide +kernel
theorem dX2_lookAnew_33 : decode cX2_lookAnew 33 = .ok (.invokevirtual 75, 3) := by decide +kernel
theorem dX2_lookAnew_36 : decode cX2_lookAnew 36 = .ok (.aload_n 0, 1) := by decide +kernel
theorem dX2_lookAnew_37 : decode cX2_lookAnew 37 = .ok (.invokevirtual 78, 3) := by decide +kernel
theorem dX2_lookAnew_40 : decode cX2_lookAnew 40 = .ok (.aload_n 0, 1) := by decide +kernel
theorem dX2_lookAnew_41 : decode cX2_lookAnew 41 = .ok (.invokevirtual 81, 3) := by decide +kernel
theorem dX2_lookAnew_44 : decode cX2_lookAnew 44 = .ok (.aload_n 0, 1) := by decide +kernel
theorem dX2_lookAnew_45 : decode cX2_lookAnew 45 = .ok (.iconst (-1), 1) := by decide +kernel
theorem dX2_lookAnew_46 : decode cX2_lookAnew 46 = .ok (.putfield 47, 3) := by decide +kernel
theorem dX2_lookAnew_49 : decode cX2_lookAnew 49 = .ok (.aload_n 0, 1) := by decide +kernel
theorem dX2_lookAnew_50 : decode cX2_lookAnew 50 = .ok (.iconst 0, 1) := by decide +kernel
theorem dX2_lookAnew_51 : decode cX2_lookAnew 51 = .ok (.putfield 50, 3) := by decide +kernel
theorem dX2_lookAnew_54 : decode cX2_lookAnew 54 = .ok (.iconst 0, 1) := by decide +kernel
theorem dX2_lookAnew_55 : decode cX2_lookAnew 55 = .ok (.istore_n 1, 1) := by decide +kernel
theorem dX2_lookAnew_56 : decode cX2_lookAnew 56 = .ok (.iload_n 1, 1) := by decide +kernel
theorem dX2_lookAnew_57 : decode cX2_lookAnew 57 = .ok (.bipush 8, 2) := by decide +kernel
theorem dX2_lookAnew_59 : decode cX2_lookAnew 59 = .ok (.if_icmp .ge 16, 3) := by decide +kernel
theorem dX2_lookAnew_62 : decode cX2_lookAnew 62 = .ok (.aload_n 0, 1) := by decide +kernel
theorem dX2_lookAnew_63 : decode cX2_lookAnew 63 = .ok (.getfield 27, 3) := by decide +kernel
theorem dX2_lookAnew_66 : decode cX2_lookAnew 66 = .ok (.iload_n 1, 1) := by decide +kernel
theorem dX2_lookAnew_67 : decode cX2_lookAnew 67 = .ok (.iconst 0, 1) := by decide +kernel
theorem dX2_lookAnew_68 : decode cX2_lookAnew 68 = .ok (.iastore, 1) := by decide +kernel
theorem dX2_lookAnew_69 : decode cX2_lookAnew 69 = .ok (.iinc 1 1, 3) := by decide +kernel
theorem dX2_lookAnew_72 : decode cX2_lookAnew 72 = .ok (.goto (-16), 3) := by decide +kernel
theorem dX2_lookAnew_75 : decode cX2_lookAnew 75 = .ok (.iconst 0, 1) := by decide +kernel
theorem dX2_lookAnew_76 : decode cX2_lookAnew 76 = .ok (.istore_n 1, 1) := by decide +kernel
theorem dX2_lookAnew_77 : decode cX2_lookAnew 77 = .ok (.iload_n 1, 1) := by decide +kernel
theorem dX2_lookAnew_78 : decode cX2_lookAnew 78 = .ok (.aload_n 0, 1) := by decide +kernel
theorem dX2_lookAnew_79 : decode cX2_lookAnew 79 = .ok (.invokevirtual 84, 3) := by decide +kernel
theorem dX2_lookAnew_82 : decode cX2_lookAnew 82 = .ok (.if_icmp .ge 26, 3) := by decide +kernel
theorem dX2_lookAnew_85 : decode cX2_lookAnew 85 = .ok (.aload_n 0, 1) := by decide +kernel
theorem dX2_lookAnew_86 : decode cX2_lookAnew 86 = .ok (.getfield 21, 3) := by decide +kernel
theorem dX2_lookAnew_89 : decode cX2_lookAnew 89 = .ok (.iload_n 1, 1) := by decide +kernel
theorem dX2_lookAnew_90 : decode cX2_lookAnew 90 = .ok (.iconst 0, 1) := by decide +kernel
theorem dX2_lookAnew_91 : decode cX2_lookAnew 91 = .ok (.iastore, 1) := by decide +kernel
theorem dX2_lookAnew_92 : decode cX2_lookAnew 92 = .ok (.aload_n 0, 1) := by decide +kernel
theorem dX2_lookAnew_93 : decode cX2_lookAnew 93 = .ok (.iload_n 1, 1) := by decide +kernel
theorem dX2_lookAnew_94 : decode cX2_lookAnew 94 = .ok (.aload_n 0, 1) := by decide +kernel
theorem dX2_lookAnew_95 : decode cX2_lookAnew 95 = .ok (.iload_n 1, 1) := by decide +kernel
theorem dX2_lookAnew_96 : decode cX2_lookAnew 96 = .ok (.invokevirtual 85, 3) := by decide +kernel
theorem dX2_lookAnew_99 : decode cX2_lookAnew 99 = .ok (.invokevirtual 89, 3) := by decide +kernel
theorem dX2_lookAnew_102 : decode cX2_lookAnew 102 = .ok (.iinc 1 1, 3) := by decide +kernel
theorem dX2_lookAnew_105 : decode cX2_lookAnew 105 = .ok (.goto (-28), 3) := by decide +kernel
theorem dX2_lookAnew_108 : decode cX2_lookAnew 108 = .ok (.return_, 1) := by decide +kernel
theorem dX2_size_0 : decode cX2_size 0 = .ok (.iconst 1, 1) := by decide +kernel
theorem dX2_size_1 : decode cX2_size 1 = .ok (.aload_n 0, 1) := by decide +kernel
theorem dX2_size_2 : decode cX2_size 2 = .ok (.getfield 41, 3) := by decide +kernel
theorem dX2_size_5 : decode cX2_size 5 = .ok (.ishl, 1) := by decide +kernel
theorem dX2_size_6 : decode cX2_size 6 = .ok (.ireturn, 1) := by decide +kernel
set_option maxRecDepth 20000 in
theorem ggX2_holds_X2_weight : GoodIn wsX2_holds wsX2_weight := goodIn_r _ [5, 6, 7, 8, 9, 4, 10, 11, 12, 13, 14, 15, 16, 17, 18, 19, 20, 21, 22, 23, 24, 25] (by decide +kernel) (by decide +kernel)
set_option maxRecDepth 20000 in
theorem gX2_holds_X2_weight : GoodIn wsX2_holds (wsV RX2 93 RX2 yX2_weight wsX2_weight) := goodIn_app (goodIn_of _ (by decide +kernel)) ggX2_holds_X2_weight
theorem dX2_holds_0 : decode cX2_holds 0 = .ok (.aload_n 0, 1) := by decide +kernel
theorem dX2_holds_1 : decode cX2_holds 1 = .ok (.iload_n 1, 1) := by decide +kernel
theorem dX2_holds_2 : decode cX2_holds 2 = .ok (.invokevirtual 93, 3) := by decide +kernel
theorem dX2_holds_5 : decode cX2_holds 5 = .ok (.ifCond .le 7, 3) := by decide +kernel
theorem dX2_holds_8 : decode cX2_holds 8 = .ok (.iconst 1, 1) := by decide +kernel
theorem dX2_holds_9 : decode cX2_holds 9 = .ok (.goto 4, 3) := by decide +kernel
theorem dX2_holds_12 : decode cX2_holds 12 = .ok (.iconst 0, 1) := by decide +kernel
theorem dX2_holds_13 : decode cX2_holds 13 = .ok (.ireturn, 1) := by decide +kernel
set_option maxRecDepth 20000 in
theorem ggX2_weight_X2_size : GoodIn wsX2_weight wsX2_size := goodIn_r _ [6, 7, 8, 9, 10, 11, 12, 13, 14, 15, 16, 17, 18, 19, 20, 21] (by decide +kernel) (by decide +kernel)
set_option maxRecDepth 20000 in
theorem gX2_weight_X2_size : GoodIn wsX2_weight (wsV RX2 84 RX2 yX2_size wsX2_size) := goodIn_app (goodIn_of _ (by decide +kernel)) ggX2_weight_X2_size
theorem dX2_weight_0 : decode cX2_weight 0 = .ok (.iload_n 1, 1) := by decide +kernel
theorem dX2_weight_1 : decode cX2_weight 1 = .ok (.ifCond .lt 20, 3) := by decide +kernel
theorem dX2_weight_4 : decode cX2_weight 4 = .ok (.iload_n 1, 1) := by decide +kernel
theorem dX2_weight_5 : decode cX2_weight 5 = .ok (.aload_n 0, 1) := by decide +kernel
theorem dX2_weight_6 : decode cX2_weight 6 = .ok (.invokevirtual 84, 3) := by decide +kernel
theorem dX2_weight_9 : decode cX2_weight 9 = .ok (.if_icmp .ge 12, 3) := by decide +kernel
theorem dX2_weight_12 : decode cX2_weight 12 = .ok (.aload_n 0, 1) := by decide +kernel
theorem dX2_weight_13 : decode cX2_weight 13 = .ok (.getfield 21, 3) := by decide +kernel
theorem dX2_weight_16 : decode cX2_weight 16 = .ok (.iload_n 1, 1) := by decide +kernel
theorem dX2_weight_17 : decode cX2_weight 17 = .ok (.iaload, 1) := by decide +kernel
theorem dX2_weight_18 : decode cX2_weight 18 = .ok (.goto 4, 3) := by decide +kernel
theorem dX2_weight_21 : decode cX2_weight 21 = .ok (.iconst 0, 1) := by decide +kernel
theorem dX2_weight_22 : decode cX2_weight 22 = .ok (.ireturn, 1) := by decide +kernel
theorem dX2_someHolds_0 : decode cX2_someHolds 0 = .ok (.aload_n 0, 1) := by decide +kernel
theorem dX2_someHolds_1 : decode cX2_someHolds 1 = .ok (.getfield 47, 3) := by decide +kernel
theorem dX2_someHolds_4 : decode cX2_someHolds 4 = .ok (.iconst (-1), 1) := by decide +kernel
theorem dX2_someHolds_5 : decode cX2_someHolds 5 = .ok (.if_icmp .eq 7, 3) := by decide +kernel
theorem dX2_someHolds_8 : decode cX2_someHolds 8 = .ok (.iconst 1, 1) := by decide +kernel
theorem dX2_someHolds_9 : decode cX2_someHolds 9 = .ok (.goto 4, 3) := by decide +kernel
theorem dX2_someHolds_12 : decode cX2_someHolds 12 = .ok (.iconst 0, 1) := by decide +kernel
theorem dX2_someHolds_13 : decode cX2_someHolds 13 = .ok (.ireturn, 1) := by decide +kernel
theorem dX2_likeliestNight_0 : decode cX2_likeliestNight 0 = .ok (.aload_n 0, 1) := by decide +kernel
theorem dX2_likeliestNight_1 : decode cX2_likeliestNight 1 = .ok (.getfield 47, 3) := by decide +kernel
theorem dX2_likeliestNight_4 : decode cX2_likeliestNight 4 = .ok (.ireturn, 1) := by decide +kernel
theorem dX2_row_0 : decode cX2_row 0 = .ok (.iload_n 1, 1) := by decide +kernel
theorem dX2_row_1 : decode cX2_row 1 = .ok (.ifCond .lt 19, 3) := by decide +kernel
theorem dX2_row_4 : decode cX2_row 4 = .ok (.iload_n 1, 1) := by decide +kernel
theorem dX2_row_5 : decode cX2_row 5 = .ok (.bipush 64, 2) := by decide +kernel
theorem dX2_row_7 : decode cX2_row 7 = .ok (.if_icmp .ge 13, 3) := by decide +kernel
theorem dX2_row_10 : decode cX2_row 10 = .ok (.iload_n 2, 1) := by decide +kernel
theorem dX2_row_11 : decode cX2_row 11 = .ok (.ifCond .lt 9, 3) := by decide +kernel
theorem dX2_row_14 : decode cX2_row 14 = .ok (.iload_n 2, 1) := by decide +kernel
theorem dX2_row_15 : decode cX2_row 15 = .ok (.bipush 100, 2) := by decide +kernel
theorem dX2_row_17 : decode cX2_row 17 = .ok (.if_icmp .lt 6, 3) := by decide +kernel
theorem dX2_row_20 : decode cX2_row 20 = .ok (.ldc 96, 2) := by decide +kernel
theorem dX2_row_22 : decode cX2_row 22 = .ok (.ireturn, 1) := by decide +kernel
theorem dX2_row_23 : decode cX2_row 23 = .ok (.aload_n 0, 1) := by decide +kernel
theorem dX2_row_24 : decode cX2_row 24 = .ok (.getfield 24, 3) := by decide +kernel
theorem dX2_row_27 : decode cX2_row 27 = .ok (.iload_n 1, 1) := by decide +kernel
theorem dX2_row_28 : decode cX2_row 28 = .ok (.bipush 21, 2) := by decide +kernel
theorem dX2_row_30 : decode cX2_row 30 = .ok (.imul, 1) := by decide +kernel
theorem dX2_row_31 : decode cX2_row 31 = .ok (.aload_n 0, 1) := by decide +kernel
theorem dX2_row_32 : decode cX2_row 32 = .ok (.getfield 15, 3) := by decide +kernel
theorem dX2_row_35 : decode cX2_row 35 = .ok (.iload_n 2, 1) := by decide +kernel
theorem dX2_row_36 : decode cX2_row 36 = .ok (.iaload, 1) := by decide +kernel
theorem dX2_row_37 : decode cX2_row 37 = .ok (.iadd, 1) := by decide +kernel
theorem dX2_row_38 : decode cX2_row 38 = .ok (.iaload, 1) := by decide +kernel
theorem dX2_row_39 : decode cX2_row 39 = .ok (.ireturn, 1) := by decide +kernel
theorem dX2_bowsOfDoubts_0 : decode cX2_bowsOfDoubts 0 = .ok (.iconst 0, 1) := by decide +kernel
theorem dX2_bowsOfDoubts_1 : decode cX2_bowsOfDoubts 1 = .ok (.istore_n 2, 1) := by decide +kernel
theorem dX2_bowsOfDoubts_2 : decode cX2_bowsOfDoubts 2 = .ok (.iconst 0, 1) := by decide +kernel
theorem dX2_bowsOfDoubts_3 : decode cX2_bowsOfDoubts 3 = .ok (.istore_n 3, 1) := by decide +kernel
theorem dX2_bowsOfDoubts_4 : decode cX2_bowsOfDoubts 4 = .ok (.iload_n 3, 1) := by decide +kernel
theorem dX2_bowsOfDoubts_5 : decode cX2_bowsOfDoubts 5 = .ok (.aload_n 0, 1) := by decide +kernel
theorem dX2_bowsOfDoubts_6 : decode cX2_bowsOfDoubts 6 = .ok (.getfield 41, 3) := by decide +kernel
theorem dX2_bowsOfDoubts_9 : decode cX2_bowsOfDoubts 9 = .ok (.if_icmp .ge 29, 3) := by decide +kernel
theorem dX2_bowsOfDoubts_12 : decode cX2_bowsOfDoubts 12 = .ok (.iload_n 1, 1) := by decide +kernel
theorem dX2_bowsOfDoubts_13 : decode cX2_bowsOfDoubts 13 = .ok (.iload_n 3, 1) := by decide +kernel
theorem dX2_bowsOfDoubts_14 : decode cX2_bowsOfDoubts 14 = .ok (.ishr, 1) := by decide +kernel
theorem dX2_bowsOfDoubts_15 : decode cX2_bowsOfDoubts 15 = .ok (.iconst 1, 1) := by decide +kernel
theorem dX2_bowsOfDoubts_16 : decode cX2_bowsOfDoubts 16 = .ok (.iand, 1) := by decide +kernel
theorem dX2_bowsOfDoubts_17 : decode cX2_bowsOfDoubts 17 = .ok (.iconst 1, 1) := by decide +kernel
theorem dX2_bowsOfDoubts_18 : decode cX2_bowsOfDoubts 18 = .ok (.if_icmp .ne 14, 3) := by decide +kernel
theorem dX2_bowsOfDoubts_21 : decode cX2_bowsOfDoubts 21 = .ok (.iload_n 2, 1) := by decide +kernel
theorem dX2_bowsOfDoubts_22 : decode cX2_bowsOfDoubts 22 = .ok (.iconst 1, 1) := by decide +kernel
theorem dX2_bowsOfDoubts_23 : decode cX2_bowsOfDoubts 23 = .ok (.aload_n 0, 1) := by decide +kernel
theorem dX2_bowsOfDoubts_24 : decode cX2_bowsOfDoubts 24 = .ok (.getfield 18, 3) := by decide +kernel
theorem dX2_bowsOfDoubts_27 : decode cX2_bowsOfDoubts 27 = .ok (.iload_n 3, 1) := by decide +kernel
theorem dX2_bowsOfDoubts_28 : decode cX2_bowsOfDoubts 28 = .ok (.iaload, 1) := by decide +kernel
theorem dX2_bowsOfDoubts_29 : decode cX2_bowsOfDoubts 29 = .ok (.ishl, 1) := by decide +kernel
theorem dX2_bowsOfDoubts_30 : decode cX2_bowsOfDoubts 30 = .ok (.ior, 1) := by decide +kernel
theorem dX2_bowsOfDoubts_31 : decode cX2_bowsOfDoubts 31 = .ok (.istore_n 2, 1) := by decide +kernel
theorem dX2_bowsOfDoubts_32 : decode cX2_bowsOfDoubts 32 = .ok (.iinc 3 1, 3) := by decide +kernel
theorem dX2_bowsOfDoubts_35 : decode cX2_bowsOfDoubts 35 = .ok (.goto (-31), 3) := by decide +kernel
theorem dX2_bowsOfDoubts_38 : decode cX2_bowsOfDoubts 38 = .ok (.iload_n 2, 1) := by decide +kernel
theorem dX2_bowsOfDoubts_39 : decode cX2_bowsOfDoubts 39 = .ok (.ireturn, 1) := by decide +kernel
set_option maxRecDepth 20000 in
theorem ggX2_bowsMadeIn_X2_bowsOfDoubts : GoodIn wsX2_bowsMadeIn wsX2_bowsOfDoubts := goodIn_r _ [6, 7, 8, 9, 10, 11, 12, 13, 14, 15, 16, 17, 18, 19, 20, 21, 22] (by decide +kernel) (by decide +kernel)
set_option maxRecDepth 20000 in
theorem gX2_bowsMadeIn_X2_bowsOfDoubts : GoodIn wsX2_bowsMadeIn (wsV RX2 97 RX2 yX2_bowsOfDoubts wsX2_bowsOfDoubts) := goodIn_app (goodIn_of _ (by decide +kernel)) ggX2_bowsMadeIn_X2_bowsOfDoubts
theorem dX2_bowsMadeIn_0 : decode cX2_bowsMadeIn 0 = .ok (.aload_n 0, 1) := by decide +kernel
theorem dX2_bowsMadeIn_1 : decode cX2_bowsMadeIn 1 = .ok (.getfield 44, 3) := by decide +kernel
theorem dX2_bowsMadeIn_4 : decode cX2_bowsMadeIn 4 = .ok (.aload_n 0, 1) := by decide +kernel
theorem dX2_bowsMadeIn_5 : decode cX2_bowsMadeIn 5 = .ok (.iload_n 1, 1) := by decide +kernel
theorem dX2_bowsMadeIn_6 : decode cX2_bowsMadeIn 6 = .ok (.invokevirtual 97, 3) := by decide +kernel
theorem dX2_bowsMadeIn_9 : decode cX2_bowsMadeIn 9 = .ok (.ior, 1) := by decide +kernel
theorem dX2_bowsMadeIn_10 : decode cX2_bowsMadeIn 10 = .ok (.ireturn, 1) := by decide +kernel
set_option maxRecDepth 20000 in
theorem ggX2_howManyHold_X2_size : GoodIn wsX2_howManyHold wsX2_size := goodIn_r _ [5, 6, 16, 17, 18, 19, 20, 21, 22, 23, 24, 25, 26, 27, 28, 29] (by decide +kernel) (by decide +kernel)
set_option maxRecDepth 20000 in
theorem gX2_howManyHold_X2_size : GoodIn wsX2_howManyHold (wsV RX2 84 RX2 yX2_size wsX2_size) := goodIn_app (goodIn_of _ (by decide +kernel)) ggX2_howManyHold_X2_size
set_option maxRecDepth 20000 in
theorem ggX2_howManyHold_X2_holds : GoodIn wsX2_howManyHold wsX2_holds := goodIn_r _ [10, 11, 12, 13, 4, 14, 15, 1, 2, 3, 5, 6, 16, 17, 18, 19, 20, 21, 22, 23, 24, 25, 26, 27, 28, 29] (by decide +kernel) (by decide +kernel)
set_option maxRecDepth 20000 in
theorem gX2_howManyHold_X2_holds : GoodIn wsX2_howManyHold (wsV RX2 100 RX2 yX2_holds wsX2_holds) := goodIn_app (goodIn_of _ (by decide +kernel)) ggX2_howManyHold_X2_holds
theorem dX2_howManyHold_0 : decode cX2_howManyHold 0 = .ok (.iconst 0, 1) := by decide +kernel
theorem dX2_howManyHold_1 : decode cX2_howManyHold 1 = .ok (.istore_n 1, 1) := by decide +kernel
theorem dX2_howManyHold_2 : decode cX2_howManyHold 2 = .ok (.iconst 0, 1) := by decide +kernel
theorem dX2_howManyHold_3 : decode cX2_howManyHold 3 = .ok (.istore_n 2, 1) := by decide +kernel
theorem dX2_howManyHold_4 : decode cX2_howManyHold 4 = .ok (.iload_n 2, 1) := by decide +kernel
theorem dX2_howManyHold_5 : decode cX2_howManyHold 5 = .ok (.aload_n 0, 1) := by decide +kernel
theorem dX2_howManyHold_6 : decode cX2_howManyHold 6 = .ok (.invokevirtual 84, 3) := by decide +kernel
theorem dX2_howManyHold_9 : decode cX2_howManyHold 9 = .ok (.if_icmp .ge 20, 3) := by decide +kernel
theorem dX2_howManyHold_12 : decode cX2_howManyHold 12 = .ok (.aload_n 0, 1) := by decide +kernel
theorem dX2_howManyHold_13 : decode cX2_howManyHold 13 = .ok (.iload_n 2, 1) := by decide +kernel
theorem dX2_howManyHold_14 : decode cX2_howManyHold 14 = .ok (.invokevirtual 100, 3) := by decide +kernel
theorem dX2_howManyHold_17 : decode cX2_howManyHold 17 = .ok (.ifCond .eq 6, 3) := by decide +kernel
theorem dX2_howManyHold_20 : decode cX2_howManyHold 20 = .ok (.iinc 1 1, 3) := by decide +kernel
theorem dX2_howManyHold_23 : decode cX2_howManyHold 23 = .ok (.iinc 2 1, 3) := by decide +kernel
theorem dX2_howManyHold_26 : decode cX2_howManyHold 26 = .ok (.goto (-22), 3) := by decide +kernel
theorem dX2_howManyHold_29 : decode cX2_howManyHold 29 = .ok (.iload_n 1, 1) := by decide +kernel
theorem dX2_howManyHold_30 : decode cX2_howManyHold 30 = .ok (.ireturn, 1) := by decide +kernel
set_option maxRecDepth 20000 in
theorem ggX2_allWeights_X2_size : GoodIn wsX2_allWeights wsX2_size := goodIn_r _ [5, 6, 12, 13, 14, 15, 16, 17, 18, 19, 20, 21, 22, 23, 24, 25] (by decide +kernel) (by decide +kernel)
set_option maxRecDepth 20000 in
theorem gX2_allWeights_X2_size : GoodIn wsX2_allWeights (wsV RX2 84 RX2 yX2_size wsX2_size) := goodIn_app (goodIn_of _ (by decide +kernel)) ggX2_allWeights_X2_size
set_option maxRecDepth 20000 in
theorem ggX2_allWeights_X2_weight : GoodIn wsX2_allWeights wsX2_weight := goodIn_r _ [10, 11, 1, 2, 3, 4, 5, 6, 12, 13, 14, 15, 16, 17, 18, 19, 20, 21, 22, 23, 24, 25] (by decide +kernel) (by decide +kernel)
set_option maxRecDepth 20000 in
theorem gX2_allWeights_X2_weight : GoodIn wsX2_allWeights (wsV RX2 93 RX2 yX2_weight wsX2_weight) := goodIn_app (goodIn_of _ (by decide +kernel)) ggX2_allWeights_X2_weight
theorem dX2_allWeights_0 : decode cX2_allWeights 0 = .ok (.lconst 0, 1) := by decide +kernel
theorem dX2_allWeights_1 : decode cX2_allWeights 1 = .ok (.lstore_n 1, 1) := by decide +kernel
theorem dX2_allWeights_2 : decode cX2_allWeights 2 = .ok (.iconst 0, 1) := by decide +kernel
theorem dX2_allWeights_3 : decode cX2_allWeights 3 = .ok (.istore_n 3, 1) := by decide +kernel
theorem dX2_allWeights_4 : decode cX2_allWeights 4 = .ok (.iload_n 3, 1) := by decide +kernel
theorem dX2_allWeights_5 : decode cX2_allWeights 5 = .ok (.aload_n 0, 1) := by decide +kernel
theorem dX2_allWeights_6 : decode cX2_allWeights 6 = .ok (.invokevirtual 84, 3) := by decide +kernel
theorem dX2_allWeights_9 : decode cX2_allWeights 9 = .ok (.if_icmp .ge 18, 3) := by decide +kernel
theorem dX2_allWeights_12 : decode cX2_allWeights 12 = .ok (.lload_n 1, 1) := by decide +kernel
theorem dX2_allWeights_13 : decode cX2_allWeights 13 = .ok (.aload_n 0, 1) := by decide +kernel
theorem dX2_allWeights_14 : decode cX2_allWeights 14 = .ok (.iload_n 3, 1) := by decide +kernel
theorem dX2_allWeights_15 : decode cX2_allWeights 15 = .ok (.invokevirtual 93, 3) := by decide +kernel
theorem dX2_allWeights_18 : decode cX2_allWeights 18 = .ok (.i2l, 1) := by decide +kernel
theorem dX2_allWeights_19 : decode cX2_allWeights 19 = .ok (.ladd, 1) := by decide +kernel
theorem dX2_allWeights_20 : decode cX2_allWeights 20 = .ok (.lstore_n 1, 1) := by decide +kernel
theorem dX2_allWeights_21 : decode cX2_allWeights 21 = .ok (.iinc 3 1, 3) := by decide +kernel
theorem dX2_allWeights_24 : decode cX2_allWeights 24 = .ok (.goto (-20), 3) := by decide +kernel
theorem dX2_allWeights_27 : decode cX2_allWeights 27 = .ok (.lload_n 1, 1) := by decide +kernel
theorem dX2_allWeights_28 : decode cX2_allWeights 28 = .ok (.lreturn, 1) := by decide +kernel
set_option maxRecDepth 20000 in
theorem ggX2_wearersOf_X2_size : GoodIn wsX2_wearersOf wsX2_size := goodIn_r _ [5, 6, 26, 27, 28, 29, 30, 31, 32, 33, 34, 35, 36, 37, 38, 39] (by decide +kernel) (by decide +kernel)
set_option maxRecDepth 20000 in
theorem gX2_wearersOf_X2_size : GoodIn wsX2_wearersOf (wsV RX2 84 RX2 yX2_size wsX2_size) := goodIn_app (goodIn_of _ (by decide +kernel)) ggX2_wearersOf_X2_size
set_option maxRecDepth 20000 in
theorem ggX2_wearersOf_X2_holds : GoodIn wsX2_wearersOf wsX2_holds := goodIn_r _ [10, 11, 12, 13, 4, 14, 15, 1, 2, 3, 5, 6, 26, 27, 28, 29, 30, 31, 32, 33, 34, 35, 36, 37, 38, 39] (by decide +kernel) (by decide +kernel)
set_option maxRecDepth 20000 in
theorem gX2_wearersOf_X2_holds : GoodIn wsX2_wearersOf (wsV RX2 100 RX2 yX2_holds wsX2_holds) := goodIn_app (goodIn_of _ (by decide +kernel)) ggX2_wearersOf_X2_holds
set_option maxRecDepth 20000 in
theorem ggX2_wearersOf_X2_row : GoodIn wsX2_wearersOf wsX2_row := goodIn_r _ [19, 20, 21, 22, 26, 27, 28, 29, 30, 31, 32, 33, 34, 35, 36, 37, 38, 39] (by decide +kernel) (by decide +kernel)
set_option maxRecDepth 20000 in
theorem gX2_wearersOf_X2_row : GoodIn wsX2_wearersOf (wsV RX2 104 RX2 yX2_row wsX2_row) := goodIn_app (goodIn_of _ (by decide +kernel)) ggX2_wearersOf_X2_row
set_option maxRecDepth 20000 in
theorem ggX2_wearersOf_X7_wearer : GoodIn wsX2_wearersOf wsX7_wearer := goodIn_r _ [25] (by decide +kernel) (by decide +kernel)
set_option maxRecDepth 20000 in
theorem gX2_wearersOf_X7_wearer_n107 : GoodIn wsX2_wearersOf (wsX7_wearer) := ggX2_wearersOf_X7_wearer
theorem dX2_wearersOf_0 : decode cX2_wearersOf 0 = .ok (.iconst 0, 1) := by decide +kernel
theorem dX2_wearersOf_1 : decode cX2_wearersOf 1 = .ok (.istore_n 3, 1) := by decide +kernel
theorem dX2_wearersOf_2 : decode cX2_wearersOf 2 = .ok (.iconst 0, 1) := by decide +kernel
theorem dX2_wearersOf_3 : decode cX2_wearersOf 3 = .ok (.istore 4, 2) := by decide +kernel
theorem dX2_wearersOf_5 : decode cX2_wearersOf 5 = .ok (.iload 4, 2) := by decide +kernel
theorem dX2_wearersOf_7 : decode cX2_wearersOf 7 = .ok (.aload_n 0, 1) := by decide +kernel
theorem dX2_wearersOf_8 : decode cX2_wearersOf 8 = .ok (.invokevirtual 84, 3) := by decide +kernel
theorem dX2_wearersOf_11 : decode cX2_wearersOf 11 = .ok (.if_icmp .ge 34, 3) := by decide +kernel
theorem dX2_wearersOf_14 : decode cX2_wearersOf 14 = .ok (.aload_n 0, 1) := by decide +kernel
theorem dX2_wearersOf_15 : decode cX2_wearersOf 15 = .ok (.iload 4, 2) := by decide +kernel
theorem dX2_wearersOf_17 : decode cX2_wearersOf 17 = .ok (.invokevirtual 100, 3) := by decide +kernel
theorem dX2_wearersOf_20 : decode cX2_wearersOf 20 = .ok (.ifCond .eq 19, 3) := by decide +kernel
theorem dX2_wearersOf_23 : decode cX2_wearersOf 23 = .ok (.iload_n 3, 1) := by decide +kernel
theorem dX2_wearersOf_24 : decode cX2_wearersOf 24 = .ok (.iconst 1, 1) := by decide +kernel
theorem dX2_wearersOf_25 : decode cX2_wearersOf 25 = .ok (.aload_n 0, 1) := by decide +kernel
theorem dX2_wearersOf_26 : decode cX2_wearersOf 26 = .ok (.iload 4, 2) := by decide +kernel
theorem dX2_wearersOf_28 : decode cX2_wearersOf 28 = .ok (.iload_n 2, 1) := by decide +kernel
theorem dX2_wearersOf_29 : decode cX2_wearersOf 29 = .ok (.invokevirtual 104, 3) := by decide +kernel
theorem dX2_wearersOf_32 : decode cX2_wearersOf 32 = .ok (.iload_n 1, 1) := by decide +kernel
theorem dX2_wearersOf_33 : decode cX2_wearersOf 33 = .ok (.invokestatic 107, 3) := by decide +kernel
theorem dX2_wearersOf_36 : decode cX2_wearersOf 36 = .ok (.ishl, 1) := by decide +kernel
theorem dX2_wearersOf_37 : decode cX2_wearersOf 37 = .ok (.ior, 1) := by decide +kernel
theorem dX2_wearersOf_38 : decode cX2_wearersOf 38 = .ok (.istore_n 3, 1) := by decide +kernel
theorem dX2_wearersOf_39 : decode cX2_wearersOf 39 = .ok (.iinc 4 1, 3) := by decide +kernel
theorem dX2_wearersOf_42 : decode cX2_wearersOf 42 = .ok (.goto (-37), 3) := by decide +kernel
theorem dX2_wearersOf_45 : decode cX2_wearersOf 45 = .ok (.iload_n 3, 1) := by decide +kernel
theorem dX2_wearersOf_46 : decode cX2_wearersOf 46 = .ok (.ireturn, 1) := by decide +kernel
set_option maxRecDepth 20000 in
theorem ggX2_masksOf_X2_size : GoodIn wsX2_masksOf wsX2_size := goodIn_r _ [5, 6, 29, 30, 31, 32, 33, 34, 35, 36, 37, 38, 39, 40, 41, 42] (by decide +kernel) (by decide +kernel)
set_option maxRecDepth 20000 in
theorem gX2_masksOf_X2_size : GoodIn wsX2_masksOf (wsV RX2 84 RX2 yX2_size wsX2_size) := goodIn_app (goodIn_of _ (by decide +kernel)) ggX2_masksOf_X2_size
set_option maxRecDepth 20000 in
theorem ggX2_masksOf_X2_holds : GoodIn wsX2_masksOf wsX2_holds := goodIn_r _ [10, 11, 12, 13, 4, 14, 15, 1, 2, 3, 5, 6, 29, 30, 31, 32, 33, 34, 35, 36, 37, 38, 39, 40, 41, 42] (by decide +kernel) (by decide +kernel)
set_option maxRecDepth 20000 in
theorem gX2_masksOf_X2_holds : GoodIn wsX2_masksOf (wsV RX2 100 RX2 yX2_holds wsX2_holds) := goodIn_app (goodIn_of _ (by decide +kernel)) ggX2_masksOf_X2_holds
set_option maxRecDepth 20000 in
theorem ggX2_masksOf_X2_row : GoodIn wsX2_masksOf wsX2_row := goodIn_r _ [19, 20, 21, 22, 29, 30, 31, 32, 33, 34, 35, 36, 37, 38, 39, 40, 41, 42] (by decide +kernel) (by decide +kernel)
set_option maxRecDepth 20000 in
theorem gX2_masksOf_X2_row : GoodIn wsX2_masksOf (wsV RX2 104 RX2 yX2_row wsX2_row) := goodIn_app (goodIn_of _ (by decide +kernel)) ggX2_masksOf_X2_row
set_option maxRecDepth 20000 in
theorem ggX2_masksOf_X7_maskOf : GoodIn wsX2_masksOf wsX7_maskOf := goodIn_r _ [25, 26, 27, 24, 28] (by decide +kernel) (by decide +kernel)
set_option maxRecDepth 20000 in
theorem gX2_masksOf_X7_maskOf_n110 : GoodIn wsX2_masksOf (wsX7_maskOf) := ggX2_masksOf_X7_maskOf
theorem dX2_masksOf_0 : decode cX2_masksOf 0 = .ok (.iconst 0, 1) := by decide +kernel
theorem dX2_masksOf_1 : decode cX2_masksOf 1 = .ok (.istore_n 3, 1) := by decide +kernel
theorem dX2_masksOf_2 : decode cX2_masksOf 2 = .ok (.iconst 0, 1) := by decide +kernel
theorem dX2_masksOf_3 : decode cX2_masksOf 3 = .ok (.istore 4, 2) := by decide +kernel
theorem dX2_masksOf_5 : decode cX2_masksOf 5 = .ok (.iload 4, 2) := by decide +kernel
theorem dX2_masksOf_7 : decode cX2_masksOf 7 = .ok (.aload_n 0, 1) := by decide +kernel
theorem dX2_masksOf_8 : decode cX2_masksOf 8 = .ok (.invokevirtual 84, 3) := by decide +kernel
theorem dX2_masksOf_11 : decode cX2_masksOf 11 = .ok (.if_icmp .ge 34, 3) := by decide +kernel
theorem dX2_masksOf_14 : decode cX2_masksOf 14 = .ok (.aload_n 0, 1) := by decide +kernel
theorem dX2_masksOf_15 : decode cX2_masksOf 15 = .ok (.iload 4, 2) := by decide +kernel
theorem dX2_masksOf_17 : decode cX2_masksOf 17 = .ok (.invokevirtual 100, 3) := by decide +kernel
theorem dX2_masksOf_20 : decode cX2_masksOf 20 = .ok (.ifCond .eq 19, 3) := by decide +kernel
theorem dX2_masksOf_23 : decode cX2_masksOf 23 = .ok (.iload_n 3, 1) := by decide +kernel
theorem dX2_masksOf_24 : decode cX2_masksOf 24 = .ok (.iconst 1, 1) := by decide +kernel
theorem dX2_masksOf_25 : decode cX2_masksOf 25 = .ok (.aload_n 0, 1) := by decide +kernel
theorem dX2_masksOf_26 : decode cX2_masksOf 26 = .ok (.iload 4, 2) := by decide +kernel
theorem dX2_masksOf_28 : decode cX2_masksOf 28 = .ok (.iload_n 2, 1) := by decide +kernel
theorem dX2_masksOf_29 : decode cX2_masksOf 29 = .ok (.invokevirtual 104, 3) := by decide +kernel
theorem dX2_masksOf_32 : decode cX2_masksOf 32 = .ok (.iload_n 1, 1) := by decide +kernel
theorem dX2_masksOf_33 : decode cX2_masksOf 33 = .ok (.invokestatic 110, 3) := by decide +kernel
theorem dX2_masksOf_36 : decode cX2_masksOf 36 = .ok (.ishl, 1) := by decide +kernel
theorem dX2_masksOf_37 : decode cX2_masksOf 37 = .ok (.ior, 1) := by decide +kernel
theorem dX2_masksOf_38 : decode cX2_masksOf 38 = .ok (.istore_n 3, 1) := by decide +kernel
theorem dX2_masksOf_39 : decode cX2_masksOf 39 = .ok (.iinc 4 1, 3) := by decide +kernel
theorem dX2_masksOf_42 : decode cX2_masksOf 42 = .ok (.goto (-37), 3) := by decide +kernel
theorem dX2_masksOf_45 : decode cX2_masksOf 45 = .ok (.iload_n 3, 1) := by decide +kernel
theorem dX2_masksOf_46 : decode cX2_masksOf 46 = .ok (.ireturn, 1) := by decide +kernel
set_option maxRecDepth 20000 in
theorem ggX2_oddsOf_X2_size : GoodIn wsX2_oddsOf wsX2_size := goodIn_r _ [5, 6, 22, 23, 24, 25, 26, 27, 28, 29, 30, 31, 32, 33, 34, 35] (by decide +kernel) (by decide +kernel)
set_option maxRecDepth 20000 in
theorem gX2_oddsOf_X2_size : GoodIn wsX2_oddsOf (wsV RX2 84 RX2 yX2_size wsX2_size) := goodIn_app (goodIn_of _ (by decide +kernel)) ggX2_oddsOf_X2_size
set_option maxRecDepth 20000 in
theorem ggX2_oddsOf_X2_row : GoodIn wsX2_oddsOf wsX2_row := goodIn_r _ [10, 11, 12, 13, 22, 23, 24, 25, 26, 27, 28, 29, 30, 31, 32, 33, 34, 35] (by decide +kernel) (by decide +kernel)
set_option maxRecDepth 20000 in
theorem gX2_oddsOf_X2_row : GoodIn wsX2_oddsOf (wsV RX2 104 RX2 yX2_row wsX2_row) := goodIn_app (goodIn_of _ (by decide +kernel)) ggX2_oddsOf_X2_row
set_option maxRecDepth 20000 in
theorem ggX2_oddsOf_X7_wearer : GoodIn wsX2_oddsOf wsX7_wearer := goodIn_r _ [16] (by decide +kernel) (by decide +kernel)
set_option maxRecDepth 20000 in
theorem gX2_oddsOf_X7_wearer_n107 : GoodIn wsX2_oddsOf (wsX7_wearer) := ggX2_oddsOf_X7_wearer
set_option maxRecDepth 20000 in
theorem ggX2_oddsOf_X2_weight : GoodIn wsX2_oddsOf wsX2_weight := goodIn_r _ [20, 21, 1, 2, 3, 4, 5, 6, 22, 23, 24, 25, 26, 27, 28, 29, 30, 31, 32, 33, 34, 35] (by decide +kernel) (by decide +kernel)
set_option maxRecDepth 20000 in
theorem gX2_oddsOf_X2_weight : GoodIn wsX2_oddsOf (wsV RX2 93 RX2 yX2_weight wsX2_weight) := goodIn_app (goodIn_of _ (by decide +kernel)) ggX2_oddsOf_X2_weight
theorem dX2_oddsOf_0 : decode cX2_oddsOf 0 = .ok (.lconst 0, 1) := by decide +kernel
theorem dX2_oddsOf_1 : decode cX2_oddsOf 1 = .ok (.lstore 4, 2) := by decide +kernel
theorem dX2_oddsOf_3 : decode cX2_oddsOf 3 = .ok (.iconst 0, 1) := by decide +kernel
theorem dX2_oddsOf_4 : decode cX2_oddsOf 4 = .ok (.istore 6, 2) := by decide +kernel
theorem dX2_oddsOf_6 : decode cX2_oddsOf 6 = .ok (.iload 6, 2) := by decide +kernel
theorem dX2_oddsOf_8 : decode cX2_oddsOf 8 = .ok (.aload_n 0, 1) := by decide +kernel
theorem dX2_oddsOf_9 : decode cX2_oddsOf 9 = .ok (.invokevirtual 84, 3) := by decide +kernel
theorem dX2_oddsOf_12 : decode cX2_oddsOf 12 = .ok (.if_icmp .ge 36, 3) := by decide +kernel
theorem dX2_oddsOf_15 : decode cX2_oddsOf 15 = .ok (.aload_n 0, 1) := by decide +kernel
theorem dX2_oddsOf_16 : decode cX2_oddsOf 16 = .ok (.iload 6, 2) := by decide +kernel
theorem dX2_oddsOf_18 : decode cX2_oddsOf 18 = .ok (.iload_n 3, 1) := by decide +kernel
theorem dX2_oddsOf_19 : decode cX2_oddsOf 19 = .ok (.invokevirtual 104, 3) := by decide +kernel
theorem dX2_oddsOf_22 : decode cX2_oddsOf 22 = .ok (.iload_n 1, 1) := by decide +kernel
theorem dX2_oddsOf_23 : decode cX2_oddsOf 23 = .ok (.invokestatic 107, 3) := by decide +kernel
theorem dX2_oddsOf_26 : decode cX2_oddsOf 26 = .ok (.iload_n 2, 1) := by decide +kernel
theorem dX2_oddsOf_27 : decode cX2_oddsOf 27 = .ok (.if_icmp .ne 15, 3) := by decide +kernel
theorem dX2_oddsOf_30 : decode cX2_oddsOf 30 = .ok (.lload 4, 2) := by decide +kernel
theorem dX2_oddsOf_32 : decode cX2_oddsOf 32 = .ok (.aload_n 0, 1) := by decide +kernel
theorem dX2_oddsOf_33 : decode cX2_oddsOf 33 = .ok (.iload 6, 2) := by decide +kernel
theorem dX2_oddsOf_35 : decode cX2_oddsOf 35 = .ok (.invokevirtual 93, 3) := by decide +kernel
theorem dX2_oddsOf_38 : decode cX2_oddsOf 38 = .ok (.i2l, 1) := by decide +kernel
theorem dX2_oddsOf_39 : decode cX2_oddsOf 39 = .ok (.ladd, 1) := by decide +kernel
theorem dX2_oddsOf_40 : decode cX2_oddsOf 40 = .ok (.lstore 4, 2) := by decide +kernel
theorem dX2_oddsOf_42 : decode cX2_oddsOf 42 = .ok (.iinc 6 1, 3) := by decide +kernel
theorem dX2_oddsOf_45 : decode cX2_oddsOf 45 = .ok (.goto (-39), 3) := by decide +kernel
theorem dX2_oddsOf_48 : decode cX2_oddsOf 48 = .ok (.lload 4, 2) := by decide +kernel
theorem dX2_oddsOf_50 : decode cX2_oddsOf 50 = .ok (.lreturn, 1) := by decide +kernel
set_option maxRecDepth 20000 in
theorem ggX2_oddsOfSheet_X2_size : GoodIn wsX2_oddsOfSheet wsX2_size := goodIn_r _ [6, 7, 34, 35, 36, 37, 38, 39, 40, 41, 42, 43, 44, 45, 46, 47] (by decide +kernel) (by decide +kernel)
set_option maxRecDepth 20000 in
theorem gX2_oddsOfSheet_X2_size : GoodIn wsX2_oddsOfSheet (wsV RX2 84 RX2 yX2_size wsX2_size) := goodIn_app (goodIn_of _ (by decide +kernel)) ggX2_oddsOfSheet_X2_size
set_option maxRecDepth 20000 in
theorem ggX2_oddsOfSheet_X2_row : GoodIn wsX2_oddsOfSheet wsX2_row := goodIn_r _ [11, 12, 13, 14, 34, 35, 36, 37, 38, 39, 40, 41, 42, 43, 44, 45, 46, 47] (by decide +kernel) (by decide +kernel)
set_option maxRecDepth 20000 in
theorem gX2_oddsOfSheet_X2_row : GoodIn wsX2_oddsOfSheet (wsV RX2 104 RX2 yX2_row wsX2_row) := goodIn_app (goodIn_of _ (by decide +kernel)) ggX2_oddsOfSheet_X2_row
set_option maxRecDepth 20000 in
theorem ggX2_oddsOfSheet_X5_tells : GoodIn wsX2_oddsOfSheet wsX5_tells := goodIn_r _ [19, 20, 21, 22, 23, 24, 25, 26, 27, 28, 54, 55, 56] (by decide +kernel) (by decide +kernel)
set_option maxRecDepth 20000 in
theorem gX2_oddsOfSheet_X5_tells : GoodIn wsX2_oddsOfSheet (wsV RX2 116 RX5 yX5_tells wsX5_tells) := goodIn_app (goodIn_of _ (by decide +kernel)) ggX2_oddsOfSheet_X5_tells
set_option maxRecDepth 20000 in
theorem ggX2_oddsOfSheet_X2_weight : GoodIn wsX2_oddsOfSheet wsX2_weight := goodIn_r _ [32, 33, 2, 3, 4, 5, 6, 7, 34, 35, 36, 37, 38, 39, 40, 41, 42, 43, 44, 45, 46, 47] (by decide +kernel) (by decide +kernel)
set_option maxRecDepth 20000 in
theorem gX2_oddsOfSheet_X2_weight : GoodIn wsX2_oddsOfSheet (wsV RX2 93 RX2 yX2_weight wsX2_weight) := goodIn_app (goodIn_of _ (by decide +kernel)) ggX2_oddsOfSheet_X2_weight
theorem dX2_oddsOfSheet_0 : decode cX2_oddsOfSheet 0 = .ok (.lconst 0, 1) := by decide +kernel
theorem dX2_oddsOfSheet_1 : decode cX2_oddsOfSheet 1 = .ok (.lstore_n 3, 1) := by decide +kernel
theorem dX2_oddsOfSheet_2 : decode cX2_oddsOfSheet 2 = .ok (.iconst 0, 1) := by decide +kernel
theorem dX2_oddsOfSheet_3 : decode cX2_oddsOfSheet 3 = .ok (.istore 5, 2) := by decide +kernel
theorem dX2_oddsOfSheet_5 : decode cX2_oddsOfSheet 5 = .ok (.iload 5, 2) := by decide +kernel
theorem dX2_oddsOfSheet_7 : decode cX2_oddsOfSheet 7 = .ok (.aload_n 0, 1) := by decide +kernel
theorem dX2_oddsOfSheet_8 : decode cX2_oddsOfSheet 8 = .ok (.invokevirtual 84, 3) := by decide +kernel
theorem dX2_oddsOfSheet_11 : decode cX2_oddsOfSheet 11 = .ok (.if_icmp .ge 44, 3) := by decide +kernel
theorem dX2_oddsOfSheet_14 : decode cX2_oddsOfSheet 14 = .ok (.aload_n 1, 1) := by decide +kernel
theorem dX2_oddsOfSheet_15 : decode cX2_oddsOfSheet 15 = .ok (.ifnull 34, 3) := by decide +kernel
theorem dX2_oddsOfSheet_18 : decode cX2_oddsOfSheet 18 = .ok (.aload_n 1, 1) := by decide +kernel
theorem dX2_oddsOfSheet_19 : decode cX2_oddsOfSheet 19 = .ok (.aload_n 0, 1) := by decide +kernel
theorem dX2_oddsOfSheet_20 : decode cX2_oddsOfSheet 20 = .ok (.iload 5, 2) := by decide +kernel
theorem dX2_oddsOfSheet_22 : decode cX2_oddsOfSheet 22 = .ok (.iload_n 2, 1) := by decide +kernel
theorem dX2_oddsOfSheet_23 : decode cX2_oddsOfSheet 23 = .ok (.invokevirtual 104, 3) := by decide +kernel
theorem dX2_oddsOfSheet_26 : decode cX2_oddsOfSheet 26 = .ok (.aload_n 0, 1) := by decide +kernel
theorem dX2_oddsOfSheet_27 : decode cX2_oddsOfSheet 27 = .ok (.getfield 53, 3) := by decide +kernel
theorem dX2_oddsOfSheet_30 : decode cX2_oddsOfSheet 30 = .ok (.getfield 113, 3) := by decide +kernel
theorem dX2_oddsOfSheet_33 : decode cX2_oddsOfSheet 33 = .ok (.invokevirtual 116, 3) := by decide +kernel
theorem dX2_oddsOfSheet_36 : decode cX2_oddsOfSheet 36 = .ok (.ifCond .eq 13, 3) := by decide +kernel
theorem dX2_oddsOfSheet_39 : decode cX2_oddsOfSheet 39 = .ok (.lload_n 3, 1) := by decide +kernel
theorem dX2_oddsOfSheet_40 : decode cX2_oddsOfSheet 40 = .ok (.aload_n 0, 1) := by decide +kernel
theorem dX2_oddsOfSheet_41 : decode cX2_oddsOfSheet 41 = .ok (.iload 5, 2) := by decide +kernel
theorem dX2_oddsOfSheet_43 : decode cX2_oddsOfSheet 43 = .ok (.invokevirtual 93, 3) := by decide +kernel
theorem dX2_oddsOfSheet_46 : decode cX2_oddsOfSheet 46 = .ok (.i2l, 1) := by decide +kernel
theorem dX2_oddsOfSheet_47 : decode cX2_oddsOfSheet 47 = .ok (.ladd, 1) := by decide +kernel
theorem dX2_oddsOfSheet_48 : decode cX2_oddsOfSheet 48 = .ok (.lstore_n 3, 1) := by decide +kernel
theorem dX2_oddsOfSheet_49 : decode cX2_oddsOfSheet 49 = .ok (.iinc 5 1, 3) := by decide +kernel
theorem dX2_oddsOfSheet_52 : decode cX2_oddsOfSheet 52 = .ok (.goto (-47), 3) := by decide +kernel
theorem dX2_oddsOfSheet_55 : decode cX2_oddsOfSheet 55 = .ok (.lload_n 3, 1) := by decide +kernel
theorem dX2_oddsOfSheet_56 : decode cX2_oddsOfSheet 56 = .ok (.lreturn, 1) := by decide +kernel
theorem dX2_metBy_0 : decode cX2_metBy 0 = .ok (.iload_n 1, 1) := by decide +kernel
theorem dX2_metBy_1 : decode cX2_metBy 1 = .ok (.ifCond .lt 18, 3) := by decide +kernel
theorem dX2_metBy_4 : decode cX2_metBy 4 = .ok (.iload_n 1, 1) := by decide +kernel
theorem dX2_metBy_5 : decode cX2_metBy 5 = .ok (.bipush 8, 2) := by decide +kernel
theorem dX2_metBy_7 : decode cX2_metBy 7 = .ok (.if_icmp .ge 12, 3) := by decide +kernel
theorem dX2_metBy_10 : decode cX2_metBy 10 = .ok (.aload_n 0, 1) := by decide +kernel
theorem dX2_metBy_11 : decode cX2_metBy 11 = .ok (.getfield 27, 3) := by decide +kernel
theorem dX2_metBy_14 : decode cX2_metBy 14 = .ok (.iload_n 1, 1) := by decide +kernel
theorem dX2_metBy_15 : decode cX2_metBy 15 = .ok (.iaload, 1) := by decide +kernel
theorem dX2_metBy_16 : decode cX2_metBy 16 = .ok (.goto 4, 3) := by decide +kernel
theorem dX2_metBy_19 : decode cX2_metBy 19 = .ok (.iconst 0, 1) := by decide +kernel
theorem dX2_metBy_20 : decode cX2_metBy 20 = .ok (.ireturn, 1) := by decide +kernel
set_option maxRecDepth 20000 in
theorem ggX2_firstLie_X4_size : GoodIn wsX2_firstLie wsX4_size := goodIn_r _ [7, 8, 29, 30, 31, 32] (by decide +kernel) (by decide +kernel)
set_option maxRecDepth 20000 in
theorem gX2_firstLie_X4_size : GoodIn wsX2_firstLie (wsV RX2 63 RX4 yX4_size wsX4_size) := goodIn_app (goodIn_of _ (by decide +kernel)) ggX2_firstLie_X4_size
theorem dX2_firstLie_0 : decode cX2_firstLie 0 = .ok (.aload_n 0, 1) := by decide +kernel
theorem dX2_firstLie_1 : decode cX2_firstLie 1 = .ok (.getfield 50, 3) := by decide +kernel
theorem dX2_firstLie_4 : decode cX2_firstLie 4 = .ok (.aload_n 0, 1) := by decide +kernel
theorem dX2_firstLie_5 : decode cX2_firstLie 5 = .ok (.getfield 53, 3) := by decide +kernel
theorem dX2_firstLie_8 : decode cX2_firstLie 8 = .ok (.getfield 122, 3) := by decide +kernel
theorem dX2_firstLie_11 : decode cX2_firstLie 11 = .ok (.invokevirtual 63, 3) := by decide +kernel
theorem dX2_firstLie_14 : decode cX2_firstLie 14 = .ok (.if_icmp .ge 10, 3) := by decide +kernel
theorem dX2_firstLie_17 : decode cX2_firstLie 17 = .ok (.aload_n 0, 1) := by decide +kernel
theorem dX2_firstLie_18 : decode cX2_firstLie 18 = .ok (.getfield 50, 3) := by decide +kernel
theorem dX2_firstLie_21 : decode cX2_firstLie 21 = .ok (.goto 4, 3) := by decide +kernel
theorem dX2_firstLie_24 : decode cX2_firstLie 24 = .ok (.iconst (-1), 1) := by decide +kernel
theorem dX2_firstLie_25 : decode cX2_firstLie 25 = .ok (.ireturn, 1) := by decide +kernel
set_option maxRecDepth 20000 in
theorem ggX2_mostOpenDoubt_X2_allWeights : GoodIn wsX2_mostOpenDoubt wsX2_allWeights := goodIn_r _ [11, 12, 13, 14, 10, 15, 1, 16, 17, 18, 19, 20, 30, 31, 32, 33, 34, 35, 36, 37, 38, 39, 40, 41, 42, 43] (by decide +kernel) (by decide +kernel)
set_option maxRecDepth 20000 in
theorem gX2_mostOpenDoubt_X2_allWeights : GoodIn wsX2_mostOpenDoubt (wsV RX2 125 RX2 yX2_allWeights wsX2_allWeights) := goodIn_app (goodIn_of _ (by decide +kernel)) ggX2_mostOpenDoubt_X2_allWeights
set_option maxRecDepth 20000 in
theorem ggX2_mostOpenDoubt_X2_someHolds : GoodIn wsX2_mostOpenDoubt wsX2_someHolds := goodIn_r _ [24, 25, 30, 31, 32, 33, 34, 35, 36, 37, 38, 39, 40, 41, 42, 43] (by decide +kernel) (by decide +kernel)
set_option maxRecDepth 20000 in
theorem gX2_mostOpenDoubt_X2_someHolds : GoodIn wsX2_mostOpenDoubt (wsV RX2 129 RX2 yX2_someHolds wsX2_someHolds) := goodIn_app (goodIn_of _ (by decide +kernel)) ggX2_mostOpenDoubt_X2_someHolds
set_option maxRecDepth 20000 in
theorem ggX2_mostOpenDoubt_X2_oddsOfMade : GoodIn wsX2_mostOpenDoubt wsX2_oddsOfMade := goodIn_r _ [29, 12, 13, 14, 10, 15, 1, 16, 17, 18, 19, 20, 30, 31, 32, 33, 34, 35, 36, 37, 38, 39, 40, 41, 42, 43] (by decide +kernel) (by decide +kernel)
set_option maxRecDepth 20000 in
theorem gX2_mostOpenDoubt_X2_oddsOfMade : GoodIn wsX2_mostOpenDoubt (wsV RX2 133 RX2 yX2_oddsOfMade wsX2_oddsOfMade) := goodIn_app (goodIn_of _ (by decide +kernel)) ggX2_mostOpenDoubt_X2_oddsOfMade
theorem dX2_mostOpenDoubt_0 : decode cX2_mostOpenDoubt 0 = .ok (.iconst (-1), 1) := by decide +kernel
theorem dX2_mostOpenDoubt_1 : decode cX2_mostOpenDoubt 1 = .ok (.istore_n 1, 1) := by decide +kernel
theorem dX2_mostOpenDoubt_2 : decode cX2_mostOpenDoubt 2 = .ok (.lconst 0, 1) := by decide +kernel
theorem dX2_mostOpenDoubt_3 : decode cX2_mostOpenDoubt 3 = .ok (.lstore_n 2, 1) := by decide +kernel
theorem dX2_mostOpenDoubt_4 : decode cX2_mostOpenDoubt 4 = .ok (.aload_n 0, 1) := by decide +kernel
theorem dX2_mostOpenDoubt_5 : decode cX2_mostOpenDoubt 5 = .ok (.invokevirtual 125, 3) := by decide +kernel
theorem dX2_mostOpenDoubt_8 : decode cX2_mostOpenDoubt 8 = .ok (.lstore 4, 2) := by decide +kernel
theorem dX2_mostOpenDoubt_10 : decode cX2_mostOpenDoubt 10 = .ok (.iconst 0, 1) := by decide +kernel
theorem dX2_mostOpenDoubt_11 : decode cX2_mostOpenDoubt 11 = .ok (.istore 6, 2) := by decide +kernel
theorem dX2_mostOpenDoubt_13 : decode cX2_mostOpenDoubt 13 = .ok (.iload 6, 2) := by decide +kernel
theorem dX2_mostOpenDoubt_15 : decode cX2_mostOpenDoubt 15 = .ok (.aload_n 0, 1) := by decide +kernel
theorem dX2_mostOpenDoubt_16 : decode cX2_mostOpenDoubt 16 = .ok (.getfield 41, 3) := by decide +kernel
theorem dX2_mostOpenDoubt_19 : decode cX2_mostOpenDoubt 19 = .ok (.if_icmp .ge 59, 3) := by decide +kernel
theorem dX2_mostOpenDoubt_22 : decode cX2_mostOpenDoubt 22 = .ok (.aload_n 0, 1) := by decide +kernel
theorem dX2_mostOpenDoubt_23 : decode cX2_mostOpenDoubt 23 = .ok (.invokevirtual 129, 3) := by decide +kernel
theorem dX2_mostOpenDoubt_26 : decode cX2_mostOpenDoubt 26 = .ok (.ifCond .eq 52, 3) := by decide +kernel
theorem dX2_mostOpenDoubt_29 : decode cX2_mostOpenDoubt 29 = .ok (.aload_n 0, 1) := by decide +kernel
theorem dX2_mostOpenDoubt_30 : decode cX2_mostOpenDoubt 30 = .ok (.iload 6, 2) := by decide +kernel
theorem dX2_mostOpenDoubt_32 : decode cX2_mostOpenDoubt 32 = .ok (.invokevirtual 133, 3) := by decide +kernel
theorem dX2_mostOpenDoubt_35 : decode cX2_mostOpenDoubt 35 = .ok (.lstore 7, 2) := by decide +kernel
theorem dX2_mostOpenDoubt_37 : decode cX2_mostOpenDoubt 37 = .ok (.lload 7, 2) := by decide +kernel
theorem dX2_mostOpenDoubt_39 : decode cX2_mostOpenDoubt 39 = .ok (.lload 4, 2) := by decide +kernel
theorem dX2_mostOpenDoubt_41 : decode cX2_mostOpenDoubt 41 = .ok (.lload 7, 2) := by decide +kernel
theorem dX2_mostOpenDoubt_43 : decode cX2_mostOpenDoubt 43 = .ok (.lsub, 1) := by decide +kernel
theorem dX2_mostOpenDoubt_44 : decode cX2_mostOpenDoubt 44 = .ok (.invokestatic 137, 3) := by decide +kernel
theorem dX2_mostOpenDoubt_47 : decode cX2_mostOpenDoubt 47 = .ok (.lstore 9, 2) := by decide +kernel
theorem dX2_mostOpenDoubt_49 : decode cX2_mostOpenDoubt 49 = .ok (.iload_n 1, 1) := by decide +kernel
theorem dX2_mostOpenDoubt_50 : decode cX2_mostOpenDoubt 50 = .ok (.iconst (-1), 1) := by decide +kernel
theorem dX2_mostOpenDoubt_51 : decode cX2_mostOpenDoubt 51 = .ok (.if_icmp .eq 10, 3) := by decide +kernel
theorem dX2_mostOpenDoubt_54 : decode cX2_mostOpenDoubt 54 = .ok (.lload 9, 2) := by decide +kernel
theorem dX2_mostOpenDoubt_56 : decode cX2_mostOpenDoubt 56 = .ok (.lload_n 2, 1) := by decide +kernel
theorem dX2_mostOpenDoubt_57 : decode cX2_mostOpenDoubt 57 = .ok (.lcmp, 1) := by decide +kernel
theorem dX2_mostOpenDoubt_58 : decode cX2_mostOpenDoubt 58 = .ok (.ifCond .ge 14, 3) := by decide +kernel
theorem dX2_mostOpenDoubt_61 : decode cX2_mostOpenDoubt 61 = .ok (.aload_n 0, 1) := by decide +kernel
theorem dX2_mostOpenDoubt_62 : decode cX2_mostOpenDoubt 62 = .ok (.getfield 18, 3) := by decide +kernel
theorem dX2_mostOpenDoubt_65 : decode cX2_mostOpenDoubt 65 = .ok (.iload 6, 2) := by decide +kernel
theorem dX2_mostOpenDoubt_67 : decode cX2_mostOpenDoubt 67 = .ok (.iaload, 1) := by decide +kernel
theorem dX2_mostOpenDoubt_68 : decode cX2_mostOpenDoubt 68 = .ok (.istore_n 1, 1) := by decide +kernel
theorem dX2_mostOpenDoubt_69 : decode cX2_mostOpenDoubt 69 = .ok (.lload 9, 2) := by decide +kernel
theorem dX2_mostOpenDoubt_71 : decode cX2_mostOpenDoubt 71 = .ok (.lstore_n 2, 1) := by decide +kernel
theorem dX2_mostOpenDoubt_72 : decode cX2_mostOpenDoubt 72 = .ok (.iinc 6 1, 3) := by decide +kernel
theorem dX2_mostOpenDoubt_75 : decode cX2_mostOpenDoubt 75 = .ok (.goto (-62), 3) := by decide +kernel
theorem dX2_mostOpenDoubt_78 : decode cX2_mostOpenDoubt 78 = .ok (.iload_n 1, 1) := by decide +kernel
theorem dX2_mostOpenDoubt_79 : decode cX2_mostOpenDoubt 79 = .ok (.ireturn, 1) := by decide +kernel
set_option maxRecDepth 20000 in
theorem ggX2_oddsOfMade_X2_size : GoodIn wsX2_oddsOfMade wsX2_size := goodIn_r _ [5, 6, 12, 13, 14, 15, 16, 17, 18, 19, 20, 21, 22, 23, 24, 25] (by decide +kernel) (by decide +kernel)
set_option maxRecDepth 20000 in
theorem gX2_oddsOfMade_X2_size : GoodIn wsX2_oddsOfMade (wsV RX2 84 RX2 yX2_size wsX2_size) := goodIn_app (goodIn_of _ (by decide +kernel)) ggX2_oddsOfMade_X2_size
set_option maxRecDepth 20000 in
theorem ggX2_oddsOfMade_X2_weight : GoodIn wsX2_oddsOfMade wsX2_weight := goodIn_r _ [10, 11, 1, 2, 3, 4, 5, 6, 12, 13, 14, 15, 16, 17, 18, 19, 20, 21, 22, 23, 24, 25] (by decide +kernel) (by decide +kernel)
set_option maxRecDepth 20000 in
theorem gX2_oddsOfMade_X2_weight : GoodIn wsX2_oddsOfMade (wsV RX2 93 RX2 yX2_weight wsX2_weight) := goodIn_app (goodIn_of _ (by decide +kernel)) ggX2_oddsOfMade_X2_weight
theorem dX2_oddsOfMade_0 : decode cX2_oddsOfMade 0 = .ok (.lconst 0, 1) := by decide +kernel
theorem dX2_oddsOfMade_1 : decode cX2_oddsOfMade 1 = .ok (.lstore_n 2, 1) := by decide +kernel
theorem dX2_oddsOfMade_2 : decode cX2_oddsOfMade 2 = .ok (.iconst 0, 1) := by decide +kernel
theorem dX2_oddsOfMade_3 : decode cX2_oddsOfMade 3 = .ok (.istore 4, 2) := by decide +kernel
theorem dX2_oddsOfMade_5 : decode cX2_oddsOfMade 5 = .ok (.iload 4, 2) := by decide +kernel
theorem dX2_oddsOfMade_7 : decode cX2_oddsOfMade 7 = .ok (.aload_n 0, 1) := by decide +kernel
theorem dX2_oddsOfMade_8 : decode cX2_oddsOfMade 8 = .ok (.invokevirtual 84, 3) := by decide +kernel
theorem dX2_oddsOfMade_11 : decode cX2_oddsOfMade 11 = .ok (.if_icmp .ge 29, 3) := by decide +kernel
theorem dX2_oddsOfMade_14 : decode cX2_oddsOfMade 14 = .ok (.iload 4, 2) := by decide +kernel
theorem dX2_oddsOfMade_16 : decode cX2_oddsOfMade 16 = .ok (.iload_n 1, 1) := by decide +kernel
theorem dX2_oddsOfMade_17 : decode cX2_oddsOfMade 17 = .ok (.ishr, 1) := by decide +kernel
theorem dX2_oddsOfMade_18 : decode cX2_oddsOfMade 18 = .ok (.iconst 1, 1) := by decide +kernel
theorem dX2_oddsOfMade_19 : decode cX2_oddsOfMade 19 = .ok (.iand, 1) := by decide +kernel
theorem dX2_oddsOfMade_20 : decode cX2_oddsOfMade 20 = .ok (.iconst 1, 1) := by decide +kernel
theorem dX2_oddsOfMade_21 : decode cX2_oddsOfMade 21 = .ok (.if_icmp .ne 13, 3) := by decide +kernel
theorem dX2_oddsOfMade_24 : decode cX2_oddsOfMade 24 = .ok (.lload_n 2, 1) := by decide +kernel
theorem dX2_oddsOfMade_25 : decode cX2_oddsOfMade 25 = .ok (.aload_n 0, 1) := by decide +kernel
theorem dX2_oddsOfMade_26 : decode cX2_oddsOfMade 26 = .ok (.iload 4, 2) := by decide +kernel
theorem dX2_oddsOfMade_28 : decode cX2_oddsOfMade 28 = .ok (.invokevirtual 93, 3) := by decide +kernel
theorem dX2_oddsOfMade_31 : decode cX2_oddsOfMade 31 = .ok (.i2l, 1) := by decide +kernel
theorem dX2_oddsOfMade_32 : decode cX2_oddsOfMade 32 = .ok (.ladd, 1) := by decide +kernel
theorem dX2_oddsOfMade_33 : decode cX2_oddsOfMade 33 = .ok (.lstore_n 2, 1) := by decide +kernel
theorem dX2_oddsOfMade_34 : decode cX2_oddsOfMade 34 = .ok (.iinc 4 1, 3) := by decide +kernel
theorem dX2_oddsOfMade_37 : decode cX2_oddsOfMade 37 = .ok (.goto (-32), 3) := by decide +kernel
theorem dX2_oddsOfMade_40 : decode cX2_oddsOfMade 40 = .ok (.lload_n 2, 1) := by decide +kernel
theorem dX2_oddsOfMade_41 : decode cX2_oddsOfMade 41 = .ok (.lreturn, 1) := by decide +kernel
set_option maxRecDepth 20000 in
theorem ggX2_hourOf_X4_cell : GoodIn wsX2_hourOf wsX4_cell := goodIn_r _ [6, 7, 8, 9, 30, 31, 32, 33] (by decide +kernel) (by decide +kernel)
set_option maxRecDepth 20000 in
theorem gX2_hourOf_X4_cell : GoodIn wsX2_hourOf (wsV RX2 141 RX4 yX4_cell wsX4_cell) := goodIn_app (goodIn_of _ (by decide +kernel)) ggX2_hourOf_X4_cell
theorem dX2_hourOf_0 : decode cX2_hourOf 0 = .ok (.aload_n 0, 1) := by decide +kernel
theorem dX2_hourOf_1 : decode cX2_hourOf 1 = .ok (.getfield 53, 3) := by decide +kernel
theorem dX2_hourOf_4 : decode cX2_hourOf 4 = .ok (.getfield 57, 3) := by decide +kernel
theorem dX2_hourOf_7 : decode cX2_hourOf 7 = .ok (.iload_n 1, 1) := by decide +kernel
theorem dX2_hourOf_8 : decode cX2_hourOf 8 = .ok (.iconst 0, 1) := by decide +kernel
theorem dX2_hourOf_9 : decode cX2_hourOf 9 = .ok (.invokevirtual 141, 3) := by decide +kernel
theorem dX2_hourOf_12 : decode cX2_hourOf 12 = .ok (.ireturn, 1) := by decide +kernel
set_option maxRecDepth 20000 in
theorem ggX2_orderBows_X2_hourOf : GoodIn wsX2_orderBows wsX2_hourOf := goodIn_r _ [7, 8, 9, 10, 11, 12, 13, 14, 15, 16, 17, 18, 19, 20, 21, 22, 23, 24, 25, 26, 27, 28, 29, 30, 31, 32, 33, 34, 35, 36, 37, 38, 39, 40] (by decide +kernel) (by decide +kernel)
set_option maxRecDepth 20000 in
theorem gX2_orderBows_X2_hourOf : GoodIn wsX2_orderBows (wsV RX2 144 RX2 yX2_hourOf wsX2_hourOf) := goodIn_app (goodIn_of _ (by decide +kernel)) ggX2_orderBows_X2_hourOf
theorem dX2_orderBows_0 : decode cX2_orderBows 0 = .ok (.iconst 0, 1) := by decide +kernel
theorem dX2_orderBows_1 : decode cX2_orderBows 1 = .ok (.istore_n 1, 1) := by decide +kernel
theorem dX2_orderBows_2 : decode cX2_orderBows 2 = .ok (.iload_n 1, 1) := by decide +kernel
theorem dX2_orderBows_3 : decode cX2_orderBows 3 = .ok (.aload_n 0, 1) := by decide +kernel
theorem dX2_orderBows_4 : decode cX2_orderBows 4 = .ok (.getfield 37, 3) := by decide +kernel
theorem dX2_orderBows_7 : decode cX2_orderBows 7 = .ok (.if_icmp .ge 62, 3) := by decide +kernel
theorem dX2_orderBows_10 : decode cX2_orderBows 10 = .ok (.iload_n 1, 1) := by decide +kernel
theorem dX2_orderBows_11 : decode cX2_orderBows 11 = .ok (.istore_n 2, 1) := by decide +kernel
theorem dX2_orderBows_12 : decode cX2_orderBows 12 = .ok (.iload_n 2, 1) := by decide +kernel
theorem dX2_orderBows_13 : decode cX2_orderBows 13 = .ok (.ifCond .le 43, 3) := by decide +kernel
theorem dX2_orderBows_16 : decode cX2_orderBows 16 = .ok (.aload_n 0, 1) := by decide +kernel
theorem dX2_orderBows_17 : decode cX2_orderBows 17 = .ok (.aload_n 0, 1) := by decide +kernel
theorem dX2_orderBows_18 : decode cX2_orderBows 18 = .ok (.getfield 9, 3) := by decide +kernel
theorem dX2_orderBows_21 : decode cX2_orderBows 21 = .ok (.iload_n 2, 1) := by decide +kernel
theorem dX2_orderBows_22 : decode cX2_orderBows 22 = .ok (.iconst 1, 1) := by decide +kernel
theorem dX2_orderBows_23 : decode cX2_orderBows 23 = .ok (.isub, 1) := by decide +kernel
theorem dX2_orderBows_24 : decode cX2_orderBows 24 = .ok (.iaload, 1) := by decide +kernel
theorem dX2_orderBows_25 : decode cX2_orderBows 25 = .ok (.invokevirtual 144, 3) := by decide +kernel
theorem dX2_orderBows_28 : decode cX2_orderBows 28 = .ok (.aload_n 0, 1) := by decide +kernel
theorem dX2_orderBows_29 : decode cX2_orderBows 29 = .ok (.iload_n 1, 1) := by decide +kernel
theorem dX2_orderBows_30 : decode cX2_orderBows 30 = .ok (.invokevirtual 144, 3) := by decide +kernel
theorem dX2_orderBows_33 : decode cX2_orderBows 33 = .ok (.if_icmp .le 23, 3) := by decide +kernel
theorem dX2_orderBows_36 : decode cX2_orderBows 36 = .ok (.aload_n 0, 1) := by decide +kernel
theorem dX2_orderBows_37 : decode cX2_orderBows 37 = .ok (.getfield 9, 3) := by decide +kernel
theorem dX2_orderBows_40 : decode cX2_orderBows 40 = .ok (.iload_n 2, 1) := by decide +kernel
theorem dX2_orderBows_41 : decode cX2_orderBows 41 = .ok (.aload_n 0, 1) := by decide +kernel
theorem dX2_orderBows_42 : decode cX2_orderBows 42 = .ok (.getfield 9, 3) := by decide +kernel
theorem dX2_orderBows_45 : decode cX2_orderBows 45 = .ok (.iload_n 2, 1) := by decide +kernel
theorem dX2_orderBows_46 : decode cX2_orderBows 46 = .ok (.iconst 1, 1) := by decide +kernel
theorem dX2_orderBows_47 : decode cX2_orderBows 47 = .ok (.isub, 1) := by decide +kernel
theorem dX2_orderBows_48 : decode cX2_orderBows 48 = .ok (.iaload, 1) := by decide +kernel
theorem dX2_orderBows_49 : decode cX2_orderBows 49 = .ok (.iastore, 1) := by decide +kernel
theorem dX2_orderBows_50 : decode cX2_orderBows 50 = .ok (.iinc 2 (-1), 3) := by decide +kernel
theorem dX2_orderBows_53 : decode cX2_orderBows 53 = .ok (.goto (-41), 3) := by decide +kernel
theorem dX2_orderBows_56 : decode cX2_orderBows 56 = .ok (.aload_n 0, 1) := by decide +kernel
theorem dX2_orderBows_57 : decode cX2_orderBows 57 = .ok (.getfield 9, 3) := by decide +kernel
theorem dX2_orderBows_60 : decode cX2_orderBows 60 = .ok (.iload_n 2, 1) := by decide +kernel
theorem dX2_orderBows_61 : decode cX2_orderBows 61 = .ok (.iload_n 1, 1) := by decide +kernel
theorem dX2_orderBows_62 : decode cX2_orderBows 62 = .ok (.iastore, 1) := by decide +kernel
theorem dX2_orderBows_63 : decode cX2_orderBows 63 = .ok (.iinc 1 1, 3) := by decide +kernel
theorem dX2_orderBows_66 : decode cX2_orderBows 66 = .ok (.goto (-64), 3) := by decide +kernel
theorem dX2_orderBows_69 : decode cX2_orderBows 69 = .ok (.return_, 1) := by decide +kernel
set_option maxRecDepth 20000 in
theorem ggX2_countSteps_X2_hourOf : GoodIn wsX2_countSteps wsX2_hourOf := goodIn_r _ [8, 9, 10, 11, 12, 13, 14, 15, 16, 17, 18, 19, 20, 21, 22, 23, 24, 25, 26, 27, 28, 29, 30, 31, 32, 33, 34, 35, 36, 37, 38, 39, 40, 41] (by decide +kernel) (by decide +kernel)
set_option maxRecDepth 20000 in
theorem gX2_countSteps_X2_hourOf : GoodIn wsX2_countSteps (wsV RX2 144 RX2 yX2_hourOf wsX2_hourOf) := goodIn_app (goodIn_of _ (by decide +kernel)) ggX2_countSteps_X2_hourOf
theorem dX2_countSteps_0 : decode cX2_countSteps 0 = .ok (.iconst 0, 1) := by decide +kernel
theorem dX2_countSteps_1 : decode cX2_countSteps 1 = .ok (.istore_n 1, 1) := by decide +kernel
theorem dX2_countSteps_2 : decode cX2_countSteps 2 = .ok (.iconst 0, 1) := by decide +kernel
theorem dX2_countSteps_3 : decode cX2_countSteps 3 = .ok (.istore_n 2, 1) := by decide +kernel
theorem dX2_countSteps_4 : decode cX2_countSteps 4 = .ok (.iload_n 2, 1) := by decide +kernel
theorem dX2_countSteps_5 : decode cX2_countSteps 5 = .ok (.bipush 100, 2) := by decide +kernel
theorem dX2_countSteps_7 : decode cX2_countSteps 7 = .ok (.if_icmp .ge 44, 3) := by decide +kernel
theorem dX2_countSteps_10 : decode cX2_countSteps 10 = .ok (.iload_n 1, 1) := by decide +kernel
theorem dX2_countSteps_11 : decode cX2_countSteps 11 = .ok (.aload_n 0, 1) := by decide +kernel
theorem dX2_countSteps_12 : decode cX2_countSteps 12 = .ok (.getfield 37, 3) := by decide +kernel
theorem dX2_countSteps_15 : decode cX2_countSteps 15 = .ok (.if_icmp .ge 23, 3) := by decide +kernel
theorem dX2_countSteps_18 : decode cX2_countSteps 18 = .ok (.aload_n 0, 1) := by decide +kernel
theorem dX2_countSteps_19 : decode cX2_countSteps 19 = .ok (.aload_n 0, 1) := by decide +kernel
theorem dX2_countSteps_20 : decode cX2_countSteps 20 = .ok (.getfield 9, 3) := by decide +kernel
theorem dX2_countSteps_23 : decode cX2_countSteps 23 = .ok (.iload_n 1, 1) := by decide +kernel
theorem dX2_countSteps_24 : decode cX2_countSteps 24 = .ok (.iaload, 1) := by decide +kernel
theorem dX2_countSteps_25 : decode cX2_countSteps 25 = .ok (.invokevirtual 144, 3) := by decide +kernel
theorem dX2_countSteps_28 : decode cX2_countSteps 28 = .ok (.iload_n 2, 1) := by decide +kernel
theorem dX2_countSteps_29 : decode cX2_countSteps 29 = .ok (.if_icmp .gt 9, 3) := by decide +kernel
theorem dX2_countSteps_32 : decode cX2_countSteps 32 = .ok (.iinc 1 1, 3) := by decide +kernel
theorem dX2_countSteps_35 : decode cX2_countSteps 35 = .ok (.goto (-25), 3) := by decide +kernel
theorem dX2_countSteps_38 : decode cX2_countSteps 38 = .ok (.aload_n 0, 1) := by decide +kernel
theorem dX2_countSteps_39 : decode cX2_countSteps 39 = .ok (.getfield 15, 3) := by decide +kernel
theorem dX2_countSteps_42 : decode cX2_countSteps 42 = .ok (.iload_n 2, 1) := by decide +kernel
theorem dX2_countSteps_43 : decode cX2_countSteps 43 = .ok (.iload_n 1, 1) := by decide +kernel
theorem dX2_countSteps_44 : decode cX2_countSteps 44 = .ok (.iastore, 1) := by decide +kernel
theorem dX2_countSteps_45 : decode cX2_countSteps 45 = .ok (.iinc 2 1, 3) := by decide +kernel
theorem dX2_countSteps_48 : decode cX2_countSteps 48 = .ok (.goto (-44), 3) := by decide +kernel
theorem dX2_countSteps_51 : decode cX2_countSteps 51 = .ok (.return_, 1) := by decide +kernel
set_option maxRecDepth 20000 in
theorem ggX2_findDoubts_X0_isDoubted : GoodIn wsX2_findDoubts wsX0_isDoubted := goodIn_r _ [10, 11, 12, 13, 14, 15, 16, 17, 18, 19, 34, 35, 36, 37, 38, 39, 40, 41, 42, 43] (by decide +kernel) (by decide +kernel)
set_option maxRecDepth 20000 in
theorem gX2_findDoubts_X0_isDoubted : GoodIn wsX2_findDoubts (wsV RX2 147 RX0 yX0_isDoubted wsX0_isDoubted) := goodIn_app (goodIn_of _ (by decide +kernel)) ggX2_findDoubts_X0_isDoubted
theorem dX2_findDoubts_0 : decode cX2_findDoubts 0 = .ok (.aload_n 0, 1) := by decide +kernel
theorem dX2_findDoubts_1 : decode cX2_findDoubts 1 = .ok (.iconst 0, 1) := by decide +kernel
theorem dX2_findDoubts_2 : decode cX2_findDoubts 2 = .ok (.putfield 41, 3) := by decide +kernel
theorem dX2_findDoubts_5 : decode cX2_findDoubts 5 = .ok (.aload_n 0, 1) := by decide +kernel
theorem dX2_findDoubts_6 : decode cX2_findDoubts 6 = .ok (.iconst 0, 1) := by decide +kernel
theorem dX2_findDoubts_7 : decode cX2_findDoubts 7 = .ok (.putfield 44, 3) := by decide +kernel
theorem dX2_findDoubts_10 : decode cX2_findDoubts 10 = .ok (.iconst 0, 1) := by decide +kernel
theorem dX2_findDoubts_11 : decode cX2_findDoubts 11 = .ok (.istore_n 1, 1) := by decide +kernel
theorem dX2_findDoubts_12 : decode cX2_findDoubts 12 = .ok (.iload_n 1, 1) := by decide +kernel
theorem dX2_findDoubts_13 : decode cX2_findDoubts 13 = .ok (.aload_n 0, 1) := by decide +kernel
theorem dX2_findDoubts_14 : decode cX2_findDoubts 14 = .ok (.getfield 37, 3) := by decide +kernel
theorem dX2_findDoubts_17 : decode cX2_findDoubts 17 = .ok (.if_icmp .ge 64, 3) := by decide +kernel
theorem dX2_findDoubts_20 : decode cX2_findDoubts 20 = .ok (.aload_n 0, 1) := by decide +kernel
theorem dX2_findDoubts_21 : decode cX2_findDoubts 21 = .ok (.getfield 53, 3) := by decide +kernel
theorem dX2_findDoubts_24 : decode cX2_findDoubts 24 = .ok (.iload_n 1, 1) := by decide +kernel
theorem dX2_findDoubts_25 : decode cX2_findDoubts 25 = .ok (.invokevirtual 147, 3) := by decide +kernel
theorem dX2_findDoubts_28 : decode cX2_findDoubts 28 = .ok (.ifCond .ne 18, 3) := by decide +kernel
theorem dX2_findDoubts_31 : decode cX2_findDoubts 31 = .ok (.aload_n 0, 1) := by decide +kernel
theorem dX2_findDoubts_32 : decode cX2_findDoubts 32 = .ok (.dup, 1) := by decide +kernel
theorem dX2_findDoubts_33 : decode cX2_findDoubts 33 = .ok (.getfield 44, 3) := by decide +kernel
theorem dX2_findDoubts_36 : decode cX2_findDoubts 36 = .ok (.iconst 1, 1) := by decide +kernel
theorem dX2_findDoubts_37 : decode cX2_findDoubts 37 = .ok (.iload_n 1, 1) := by decide +kernel
theorem dX2_findDoubts_38 : decode cX2_findDoubts 38 = .ok (.ishl, 1) := by decide +kernel
theorem dX2_findDoubts_39 : decode cX2_findDoubts 39 = .ok (.ior, 1) := by decide +kernel
theorem dX2_findDoubts_40 : decode cX2_findDoubts 40 = .ok (.putfield 44, 3) := by decide +kernel
theorem dX2_findDoubts_43 : decode cX2_findDoubts 43 = .ok (.goto 32, 3) := by decide +kernel
theorem dX2_findDoubts_46 : decode cX2_findDoubts 46 = .ok (.aload_n 0, 1) := by decide +kernel
theorem dX2_findDoubts_47 : decode cX2_findDoubts 47 = .ok (.getfield 41, 3) := by decide +kernel
theorem dX2_findDoubts_50 : decode cX2_findDoubts 50 = .ok (.bipush 6, 2) := by decide +kernel
theorem dX2_findDoubts_52 : decode cX2_findDoubts 52 = .ok (.if_icmp .ge 23, 3) := by decide +kernel
theorem dX2_findDoubts_55 : decode cX2_findDoubts 55 = .ok (.aload_n 0, 1) := by decide +kernel
theorem dX2_findDoubts_56 : decode cX2_findDoubts 56 = .ok (.getfield 18, 3) := by decide +kernel
theorem dX2_findDoubts_59 : decode cX2_findDoubts 59 = .ok (.aload_n 0, 1) := by decide +kernel
theorem dX2_findDoubts_60 : decode cX2_findDoubts 60 = .ok (.getfield 41, 3) := by decide +kernel
theorem dX2_findDoubts_63 : decode cX2_findDoubts 63 = .ok (.iload_n 1, 1) := by decide +kernel
theorem dX2_findDoubts_64 : decode cX2_findDoubts 64 = .ok (.iastore, 1) := by decide +kernel
theorem dX2_findDoubts_65 : decode cX2_findDoubts 65 = .ok (.aload_n 0, 1) := by decide +kernel
theorem dX2_findDoubts_66 : decode cX2_findDoubts 66 = .ok (.dup, 1) := by decide +kernel
theorem dX2_findDoubts_67 : decode cX2_findDoubts 67 = .ok (.getfield 41, 3) := by decide +kernel
theorem dX2_findDoubts_70 : decode cX2_findDoubts 70 = .ok (.iconst 1, 1) := by decide +kernel
theorem dX2_findDoubts_71 : decode cX2_findDoubts 71 = .ok (.iadd, 1) := by decide +kernel
theorem dX2_findDoubts_72 : decode cX2_findDoubts 72 = .ok (.putfield 41, 3) := by decide +kernel
theorem dX2_findDoubts_75 : decode cX2_findDoubts 75 = .ok (.iinc 1 1, 3) := by decide +kernel
theorem dX2_findDoubts_78 : decode cX2_findDoubts 78 = .ok (.goto (-66), 3) := by decide +kernel
theorem dX2_findDoubts_81 : decode cX2_findDoubts 81 = .ok (.return_, 1) := by decide +kernel
set_option maxRecDepth 20000 in
theorem ggX2_weightOf_X4_cell : GoodIn wsX2_weightOf wsX4_cell := goodIn_r _ [8, 9, 10, 11, 32, 33, 34, 35] (by decide +kernel) (by decide +kernel)
set_option maxRecDepth 20000 in
theorem gX2_weightOf_X4_cell : GoodIn wsX2_weightOf (wsV RX2 141 RX4 yX4_cell wsX4_cell) := goodIn_app (goodIn_of _ (by decide +kernel)) ggX2_weightOf_X4_cell
theorem dX2_weightOf_0 : decode cX2_weightOf 0 = .ok (.iconst 1, 1) := by decide +kernel
theorem dX2_weightOf_1 : decode cX2_weightOf 1 = .ok (.istore_n 2, 1) := by decide +kernel
theorem dX2_weightOf_2 : decode cX2_weightOf 2 = .ok (.iconst 0, 1) := by decide +kernel
theorem dX2_weightOf_3 : decode cX2_weightOf 3 = .ok (.istore_n 3, 1) := by decide +kernel
theorem dX2_weightOf_4 : decode cX2_weightOf 4 = .ok (.iload_n 3, 1) := by decide +kernel
theorem dX2_weightOf_5 : decode cX2_weightOf 5 = .ok (.aload_n 0, 1) := by decide +kernel
theorem dX2_weightOf_6 : decode cX2_weightOf 6 = .ok (.getfield 41, 3) := by decide +kernel
theorem dX2_weightOf_9 : decode cX2_weightOf 9 = .ok (.if_icmp .ge 50, 3) := by decide +kernel
theorem dX2_weightOf_12 : decode cX2_weightOf 12 = .ok (.aload_n 0, 1) := by decide +kernel
theorem dX2_weightOf_13 : decode cX2_weightOf 13 = .ok (.getfield 53, 3) := by decide +kernel
theorem dX2_weightOf_16 : decode cX2_weightOf 16 = .ok (.getfield 57, 3) := by decide +kernel
theorem dX2_weightOf_19 : decode cX2_weightOf 19 = .ok (.aload_n 0, 1) := by decide +kernel
theorem dX2_weightOf_20 : decode cX2_weightOf 20 = .ok (.getfield 18, 3) := by decide +kernel
theorem dX2_weightOf_23 : decode cX2_weightOf 23 = .ok (.iload_n 3, 1) := by decide +kernel
theorem dX2_weightOf_24 : decode cX2_weightOf 24 = .ok (.iaload, 1) := by decide +kernel
theorem dX2_weightOf_25 : decode cX2_weightOf 25 = .ok (.iconst 3, 1) := by decide +kernel
theorem dX2_weightOf_26 : decode cX2_weightOf 26 = .ok (.invokevirtual 141, 3) := by decide +kernel
theorem dX2_weightOf_29 : decode cX2_weightOf 29 = .ok (.istore 4, 2) := by decide +kernel
theorem dX2_weightOf_31 : decode cX2_weightOf 31 = .ok (.iload_n 2, 1) := by decide +kernel
theorem dX2_weightOf_32 : decode cX2_weightOf 32 = .ok (.iload_n 1, 1) := by decide +kernel
theorem dX2_weightOf_33 : decode cX2_weightOf 33 = .ok (.iload_n 3, 1) := by decide +kernel
theorem dX2_weightOf_34 : decode cX2_weightOf 34 = .ok (.ishr, 1) := by decide +kernel
theorem dX2_weightOf_35 : decode cX2_weightOf 35 = .ok (.iconst 1, 1) := by decide +kernel
theorem dX2_weightOf_36 : decode cX2_weightOf 36 = .ok (.iand, 1) := by decide +kernel
theorem dX2_weightOf_37 : decode cX2_weightOf 37 = .ok (.iconst 1, 1) := by decide +kernel
theorem dX2_weightOf_38 : decode cX2_weightOf 38 = .ok (.if_icmp .ne 8, 3) := by decide +kernel
theorem dX2_weightOf_41 : decode cX2_weightOf 41 = .ok (.iload 4, 2) := by decide +kernel
theorem dX2_weightOf_43 : decode cX2_weightOf 43 = .ok (.goto 8, 3) := by decide +kernel
theorem dX2_weightOf_46 : decode cX2_weightOf 46 = .ok (.bipush 10, 2) := by decide +kernel
theorem dX2_weightOf_48 : decode cX2_weightOf 48 = .ok (.iload 4, 2) := by decide +kernel
theorem dX2_weightOf_50 : decode cX2_weightOf 50 = .ok (.isub, 1) := by decide +kernel
theorem dX2_weightOf_51 : decode cX2_weightOf 51 = .ok (.imul, 1) := by decide +kernel
theorem dX2_weightOf_52 : decode cX2_weightOf 52 = .ok (.istore_n 2, 1) := by decide +kernel
theorem dX2_weightOf_53 : decode cX2_weightOf 53 = .ok (.iinc 3 1, 3) := by decide +kernel
theorem dX2_weightOf_56 : decode cX2_weightOf 56 = .ok (.goto (-52), 3) := by decide +kernel
theorem dX2_weightOf_59 : decode cX2_weightOf 59 = .ok (.iload_n 2, 1) := by decide +kernel
theorem dX2_weightOf_60 : decode cX2_weightOf 60 = .ok (.ireturn, 1) := by decide +kernel
set_option maxRecDepth 20000 in
theorem ggX2_judge_X2_makeBows : GoodIn wsX2_judge wsX2_makeBows := goodIn_r _ [15, 9, 16, 17, 18, 19, 1, 20, 21, 22, 14, 23, 24, 25, 26, 27, 28, 29, 30, 31, 32, 33, 34, 35, 36, 37, 38, 39, 40, 41, 42, 43, 44, 45, 46, 47, 48, 74, 75, 76, 77, 78, 79, 80, 81, 82, 83, 84, 85, 86, 87, 88, 89, 90, 91, 92, 93, 94, 95, 96, 97] (by decide +kernel) (by decide +kernel)
set_option maxRecDepth 20000 in
theorem gX2_judge_X2_makeBows : GoodIn wsX2_judge (wsV RX2 150 RX2 yX2_makeBows wsX2_makeBows) := goodIn_app (goodIn_of _ (by decide +kernel)) ggX2_judge_X2_makeBows
set_option maxRecDepth 20000 in
theorem ggX2_judge_X2_sayingsSo : GoodIn wsX2_judge wsX2_sayingsSo := goodIn_r _ [52, 1, 53, 54, 55, 34, 56, 36, 57, 58, 59, 14, 60, 31, 32, 33, 35, 37, 38, 61, 62, 63, 64, 16, 17, 65, 39, 40, 41, 74, 75, 76, 77, 78, 79, 80, 81, 82, 83, 84, 85, 86, 87, 88, 89, 90, 91, 92, 93, 94, 95, 96, 97] (by decide +kernel) (by decide +kernel)
set_option maxRecDepth 20000 in
theorem gX2_judge_X2_sayingsSo : GoodIn wsX2_judge (wsV RX2 156 RX2 yX2_sayingsSo wsX2_sayingsSo) := goodIn_app (goodIn_of _ (by decide +kernel)) ggX2_judge_X2_sayingsSo
set_option maxRecDepth 20000 in
theorem ggX2_judge_X4_size : GoodIn wsX2_judge wsX4_size := goodIn_r _ [56, 36, 94, 95, 96, 97] (by decide +kernel) (by decide +kernel)
set_option maxRecDepth 20000 in
theorem gX2_judge_X4_size : GoodIn wsX2_judge (wsV RX2 63 RX4 yX4_size wsX4_size) := goodIn_app (goodIn_of _ (by decide +kernel)) ggX2_judge_X4_size
set_option maxRecDepth 20000 in
theorem ggX2_judge_X2_weight : GoodIn wsX2_judge wsX2_weight := goodIn_r _ [69, 7, 70, 71, 72, 14, 73, 29, 74, 75, 76, 77, 78, 79, 80, 81, 82, 83, 84, 85, 86, 87] (by decide +kernel) (by decide +kernel)
set_option maxRecDepth 20000 in
theorem gX2_judge_X2_weight : GoodIn wsX2_judge (wsV RX2 93 RX2 yX2_weight wsX2_weight) := goodIn_app (goodIn_of _ (by decide +kernel)) ggX2_judge_X2_weight
theorem dX2_judge_0 : decode cX2_judge 0 = .ok (.iload_n 2, 1) := by decide +kernel
theorem dX2_judge_1 : decode cX2_judge 1 = .ok (.ifCond .ne 4, 3) := by decide +kernel
theorem dX2_judge_4 : decode cX2_judge 4 = .ok (.return_, 1) := by decide +kernel
theorem dX2_judge_5 : decode cX2_judge 5 = .ok (.aload_n 0, 1) := by decide +kernel
theorem dX2_judge_6 : decode cX2_judge 6 = .ok (.iload_n 1, 1) := by decide +kernel
theorem dX2_judge_7 : decode cX2_judge 7 = .ok (.invokevirtual 150, 3) := by decide +kernel
theorem dX2_judge_10 : decode cX2_judge 10 = .ok (.istore_n 3, 1) := by decide +kernel
theorem dX2_judge_11 : decode cX2_judge 11 = .ok (.iload_n 3, 1) := by decide +kernel
theorem dX2_judge_12 : decode cX2_judge 12 = .ok (.ifCond .eq 14, 3) := by decide +kernel
theorem dX2_judge_15 : decode cX2_judge 15 = .ok (.aload_n 0, 1) := by decide +kernel
theorem dX2_judge_16 : decode cX2_judge 16 = .ok (.getfield 53, 3) := by decide +kernel
theorem dX2_judge_19 : decode cX2_judge 19 = .ok (.getfield 153, 3) := by decide +kernel
theorem dX2_judge_22 : decode cX2_judge 22 = .ok (.ifCond .eq 4, 3) := by decide +kernel
theorem dX2_judge_25 : decode cX2_judge 25 = .ok (.return_, 1) := by decide +kernel
theorem dX2_judge_26 : decode cX2_judge 26 = .ok (.aload_n 0, 1) := by decide +kernel
theorem dX2_judge_27 : decode cX2_judge 27 = .ok (.iload_n 1, 1) := by decide +kernel
theorem dX2_judge_28 : decode cX2_judge 28 = .ok (.invokevirtual 156, 3) := by decide +kernel
theorem dX2_judge_31 : decode cX2_judge 31 = .ok (.istore 4, 2) := by decide +kernel
theorem dX2_judge_33 : decode cX2_judge 33 = .ok (.aload_n 0, 1) := by decide +kernel
theorem dX2_judge_34 : decode cX2_judge 34 = .ok (.aload_n 0, 1) := by decide +kernel
theorem dX2_judge_35 : decode cX2_judge 35 = .ok (.getfield 50, 3) := by decide +kernel
theorem dX2_judge_38 : decode cX2_judge 38 = .ok (.iload 4, 2) := by decide +kernel
theorem dX2_judge_40 : decode cX2_judge 40 = .ok (.invokestatic 159, 3) := by decide +kernel
theorem dX2_judge_43 : decode cX2_judge 43 = .ok (.putfield 50, 3) := by decide +kernel
theorem dX2_judge_46 : decode cX2_judge 46 = .ok (.iload 4, 2) := by decide +kernel
theorem dX2_judge_48 : decode cX2_judge 48 = .ok (.aload_n 0, 1) := by decide +kernel
theorem dX2_judge_49 : decode cX2_judge 49 = .ok (.getfield 53, 3) := by decide +kernel
theorem dX2_judge_52 : decode cX2_judge 52 = .ok (.getfield 122, 3) := by decide +kernel
theorem dX2_judge_55 : decode cX2_judge 55 = .ok (.invokevirtual 63, 3) := by decide +kernel
theorem dX2_judge_58 : decode cX2_judge 58 = .ok (.if_icmp .ge 14, 3) := by decide +kernel
theorem dX2_judge_61 : decode cX2_judge 61 = .ok (.aload_n 0, 1) := by decide +kernel
theorem dX2_judge_62 : decode cX2_judge 62 = .ok (.getfield 53, 3) := by decide +kernel
theorem dX2_judge_65 : decode cX2_judge 65 = .ok (.getfield 161, 3) := by decide +kernel
theorem dX2_judge_68 : decode cX2_judge 68 = .ok (.ifCond .eq 4, 3) := by decide +kernel
theorem dX2_judge_71 : decode cX2_judge 71 = .ok (.return_, 1) := by decide +kernel
theorem dX2_judge_72 : decode cX2_judge 72 = .ok (.aload_n 0, 1) := by decide +kernel
theorem dX2_judge_73 : decode cX2_judge 73 = .ok (.getfield 21, 3) := by decide +kernel
theorem dX2_judge_76 : decode cX2_judge 76 = .ok (.iload_n 1, 1) := by decide +kernel
theorem dX2_judge_77 : decode cX2_judge 77 = .ok (.iload_n 2, 1) := by decide +kernel
theorem dX2_judge_78 : decode cX2_judge 78 = .ok (.iastore, 1) := by decide +kernel
theorem dX2_judge_79 : decode cX2_judge 79 = .ok (.iconst 0, 1) := by decide +kernel
theorem dX2_judge_80 : decode cX2_judge 80 = .ok (.istore 5, 2) := by decide +kernel
theorem dX2_judge_82 : decode cX2_judge 82 = .ok (.iload 5, 2) := by decide +kernel
theorem dX2_judge_84 : decode cX2_judge 84 = .ok (.bipush 8, 2) := by decide +kernel
theorem dX2_judge_86 : decode cX2_judge 86 = .ok (.if_icmp .ge 26, 3) := by decide +kernel
theorem dX2_judge_89 : decode cX2_judge 89 = .ok (.aload_n 0, 1) := by decide +kernel
theorem dX2_judge_90 : decode cX2_judge 90 = .ok (.getfield 27, 3) := by decide +kernel
theorem dX2_judge_93 : decode cX2_judge 93 = .ok (.iload 5, 2) := by decide +kernel
theorem dX2_judge_95 : decode cX2_judge 95 = .ok (.dup2, 1) := by decide +kernel
theorem dX2_judge_96 : decode cX2_judge 96 = .ok (.iaload, 1) := by decide +kernel
theorem dX2_judge_97 : decode cX2_judge 97 = .ok (.aload_n 0, 1) := by decide +kernel
theorem dX2_judge_98 : decode cX2_judge 98 = .ok (.getfield 30, 3) := by decide +kernel
theorem dX2_judge_101 : decode cX2_judge 101 = .ok (.iload 5, 2) := by decide +kernel
theorem dX2_judge_103 : decode cX2_judge 103 = .ok (.iaload, 1) := by decide +kernel
theorem dX2_judge_104 : decode cX2_judge 104 = .ok (.ior, 1) := by decide +kernel
theorem dX2_judge_105 : decode cX2_judge 105 = .ok (.iastore, 1) := by decide +kernel
theorem dX2_judge_106 : decode cX2_judge 106 = .ok (.iinc 5 1, 3) := by decide +kernel
theorem dX2_judge_109 : decode cX2_judge 109 = .ok (.goto (-27), 3) := by decide +kernel
theorem dX2_judge_112 : decode cX2_judge 112 = .ok (.iload_n 2, 1) := by decide +kernel
theorem dX2_judge_113 : decode cX2_judge 113 = .ok (.aload_n 0, 1) := by decide +kernel
theorem dX2_judge_114 : decode cX2_judge 114 = .ok (.aload_n 0, 1) := by decide +kernel
theorem dX2_judge_115 : decode cX2_judge 115 = .ok (.getfield 47, 3) := by decide +kernel
theorem dX2_judge_118 : decode cX2_judge 118 = .ok (.invokevirtual 93, 3) := by decide +kernel
theorem dX2_judge_121 : decode cX2_judge 121 = .ok (.if_icmp .le 8, 3) := by decide +kernel
theorem dX2_judge_124 : decode cX2_judge 124 = .ok (.aload_n 0, 1) := by decide +kernel
theorem dX2_judge_125 : decode cX2_judge 125 = .ok (.iload_n 1, 1) := by decide +kernel
theorem dX2_judge_126 : decode cX2_judge 126 = .ok (.putfield 47, 3) := by decide +kernel
theorem dX2_judge_129 : decode cX2_judge 129 = .ok (.return_, 1) := by decide +kernel
set_option maxRecDepth 20000 in
theorem ggX2_makeBows_X2_bowsMadeIn : GoodIn wsX2_makeBows wsX2_bowsMadeIn := goodIn_r _ [11, 12, 13, 14, 15, 10, 16, 17, 18, 37, 38, 39, 40, 41, 42, 43, 44, 45, 46, 47, 48, 49, 50] (by decide +kernel) (by decide +kernel)
set_option maxRecDepth 20000 in
theorem gX2_makeBows_X2_bowsMadeIn : GoodIn wsX2_makeBows (wsV RX2 164 RX2 yX2_bowsMadeIn wsX2_bowsMadeIn) := goodIn_app (goodIn_of _ (by decide +kernel)) ggX2_makeBows_X2_bowsMadeIn
set_option maxRecDepth 20000 in
theorem ggX2_makeBows_X4_cell : GoodIn wsX2_makeBows wsX4_cell := goodIn_r _ [23, 24, 25, 26, 57, 58, 59, 60] (by decide +kernel) (by decide +kernel)
set_option maxRecDepth 20000 in
theorem gX2_makeBows_X4_cell : GoodIn wsX2_makeBows (wsV RX2 141 RX4 yX4_cell wsX4_cell) := goodIn_app (goodIn_of _ (by decide +kernel)) ggX2_makeBows_X4_cell
set_option maxRecDepth 20000 in
theorem ggX2_makeBows_X7_wearer : GoodIn wsX2_makeBows wsX7_wearer := goodIn_r _ [29] (by decide +kernel) (by decide +kernel)
set_option maxRecDepth 20000 in
theorem gX2_makeBows_X7_wearer_n107 : GoodIn wsX2_makeBows (wsX7_wearer) := ggX2_makeBows_X7_wearer
set_option maxRecDepth 20000 in
theorem ggX2_makeBows_X2_noteBow : GoodIn wsX2_makeBows wsX2_noteBow := goodIn_r _ [33, 1, 37, 38, 39, 40, 41, 42, 43, 44, 45, 46, 47, 48, 49, 50] (by decide +kernel) (by decide +kernel)
set_option maxRecDepth 20000 in
theorem gX2_makeBows_X2_noteBow : GoodIn wsX2_makeBows (wsV RX2 167 RX2 yX2_noteBow wsX2_noteBow) := goodIn_app (goodIn_of _ (by decide +kernel)) ggX2_makeBows_X2_noteBow
set_option maxRecDepth 20000 in
theorem ggX2_makeBows_X7_changed : GoodIn wsX2_makeBows wsX7_changed := goodIn_r _ [35, 36, 27, 28, 29] (by decide +kernel) (by decide +kernel)
set_option maxRecDepth 20000 in
theorem gX2_makeBows_X7_changed_n170 : GoodIn wsX2_makeBows (wsX7_changed) := ggX2_makeBows_X7_changed
theorem dX2_makeBows_0 : decode cX2_makeBows 0 = .ok (.iconst 0, 1) := by decide +kernel
theorem dX2_makeBows_1 : decode cX2_makeBows 1 = .ok (.istore_n 2, 1) := by decide +kernel
theorem dX2_makeBows_2 : decode cX2_makeBows 2 = .ok (.iload_n 2, 1) := by decide +kernel
theorem dX2_makeBows_3 : decode cX2_makeBows 3 = .ok (.bipush 8, 2) := by decide +kernel
theorem dX2_makeBows_5 : decode cX2_makeBows 5 = .ok (.if_icmp .ge 16, 3) := by decide +kernel
theorem dX2_makeBows_8 : decode cX2_makeBows 8 = .ok (.aload_n 0, 1) := by decide +kernel
theorem dX2_makeBows_9 : decode cX2_makeBows 9 = .ok (.getfield 30, 3) := by decide +kernel
theorem dX2_makeBows_12 : decode cX2_makeBows 12 = .ok (.iload_n 2, 1) := by decide +kernel
theorem dX2_makeBows_13 : decode cX2_makeBows 13 = .ok (.iconst 0, 1) := by decide +kernel
theorem dX2_makeBows_14 : decode cX2_makeBows 14 = .ok (.iastore, 1) := by decide +kernel
theorem dX2_makeBows_15 : decode cX2_makeBows 15 = .ok (.iinc 2 1, 3) := by decide +kernel
theorem dX2_makeBows_18 : decode cX2_makeBows 18 = .ok (.goto (-16), 3) := by decide +kernel
theorem dX2_makeBows_21 : decode cX2_makeBows 21 = .ok (.aload_n 0, 1) := by decide +kernel
theorem dX2_makeBows_22 : decode cX2_makeBows 22 = .ok (.iload_n 1, 1) := by decide +kernel
theorem dX2_makeBows_23 : decode cX2_makeBows 23 = .ok (.invokevirtual 164, 3) := by decide +kernel
theorem dX2_makeBows_26 : decode cX2_makeBows 26 = .ok (.istore_n 2, 1) := by decide +kernel
theorem dX2_makeBows_27 : decode cX2_makeBows 27 = .ok (.ldc 96, 2) := by decide +kernel
theorem dX2_makeBows_29 : decode cX2_makeBows 29 = .ok (.istore_n 3, 1) := by decide +kernel
theorem dX2_makeBows_30 : decode cX2_makeBows 30 = .ok (.iconst 0, 1) := by decide +kernel
theorem dX2_makeBows_31 : decode cX2_makeBows 31 = .ok (.istore 4, 2) := by decide +kernel
theorem dX2_makeBows_33 : decode cX2_makeBows 33 = .ok (.aload_n 0, 1) := by decide +kernel
theorem dX2_makeBows_34 : decode cX2_makeBows 34 = .ok (.getfield 24, 3) := by decide +kernel
theorem dX2_makeBows_37 : decode cX2_makeBows 37 = .ok (.iload_n 1, 1) := by decide +kernel
theorem dX2_makeBows_38 : decode cX2_makeBows 38 = .ok (.bipush 21, 2) := by decide +kernel
theorem dX2_makeBows_40 : decode cX2_makeBows 40 = .ok (.imul, 1) := by decide +kernel
theorem dX2_makeBows_41 : decode cX2_makeBows 41 = .ok (.iload_n 3, 1) := by decide +kernel
theorem dX2_makeBows_42 : decode cX2_makeBows 42 = .ok (.iastore, 1) := by decide +kernel
theorem dX2_makeBows_43 : decode cX2_makeBows 43 = .ok (.iconst 0, 1) := by decide +kernel
theorem dX2_makeBows_44 : decode cX2_makeBows 44 = .ok (.istore 5, 2) := by decide +kernel
theorem dX2_makeBows_46 : decode cX2_makeBows 46 = .ok (.iload 5, 2) := by decide +kernel
theorem dX2_makeBows_48 : decode cX2_makeBows 48 = .ok (.aload_n 0, 1) := by decide +kernel
theorem dX2_makeBows_49 : decode cX2_makeBows 49 = .ok (.getfield 37, 3) := by decide +kernel
theorem dX2_makeBows_52 : decode cX2_makeBows 52 = .ok (.if_icmp .ge 103, 3) := by decide +kernel
theorem dX2_makeBows_55 : decode cX2_makeBows 55 = .ok (.aload_n 0, 1) := by decide +kernel
theorem dX2_makeBows_56 : decode cX2_makeBows 56 = .ok (.getfield 9, 3) := by decide +kernel
theorem dX2_makeBows_59 : decode cX2_makeBows 59 = .ok (.iload 5, 2) := by decide +kernel
theorem dX2_makeBows_61 : decode cX2_makeBows 61 = .ok (.iaload, 1) := by decide +kernel
theorem dX2_makeBows_62 : decode cX2_makeBows 62 = .ok (.istore 6, 2) := by decide +kernel
theorem dX2_makeBows_64 : decode cX2_makeBows 64 = .ok (.iload_n 2, 1) := by decide +kernel
theorem dX2_makeBows_65 : decode cX2_makeBows 65 = .ok (.iload 6, 2) := by decide +kernel
theorem dX2_makeBows_67 : decode cX2_makeBows 67 = .ok (.ishr, 1) := by decide +kernel
theorem dX2_makeBows_68 : decode cX2_makeBows 68 = .ok (.iconst 1, 1) := by decide +kernel
theorem dX2_makeBows_69 : decode cX2_makeBows 69 = .ok (.iand, 1) := by decide +kernel
theorem dX2_makeBows_70 : decode cX2_makeBows 70 = .ok (.iconst 1, 1) := by decide +kernel
theorem dX2_makeBows_71 : decode cX2_makeBows 71 = .ok (.if_icmp .ne 63, 3) := by decide +kernel
theorem dX2_makeBows_74 : decode cX2_makeBows 74 = .ok (.aload_n 0, 1) := by decide +kernel
theorem dX2_makeBows_75 : decode cX2_makeBows 75 = .ok (.getfield 53, 3) := by decide +kernel
theorem dX2_makeBows_78 : decode cX2_makeBows 78 = .ok (.getfield 57, 3) := by decide +kernel
theorem dX2_makeBows_81 : decode cX2_makeBows 81 = .ok (.iload 6, 2) := by decide +kernel
theorem dX2_makeBows_83 : decode cX2_makeBows 83 = .ok (.iconst 1, 1) := by decide +kernel
theorem dX2_makeBows_84 : decode cX2_makeBows 84 = .ok (.invokevirtual 141, 3) := by decide +kernel
theorem dX2_makeBows_87 : decode cX2_makeBows 87 = .ok (.istore 7, 2) := by decide +kernel
theorem dX2_makeBows_89 : decode cX2_makeBows 89 = .ok (.aload_n 0, 1) := by decide +kernel
theorem dX2_makeBows_90 : decode cX2_makeBows 90 = .ok (.getfield 53, 3) := by decide +kernel
theorem dX2_makeBows_93 : decode cX2_makeBows 93 = .ok (.getfield 57, 3) := by decide +kernel
theorem dX2_makeBows_96 : decode cX2_makeBows 96 = .ok (.iload 6, 2) := by decide +kernel
theorem dX2_makeBows_98 : decode cX2_makeBows 98 = .ok (.iconst 2, 1) := by decide +kernel
theorem dX2_makeBows_99 : decode cX2_makeBows 99 = .ok (.invokevirtual 141, 3) := by decide +kernel
theorem dX2_makeBows_102 : decode cX2_makeBows 102 = .ok (.istore 8, 2) := by decide +kernel
theorem dX2_makeBows_104 : decode cX2_makeBows 104 = .ok (.iload 4, 2) := by decide +kernel
theorem dX2_makeBows_106 : decode cX2_makeBows 106 = .ok (.aload_n 0, 1) := by decide +kernel
theorem dX2_makeBows_107 : decode cX2_makeBows 107 = .ok (.iload_n 3, 1) := by decide +kernel
theorem dX2_makeBows_108 : decode cX2_makeBows 108 = .ok (.iload 7, 2) := by decide +kernel
theorem dX2_makeBows_110 : decode cX2_makeBows 110 = .ok (.invokestatic 107, 3) := by decide +kernel
theorem dX2_makeBows_113 : decode cX2_makeBows 113 = .ok (.iload_n 3, 1) := by decide +kernel
theorem dX2_makeBows_114 : decode cX2_makeBows 114 = .ok (.iload 8, 2) := by decide +kernel
theorem dX2_makeBows_116 : decode cX2_makeBows 116 = .ok (.invokestatic 107, 3) := by decide +kernel
theorem dX2_makeBows_119 : decode cX2_makeBows 119 = .ok (.invokevirtual 167, 3) := by decide +kernel
theorem dX2_makeBows_122 : decode cX2_makeBows 122 = .ok (.ior, 1) := by decide +kernel
theorem dX2_makeBows_123 : decode cX2_makeBows 123 = .ok (.istore 4, 2) := by decide +kernel
theorem dX2_makeBows_125 : decode cX2_makeBows 125 = .ok (.iload_n 3, 1) := by decide +kernel
theorem dX2_makeBows_126 : decode cX2_makeBows 126 = .ok (.iload 7, 2) := by decide +kernel
theorem dX2_makeBows_128 : decode cX2_makeBows 128 = .ok (.iload 8, 2) := by decide +kernel
theorem dX2_makeBows_130 : decode cX2_makeBows 130 = .ok (.invokestatic 170, 3) := by decide +kernel
theorem dX2_makeBows_133 : decode cX2_makeBows 133 = .ok (.istore_n 3, 1) := by decide +kernel
theorem dX2_makeBows_134 : decode cX2_makeBows 134 = .ok (.aload_n 0, 1) := by decide +kernel
theorem dX2_makeBows_135 : decode cX2_makeBows 135 = .ok (.getfield 24, 3) := by decide +kernel
theorem dX2_makeBows_138 : decode cX2_makeBows 138 = .ok (.iload_n 1, 1) := by decide +kernel
theorem dX2_makeBows_139 : decode cX2_makeBows 139 = .ok (.bipush 21, 2) := by decide +kernel
theorem dX2_makeBows_141 : decode cX2_makeBows 141 = .ok (.imul, 1) := by decide +kernel
theorem dX2_makeBows_142 : decode cX2_makeBows 142 = .ok (.iload 5, 2) := by decide +kernel
theorem dX2_makeBows_144 : decode cX2_makeBows 144 = .ok (.iadd, 1) := by decide +kernel
theorem dX2_makeBows_145 : decode cX2_makeBows 145 = .ok (.iconst 1, 1) := by decide +kernel
theorem dX2_makeBows_146 : decode cX2_makeBows 146 = .ok (.iadd, 1) := by decide +kernel
theorem dX2_makeBows_147 : decode cX2_makeBows 147 = .ok (.iload_n 3, 1) := by decide +kernel
theorem dX2_makeBows_148 : decode cX2_makeBows 148 = .ok (.iastore, 1) := by decide +kernel
theorem dX2_makeBows_149 : decode cX2_makeBows 149 = .ok (.iinc 5 1, 3) := by decide +kernel
theorem dX2_makeBows_152 : decode cX2_makeBows 152 = .ok (.goto (-106), 3) := by decide +kernel
theorem dX2_makeBows_155 : decode cX2_makeBows 155 = .ok (.iload 4, 2) := by decide +kernel
theorem dX2_makeBows_157 : decode cX2_makeBows 157 = .ok (.ireturn, 1) := by decide +kernel
theorem dX2_noteBow_0 : decode cX2_noteBow 0 = .ok (.aload_n 0, 1) := by decide +kernel
theorem dX2_noteBow_1 : decode cX2_noteBow 1 = .ok (.getfield 30, 3) := by decide +kernel
theorem dX2_noteBow_4 : decode cX2_noteBow 4 = .ok (.iload_n 1, 1) := by decide +kernel
theorem dX2_noteBow_5 : decode cX2_noteBow 5 = .ok (.iaload, 1) := by decide +kernel
theorem dX2_noteBow_6 : decode cX2_noteBow 6 = .ok (.iload_n 2, 1) := by decide +kernel
theorem dX2_noteBow_7 : decode cX2_noteBow 7 = .ok (.ishr, 1) := by decide +kernel
theorem dX2_noteBow_8 : decode cX2_noteBow 8 = .ok (.iconst 1, 1) := by decide +kernel
theorem dX2_noteBow_9 : decode cX2_noteBow 9 = .ok (.iand, 1) := by decide +kernel
theorem dX2_noteBow_10 : decode cX2_noteBow 10 = .ok (.iconst 1, 1) := by decide +kernel
theorem dX2_noteBow_11 : decode cX2_noteBow 11 = .ok (.if_icmp .ne 7, 3) := by decide +kernel
theorem dX2_noteBow_14 : decode cX2_noteBow 14 = .ok (.iconst 1, 1) := by decide +kernel
theorem dX2_noteBow_15 : decode cX2_noteBow 15 = .ok (.goto 4, 3) := by decide +kernel
theorem dX2_noteBow_18 : decode cX2_noteBow 18 = .ok (.iconst 0, 1) := by decide +kernel
theorem dX2_noteBow_19 : decode cX2_noteBow 19 = .ok (.istore_n 3, 1) := by decide +kernel
theorem dX2_noteBow_20 : decode cX2_noteBow 20 = .ok (.aload_n 0, 1) := by decide +kernel
theorem dX2_noteBow_21 : decode cX2_noteBow 21 = .ok (.getfield 30, 3) := by decide +kernel
theorem dX2_noteBow_24 : decode cX2_noteBow 24 = .ok (.iload_n 1, 1) := by decide +kernel
theorem dX2_noteBow_25 : decode cX2_noteBow 25 = .ok (.dup2, 1) := by decide +kernel
theorem dX2_noteBow_26 : decode cX2_noteBow 26 = .ok (.iaload, 1) := by decide +kernel
theorem dX2_noteBow_27 : decode cX2_noteBow 27 = .ok (.iconst 1, 1) := by decide +kernel
theorem dX2_noteBow_28 : decode cX2_noteBow 28 = .ok (.iload_n 2, 1) := by decide +kernel
theorem dX2_noteBow_29 : decode cX2_noteBow 29 = .ok (.ishl, 1) := by decide +kernel
theorem dX2_noteBow_30 : decode cX2_noteBow 30 = .ok (.ior, 1) := by decide +kernel
theorem dX2_noteBow_31 : decode cX2_noteBow 31 = .ok (.iastore, 1) := by decide +kernel
theorem dX2_noteBow_32 : decode cX2_noteBow 32 = .ok (.aload_n 0, 1) := by decide +kernel
theorem dX2_noteBow_33 : decode cX2_noteBow 33 = .ok (.getfield 30, 3) := by decide +kernel
theorem dX2_noteBow_36 : decode cX2_noteBow 36 = .ok (.iload_n 2, 1) := by decide +kernel
theorem dX2_noteBow_37 : decode cX2_noteBow 37 = .ok (.dup2, 1) := by decide +kernel
theorem dX2_noteBow_38 : decode cX2_noteBow 38 = .ok (.iaload, 1) := by decide +kernel
theorem dX2_noteBow_39 : decode cX2_noteBow 39 = .ok (.iconst 1, 1) := by decide +kernel
theorem dX2_noteBow_40 : decode cX2_noteBow 40 = .ok (.iload_n 1, 1) := by decide +kernel
theorem dX2_noteBow_41 : decode cX2_noteBow 41 = .ok (.ishl, 1) := by decide +kernel
theorem dX2_noteBow_42 : decode cX2_noteBow 42 = .ok (.ior, 1) := by decide +kernel
theorem dX2_noteBow_43 : decode cX2_noteBow 43 = .ok (.iastore, 1) := by decide +kernel
theorem dX2_noteBow_44 : decode cX2_noteBow 44 = .ok (.iload_n 3, 1) := by decide +kernel
theorem dX2_noteBow_45 : decode cX2_noteBow 45 = .ok (.ireturn, 1) := by decide +kernel
set_option maxRecDepth 20000 in
theorem ggX2_sayingsSo_X4_size : GoodIn wsX2_sayingsSo wsX4_size := goodIn_r _ [6, 7, 49, 50, 51, 52] (by decide +kernel) (by decide +kernel)
set_option maxRecDepth 20000 in
theorem gX2_sayingsSo_X4_size : GoodIn wsX2_sayingsSo (wsV RX2 63 RX4 yX4_size wsX4_size) := goodIn_app (goodIn_of _ (by decide +kernel)) ggX2_sayingsSo_X4_size
set_option maxRecDepth 20000 in
theorem ggX2_sayingsSo_X2_isSo : GoodIn wsX2_sayingsSo wsX2_isSo := goodIn_r _ [12, 1, 13, 14, 15, 5, 16, 7, 17, 18, 19, 20, 21, 11, 22, 23, 24, 25, 26, 27, 28, 29, 30, 31, 32, 33, 34, 35, 36, 37, 38, 39, 40, 41, 42, 43, 44, 45, 46, 47, 48, 49, 50, 51, 52] (by decide +kernel) (by decide +kernel)
set_option maxRecDepth 20000 in
theorem gX2_sayingsSo_X2_isSo : GoodIn wsX2_sayingsSo (wsV RX2 174 RX2 yX2_isSo wsX2_isSo) := goodIn_app (goodIn_of _ (by decide +kernel)) ggX2_sayingsSo_X2_isSo
theorem dX2_sayingsSo_0 : decode cX2_sayingsSo 0 = .ok (.iconst 0, 1) := by decide +kernel
theorem dX2_sayingsSo_1 : decode cX2_sayingsSo 1 = .ok (.istore_n 2, 1) := by decide +kernel
theorem dX2_sayingsSo_2 : decode cX2_sayingsSo 2 = .ok (.iload_n 2, 1) := by decide +kernel
theorem dX2_sayingsSo_3 : decode cX2_sayingsSo 3 = .ok (.aload_n 0, 1) := by decide +kernel
theorem dX2_sayingsSo_4 : decode cX2_sayingsSo 4 = .ok (.getfield 53, 3) := by decide +kernel
theorem dX2_sayingsSo_7 : decode cX2_sayingsSo 7 = .ok (.getfield 122, 3) := by decide +kernel
theorem dX2_sayingsSo_10 : decode cX2_sayingsSo 10 = .ok (.invokevirtual 63, 3) := by decide +kernel
theorem dX2_sayingsSo_13 : decode cX2_sayingsSo 13 = .ok (.if_icmp .ge 18, 3) := by decide +kernel
theorem dX2_sayingsSo_16 : decode cX2_sayingsSo 16 = .ok (.aload_n 0, 1) := by decide +kernel
theorem dX2_sayingsSo_17 : decode cX2_sayingsSo 17 = .ok (.iload_n 2, 1) := by decide +kernel
theorem dX2_sayingsSo_18 : decode cX2_sayingsSo 18 = .ok (.iload_n 1, 1) := by decide +kernel
theorem dX2_sayingsSo_19 : decode cX2_sayingsSo 19 = .ok (.invokevirtual 174, 3) := by decide +kernel
theorem dX2_sayingsSo_22 : decode cX2_sayingsSo 22 = .ok (.ifCond .eq 9, 3) := by decide +kernel
theorem dX2_sayingsSo_25 : decode cX2_sayingsSo 25 = .ok (.iinc 2 1, 3) := by decide +kernel
theorem dX2_sayingsSo_28 : decode cX2_sayingsSo 28 = .ok (.goto (-26), 3) := by decide +kernel
theorem dX2_sayingsSo_31 : decode cX2_sayingsSo 31 = .ok (.iload_n 2, 1) := by decide +kernel
theorem dX2_sayingsSo_32 : decode cX2_sayingsSo 32 = .ok (.ireturn, 1) := by decide +kernel
set_option maxRecDepth 20000 in
theorem ggX2_isSo_X4_cell : GoodIn wsX2_isSo wsX4_cell := goodIn_r _ [6, 7, 8, 9, 41, 42, 43, 44] (by decide +kernel) (by decide +kernel)
set_option maxRecDepth 20000 in
theorem gX2_isSo_X4_cell : GoodIn wsX2_isSo (wsV RX2 141 RX4 yX4_cell wsX4_cell) := goodIn_app (goodIn_of _ (by decide +kernel)) ggX2_isSo_X4_cell
set_option maxRecDepth 20000 in
theorem ggX2_isSo_X2_row : GoodIn wsX2_isSo wsX2_row := goodIn_r _ [14, 15, 16, 17, 21, 22, 23, 24, 25, 26, 27, 28, 29, 30, 31, 32, 33, 34] (by decide +kernel) (by decide +kernel)
set_option maxRecDepth 20000 in
theorem gX2_isSo_X2_row : GoodIn wsX2_isSo (wsV RX2 104 RX2 yX2_row wsX2_row) := goodIn_app (goodIn_of _ (by decide +kernel)) ggX2_isSo_X2_row
set_option maxRecDepth 20000 in
theorem ggX2_isSo_X7_wearer : GoodIn wsX2_isSo wsX7_wearer := goodIn_r _ [20] (by decide +kernel) (by decide +kernel)
set_option maxRecDepth 20000 in
theorem gX2_isSo_X7_wearer_n107 : GoodIn wsX2_isSo (wsX7_wearer) := ggX2_isSo_X7_wearer
theorem dX2_isSo_0 : decode cX2_isSo 0 = .ok (.aload_n 0, 1) := by decide +kernel
theorem dX2_isSo_1 : decode cX2_isSo 1 = .ok (.getfield 53, 3) := by decide +kernel
theorem dX2_isSo_4 : decode cX2_isSo 4 = .ok (.getfield 122, 3) := by decide +kernel
theorem dX2_isSo_7 : decode cX2_isSo 7 = .ok (.astore_n 3, 1) := by decide +kernel
theorem dX2_isSo_8 : decode cX2_isSo 8 = .ok (.aload_n 0, 1) := by decide +kernel
theorem dX2_isSo_9 : decode cX2_isSo 9 = .ok (.iload_n 2, 1) := by decide +kernel
theorem dX2_isSo_10 : decode cX2_isSo 10 = .ok (.aload_n 3, 1) := by decide +kernel
theorem dX2_isSo_11 : decode cX2_isSo 11 = .ok (.iload_n 1, 1) := by decide +kernel
theorem dX2_isSo_12 : decode cX2_isSo 12 = .ok (.iconst 0, 1) := by decide +kernel
theorem dX2_isSo_13 : decode cX2_isSo 13 = .ok (.invokevirtual 141, 3) := by decide +kernel
theorem dX2_isSo_16 : decode cX2_isSo 16 = .ok (.invokevirtual 104, 3) := by decide +kernel
theorem dX2_isSo_19 : decode cX2_isSo 19 = .ok (.istore 4, 2) := by decide +kernel
theorem dX2_isSo_21 : decode cX2_isSo 21 = .ok (.iload 4, 2) := by decide +kernel
theorem dX2_isSo_23 : decode cX2_isSo 23 = .ok (.aload_n 3, 1) := by decide +kernel
theorem dX2_isSo_24 : decode cX2_isSo 24 = .ok (.iload_n 1, 1) := by decide +kernel
theorem dX2_isSo_25 : decode cX2_isSo 25 = .ok (.iconst 1, 1) := by decide +kernel
theorem dX2_isSo_26 : decode cX2_isSo 26 = .ok (.invokevirtual 141, 3) := by decide +kernel
theorem dX2_isSo_29 : decode cX2_isSo 29 = .ok (.invokestatic 107, 3) := by decide +kernel
theorem dX2_isSo_32 : decode cX2_isSo 32 = .ok (.istore 5, 2) := by decide +kernel
theorem dX2_isSo_34 : decode cX2_isSo 34 = .ok (.aload_n 3, 1) := by decide +kernel
theorem dX2_isSo_35 : decode cX2_isSo 35 = .ok (.iload_n 1, 1) := by decide +kernel
theorem dX2_isSo_36 : decode cX2_isSo 36 = .ok (.iconst 3, 1) := by decide +kernel
theorem dX2_isSo_37 : decode cX2_isSo 37 = .ok (.invokevirtual 141, 3) := by decide +kernel
theorem dX2_isSo_40 : decode cX2_isSo 40 = .ok (.iconst 1, 1) := by decide +kernel
theorem dX2_isSo_41 : decode cX2_isSo 41 = .ok (.if_icmp .ne 7, 3) := by decide +kernel
theorem dX2_isSo_44 : decode cX2_isSo 44 = .ok (.iconst 1, 1) := by decide +kernel
theorem dX2_isSo_45 : decode cX2_isSo 45 = .ok (.goto 4, 3) := by decide +kernel
theorem dX2_isSo_48 : decode cX2_isSo 48 = .ok (.iconst 0, 1) := by decide +kernel
theorem dX2_isSo_49 : decode cX2_isSo 49 = .ok (.istore 6, 2) := by decide +kernel
theorem dX2_isSo_51 : decode cX2_isSo 51 = .ok (.iload 5, 2) := by decide +kernel
theorem dX2_isSo_53 : decode cX2_isSo 53 = .ok (.aload_n 3, 1) := by decide +kernel
theorem dX2_isSo_54 : decode cX2_isSo 54 = .ok (.iload_n 1, 1) := by decide +kernel
theorem dX2_isSo_55 : decode cX2_isSo 55 = .ok (.iconst 2, 1) := by decide +kernel
theorem dX2_isSo_56 : decode cX2_isSo 56 = .ok (.invokevirtual 141, 3) := by decide +kernel
theorem dX2_isSo_59 : decode cX2_isSo 59 = .ok (.if_icmp .ne 7, 3) := by decide +kernel
theorem dX2_isSo_62 : decode cX2_isSo 62 = .ok (.iconst 1, 1) := by decide +kernel
theorem dX2_isSo_63 : decode cX2_isSo 63 = .ok (.goto 4, 3) := by decide +kernel
theorem dX2_isSo_66 : decode cX2_isSo 66 = .ok (.iconst 0, 1) := by decide +kernel
theorem dX2_isSo_67 : decode cX2_isSo 67 = .ok (.iload 6, 2) := by decide +kernel
theorem dX2_isSo_69 : decode cX2_isSo 69 = .ok (.if_icmp .ne 7, 3) := by decide +kernel
theorem dX2_isSo_72 : decode cX2_isSo 72 = .ok (.iconst 1, 1) := by decide +kernel
theorem dX2_isSo_73 : decode cX2_isSo 73 = .ok (.goto 4, 3) := by decide +kernel
theorem dX2_isSo_76 : decode cX2_isSo 76 = .ok (.iconst 0, 1) := by decide +kernel
theorem dX2_isSo_77 : decode cX2_isSo 77 = .ok (.ireturn, 1) := by decide +kernel
