theorem dX1_init_0 : decode cX1_init 0 = .ok (.aload_n 0, 1) := by decide +kernel
theorem dX1_init_1 : decode cX1_init 1 = .ok (.invokespecial 3, 3) := by decide +kernel
theorem dX1_init_4 : decode cX1_init 4 = .ok (.aload_n 0, 1) := by decide +kernel
theorem dX1_init_5 : decode cX1_init 5 = .ok (.bipush 64, 2) := by decide +kernel
theorem dX1_init_7 : decode cX1_init 7 = .ok (.newarray .long, 2) := by decide +kernel
theorem dX1_init_9 : decode cX1_init 9 = .ok (.putfield 9, 3) := by decide +kernel
theorem dX1_init_12 : decode cX1_init 12 = .ok (.aload_n 0, 1) := by decide +kernel
theorem dX1_init_13 : decode cX1_init 13 = .ok (.bipush 64, 2) := by decide +kernel
theorem dX1_init_15 : decode cX1_init 15 = .ok (.newarray .boolean, 2) := by decide +kernel
theorem dX1_init_17 : decode cX1_init 17 = .ok (.putfield 15, 3) := by decide +kernel
theorem dX1_init_20 : decode cX1_init 20 = .ok (.aload_n 0, 1) := by decide +kernel
theorem dX1_init_21 : decode cX1_init 21 = .ok (.aload_n 1, 1) := by decide +kernel
theorem dX1_init_22 : decode cX1_init 22 = .ok (.putfield 19, 3) := by decide +kernel
theorem dX1_init_25 : decode cX1_init 25 = .ok (.aload_n 0, 1) := by decide +kernel
theorem dX1_init_26 : decode cX1_init 26 = .ok (.aload_n 2, 1) := by decide +kernel
theorem dX1_init_27 : decode cX1_init 27 = .ok (.putfield 23, 3) := by decide +kernel
theorem dX1_init_30 : decode cX1_init 30 = .ok (.return_, 1) := by decide +kernel
set_option maxRecDepth 20000 in
theorem ggX1_paysOf_X1_part : GoodIn wsX1_paysOf wsX1_part := goodIn_r _ [5, 6, 7, 8, 9, 10, 11, 12, 13, 14, 15, 16, 17, 18, 19, 20, 21, 22, 23, 24, 25, 26, 27, 28] (by decide +kernel) (by decide +kernel)
set_option maxRecDepth 20000 in
theorem gX1_paysOf_X1_part : GoodIn wsX1_paysOf (wsV RX1 27 RX1 yX1_part wsX1_part) := goodIn_app (goodIn_of _ (by decide +kernel)) ggX1_paysOf_X1_part
theorem dX1_paysOf_0 : decode cX1_paysOf 0 = .ok (.aload_n 0, 1) := by decide +kernel
theorem dX1_paysOf_1 : decode cX1_paysOf 1 = .ok (.iload_n 1, 1) := by decide +kernel
theorem dX1_paysOf_2 : decode cX1_paysOf 2 = .ok (.iconst 4, 1) := by decide +kernel
theorem dX1_paysOf_3 : decode cX1_paysOf 3 = .ok (.invokevirtual 27, 3) := by decide +kernel
theorem dX1_paysOf_6 : decode cX1_paysOf 6 = .ok (.istore_n 2, 1) := by decide +kernel
theorem dX1_paysOf_7 : decode cX1_paysOf 7 = .ok (.aload_n 0, 1) := by decide +kernel
theorem dX1_paysOf_8 : decode cX1_paysOf 8 = .ok (.iload_n 1, 1) := by decide +kernel
theorem dX1_paysOf_9 : decode cX1_paysOf 9 = .ok (.iconst 0, 1) := by decide +kernel
theorem dX1_paysOf_10 : decode cX1_paysOf 10 = .ok (.invokevirtual 27, 3) := by decide +kernel
theorem dX1_paysOf_13 : decode cX1_paysOf 13 = .ok (.tableswitch 55 1 5 #[35, 37, 43, 45, 51], 35) := by decide +kernel
theorem dX1_paysOf_48 : decode cX1_paysOf 48 = .ok (.iload_n 2, 1) := by decide +kernel
theorem dX1_paysOf_49 : decode cX1_paysOf 49 = .ok (.ireturn, 1) := by decide +kernel
theorem dX1_paysOf_50 : decode cX1_paysOf 50 = .ok (.iload_n 2, 1) := by decide +kernel
theorem dX1_paysOf_51 : decode cX1_paysOf 51 = .ok (.bipush 10, 2) := by decide +kernel
theorem dX1_paysOf_53 : decode cX1_paysOf 53 = .ok (.idiv, 1) := by decide +kernel
theorem dX1_paysOf_54 : decode cX1_paysOf 54 = .ok (.ineg, 1) := by decide +kernel
theorem dX1_paysOf_55 : decode cX1_paysOf 55 = .ok (.ireturn, 1) := by decide +kernel
theorem dX1_paysOf_56 : decode cX1_paysOf 56 = .ok (.iconst 1, 1) := by decide +kernel
theorem dX1_paysOf_57 : decode cX1_paysOf 57 = .ok (.ireturn, 1) := by decide +kernel
theorem dX1_paysOf_58 : decode cX1_paysOf 58 = .ok (.iconst 1, 1) := by decide +kernel
theorem dX1_paysOf_59 : decode cX1_paysOf 59 = .ok (.iload_n 2, 1) := by decide +kernel
theorem dX1_paysOf_60 : decode cX1_paysOf 60 = .ok (.iconst 2, 1) := by decide +kernel
theorem dX1_paysOf_61 : decode cX1_paysOf 61 = .ok (.idiv, 1) := by decide +kernel
theorem dX1_paysOf_62 : decode cX1_paysOf 62 = .ok (.iadd, 1) := by decide +kernel
theorem dX1_paysOf_63 : decode cX1_paysOf 63 = .ok (.ireturn, 1) := by decide +kernel
theorem dX1_paysOf_64 : decode cX1_paysOf 64 = .ok (.iconst 2, 1) := by decide +kernel
theorem dX1_paysOf_65 : decode cX1_paysOf 65 = .ok (.iload_n 2, 1) := by decide +kernel
theorem dX1_paysOf_66 : decode cX1_paysOf 66 = .ok (.imul, 1) := by decide +kernel
theorem dX1_paysOf_67 : decode cX1_paysOf 67 = .ok (.ireturn, 1) := by decide +kernel
theorem dX1_paysOf_68 : decode cX1_paysOf 68 = .ok (.iconst 0, 1) := by decide +kernel
theorem dX1_paysOf_69 : decode cX1_paysOf 69 = .ok (.ireturn, 1) := by decide +kernel
set_option maxRecDepth 20000 in
theorem ggX1_binds_X1_part : GoodIn wsX1_binds wsX1_part := goodIn_r _ [5, 6, 7, 8, 9, 10, 11, 12, 13, 14, 22, 23, 24, 25, 26, 27, 28, 29, 30, 31, 32, 33, 34, 35] (by decide +kernel) (by decide +kernel)
set_option maxRecDepth 20000 in
theorem gX1_binds_X1_part : GoodIn wsX1_binds (wsV RX1 27 RX1 yX1_part wsX1_part) := goodIn_app (goodIn_of _ (by decide +kernel)) ggX1_binds_X1_part
set_option maxRecDepth 20000 in
theorem ggX1_binds_X7_isOfKind : GoodIn wsX1_binds wsX7_isOfKind := goodIn_r _ [17, 18, 19, 20, 16, 21] (by decide +kernel) (by decide +kernel)
set_option maxRecDepth 20000 in
theorem gX1_binds_X7_isOfKind_n31 : GoodIn wsX1_binds (wsX7_isOfKind) := ggX1_binds_X7_isOfKind
theorem dX1_binds_0 : decode cX1_binds 0 = .ok (.aload_n 0, 1) := by decide +kernel
theorem dX1_binds_1 : decode cX1_binds 1 = .ok (.iload_n 1, 1) := by decide +kernel
theorem dX1_binds_2 : decode cX1_binds 2 = .ok (.iconst 0, 1) := by decide +kernel
theorem dX1_binds_3 : decode cX1_binds 3 = .ok (.invokevirtual 27, 3) := by decide +kernel
theorem dX1_binds_6 : decode cX1_binds 6 = .ok (.iconst 4, 1) := by decide +kernel
theorem dX1_binds_7 : decode cX1_binds 7 = .ok (.invokestatic 31, 3) := by decide +kernel
theorem dX1_binds_10 : decode cX1_binds 10 = .ok (.ireturn, 1) := by decide +kernel
set_option maxRecDepth 20000 in
theorem ggX1_doersOf_X1_part : GoodIn wsX1_doersOf wsX1_part := goodIn_r _ [6, 7, 8, 9, 10, 11, 12, 13, 14, 15, 45, 46, 47, 48, 49, 50, 51, 52, 53, 54, 55, 56, 57, 58] (by decide +kernel) (by decide +kernel)
set_option maxRecDepth 20000 in
theorem gX1_doersOf_X1_part : GoodIn wsX1_doersOf (wsV RX1 27 RX1 yX1_part wsX1_part) := goodIn_app (goodIn_of _ (by decide +kernel)) ggX1_doersOf_X1_part
set_option maxRecDepth 20000 in
theorem ggX1_doersOf_X2_wearersOf : GoodIn wsX1_doersOf wsX2_wearersOf := goodIn_r _ [20, 21, 22, 23, 19, 24, 25, 26, 27, 28, 29, 30, 31, 32, 33, 34, 35, 36, 37, 38, 39, 40, 41, 42, 43, 44, 59, 60, 61, 62, 63, 64, 65, 66, 67, 68, 69, 70, 71, 72] (by decide +kernel) (by decide +kernel)
set_option maxRecDepth 20000 in
theorem gX1_doersOf_X2_wearersOf : GoodIn wsX1_doersOf (wsV RX1 35 RX2 yX2_wearersOf wsX2_wearersOf) := goodIn_app (goodIn_of _ (by decide +kernel)) ggX1_doersOf_X2_wearersOf
theorem dX1_doersOf_0 : decode cX1_doersOf 0 = .ok (.aload_n 0, 1) := by decide +kernel
theorem dX1_doersOf_1 : decode cX1_doersOf 1 = .ok (.getfield 23, 3) := by decide +kernel
theorem dX1_doersOf_4 : decode cX1_doersOf 4 = .ok (.aload_n 0, 1) := by decide +kernel
theorem dX1_doersOf_5 : decode cX1_doersOf 5 = .ok (.iload_n 1, 1) := by decide +kernel
theorem dX1_doersOf_6 : decode cX1_doersOf 6 = .ok (.iconst 2, 1) := by decide +kernel
theorem dX1_doersOf_7 : decode cX1_doersOf 7 = .ok (.invokevirtual 27, 3) := by decide +kernel
theorem dX1_doersOf_10 : decode cX1_doersOf 10 = .ok (.aload_n 0, 1) := by decide +kernel
theorem dX1_doersOf_11 : decode cX1_doersOf 11 = .ok (.iload_n 1, 1) := by decide +kernel
theorem dX1_doersOf_12 : decode cX1_doersOf 12 = .ok (.iconst 1, 1) := by decide +kernel
theorem dX1_doersOf_13 : decode cX1_doersOf 13 = .ok (.invokevirtual 27, 3) := by decide +kernel
theorem dX1_doersOf_16 : decode cX1_doersOf 16 = .ok (.invokevirtual 35, 3) := by decide +kernel
theorem dX1_doersOf_19 : decode cX1_doersOf 19 = .ok (.ireturn, 1) := by decide +kernel
set_option maxRecDepth 20000 in
theorem ggX1_othersOf_X1_part : GoodIn wsX1_othersOf wsX1_part := goodIn_r _ [6, 7, 8, 9, 10, 11, 12, 13, 14, 15, 45, 46, 47, 48, 49, 50, 51, 52, 53, 54, 55, 56, 57, 58] (by decide +kernel) (by decide +kernel)
set_option maxRecDepth 20000 in
theorem gX1_othersOf_X1_part : GoodIn wsX1_othersOf (wsV RX1 27 RX1 yX1_part wsX1_part) := goodIn_app (goodIn_of _ (by decide +kernel)) ggX1_othersOf_X1_part
set_option maxRecDepth 20000 in
theorem ggX1_othersOf_X2_wearersOf : GoodIn wsX1_othersOf wsX2_wearersOf := goodIn_r _ [20, 21, 22, 23, 19, 24, 25, 26, 27, 28, 29, 30, 31, 32, 33, 34, 35, 36, 37, 38, 39, 40, 41, 42, 43, 44, 59, 60, 61, 62, 63, 64, 65, 66, 67, 68, 69, 70, 71, 72] (by decide +kernel) (by decide +kernel)
set_option maxRecDepth 20000 in
theorem gX1_othersOf_X2_wearersOf : GoodIn wsX1_othersOf (wsV RX1 35 RX2 yX2_wearersOf wsX2_wearersOf) := goodIn_app (goodIn_of _ (by decide +kernel)) ggX1_othersOf_X2_wearersOf
theorem dX1_othersOf_0 : decode cX1_othersOf 0 = .ok (.aload_n 0, 1) := by decide +kernel
theorem dX1_othersOf_1 : decode cX1_othersOf 1 = .ok (.getfield 23, 3) := by decide +kernel
theorem dX1_othersOf_4 : decode cX1_othersOf 4 = .ok (.aload_n 0, 1) := by decide +kernel
theorem dX1_othersOf_5 : decode cX1_othersOf 5 = .ok (.iload_n 1, 1) := by decide +kernel
theorem dX1_othersOf_6 : decode cX1_othersOf 6 = .ok (.iconst 3, 1) := by decide +kernel
theorem dX1_othersOf_7 : decode cX1_othersOf 7 = .ok (.invokevirtual 27, 3) := by decide +kernel
theorem dX1_othersOf_10 : decode cX1_othersOf 10 = .ok (.aload_n 0, 1) := by decide +kernel
theorem dX1_othersOf_11 : decode cX1_othersOf 11 = .ok (.iload_n 1, 1) := by decide +kernel
theorem dX1_othersOf_12 : decode cX1_othersOf 12 = .ok (.iconst 1, 1) := by decide +kernel
theorem dX1_othersOf_13 : decode cX1_othersOf 13 = .ok (.invokevirtual 27, 3) := by decide +kernel
theorem dX1_othersOf_16 : decode cX1_othersOf 16 = .ok (.invokevirtual 35, 3) := by decide +kernel
theorem dX1_othersOf_19 : decode cX1_othersOf 19 = .ok (.ireturn, 1) := by decide +kernel
set_option maxRecDepth 20000 in
theorem ggX1_oddsOfOneDoer_X2_size : GoodIn wsX1_oddsOfOneDoer wsX2_size := goodIn_r _ [6, 7, 46, 47, 48, 49, 50, 51, 52, 53, 54, 55, 56, 57, 58, 59] (by decide +kernel) (by decide +kernel)
set_option maxRecDepth 20000 in
theorem gX1_oddsOfOneDoer_X2_size : GoodIn wsX1_oddsOfOneDoer (wsV RX1 40 RX2 yX2_size wsX2_size) := goodIn_app (goodIn_of _ (by decide +kernel)) ggX1_oddsOfOneDoer_X2_size
set_option maxRecDepth 20000 in
theorem ggX1_oddsOfOneDoer_X1_doerIn : GoodIn wsX1_oddsOfOneDoer wsX1_doerIn := goodIn_r _ [12, 1, 13, 14, 15, 11, 16, 17, 18, 19, 20, 21, 22, 23, 24, 25, 26, 27, 28, 5, 29, 30, 31, 32, 33, 34, 35, 42, 43, 44, 45, 60, 61, 62, 63, 64, 65, 66, 67, 68, 69, 46, 47, 48, 49, 50, 51, 52, 53, 54, 55, 56, 57, 58, 59] (by decide +kernel) (by decide +kernel)
set_option maxRecDepth 20000 in
theorem gX1_oddsOfOneDoer_X1_doerIn : GoodIn wsX1_oddsOfOneDoer (wsV RX1 44 RX1 yX1_doerIn wsX1_doerIn) := goodIn_app (goodIn_of _ (by decide +kernel)) ggX1_oddsOfOneDoer_X1_doerIn
set_option maxRecDepth 20000 in
theorem ggX1_oddsOfOneDoer_X2_weight : GoodIn wsX1_oddsOfOneDoer wsX2_weight := goodIn_r _ [39, 40, 41, 3, 4, 5, 6, 7, 46, 47, 48, 49, 50, 51, 52, 53, 54, 55, 56, 57, 58, 59] (by decide +kernel) (by decide +kernel)
set_option maxRecDepth 20000 in
theorem gX1_oddsOfOneDoer_X2_weight : GoodIn wsX1_oddsOfOneDoer (wsV RX1 47 RX2 yX2_weight wsX2_weight) := goodIn_app (goodIn_of _ (by decide +kernel)) ggX1_oddsOfOneDoer_X2_weight
theorem dX1_oddsOfOneDoer_0 : decode cX1_oddsOfOneDoer 0 = .ok (.lconst 0, 1) := by decide +kernel
theorem dX1_oddsOfOneDoer_1 : decode cX1_oddsOfOneDoer 1 = .ok (.lstore_n 3, 1) := by decide +kernel
theorem dX1_oddsOfOneDoer_2 : decode cX1_oddsOfOneDoer 2 = .ok (.iconst 0, 1) := by decide +kernel
theorem dX1_oddsOfOneDoer_3 : decode cX1_oddsOfOneDoer 3 = .ok (.istore 5, 2) := by decide +kernel
theorem dX1_oddsOfOneDoer_5 : decode cX1_oddsOfOneDoer 5 = .ok (.iload 5, 2) := by decide +kernel
theorem dX1_oddsOfOneDoer_7 : decode cX1_oddsOfOneDoer 7 = .ok (.aload_n 0, 1) := by decide +kernel
theorem dX1_oddsOfOneDoer_8 : decode cX1_oddsOfOneDoer 8 = .ok (.getfield 23, 3) := by decide +kernel
theorem dX1_oddsOfOneDoer_11 : decode cX1_oddsOfOneDoer 11 = .ok (.invokevirtual 40, 3) := by decide +kernel
theorem dX1_oddsOfOneDoer_14 : decode cX1_oddsOfOneDoer 14 = .ok (.if_icmp .ge 39, 3) := by decide +kernel
theorem dX1_oddsOfOneDoer_17 : decode cX1_oddsOfOneDoer 17 = .ok (.aload_n 0, 1) := by decide +kernel
theorem dX1_oddsOfOneDoer_18 : decode cX1_oddsOfOneDoer 18 = .ok (.iload 5, 2) := by decide +kernel
theorem dX1_oddsOfOneDoer_20 : decode cX1_oddsOfOneDoer 20 = .ok (.iload_n 1, 1) := by decide +kernel
theorem dX1_oddsOfOneDoer_21 : decode cX1_oddsOfOneDoer 21 = .ok (.invokevirtual 44, 3) := by decide +kernel
theorem dX1_oddsOfOneDoer_24 : decode cX1_oddsOfOneDoer 24 = .ok (.aload_n 0, 1) := by decide +kernel
theorem dX1_oddsOfOneDoer_25 : decode cX1_oddsOfOneDoer 25 = .ok (.iload 5, 2) := by decide +kernel
theorem dX1_oddsOfOneDoer_27 : decode cX1_oddsOfOneDoer 27 = .ok (.iload_n 2, 1) := by decide +kernel
theorem dX1_oddsOfOneDoer_28 : decode cX1_oddsOfOneDoer 28 = .ok (.invokevirtual 44, 3) := by decide +kernel
theorem dX1_oddsOfOneDoer_31 : decode cX1_oddsOfOneDoer 31 = .ok (.if_icmp .ne 16, 3) := by decide +kernel
theorem dX1_oddsOfOneDoer_34 : decode cX1_oddsOfOneDoer 34 = .ok (.lload_n 3, 1) := by decide +kernel
theorem dX1_oddsOfOneDoer_35 : decode cX1_oddsOfOneDoer 35 = .ok (.aload_n 0, 1) := by decide +kernel
theorem dX1_oddsOfOneDoer_36 : decode cX1_oddsOfOneDoer 36 = .ok (.getfield 23, 3) := by decide +kernel
theorem dX1_oddsOfOneDoer_39 : decode cX1_oddsOfOneDoer 39 = .ok (.iload 5, 2) := by decide +kernel
theorem dX1_oddsOfOneDoer_41 : decode cX1_oddsOfOneDoer 41 = .ok (.invokevirtual 47, 3) := by decide +kernel
theorem dX1_oddsOfOneDoer_44 : decode cX1_oddsOfOneDoer 44 = .ok (.i2l, 1) := by decide +kernel
theorem dX1_oddsOfOneDoer_45 : decode cX1_oddsOfOneDoer 45 = .ok (.ladd, 1) := by decide +kernel
theorem dX1_oddsOfOneDoer_46 : decode cX1_oddsOfOneDoer 46 = .ok (.lstore_n 3, 1) := by decide +kernel
theorem dX1_oddsOfOneDoer_47 : decode cX1_oddsOfOneDoer 47 = .ok (.iinc 5 1, 3) := by decide +kernel
theorem dX1_oddsOfOneDoer_50 : decode cX1_oddsOfOneDoer 50 = .ok (.goto (-45), 3) := by decide +kernel
theorem dX1_oddsOfOneDoer_53 : decode cX1_oddsOfOneDoer 53 = .ok (.lload_n 3, 1) := by decide +kernel
theorem dX1_oddsOfOneDoer_54 : decode cX1_oddsOfOneDoer 54 = .ok (.lreturn, 1) := by decide +kernel
set_option maxRecDepth 20000 in
theorem ggX1_owedInAllBy_X4_size : GoodIn wsX1_owedInAllBy wsX4_size := goodIn_r _ [7, 8, 59, 60, 61, 62] (by decide +kernel) (by decide +kernel)
set_option maxRecDepth 20000 in
theorem gX1_owedInAllBy_X4_size : GoodIn wsX1_owedInAllBy (wsV RX1 57 RX4 yX4_size wsX4_size) := goodIn_app (goodIn_of _ (by decide +kernel)) ggX1_owedInAllBy_X4_size
set_option maxRecDepth 20000 in
theorem ggX1_owedInAllBy_X1_part : GoodIn wsX1_owedInAllBy wsX1_part := goodIn_r _ [13, 1, 14, 15, 16, 6, 17, 8, 18, 19, 49, 50, 51, 52, 53, 54, 55, 56, 57, 58, 59, 60, 61, 62] (by decide +kernel) (by decide +kernel)
set_option maxRecDepth 20000 in
theorem gX1_owedInAllBy_X1_part : GoodIn wsX1_owedInAllBy (wsV RX1 27 RX1 yX1_part wsX1_part) := goodIn_app (goodIn_of _ (by decide +kernel)) ggX1_owedInAllBy_X1_part
set_option maxRecDepth 20000 in
theorem ggX1_owedInAllBy_X2_oddsOf : GoodIn wsX1_owedInAllBy wsX2_oddsOf := goodIn_r _ [24, 25, 26, 27, 23, 28, 29, 30, 31, 32, 33, 34, 35, 36, 37, 38, 39, 40, 41, 42, 43, 44, 63, 64, 65, 66, 67, 68, 69, 70, 71, 72, 73, 74, 75, 76] (by decide +kernel) (by decide +kernel)
set_option maxRecDepth 20000 in
theorem gX1_owedInAllBy_X2_oddsOf : GoodIn wsX1_owedInAllBy (wsV RX1 60 RX2 yX2_oddsOf wsX2_oddsOf) := goodIn_app (goodIn_of _ (by decide +kernel)) ggX1_owedInAllBy_X2_oddsOf
set_option maxRecDepth 20000 in
theorem ggX1_owedInAllBy_X1_paysOf : GoodIn wsX1_owedInAllBy wsX1_paysOf := goodIn_r _ [48, 9, 10, 11, 12, 13, 1, 14, 15, 16, 6, 17, 8, 18, 19, 49, 50, 51, 52, 53, 54, 55, 56, 57, 58, 59, 60, 61, 62] (by decide +kernel) (by decide +kernel)
set_option maxRecDepth 20000 in
theorem gX1_owedInAllBy_X1_paysOf : GoodIn wsX1_owedInAllBy (wsV RX1 64 RX1 yX1_paysOf wsX1_paysOf) := goodIn_app (goodIn_of _ (by decide +kernel)) ggX1_owedInAllBy_X1_paysOf
theorem dX1_owedInAllBy_0 : decode cX1_owedInAllBy 0 = .ok (.lconst 0, 1) := by decide +kernel
theorem dX1_owedInAllBy_1 : decode cX1_owedInAllBy 1 = .ok (.lstore_n 2, 1) := by decide +kernel
theorem dX1_owedInAllBy_2 : decode cX1_owedInAllBy 2 = .ok (.iconst 0, 1) := by decide +kernel
theorem dX1_owedInAllBy_3 : decode cX1_owedInAllBy 3 = .ok (.istore 4, 2) := by decide +kernel
theorem dX1_owedInAllBy_5 : decode cX1_owedInAllBy 5 = .ok (.iload 4, 2) := by decide +kernel
theorem dX1_owedInAllBy_7 : decode cX1_owedInAllBy 7 = .ok (.aload_n 0, 1) := by decide +kernel
theorem dX1_owedInAllBy_8 : decode cX1_owedInAllBy 8 = .ok (.getfield 19, 3) := by decide +kernel
theorem dX1_owedInAllBy_11 : decode cX1_owedInAllBy 11 = .ok (.getfield 51, 3) := by decide +kernel
theorem dX1_owedInAllBy_14 : decode cX1_owedInAllBy 14 = .ok (.invokevirtual 57, 3) := by decide +kernel
theorem dX1_owedInAllBy_17 : decode cX1_owedInAllBy 17 = .ok (.if_icmp .ge 72, 3) := by decide +kernel
theorem dX1_owedInAllBy_20 : decode cX1_owedInAllBy 20 = .ok (.aload_n 0, 1) := by decide +kernel
theorem dX1_owedInAllBy_21 : decode cX1_owedInAllBy 21 = .ok (.iload 4, 2) := by decide +kernel
theorem dX1_owedInAllBy_23 : decode cX1_owedInAllBy 23 = .ok (.iconst 1, 1) := by decide +kernel
theorem dX1_owedInAllBy_24 : decode cX1_owedInAllBy 24 = .ok (.invokevirtual 27, 3) := by decide +kernel
theorem dX1_owedInAllBy_27 : decode cX1_owedInAllBy 27 = .ok (.istore 5, 2) := by decide +kernel
theorem dX1_owedInAllBy_29 : decode cX1_owedInAllBy 29 = .ok (.aload_n 0, 1) := by decide +kernel
theorem dX1_owedInAllBy_30 : decode cX1_owedInAllBy 30 = .ok (.getfield 23, 3) := by decide +kernel
theorem dX1_owedInAllBy_33 : decode cX1_owedInAllBy 33 = .ok (.aload_n 0, 1) := by decide +kernel
theorem dX1_owedInAllBy_34 : decode cX1_owedInAllBy 34 = .ok (.iload 4, 2) := by decide +kernel
theorem dX1_owedInAllBy_36 : decode cX1_owedInAllBy 36 = .ok (.iconst 2, 1) := by decide +kernel
theorem dX1_owedInAllBy_37 : decode cX1_owedInAllBy 37 = .ok (.invokevirtual 27, 3) := by decide +kernel
theorem dX1_owedInAllBy_40 : decode cX1_owedInAllBy 40 = .ok (.iload_n 1, 1) := by decide +kernel
theorem dX1_owedInAllBy_41 : decode cX1_owedInAllBy 41 = .ok (.iload 5, 2) := by decide +kernel
theorem dX1_owedInAllBy_43 : decode cX1_owedInAllBy 43 = .ok (.invokevirtual 60, 3) := by decide +kernel
theorem dX1_owedInAllBy_46 : decode cX1_owedInAllBy 46 = .ok (.lstore 6, 2) := by decide +kernel
theorem dX1_owedInAllBy_48 : decode cX1_owedInAllBy 48 = .ok (.aload_n 0, 1) := by decide +kernel
theorem dX1_owedInAllBy_49 : decode cX1_owedInAllBy 49 = .ok (.getfield 23, 3) := by decide +kernel
theorem dX1_owedInAllBy_52 : decode cX1_owedInAllBy 52 = .ok (.aload_n 0, 1) := by decide +kernel
theorem dX1_owedInAllBy_53 : decode cX1_owedInAllBy 53 = .ok (.iload 4, 2) := by decide +kernel
theorem dX1_owedInAllBy_55 : decode cX1_owedInAllBy 55 = .ok (.iconst 3, 1) := by decide +kernel
theorem dX1_owedInAllBy_56 : decode cX1_owedInAllBy 56 = .ok (.invokevirtual 27, 3) := by decide +kernel
theorem dX1_owedInAllBy_59 : decode cX1_owedInAllBy 59 = .ok (.iload_n 1, 1) := by decide +kernel
theorem dX1_owedInAllBy_60 : decode cX1_owedInAllBy 60 = .ok (.iload 5, 2) := by decide +kernel
theorem dX1_owedInAllBy_62 : decode cX1_owedInAllBy 62 = .ok (.invokevirtual 60, 3) := by decide +kernel
theorem dX1_owedInAllBy_65 : decode cX1_owedInAllBy 65 = .ok (.lstore 8, 2) := by decide +kernel
theorem dX1_owedInAllBy_67 : decode cX1_owedInAllBy 67 = .ok (.lload_n 2, 1) := by decide +kernel
theorem dX1_owedInAllBy_68 : decode cX1_owedInAllBy 68 = .ok (.aload_n 0, 1) := by decide +kernel
theorem dX1_owedInAllBy_69 : decode cX1_owedInAllBy 69 = .ok (.iload 4, 2) := by decide +kernel
theorem dX1_owedInAllBy_71 : decode cX1_owedInAllBy 71 = .ok (.invokevirtual 64, 3) := by decide +kernel
theorem dX1_owedInAllBy_74 : decode cX1_owedInAllBy 74 = .ok (.i2l, 1) := by decide +kernel
theorem dX1_owedInAllBy_75 : decode cX1_owedInAllBy 75 = .ok (.lload 6, 2) := by decide +kernel
theorem dX1_owedInAllBy_77 : decode cX1_owedInAllBy 77 = .ok (.lload 8, 2) := by decide +kernel
theorem dX1_owedInAllBy_79 : decode cX1_owedInAllBy 79 = .ok (.lsub, 1) := by decide +kernel
theorem dX1_owedInAllBy_80 : decode cX1_owedInAllBy 80 = .ok (.lmul, 1) := by decide +kernel
theorem dX1_owedInAllBy_81 : decode cX1_owedInAllBy 81 = .ok (.ladd, 1) := by decide +kernel
theorem dX1_owedInAllBy_82 : decode cX1_owedInAllBy 82 = .ok (.lstore_n 2, 1) := by decide +kernel
theorem dX1_owedInAllBy_83 : decode cX1_owedInAllBy 83 = .ok (.iinc 4 1, 3) := by decide +kernel
theorem dX1_owedInAllBy_86 : decode cX1_owedInAllBy 86 = .ok (.goto (-81), 3) := by decide +kernel
theorem dX1_owedInAllBy_89 : decode cX1_owedInAllBy 89 = .ok (.lload_n 2, 1) := by decide +kernel
theorem dX1_owedInAllBy_90 : decode cX1_owedInAllBy 90 = .ok (.lreturn, 1) := by decide +kernel
set_option maxRecDepth 20000 in
theorem ggX1_owedInNight_X4_size : GoodIn wsX1_owedInNight wsX4_size := goodIn_r _ [6, 7, 49, 50, 51, 52] (by decide +kernel) (by decide +kernel)
set_option maxRecDepth 20000 in
theorem gX1_owedInNight_X4_size : GoodIn wsX1_owedInNight (wsV RX1 57 RX4 yX4_size wsX4_size) := goodIn_app (goodIn_of _ (by decide +kernel)) ggX1_owedInNight_X4_size
set_option maxRecDepth 20000 in
theorem ggX1_owedInNight_X1_isBetween : GoodIn wsX1_owedInNight wsX1_isBetween := goodIn_r _ [12, 13, 14, 15, 16, 11, 17, 1, 18, 19, 20, 5, 21, 7, 22, 23, 24, 25, 26, 27, 28, 29, 30, 31, 32, 33, 34, 39, 40, 41, 42, 43, 44, 45, 46, 47, 48, 49, 50, 51, 52, 53, 54, 55, 56, 57, 58, 59, 60, 61, 62, 63, 64, 65, 66] (by decide +kernel) (by decide +kernel)
set_option maxRecDepth 20000 in
theorem gX1_owedInNight_X1_isBetween : GoodIn wsX1_owedInNight (wsV RX1 67 RX1 yX1_isBetween wsX1_isBetween) := goodIn_app (goodIn_of _ (by decide +kernel)) ggX1_owedInNight_X1_isBetween
set_option maxRecDepth 20000 in
theorem ggX1_owedInNight_X1_paysOf : GoodIn wsX1_owedInNight wsX1_paysOf := goodIn_r _ [38, 14, 15, 16, 11, 17, 1, 18, 19, 20, 5, 21, 7, 22, 23, 39, 40, 41, 42, 43, 44, 45, 46, 47, 48, 49, 50, 51, 52] (by decide +kernel) (by decide +kernel)
set_option maxRecDepth 20000 in
theorem gX1_owedInNight_X1_paysOf : GoodIn wsX1_owedInNight (wsV RX1 64 RX1 yX1_paysOf wsX1_paysOf) := goodIn_app (goodIn_of _ (by decide +kernel)) ggX1_owedInNight_X1_paysOf
theorem dX1_owedInNight_0 : decode cX1_owedInNight 0 = .ok (.iconst 0, 1) := by decide +kernel
theorem dX1_owedInNight_1 : decode cX1_owedInNight 1 = .ok (.istore 4, 2) := by decide +kernel
theorem dX1_owedInNight_3 : decode cX1_owedInNight 3 = .ok (.iconst 0, 1) := by decide +kernel
theorem dX1_owedInNight_4 : decode cX1_owedInNight 4 = .ok (.istore 5, 2) := by decide +kernel
theorem dX1_owedInNight_6 : decode cX1_owedInNight 6 = .ok (.iload 5, 2) := by decide +kernel
theorem dX1_owedInNight_8 : decode cX1_owedInNight 8 = .ok (.aload_n 0, 1) := by decide +kernel
theorem dX1_owedInNight_9 : decode cX1_owedInNight 9 = .ok (.getfield 19, 3) := by decide +kernel
theorem dX1_owedInNight_12 : decode cX1_owedInNight 12 = .ok (.getfield 51, 3) := by decide +kernel
theorem dX1_owedInNight_15 : decode cX1_owedInNight 15 = .ok (.invokevirtual 57, 3) := by decide +kernel
theorem dX1_owedInNight_18 : decode cX1_owedInNight 18 = .ok (.if_icmp .ge 58, 3) := by decide +kernel
theorem dX1_owedInNight_21 : decode cX1_owedInNight 21 = .ok (.aload_n 0, 1) := by decide +kernel
theorem dX1_owedInNight_22 : decode cX1_owedInNight 22 = .ok (.iload_n 1, 1) := by decide +kernel
theorem dX1_owedInNight_23 : decode cX1_owedInNight 23 = .ok (.iload 5, 2) := by decide +kernel
theorem dX1_owedInNight_25 : decode cX1_owedInNight 25 = .ok (.iload_n 2, 1) := by decide +kernel
theorem dX1_owedInNight_26 : decode cX1_owedInNight 26 = .ok (.iload_n 3, 1) := by decide +kernel
theorem dX1_owedInNight_27 : decode cX1_owedInNight 27 = .ok (.invokevirtual 67, 3) := by decide +kernel
theorem dX1_owedInNight_30 : decode cX1_owedInNight 30 = .ok (.ifCond .eq 17, 3) := by decide +kernel
theorem dX1_owedInNight_33 : decode cX1_owedInNight 33 = .ok (.iload 4, 2) := by decide +kernel
theorem dX1_owedInNight_35 : decode cX1_owedInNight 35 = .ok (.aload_n 0, 1) := by decide +kernel
theorem dX1_owedInNight_36 : decode cX1_owedInNight 36 = .ok (.iload 5, 2) := by decide +kernel
theorem dX1_owedInNight_38 : decode cX1_owedInNight 38 = .ok (.invokevirtual 64, 3) := by decide +kernel
theorem dX1_owedInNight_41 : decode cX1_owedInNight 41 = .ok (.iadd, 1) := by decide +kernel
theorem dX1_owedInNight_42 : decode cX1_owedInNight 42 = .ok (.istore 4, 2) := by decide +kernel
theorem dX1_owedInNight_44 : decode cX1_owedInNight 44 = .ok (.goto 26, 3) := by decide +kernel
theorem dX1_owedInNight_47 : decode cX1_owedInNight 47 = .ok (.aload_n 0, 1) := by decide +kernel
theorem dX1_owedInNight_48 : decode cX1_owedInNight 48 = .ok (.iload_n 1, 1) := by decide +kernel
theorem dX1_owedInNight_49 : decode cX1_owedInNight 49 = .ok (.iload 5, 2) := by decide +kernel
theorem dX1_owedInNight_51 : decode cX1_owedInNight 51 = .ok (.iload_n 3, 1) := by decide +kernel
theorem dX1_owedInNight_52 : decode cX1_owedInNight 52 = .ok (.iload_n 2, 1) := by decide +kernel
theorem dX1_owedInNight_53 : decode cX1_owedInNight 53 = .ok (.invokevirtual 67, 3) := by decide +kernel
theorem dX1_owedInNight_56 : decode cX1_owedInNight 56 = .ok (.ifCond .eq 14, 3) := by decide +kernel
theorem dX1_owedInNight_59 : decode cX1_owedInNight 59 = .ok (.iload 4, 2) := by decide +kernel
theorem dX1_owedInNight_61 : decode cX1_owedInNight 61 = .ok (.aload_n 0, 1) := by decide +kernel
theorem dX1_owedInNight_62 : decode cX1_owedInNight 62 = .ok (.iload 5, 2) := by decide +kernel
theorem dX1_owedInNight_64 : decode cX1_owedInNight 64 = .ok (.invokevirtual 64, 3) := by decide +kernel
theorem dX1_owedInNight_67 : decode cX1_owedInNight 67 = .ok (.isub, 1) := by decide +kernel
theorem dX1_owedInNight_68 : decode cX1_owedInNight 68 = .ok (.istore 4, 2) := by decide +kernel
theorem dX1_owedInNight_70 : decode cX1_owedInNight 70 = .ok (.iinc 5 1, 3) := by decide +kernel
theorem dX1_owedInNight_73 : decode cX1_owedInNight 73 = .ok (.goto (-67), 3) := by decide +kernel
theorem dX1_owedInNight_76 : decode cX1_owedInNight 76 = .ok (.iload 4, 2) := by decide +kernel
theorem dX1_owedInNight_78 : decode cX1_owedInNight 78 = .ok (.ireturn, 1) := by decide +kernel
set_option maxRecDepth 20000 in
theorem ggX1_oddsOfBond_X2_size : GoodIn wsX1_oddsOfBond wsX2_size := goodIn_r _ [6, 7, 69, 70, 71, 72, 73, 74, 75, 76, 77, 78, 79, 80, 81, 82] (by decide +kernel) (by decide +kernel)
set_option maxRecDepth 20000 in
theorem gX1_oddsOfBond_X2_size : GoodIn wsX1_oddsOfBond (wsV RX1 40 RX2 yX2_size wsX2_size) := goodIn_app (goodIn_of _ (by decide +kernel)) ggX1_oddsOfBond_X2_size
set_option maxRecDepth 20000 in
theorem ggX1_oddsOfBond_X2_holds : GoodIn wsX1_oddsOfBond wsX2_holds := goodIn_r _ [11, 12, 13, 14, 5, 15, 16, 17, 3, 4, 6, 7, 69, 70, 71, 72, 73, 74, 75, 76, 77, 78, 79, 80, 81, 82] (by decide +kernel) (by decide +kernel)
set_option maxRecDepth 20000 in
theorem gX1_oddsOfBond_X2_holds : GoodIn wsX1_oddsOfBond (wsV RX1 71 RX2 yX2_holds wsX2_holds) := goodIn_app (goodIn_of _ (by decide +kernel)) ggX1_oddsOfBond_X2_holds
set_option maxRecDepth 20000 in
theorem ggX1_oddsOfBond_X1_areBoundIn : GoodIn wsX1_oddsOfBond wsX1_areBoundIn := goodIn_r _ [22, 23, 24, 25, 26, 27, 28, 29, 30, 31, 32, 21, 33, 34, 35, 36, 37, 38, 39, 40, 41, 42, 43, 44, 45, 46, 47, 48, 49, 50, 51, 52, 53, 54, 1, 55, 56, 57, 5, 58, 59, 60, 61, 62, 63, 65, 66, 67, 68, 83, 84, 85, 86, 87, 88, 89, 90, 91, 92, 69, 70, 71, 72, 73, 74, 75, 76, 77, 78, 79, 80, 81, 82] (by decide +kernel) (by decide +kernel)
set_option maxRecDepth 20000 in
theorem gX1_oddsOfBond_X1_areBoundIn : GoodIn wsX1_oddsOfBond (wsV RX1 75 RX1 yX1_areBoundIn wsX1_areBoundIn) := goodIn_app (goodIn_of _ (by decide +kernel)) ggX1_oddsOfBond_X1_areBoundIn
set_option maxRecDepth 20000 in
theorem ggX1_oddsOfBond_X2_weight : GoodIn wsX1_oddsOfBond wsX2_weight := goodIn_r _ [15, 16, 17, 3, 4, 5, 6, 7, 69, 70, 71, 72, 73, 74, 75, 76, 77, 78, 79, 80, 81, 82] (by decide +kernel) (by decide +kernel)
set_option maxRecDepth 20000 in
theorem gX1_oddsOfBond_X2_weight : GoodIn wsX1_oddsOfBond (wsV RX1 47 RX2 yX2_weight wsX2_weight) := goodIn_app (goodIn_of _ (by decide +kernel)) ggX1_oddsOfBond_X2_weight
theorem dX1_oddsOfBond_0 : decode cX1_oddsOfBond 0 = .ok (.lconst 0, 1) := by decide +kernel
theorem dX1_oddsOfBond_1 : decode cX1_oddsOfBond 1 = .ok (.lstore_n 3, 1) := by decide +kernel
theorem dX1_oddsOfBond_2 : decode cX1_oddsOfBond 2 = .ok (.iconst 0, 1) := by decide +kernel
theorem dX1_oddsOfBond_3 : decode cX1_oddsOfBond 3 = .ok (.istore 5, 2) := by decide +kernel
theorem dX1_oddsOfBond_5 : decode cX1_oddsOfBond 5 = .ok (.iload 5, 2) := by decide +kernel
theorem dX1_oddsOfBond_7 : decode cX1_oddsOfBond 7 = .ok (.aload_n 0, 1) := by decide +kernel
theorem dX1_oddsOfBond_8 : decode cX1_oddsOfBond 8 = .ok (.getfield 23, 3) := by decide +kernel
theorem dX1_oddsOfBond_11 : decode cX1_oddsOfBond 11 = .ok (.invokevirtual 40, 3) := by decide +kernel
theorem dX1_oddsOfBond_14 : decode cX1_oddsOfBond 14 = .ok (.if_icmp .ge 45, 3) := by decide +kernel
theorem dX1_oddsOfBond_17 : decode cX1_oddsOfBond 17 = .ok (.aload_n 0, 1) := by decide +kernel
theorem dX1_oddsOfBond_18 : decode cX1_oddsOfBond 18 = .ok (.getfield 23, 3) := by decide +kernel
theorem dX1_oddsOfBond_21 : decode cX1_oddsOfBond 21 = .ok (.iload 5, 2) := by decide +kernel
theorem dX1_oddsOfBond_23 : decode cX1_oddsOfBond 23 = .ok (.invokevirtual 71, 3) := by decide +kernel
theorem dX1_oddsOfBond_26 : decode cX1_oddsOfBond 26 = .ok (.ifCond .eq 27, 3) := by decide +kernel
theorem dX1_oddsOfBond_29 : decode cX1_oddsOfBond 29 = .ok (.aload_n 0, 1) := by decide +kernel
theorem dX1_oddsOfBond_30 : decode cX1_oddsOfBond 30 = .ok (.iload 5, 2) := by decide +kernel
theorem dX1_oddsOfBond_32 : decode cX1_oddsOfBond 32 = .ok (.iload_n 1, 1) := by decide +kernel
theorem dX1_oddsOfBond_33 : decode cX1_oddsOfBond 33 = .ok (.iload_n 2, 1) := by decide +kernel
theorem dX1_oddsOfBond_34 : decode cX1_oddsOfBond 34 = .ok (.invokevirtual 75, 3) := by decide +kernel
theorem dX1_oddsOfBond_37 : decode cX1_oddsOfBond 37 = .ok (.ifCond .eq 16, 3) := by decide +kernel
theorem dX1_oddsOfBond_40 : decode cX1_oddsOfBond 40 = .ok (.lload_n 3, 1) := by decide +kernel
theorem dX1_oddsOfBond_41 : decode cX1_oddsOfBond 41 = .ok (.aload_n 0, 1) := by decide +kernel
theorem dX1_oddsOfBond_42 : decode cX1_oddsOfBond 42 = .ok (.getfield 23, 3) := by decide +kernel
theorem dX1_oddsOfBond_45 : decode cX1_oddsOfBond 45 = .ok (.iload 5, 2) := by decide +kernel
theorem dX1_oddsOfBond_47 : decode cX1_oddsOfBond 47 = .ok (.invokevirtual 47, 3) := by decide +kernel
theorem dX1_oddsOfBond_50 : decode cX1_oddsOfBond 50 = .ok (.i2l, 1) := by decide +kernel
theorem dX1_oddsOfBond_51 : decode cX1_oddsOfBond 51 = .ok (.ladd, 1) := by decide +kernel
theorem dX1_oddsOfBond_52 : decode cX1_oddsOfBond 52 = .ok (.lstore_n 3, 1) := by decide +kernel
theorem dX1_oddsOfBond_53 : decode cX1_oddsOfBond 53 = .ok (.iinc 5 1, 3) := by decide +kernel
theorem dX1_oddsOfBond_56 : decode cX1_oddsOfBond 56 = .ok (.goto (-51), 3) := by decide +kernel
theorem dX1_oddsOfBond_59 : decode cX1_oddsOfBond 59 = .ok (.lload_n 3, 1) := by decide +kernel
theorem dX1_oddsOfBond_60 : decode cX1_oddsOfBond 60 = .ok (.lreturn, 1) := by decide +kernel
set_option maxRecDepth 20000 in
theorem ggX1_fewestThatSettle_X1_noteDoers : GoodIn wsX1_fewestThatSettle wsX1_noteDoers := goodIn_r _ [6, 1, 7, 8, 9, 10, 11, 12, 13, 14, 15, 16, 17, 18, 19, 20, 21, 22, 23, 24, 5, 25, 26, 27, 28, 29, 30, 31, 32, 33, 34, 35, 36, 37, 38, 39, 40, 41, 42, 43, 44, 45, 46, 47, 48, 49, 50, 51, 52, 53, 54, 55, 72, 73, 74, 75, 76, 77, 78, 79, 80, 81, 82, 83, 84, 85, 86, 87, 88, 89, 90, 91, 92, 93, 94, 95, 96, 97, 98, 99] (by decide +kernel) (by decide +kernel)
set_option maxRecDepth 20000 in
theorem gX1_fewestThatSettle_X1_noteDoers : GoodIn wsX1_fewestThatSettle (wsV RX1 79 RX1 yX1_noteDoers wsX1_noteDoers) := goodIn_app (goodIn_of _ (by decide +kernel)) ggX1_fewestThatSettle_X1_noteDoers
set_option maxRecDepth 20000 in
theorem ggX1_fewestThatSettle_X1_noteTellingSets : GoodIn wsX1_fewestThatSettle wsX1_noteTellingSets := goodIn_r _ [59, 1, 60, 8, 9, 10, 11, 12, 13, 14, 15, 72, 73, 74, 75, 82, 83, 84, 85, 86, 87, 88, 89, 90, 91, 92, 93, 94, 95] (by decide +kernel) (by decide +kernel)
set_option maxRecDepth 20000 in
theorem gX1_fewestThatSettle_X1_noteTellingSets : GoodIn wsX1_fewestThatSettle (wsV RX1 82 RX1 yX1_noteTellingSets wsX1_noteTellingSets) := goodIn_app (goodIn_of _ (by decide +kernel)) ggX1_fewestThatSettle_X1_noteTellingSets
set_option maxRecDepth 20000 in
theorem ggX1_fewestThatSettle_X2_size : GoodIn wsX1_fewestThatSettle wsX2_size := goodIn_r _ [14, 15, 82, 83, 84, 85, 86, 87, 88, 89, 90, 91, 92, 93, 94, 95] (by decide +kernel) (by decide +kernel)
set_option maxRecDepth 20000 in
theorem gX1_fewestThatSettle_X2_size : GoodIn wsX1_fewestThatSettle (wsV RX1 40 RX2 yX2_size wsX2_size) := goodIn_app (goodIn_of _ (by decide +kernel)) ggX1_fewestThatSettle_X2_size
set_option maxRecDepth 20000 in
theorem ggX1_fewestThatSettle_J6_bitCount_0f7a4 : GoodIn wsX1_fewestThatSettle wsJ6_bitCount_0f7a4 := goodIn_r _ [64, 65, 66, 67] (by decide +kernel) (by decide +kernel)
set_option maxRecDepth 20000 in
theorem gX1_fewestThatSettle_J6_bitCount_0f7a4 : GoodIn wsX1_fewestThatSettle (va_wsS RX1 85 yJ6_bitCount_0f7a4 wsJ6_bitCount_0f7a4) := goodIn_app (goodIn_of _ (by decide +kernel)) ggX1_fewestThatSettle_J6_bitCount_0f7a4
set_option maxRecDepth 20000 in
theorem ggX1_fewestThatSettle_X1_settles : GoodIn wsX1_fewestThatSettle wsX1_settles := goodIn_r _ [71, 1, 60, 10, 11, 12, 13, 14, 15, 72, 73, 74, 75, 82, 83, 84, 85, 86, 87, 88, 89, 90, 91, 92, 93, 94, 95] (by decide +kernel) (by decide +kernel)
set_option maxRecDepth 20000 in
theorem gX1_fewestThatSettle_X1_settles : GoodIn wsX1_fewestThatSettle (wsV RX1 90 RX1 yX1_settles wsX1_settles) := goodIn_app (goodIn_of _ (by decide +kernel)) ggX1_fewestThatSettle_X1_settles
theorem dX1_fewestThatSettle_0 : decode cX1_fewestThatSettle 0 = .ok (.aload_n 0, 1) := by decide +kernel
theorem dX1_fewestThatSettle_1 : decode cX1_fewestThatSettle 1 = .ok (.invokevirtual 79, 3) := by decide +kernel
theorem dX1_fewestThatSettle_4 : decode cX1_fewestThatSettle 4 = .ok (.aload_n 0, 1) := by decide +kernel
theorem dX1_fewestThatSettle_5 : decode cX1_fewestThatSettle 5 = .ok (.invokevirtual 82, 3) := by decide +kernel
theorem dX1_fewestThatSettle_8 : decode cX1_fewestThatSettle 8 = .ok (.aload_n 0, 1) := by decide +kernel
theorem dX1_fewestThatSettle_9 : decode cX1_fewestThatSettle 9 = .ok (.getfield 23, 3) := by decide +kernel
theorem dX1_fewestThatSettle_12 : decode cX1_fewestThatSettle 12 = .ok (.invokevirtual 40, 3) := by decide +kernel
theorem dX1_fewestThatSettle_15 : decode cX1_fewestThatSettle 15 = .ok (.iconst 1, 1) := by decide +kernel
theorem dX1_fewestThatSettle_16 : decode cX1_fewestThatSettle 16 = .ok (.isub, 1) := by decide +kernel
theorem dX1_fewestThatSettle_17 : decode cX1_fewestThatSettle 17 = .ok (.istore_n 1, 1) := by decide +kernel
theorem dX1_fewestThatSettle_18 : decode cX1_fewestThatSettle 18 = .ok (.iconst 0, 1) := by decide +kernel
theorem dX1_fewestThatSettle_19 : decode cX1_fewestThatSettle 19 = .ok (.istore_n 2, 1) := by decide +kernel
theorem dX1_fewestThatSettle_20 : decode cX1_fewestThatSettle 20 = .ok (.iload_n 2, 1) := by decide +kernel
theorem dX1_fewestThatSettle_21 : decode cX1_fewestThatSettle 21 = .ok (.aload_n 0, 1) := by decide +kernel
theorem dX1_fewestThatSettle_22 : decode cX1_fewestThatSettle 22 = .ok (.getfield 23, 3) := by decide +kernel
theorem dX1_fewestThatSettle_25 : decode cX1_fewestThatSettle 25 = .ok (.invokevirtual 40, 3) := by decide +kernel
theorem dX1_fewestThatSettle_28 : decode cX1_fewestThatSettle 28 = .ok (.if_icmp .ge 30, 3) := by decide +kernel
theorem dX1_fewestThatSettle_31 : decode cX1_fewestThatSettle 31 = .ok (.iload_n 2, 1) := by decide +kernel
theorem dX1_fewestThatSettle_32 : decode cX1_fewestThatSettle 32 = .ok (.invokestatic 85, 3) := by decide +kernel
theorem dX1_fewestThatSettle_35 : decode cX1_fewestThatSettle 35 = .ok (.iload_n 1, 1) := by decide +kernel
theorem dX1_fewestThatSettle_36 : decode cX1_fewestThatSettle 36 = .ok (.invokestatic 85, 3) := by decide +kernel
theorem dX1_fewestThatSettle_39 : decode cX1_fewestThatSettle 39 = .ok (.if_icmp .ge 13, 3) := by decide +kernel
theorem dX1_fewestThatSettle_42 : decode cX1_fewestThatSettle 42 = .ok (.aload_n 0, 1) := by decide +kernel
theorem dX1_fewestThatSettle_43 : decode cX1_fewestThatSettle 43 = .ok (.iload_n 2, 1) := by decide +kernel
theorem dX1_fewestThatSettle_44 : decode cX1_fewestThatSettle 44 = .ok (.invokevirtual 90, 3) := by decide +kernel
theorem dX1_fewestThatSettle_47 : decode cX1_fewestThatSettle 47 = .ok (.ifCond .eq 5, 3) := by decide +kernel
theorem dX1_fewestThatSettle_50 : decode cX1_fewestThatSettle 50 = .ok (.iload_n 2, 1) := by decide +kernel
theorem dX1_fewestThatSettle_51 : decode cX1_fewestThatSettle 51 = .ok (.istore_n 1, 1) := by decide +kernel
theorem dX1_fewestThatSettle_52 : decode cX1_fewestThatSettle 52 = .ok (.iinc 2 1, 3) := by decide +kernel
theorem dX1_fewestThatSettle_55 : decode cX1_fewestThatSettle 55 = .ok (.goto (-35), 3) := by decide +kernel
theorem dX1_fewestThatSettle_58 : decode cX1_fewestThatSettle 58 = .ok (.iload_n 1, 1) := by decide +kernel
theorem dX1_fewestThatSettle_59 : decode cX1_fewestThatSettle 59 = .ok (.ireturn, 1) := by decide +kernel
set_option maxRecDepth 20000 in
theorem ggX1_noteDoers_X2_size : GoodIn wsX1_noteDoers wsX2_size := goodIn_r _ [9, 10, 62, 63, 64, 65, 66, 67, 68, 69, 70, 71, 72, 73, 74, 75] (by decide +kernel) (by decide +kernel)
set_option maxRecDepth 20000 in
theorem gX1_noteDoers_X2_size : GoodIn wsX1_noteDoers (wsV RX1 40 RX2 yX2_size wsX2_size) := goodIn_app (goodIn_of _ (by decide +kernel)) ggX1_noteDoers_X2_size
set_option maxRecDepth 20000 in
theorem ggX1_noteDoers_X4_size : GoodIn wsX1_noteDoers wsX4_size := goodIn_r _ [15, 16, 76, 77, 78, 79] (by decide +kernel) (by decide +kernel)
set_option maxRecDepth 20000 in
theorem gX1_noteDoers_X4_size : GoodIn wsX1_noteDoers (wsV RX1 57 RX4 yX4_size wsX4_size) := goodIn_app (goodIn_of _ (by decide +kernel)) ggX1_noteDoers_X4_size
set_option maxRecDepth 20000 in
theorem ggX1_noteDoers_X1_doerIn : GoodIn wsX1_noteDoers wsX1_doerIn := goodIn_r _ [21, 1, 22, 23, 24, 20, 25, 2, 26, 27, 28, 14, 29, 16, 30, 31, 32, 33, 34, 8, 35, 36, 37, 38, 39, 40, 41, 52, 53, 54, 55, 56, 57, 58, 59, 60, 61, 76, 77, 78, 79, 62, 63, 64, 65, 66, 67, 68, 69, 70, 71, 72, 73, 74, 75] (by decide +kernel) (by decide +kernel)
set_option maxRecDepth 20000 in
theorem gX1_noteDoers_X1_doerIn : GoodIn wsX1_noteDoers (wsV RX1 44 RX1 yX1_doerIn wsX1_doerIn) := goodIn_app (goodIn_of _ (by decide +kernel)) ggX1_noteDoers_X1_doerIn
set_option maxRecDepth 20000 in
theorem ggX1_noteDoers_X2_holds : GoodIn wsX1_noteDoers wsX2_holds := goodIn_r _ [45, 46, 47, 48, 8, 49, 50, 51, 6, 7, 9, 10, 62, 63, 64, 65, 66, 67, 68, 69, 70, 71, 72, 73, 74, 75] (by decide +kernel) (by decide +kernel)
set_option maxRecDepth 20000 in
theorem gX1_noteDoers_X2_holds : GoodIn wsX1_noteDoers (wsV RX1 71 RX2 yX2_holds wsX2_holds) := goodIn_app (goodIn_of _ (by decide +kernel)) ggX1_noteDoers_X2_holds
theorem dX1_noteDoers_0 : decode cX1_noteDoers 0 = .ok (.iconst 0, 1) := by decide +kernel
theorem dX1_noteDoers_1 : decode cX1_noteDoers 1 = .ok (.istore_n 1, 1) := by decide +kernel
theorem dX1_noteDoers_2 : decode cX1_noteDoers 2 = .ok (.iload_n 1, 1) := by decide +kernel
theorem dX1_noteDoers_3 : decode cX1_noteDoers 3 = .ok (.aload_n 0, 1) := by decide +kernel
theorem dX1_noteDoers_4 : decode cX1_noteDoers 4 = .ok (.getfield 23, 3) := by decide +kernel
theorem dX1_noteDoers_7 : decode cX1_noteDoers 7 = .ok (.invokevirtual 40, 3) := by decide +kernel
theorem dX1_noteDoers_10 : decode cX1_noteDoers 10 = .ok (.if_icmp .ge 72, 3) := by decide +kernel
theorem dX1_noteDoers_13 : decode cX1_noteDoers 13 = .ok (.lconst 0, 1) := by decide +kernel
theorem dX1_noteDoers_14 : decode cX1_noteDoers 14 = .ok (.lstore_n 2, 1) := by decide +kernel
theorem dX1_noteDoers_15 : decode cX1_noteDoers 15 = .ok (.iconst 0, 1) := by decide +kernel
theorem dX1_noteDoers_16 : decode cX1_noteDoers 16 = .ok (.istore 4, 2) := by decide +kernel
theorem dX1_noteDoers_18 : decode cX1_noteDoers 18 = .ok (.iload 4, 2) := by decide +kernel
theorem dX1_noteDoers_20 : decode cX1_noteDoers 20 = .ok (.aload_n 0, 1) := by decide +kernel
theorem dX1_noteDoers_21 : decode cX1_noteDoers 21 = .ok (.getfield 19, 3) := by decide +kernel
theorem dX1_noteDoers_24 : decode cX1_noteDoers 24 = .ok (.getfield 51, 3) := by decide +kernel
theorem dX1_noteDoers_27 : decode cX1_noteDoers 27 = .ok (.invokevirtual 57, 3) := by decide +kernel
theorem dX1_noteDoers_30 : decode cX1_noteDoers 30 = .ok (.if_icmp .ge 22, 3) := by decide +kernel
theorem dX1_noteDoers_33 : decode cX1_noteDoers 33 = .ok (.lload_n 2, 1) := by decide +kernel
theorem dX1_noteDoers_34 : decode cX1_noteDoers 34 = .ok (.iconst 3, 1) := by decide +kernel
theorem dX1_noteDoers_35 : decode cX1_noteDoers 35 = .ok (.lshl, 1) := by decide +kernel
theorem dX1_noteDoers_36 : decode cX1_noteDoers 36 = .ok (.aload_n 0, 1) := by decide +kernel
theorem dX1_noteDoers_37 : decode cX1_noteDoers 37 = .ok (.iload_n 1, 1) := by decide +kernel
theorem dX1_noteDoers_38 : decode cX1_noteDoers 38 = .ok (.iload 4, 2) := by decide +kernel
theorem dX1_noteDoers_40 : decode cX1_noteDoers 40 = .ok (.invokevirtual 44, 3) := by decide +kernel
theorem dX1_noteDoers_43 : decode cX1_noteDoers 43 = .ok (.i2l, 1) := by decide +kernel
theorem dX1_noteDoers_44 : decode cX1_noteDoers 44 = .ok (.lor, 1) := by decide +kernel
theorem dX1_noteDoers_45 : decode cX1_noteDoers 45 = .ok (.lstore_n 2, 1) := by decide +kernel
theorem dX1_noteDoers_46 : decode cX1_noteDoers 46 = .ok (.iinc 4 1, 3) := by decide +kernel
theorem dX1_noteDoers_49 : decode cX1_noteDoers 49 = .ok (.goto (-31), 3) := by decide +kernel
theorem dX1_noteDoers_52 : decode cX1_noteDoers 52 = .ok (.aload_n 0, 1) := by decide +kernel
theorem dX1_noteDoers_53 : decode cX1_noteDoers 53 = .ok (.getfield 9, 3) := by decide +kernel
theorem dX1_noteDoers_56 : decode cX1_noteDoers 56 = .ok (.iload_n 1, 1) := by decide +kernel
theorem dX1_noteDoers_57 : decode cX1_noteDoers 57 = .ok (.aload_n 0, 1) := by decide +kernel
theorem dX1_noteDoers_58 : decode cX1_noteDoers 58 = .ok (.getfield 23, 3) := by decide +kernel
theorem dX1_noteDoers_61 : decode cX1_noteDoers 61 = .ok (.iload_n 1, 1) := by decide +kernel
theorem dX1_noteDoers_62 : decode cX1_noteDoers 62 = .ok (.invokevirtual 71, 3) := by decide +kernel
theorem dX1_noteDoers_65 : decode cX1_noteDoers 65 = .ok (.ifCond .eq 7, 3) := by decide +kernel
theorem dX1_noteDoers_68 : decode cX1_noteDoers 68 = .ok (.lload_n 2, 1) := by decide +kernel
theorem dX1_noteDoers_69 : decode cX1_noteDoers 69 = .ok (.goto 6, 3) := by decide +kernel
theorem dX1_noteDoers_72 : decode cX1_noteDoers 72 = .ok (.ldc2_w 93, 3) := by decide +kernel
theorem dX1_noteDoers_75 : decode cX1_noteDoers 75 = .ok (.lastore, 1) := by decide +kernel
theorem dX1_noteDoers_76 : decode cX1_noteDoers 76 = .ok (.iinc 1 1, 3) := by decide +kernel
theorem dX1_noteDoers_79 : decode cX1_noteDoers 79 = .ok (.goto (-77), 3) := by decide +kernel
theorem dX1_noteDoers_82 : decode cX1_noteDoers 82 = .ok (.return_, 1) := by decide +kernel
set_option maxRecDepth 20000 in
theorem ggX1_noteTellingSets_X2_size : GoodIn wsX1_noteTellingSets wsX2_size := goodIn_r _ [9, 10, 15, 16, 17, 18, 19, 20, 21, 22, 23, 24, 25, 26, 27, 28] (by decide +kernel) (by decide +kernel)
set_option maxRecDepth 20000 in
theorem gX1_noteTellingSets_X2_size : GoodIn wsX1_noteTellingSets (wsV RX1 40 RX2 yX2_size wsX2_size) := goodIn_app (goodIn_of _ (by decide +kernel)) ggX1_noteTellingSets_X2_size
theorem dX1_noteTellingSets_0 : decode cX1_noteTellingSets 0 = .ok (.aload_n 0, 1) := by decide +kernel
theorem dX1_noteTellingSets_1 : decode cX1_noteTellingSets 1 = .ok (.getfield 23, 3) := by decide +kernel
theorem dX1_noteTellingSets_4 : decode cX1_noteTellingSets 4 = .ok (.invokevirtual 40, 3) := by decide +kernel
theorem dX1_noteTellingSets_7 : decode cX1_noteTellingSets 7 = .ok (.istore_n 1, 1) := by decide +kernel
theorem dX1_noteTellingSets_8 : decode cX1_noteTellingSets 8 = .ok (.iconst 0, 1) := by decide +kernel
theorem dX1_noteTellingSets_9 : decode cX1_noteTellingSets 9 = .ok (.istore_n 2, 1) := by decide +kernel
theorem dX1_noteTellingSets_10 : decode cX1_noteTellingSets 10 = .ok (.iload_n 2, 1) := by decide +kernel
theorem dX1_noteTellingSets_11 : decode cX1_noteTellingSets 11 = .ok (.iload_n 1, 1) := by decide +kernel
theorem dX1_noteTellingSets_12 : decode cX1_noteTellingSets 12 = .ok (.if_icmp .ge 16, 3) := by decide +kernel
theorem dX1_noteTellingSets_15 : decode cX1_noteTellingSets 15 = .ok (.aload_n 0, 1) := by decide +kernel
theorem dX1_noteTellingSets_16 : decode cX1_noteTellingSets 16 = .ok (.getfield 15, 3) := by decide +kernel
theorem dX1_noteTellingSets_19 : decode cX1_noteTellingSets 19 = .ok (.iload_n 2, 1) := by decide +kernel
theorem dX1_noteTellingSets_20 : decode cX1_noteTellingSets 20 = .ok (.iconst 0, 1) := by decide +kernel
theorem dX1_noteTellingSets_21 : decode cX1_noteTellingSets 21 = .ok (.bastore, 1) := by decide +kernel
theorem dX1_noteTellingSets_22 : decode cX1_noteTellingSets 22 = .ok (.iinc 2 1, 3) := by decide +kernel
theorem dX1_noteTellingSets_25 : decode cX1_noteTellingSets 25 = .ok (.goto (-15), 3) := by decide +kernel
theorem dX1_noteTellingSets_28 : decode cX1_noteTellingSets 28 = .ok (.iconst 1, 1) := by decide +kernel
theorem dX1_noteTellingSets_29 : decode cX1_noteTellingSets 29 = .ok (.istore_n 2, 1) := by decide +kernel
theorem dX1_noteTellingSets_30 : decode cX1_noteTellingSets 30 = .ok (.iload_n 2, 1) := by decide +kernel
theorem dX1_noteTellingSets_31 : decode cX1_noteTellingSets 31 = .ok (.iload_n 1, 1) := by decide +kernel
theorem dX1_noteTellingSets_32 : decode cX1_noteTellingSets 32 = .ok (.if_icmp .ge 73, 3) := by decide +kernel
theorem dX1_noteTellingSets_35 : decode cX1_noteTellingSets 35 = .ok (.iconst 0, 1) := by decide +kernel
theorem dX1_noteTellingSets_36 : decode cX1_noteTellingSets 36 = .ok (.istore_n 3, 1) := by decide +kernel
theorem dX1_noteTellingSets_37 : decode cX1_noteTellingSets 37 = .ok (.iload_n 3, 1) := by decide +kernel
theorem dX1_noteTellingSets_38 : decode cX1_noteTellingSets 38 = .ok (.iload_n 2, 1) := by decide +kernel
theorem dX1_noteTellingSets_39 : decode cX1_noteTellingSets 39 = .ok (.if_icmp .ge 60, 3) := by decide +kernel
theorem dX1_noteTellingSets_42 : decode cX1_noteTellingSets 42 = .ok (.aload_n 0, 1) := by decide +kernel
theorem dX1_noteTellingSets_43 : decode cX1_noteTellingSets 43 = .ok (.getfield 9, 3) := by decide +kernel
theorem dX1_noteTellingSets_46 : decode cX1_noteTellingSets 46 = .ok (.iload_n 2, 1) := by decide +kernel
theorem dX1_noteTellingSets_47 : decode cX1_noteTellingSets 47 = .ok (.laload, 1) := by decide +kernel
theorem dX1_noteTellingSets_48 : decode cX1_noteTellingSets 48 = .ok (.ldc2_w 93, 3) := by decide +kernel
theorem dX1_noteTellingSets_51 : decode cX1_noteTellingSets 51 = .ok (.lcmp, 1) := by decide +kernel
theorem dX1_noteTellingSets_52 : decode cX1_noteTellingSets 52 = .ok (.ifCond .eq 41, 3) := by decide +kernel
theorem dX1_noteTellingSets_55 : decode cX1_noteTellingSets 55 = .ok (.aload_n 0, 1) := by decide +kernel
theorem dX1_noteTellingSets_56 : decode cX1_noteTellingSets 56 = .ok (.getfield 9, 3) := by decide +kernel
theorem dX1_noteTellingSets_59 : decode cX1_noteTellingSets 59 = .ok (.iload_n 3, 1) := by decide +kernel
theorem dX1_noteTellingSets_60 : decode cX1_noteTellingSets 60 = .ok (.laload, 1) := by decide +kernel
theorem dX1_noteTellingSets_61 : decode cX1_noteTellingSets 61 = .ok (.ldc2_w 93, 3) := by decide +kernel
theorem dX1_noteTellingSets_64 : decode cX1_noteTellingSets 64 = .ok (.lcmp, 1) := by decide +kernel
theorem dX1_noteTellingSets_65 : decode cX1_noteTellingSets 65 = .ok (.ifCond .eq 28, 3) := by decide +kernel
theorem dX1_noteTellingSets_68 : decode cX1_noteTellingSets 68 = .ok (.aload_n 0, 1) := by decide +kernel
theorem dX1_noteTellingSets_69 : decode cX1_noteTellingSets 69 = .ok (.getfield 9, 3) := by decide +kernel
theorem dX1_noteTellingSets_72 : decode cX1_noteTellingSets 72 = .ok (.iload_n 2, 1) := by decide +kernel
theorem dX1_noteTellingSets_73 : decode cX1_noteTellingSets 73 = .ok (.laload, 1) := by decide +kernel
theorem dX1_noteTellingSets_74 : decode cX1_noteTellingSets 74 = .ok (.aload_n 0, 1) := by decide +kernel
theorem dX1_noteTellingSets_75 : decode cX1_noteTellingSets 75 = .ok (.getfield 9, 3) := by decide +kernel
theorem dX1_noteTellingSets_78 : decode cX1_noteTellingSets 78 = .ok (.iload_n 3, 1) := by decide +kernel
theorem dX1_noteTellingSets_79 : decode cX1_noteTellingSets 79 = .ok (.laload, 1) := by decide +kernel
theorem dX1_noteTellingSets_80 : decode cX1_noteTellingSets 80 = .ok (.lcmp, 1) := by decide +kernel
theorem dX1_noteTellingSets_81 : decode cX1_noteTellingSets 81 = .ok (.ifCond .eq 12, 3) := by decide +kernel
theorem dX1_noteTellingSets_84 : decode cX1_noteTellingSets 84 = .ok (.aload_n 0, 1) := by decide +kernel
theorem dX1_noteTellingSets_85 : decode cX1_noteTellingSets 85 = .ok (.getfield 15, 3) := by decide +kernel
theorem dX1_noteTellingSets_88 : decode cX1_noteTellingSets 88 = .ok (.iload_n 2, 1) := by decide +kernel
theorem dX1_noteTellingSets_89 : decode cX1_noteTellingSets 89 = .ok (.iload_n 3, 1) := by decide +kernel
theorem dX1_noteTellingSets_90 : decode cX1_noteTellingSets 90 = .ok (.ixor, 1) := by decide +kernel
theorem dX1_noteTellingSets_91 : decode cX1_noteTellingSets 91 = .ok (.iconst 1, 1) := by decide +kernel
theorem dX1_noteTellingSets_92 : decode cX1_noteTellingSets 92 = .ok (.bastore, 1) := by decide +kernel
theorem dX1_noteTellingSets_93 : decode cX1_noteTellingSets 93 = .ok (.iinc 3 1, 3) := by decide +kernel
theorem dX1_noteTellingSets_96 : decode cX1_noteTellingSets 96 = .ok (.goto (-59), 3) := by decide +kernel
theorem dX1_noteTellingSets_99 : decode cX1_noteTellingSets 99 = .ok (.iinc 2 1, 3) := by decide +kernel
theorem dX1_noteTellingSets_102 : decode cX1_noteTellingSets 102 = .ok (.goto (-72), 3) := by decide +kernel
theorem dX1_noteTellingSets_105 : decode cX1_noteTellingSets 105 = .ok (.return_, 1) := by decide +kernel
set_option maxRecDepth 20000 in
theorem ggX1_settles_X2_size : GoodIn wsX1_settles wsX2_size := goodIn_r _ [7, 8, 13, 14, 15, 16, 17, 18, 19, 20, 21, 22, 23, 24, 25, 26] (by decide +kernel) (by decide +kernel)
set_option maxRecDepth 20000 in
theorem gX1_settles_X2_size : GoodIn wsX1_settles (wsV RX1 40 RX2 yX2_size wsX2_size) := goodIn_app (goodIn_of _ (by decide +kernel)) ggX1_settles_X2_size
theorem dX1_settles_0 : decode cX1_settles 0 = .ok (.aload_n 0, 1) := by decide +kernel
theorem dX1_settles_1 : decode cX1_settles 1 = .ok (.getfield 23, 3) := by decide +kernel
theorem dX1_settles_4 : decode cX1_settles 4 = .ok (.invokevirtual 40, 3) := by decide +kernel
theorem dX1_settles_7 : decode cX1_settles 7 = .ok (.istore_n 2, 1) := by decide +kernel
theorem dX1_settles_8 : decode cX1_settles 8 = .ok (.iconst 1, 1) := by decide +kernel
theorem dX1_settles_9 : decode cX1_settles 9 = .ok (.istore_n 3, 1) := by decide +kernel
theorem dX1_settles_10 : decode cX1_settles 10 = .ok (.iload_n 3, 1) := by decide +kernel
theorem dX1_settles_11 : decode cX1_settles 11 = .ok (.iload_n 2, 1) := by decide +kernel
theorem dX1_settles_12 : decode cX1_settles 12 = .ok (.if_icmp .ge 26, 3) := by decide +kernel
theorem dX1_settles_15 : decode cX1_settles 15 = .ok (.aload_n 0, 1) := by decide +kernel
theorem dX1_settles_16 : decode cX1_settles 16 = .ok (.getfield 15, 3) := by decide +kernel
theorem dX1_settles_19 : decode cX1_settles 19 = .ok (.iload_n 3, 1) := by decide +kernel
theorem dX1_settles_20 : decode cX1_settles 20 = .ok (.baload, 1) := by decide +kernel
theorem dX1_settles_21 : decode cX1_settles 21 = .ok (.ifCond .eq 11, 3) := by decide +kernel
theorem dX1_settles_24 : decode cX1_settles 24 = .ok (.iload_n 3, 1) := by decide +kernel
theorem dX1_settles_25 : decode cX1_settles 25 = .ok (.iload_n 1, 1) := by decide +kernel
theorem dX1_settles_26 : decode cX1_settles 26 = .ok (.iand, 1) := by decide +kernel
theorem dX1_settles_27 : decode cX1_settles 27 = .ok (.ifCond .ne 5, 3) := by decide +kernel
theorem dX1_settles_30 : decode cX1_settles 30 = .ok (.iconst 0, 1) := by decide +kernel
theorem dX1_settles_31 : decode cX1_settles 31 = .ok (.ireturn, 1) := by decide +kernel
theorem dX1_settles_32 : decode cX1_settles 32 = .ok (.iinc 3 1, 3) := by decide +kernel
theorem dX1_settles_35 : decode cX1_settles 35 = .ok (.goto (-25), 3) := by decide +kernel
theorem dX1_settles_38 : decode cX1_settles 38 = .ok (.iconst 1, 1) := by decide +kernel
theorem dX1_settles_39 : decode cX1_settles 39 = .ok (.ireturn, 1) := by decide +kernel
set_option maxRecDepth 20000 in
theorem ggX1_areBoundIn_X4_size : GoodIn wsX1_areBoundIn wsX4_size := goodIn_r _ [6, 7, 55, 56, 57, 58] (by decide +kernel) (by decide +kernel)
set_option maxRecDepth 20000 in
theorem gX1_areBoundIn_X4_size : GoodIn wsX1_areBoundIn (wsV RX1 57 RX4 yX4_size wsX4_size) := goodIn_app (goodIn_of _ (by decide +kernel)) ggX1_areBoundIn_X4_size
set_option maxRecDepth 20000 in
theorem ggX1_areBoundIn_X1_binds : GoodIn wsX1_areBoundIn wsX1_binds := goodIn_r _ [12, 13, 14, 15, 11, 16, 1, 17, 18, 19, 5, 20, 7, 21, 22, 23, 24, 25, 26, 27, 28, 29, 45, 46, 47, 48, 49, 50, 51, 52, 53, 54, 55, 56, 57, 58] (by decide +kernel) (by decide +kernel)
set_option maxRecDepth 20000 in
theorem gX1_areBoundIn_X1_binds : GoodIn wsX1_areBoundIn (wsV RX1 95 RX1 yX1_binds wsX1_binds) := goodIn_app (goodIn_of _ (by decide +kernel)) ggX1_areBoundIn_X1_binds
set_option maxRecDepth 20000 in
theorem ggX1_areBoundIn_X1_isBetween : GoodIn wsX1_areBoundIn wsX1_isBetween := goodIn_r _ [33, 34, 13, 14, 15, 11, 16, 1, 17, 18, 19, 5, 20, 7, 21, 22, 35, 36, 37, 38, 39, 40, 41, 42, 43, 24, 44, 45, 46, 47, 48, 49, 50, 51, 52, 53, 54, 55, 56, 57, 58, 59, 60, 61, 62, 63, 64, 65, 66, 67, 68, 69, 70, 71, 72] (by decide +kernel) (by decide +kernel)
set_option maxRecDepth 20000 in
theorem gX1_areBoundIn_X1_isBetween : GoodIn wsX1_areBoundIn (wsV RX1 67 RX1 yX1_isBetween wsX1_isBetween) := goodIn_app (goodIn_of _ (by decide +kernel)) ggX1_areBoundIn_X1_isBetween
theorem dX1_areBoundIn_0 : decode cX1_areBoundIn 0 = .ok (.iconst 0, 1) := by decide +kernel
theorem dX1_areBoundIn_1 : decode cX1_areBoundIn 1 = .ok (.istore 4, 2) := by decide +kernel
theorem dX1_areBoundIn_3 : decode cX1_areBoundIn 3 = .ok (.iload 4, 2) := by decide +kernel
theorem dX1_areBoundIn_5 : decode cX1_areBoundIn 5 = .ok (.aload_n 0, 1) := by decide +kernel
theorem dX1_areBoundIn_6 : decode cX1_areBoundIn 6 = .ok (.getfield 19, 3) := by decide +kernel
theorem dX1_areBoundIn_9 : decode cX1_areBoundIn 9 = .ok (.getfield 51, 3) := by decide +kernel
theorem dX1_areBoundIn_12 : decode cX1_areBoundIn 12 = .ok (.invokevirtual 57, 3) := by decide +kernel
theorem dX1_areBoundIn_15 : decode cX1_areBoundIn 15 = .ok (.if_icmp .ge 44, 3) := by decide +kernel
theorem dX1_areBoundIn_18 : decode cX1_areBoundIn 18 = .ok (.aload_n 0, 1) := by decide +kernel
theorem dX1_areBoundIn_19 : decode cX1_areBoundIn 19 = .ok (.iload 4, 2) := by decide +kernel
theorem dX1_areBoundIn_21 : decode cX1_areBoundIn 21 = .ok (.invokevirtual 95, 3) := by decide +kernel
theorem dX1_areBoundIn_24 : decode cX1_areBoundIn 24 = .ok (.ifCond .eq 29, 3) := by decide +kernel
theorem dX1_areBoundIn_27 : decode cX1_areBoundIn 27 = .ok (.aload_n 0, 1) := by decide +kernel
theorem dX1_areBoundIn_28 : decode cX1_areBoundIn 28 = .ok (.iload_n 1, 1) := by decide +kernel
theorem dX1_areBoundIn_29 : decode cX1_areBoundIn 29 = .ok (.iload 4, 2) := by decide +kernel
theorem dX1_areBoundIn_31 : decode cX1_areBoundIn 31 = .ok (.iload_n 2, 1) := by decide +kernel
theorem dX1_areBoundIn_32 : decode cX1_areBoundIn 32 = .ok (.iload_n 3, 1) := by decide +kernel
theorem dX1_areBoundIn_33 : decode cX1_areBoundIn 33 = .ok (.invokevirtual 67, 3) := by decide +kernel
theorem dX1_areBoundIn_36 : decode cX1_areBoundIn 36 = .ok (.ifCond .ne 15, 3) := by decide +kernel
theorem dX1_areBoundIn_39 : decode cX1_areBoundIn 39 = .ok (.aload_n 0, 1) := by decide +kernel
theorem dX1_areBoundIn_40 : decode cX1_areBoundIn 40 = .ok (.iload_n 1, 1) := by decide +kernel
theorem dX1_areBoundIn_41 : decode cX1_areBoundIn 41 = .ok (.iload 4, 2) := by decide +kernel
theorem dX1_areBoundIn_43 : decode cX1_areBoundIn 43 = .ok (.iload_n 3, 1) := by decide +kernel
theorem dX1_areBoundIn_44 : decode cX1_areBoundIn 44 = .ok (.iload_n 2, 1) := by decide +kernel
theorem dX1_areBoundIn_45 : decode cX1_areBoundIn 45 = .ok (.invokevirtual 67, 3) := by decide +kernel
theorem dX1_areBoundIn_48 : decode cX1_areBoundIn 48 = .ok (.ifCond .eq 5, 3) := by decide +kernel
theorem dX1_areBoundIn_51 : decode cX1_areBoundIn 51 = .ok (.iconst 1, 1) := by decide +kernel
theorem dX1_areBoundIn_52 : decode cX1_areBoundIn 52 = .ok (.ireturn, 1) := by decide +kernel
theorem dX1_areBoundIn_53 : decode cX1_areBoundIn 53 = .ok (.iinc 4 1, 3) := by decide +kernel
theorem dX1_areBoundIn_56 : decode cX1_areBoundIn 56 = .ok (.goto (-53), 3) := by decide +kernel
theorem dX1_areBoundIn_59 : decode cX1_areBoundIn 59 = .ok (.iconst 0, 1) := by decide +kernel
theorem dX1_areBoundIn_60 : decode cX1_areBoundIn 60 = .ok (.ireturn, 1) := by decide +kernel
set_option maxRecDepth 20000 in
theorem ggX1_isBetween_X1_part : GoodIn wsX1_isBetween wsX1_part := goodIn_r _ [6, 7, 8, 9, 10, 11, 12, 13, 14, 15, 27, 28, 29, 30, 31, 32, 33, 34, 35, 36, 37, 38, 39, 40] (by decide +kernel) (by decide +kernel)
set_option maxRecDepth 20000 in
theorem gX1_isBetween_X1_part : GoodIn wsX1_isBetween (wsV RX1 27 RX1 yX1_part wsX1_part) := goodIn_app (goodIn_of _ (by decide +kernel)) ggX1_isBetween_X1_part
set_option maxRecDepth 20000 in
theorem ggX1_isBetween_X2_row : GoodIn wsX1_isBetween wsX2_row := goodIn_r _ [20, 21, 22, 23, 41, 42, 43, 44, 45, 46, 47, 48, 49, 50, 51, 52, 53, 54] (by decide +kernel) (by decide +kernel)
set_option maxRecDepth 20000 in
theorem gX1_isBetween_X2_row : GoodIn wsX1_isBetween (wsV RX1 98 RX2 yX2_row wsX2_row) := goodIn_app (goodIn_of _ (by decide +kernel)) ggX1_isBetween_X2_row
set_option maxRecDepth 20000 in
theorem ggX1_isBetween_X7_wearer : GoodIn wsX1_isBetween wsX7_wearer := goodIn_r _ [26] (by decide +kernel) (by decide +kernel)
set_option maxRecDepth 20000 in
theorem gX1_isBetween_X7_wearer_n101 : GoodIn wsX1_isBetween (wsX7_wearer) := ggX1_isBetween_X7_wearer
theorem dX1_isBetween_0 : decode cX1_isBetween 0 = .ok (.aload_n 0, 1) := by decide +kernel
theorem dX1_isBetween_1 : decode cX1_isBetween 1 = .ok (.getfield 23, 3) := by decide +kernel
theorem dX1_isBetween_4 : decode cX1_isBetween 4 = .ok (.iload_n 1, 1) := by decide +kernel
theorem dX1_isBetween_5 : decode cX1_isBetween 5 = .ok (.aload_n 0, 1) := by decide +kernel
theorem dX1_isBetween_6 : decode cX1_isBetween 6 = .ok (.iload_n 2, 1) := by decide +kernel
theorem dX1_isBetween_7 : decode cX1_isBetween 7 = .ok (.iconst 1, 1) := by decide +kernel
theorem dX1_isBetween_8 : decode cX1_isBetween 8 = .ok (.invokevirtual 27, 3) := by decide +kernel
theorem dX1_isBetween_11 : decode cX1_isBetween 11 = .ok (.invokevirtual 98, 3) := by decide +kernel
theorem dX1_isBetween_14 : decode cX1_isBetween 14 = .ok (.istore 5, 2) := by decide +kernel
theorem dX1_isBetween_16 : decode cX1_isBetween 16 = .ok (.iload 5, 2) := by decide +kernel
theorem dX1_isBetween_18 : decode cX1_isBetween 18 = .ok (.aload_n 0, 1) := by decide +kernel
theorem dX1_isBetween_19 : decode cX1_isBetween 19 = .ok (.iload_n 2, 1) := by decide +kernel
theorem dX1_isBetween_20 : decode cX1_isBetween 20 = .ok (.iconst 2, 1) := by decide +kernel
theorem dX1_isBetween_21 : decode cX1_isBetween 21 = .ok (.invokevirtual 27, 3) := by decide +kernel
theorem dX1_isBetween_24 : decode cX1_isBetween 24 = .ok (.invokestatic 101, 3) := by decide +kernel
theorem dX1_isBetween_27 : decode cX1_isBetween 27 = .ok (.iload_n 3, 1) := by decide +kernel
theorem dX1_isBetween_28 : decode cX1_isBetween 28 = .ok (.if_icmp .ne 23, 3) := by decide +kernel
theorem dX1_isBetween_31 : decode cX1_isBetween 31 = .ok (.iload 5, 2) := by decide +kernel
theorem dX1_isBetween_33 : decode cX1_isBetween 33 = .ok (.aload_n 0, 1) := by decide +kernel
theorem dX1_isBetween_34 : decode cX1_isBetween 34 = .ok (.iload_n 2, 1) := by decide +kernel
theorem dX1_isBetween_35 : decode cX1_isBetween 35 = .ok (.iconst 3, 1) := by decide +kernel
theorem dX1_isBetween_36 : decode cX1_isBetween 36 = .ok (.invokevirtual 27, 3) := by decide +kernel
theorem dX1_isBetween_39 : decode cX1_isBetween 39 = .ok (.invokestatic 101, 3) := by decide +kernel
theorem dX1_isBetween_42 : decode cX1_isBetween 42 = .ok (.iload 4, 2) := by decide +kernel
theorem dX1_isBetween_44 : decode cX1_isBetween 44 = .ok (.if_icmp .ne 7, 3) := by decide +kernel
theorem dX1_isBetween_47 : decode cX1_isBetween 47 = .ok (.iconst 1, 1) := by decide +kernel
theorem dX1_isBetween_48 : decode cX1_isBetween 48 = .ok (.goto 4, 3) := by decide +kernel
theorem dX1_isBetween_51 : decode cX1_isBetween 51 = .ok (.iconst 0, 1) := by decide +kernel
theorem dX1_isBetween_52 : decode cX1_isBetween 52 = .ok (.ireturn, 1) := by decide +kernel
set_option maxRecDepth 20000 in
theorem ggX1_doerIn_X1_part : GoodIn wsX1_doerIn wsX1_part := goodIn_r _ [6, 7, 8, 9, 10, 11, 12, 13, 14, 15, 27, 28, 29, 30, 31, 32, 33, 34, 35, 36, 37, 38, 39, 40] (by decide +kernel) (by decide +kernel)
set_option maxRecDepth 20000 in
theorem gX1_doerIn_X1_part : GoodIn wsX1_doerIn (wsV RX1 27 RX1 yX1_part wsX1_part) := goodIn_app (goodIn_of _ (by decide +kernel)) ggX1_doerIn_X1_part
set_option maxRecDepth 20000 in
theorem ggX1_doerIn_X2_row : GoodIn wsX1_doerIn wsX2_row := goodIn_r _ [20, 21, 22, 23, 41, 42, 43, 44, 45, 46, 47, 48, 49, 50, 51, 52, 53, 54] (by decide +kernel) (by decide +kernel)
set_option maxRecDepth 20000 in
theorem gX1_doerIn_X2_row : GoodIn wsX1_doerIn (wsV RX1 98 RX2 yX2_row wsX2_row) := goodIn_app (goodIn_of _ (by decide +kernel)) ggX1_doerIn_X2_row
set_option maxRecDepth 20000 in
theorem ggX1_doerIn_X7_wearer : GoodIn wsX1_doerIn wsX7_wearer := goodIn_r _ [26] (by decide +kernel) (by decide +kernel)
set_option maxRecDepth 20000 in
theorem gX1_doerIn_X7_wearer_n101 : GoodIn wsX1_doerIn (wsX7_wearer) := ggX1_doerIn_X7_wearer
theorem dX1_doerIn_0 : decode cX1_doerIn 0 = .ok (.aload_n 0, 1) := by decide +kernel
theorem dX1_doerIn_1 : decode cX1_doerIn 1 = .ok (.getfield 23, 3) := by decide +kernel
theorem dX1_doerIn_4 : decode cX1_doerIn 4 = .ok (.iload_n 1, 1) := by decide +kernel
theorem dX1_doerIn_5 : decode cX1_doerIn 5 = .ok (.aload_n 0, 1) := by decide +kernel
theorem dX1_doerIn_6 : decode cX1_doerIn 6 = .ok (.iload_n 2, 1) := by decide +kernel
theorem dX1_doerIn_7 : decode cX1_doerIn 7 = .ok (.iconst 1, 1) := by decide +kernel
theorem dX1_doerIn_8 : decode cX1_doerIn 8 = .ok (.invokevirtual 27, 3) := by decide +kernel
theorem dX1_doerIn_11 : decode cX1_doerIn 11 = .ok (.invokevirtual 98, 3) := by decide +kernel
theorem dX1_doerIn_14 : decode cX1_doerIn 14 = .ok (.aload_n 0, 1) := by decide +kernel
theorem dX1_doerIn_15 : decode cX1_doerIn 15 = .ok (.iload_n 2, 1) := by decide +kernel
theorem dX1_doerIn_16 : decode cX1_doerIn 16 = .ok (.iconst 2, 1) := by decide +kernel
theorem dX1_doerIn_17 : decode cX1_doerIn 17 = .ok (.invokevirtual 27, 3) := by decide +kernel
theorem dX1_doerIn_20 : decode cX1_doerIn 20 = .ok (.invokestatic 101, 3) := by decide +kernel
theorem dX1_doerIn_23 : decode cX1_doerIn 23 = .ok (.ireturn, 1) := by decide +kernel
set_option maxRecDepth 20000 in
theorem ggX1_part_X4_cell : GoodIn wsX1_part wsX4_cell := goodIn_r _ [6, 7, 8, 9, 20, 21, 22, 23] (by decide +kernel) (by decide +kernel)
set_option maxRecDepth 20000 in
theorem gX1_part_X4_cell : GoodIn wsX1_part (wsV RX1 104 RX4 yX4_cell wsX4_cell) := goodIn_app (goodIn_of _ (by decide +kernel)) ggX1_part_X4_cell
theorem dX1_part_0 : decode cX1_part 0 = .ok (.aload_n 0, 1) := by decide +kernel
theorem dX1_part_1 : decode cX1_part 1 = .ok (.getfield 19, 3) := by decide +kernel
theorem dX1_part_4 : decode cX1_part 4 = .ok (.getfield 51, 3) := by decide +kernel
theorem dX1_part_7 : decode cX1_part 7 = .ok (.iload_n 1, 1) := by decide +kernel
theorem dX1_part_8 : decode cX1_part 8 = .ok (.iload_n 2, 1) := by decide +kernel
theorem dX1_part_9 : decode cX1_part 9 = .ok (.invokevirtual 104, 3) := by decide +kernel
theorem dX1_part_12 : decode cX1_part 12 = .ok (.ireturn, 1) := by decide +kernel
