theorem dX5_init_0 : decode cX5_init 0 = .ok (.aload_n 0, 1) := by decide +kernel
theorem dX5_init_1 : decode cX5_init 1 = .ok (.invokespecial 3, 3) := by decide +kernel
theorem dX5_init_4 : decode cX5_init 4 = .ok (.aload_n 0, 1) := by decide +kernel
theorem dX5_init_5 : decode cX5_init 5 = .ok (.bipush 40, 2) := by decide +kernel
theorem dX5_init_7 : decode cX5_init 7 = .ok (.newarray .long, 2) := by decide +kernel
theorem dX5_init_9 : decode cX5_init 9 = .ok (.putfield 9, 3) := by decide +kernel
theorem dX5_init_12 : decode cX5_init 12 = .ok (.aload_n 0, 1) := by decide +kernel
theorem dX5_init_13 : decode cX5_init 13 = .ok (.iconst 0, 1) := by decide +kernel
theorem dX5_init_14 : decode cX5_init 14 = .ok (.putfield 15, 3) := by decide +kernel
theorem dX5_init_17 : decode cX5_init 17 = .ok (.aload_n 0, 1) := by decide +kernel
theorem dX5_init_18 : decode cX5_init 18 = .ok (.iconst 0, 1) := by decide +kernel
theorem dX5_init_19 : decode cX5_init 19 = .ok (.putfield 19, 3) := by decide +kernel
theorem dX5_init_22 : decode cX5_init 22 = .ok (.return_, 1) := by decide +kernel
theorem dX5_begin_0 : decode cX5_begin 0 = .ok (.aload_n 0, 1) := by decide +kernel
theorem dX5_begin_1 : decode cX5_begin 1 = .ok (.iload_n 1, 1) := by decide +kernel
theorem dX5_begin_2 : decode cX5_begin 2 = .ok (.putfield 15, 3) := by decide +kernel
theorem dX5_begin_5 : decode cX5_begin 5 = .ok (.aload_n 0, 1) := by decide +kernel
theorem dX5_begin_6 : decode cX5_begin 6 = .ok (.iload_n 1, 1) := by decide +kernel
theorem dX5_begin_7 : decode cX5_begin 7 = .ok (.ifCond .ne 7, 3) := by decide +kernel
theorem dX5_begin_10 : decode cX5_begin 10 = .ok (.iconst 0, 1) := by decide +kernel
theorem dX5_begin_11 : decode cX5_begin 11 = .ok (.goto 13, 3) := by decide +kernel
theorem dX5_begin_14 : decode cX5_begin 14 = .ok (.iconst 0, 1) := by decide +kernel
theorem dX5_begin_15 : decode cX5_begin 15 = .ok (.iload_n 2, 1) := by decide +kernel
theorem dX5_begin_16 : decode cX5_begin 16 = .ok (.bipush 40, 2) := by decide +kernel
theorem dX5_begin_18 : decode cX5_begin 18 = .ok (.invokestatic 22, 3) := by decide +kernel
theorem dX5_begin_21 : decode cX5_begin 21 = .ok (.invokestatic 28, 3) := by decide +kernel
theorem dX5_begin_24 : decode cX5_begin 24 = .ok (.putfield 19, 3) := by decide +kernel
theorem dX5_begin_27 : decode cX5_begin 27 = .ok (.iconst 0, 1) := by decide +kernel
theorem dX5_begin_28 : decode cX5_begin 28 = .ok (.istore_n 3, 1) := by decide +kernel
theorem dX5_begin_29 : decode cX5_begin 29 = .ok (.iload_n 3, 1) := by decide +kernel
theorem dX5_begin_30 : decode cX5_begin 30 = .ok (.aload_n 0, 1) := by decide +kernel
theorem dX5_begin_31 : decode cX5_begin 31 = .ok (.getfield 19, 3) := by decide +kernel
theorem dX5_begin_34 : decode cX5_begin 34 = .ok (.if_icmp .ge 16, 3) := by decide +kernel
theorem dX5_begin_37 : decode cX5_begin 37 = .ok (.aload_n 0, 1) := by decide +kernel
theorem dX5_begin_38 : decode cX5_begin 38 = .ok (.getfield 9, 3) := by decide +kernel
theorem dX5_begin_41 : decode cX5_begin 41 = .ok (.iload_n 3, 1) := by decide +kernel
theorem dX5_begin_42 : decode cX5_begin 42 = .ok (.lconst 0, 1) := by decide +kernel
theorem dX5_begin_43 : decode cX5_begin 43 = .ok (.lastore, 1) := by decide +kernel
theorem dX5_begin_44 : decode cX5_begin 44 = .ok (.iinc 3 1, 3) := by decide +kernel
theorem dX5_begin_47 : decode cX5_begin 47 = .ok (.goto (-18), 3) := by decide +kernel
theorem dX5_begin_50 : decode cX5_begin 50 = .ok (.return_, 1) := by decide +kernel
theorem dX5_isMissing_0 : decode cX5_isMissing 0 = .ok (.aload_n 0, 1) := by decide +kernel
theorem dX5_isMissing_1 : decode cX5_isMissing 1 = .ok (.getfield 15, 3) := by decide +kernel
theorem dX5_isMissing_4 : decode cX5_isMissing 4 = .ok (.ifCond .ne 7, 3) := by decide +kernel
theorem dX5_isMissing_7 : decode cX5_isMissing 7 = .ok (.iconst 1, 1) := by decide +kernel
theorem dX5_isMissing_8 : decode cX5_isMissing 8 = .ok (.goto 4, 3) := by decide +kernel
theorem dX5_isMissing_11 : decode cX5_isMissing 11 = .ok (.iconst 0, 1) := by decide +kernel
theorem dX5_isMissing_12 : decode cX5_isMissing 12 = .ok (.ireturn, 1) := by decide +kernel
theorem dX5_bits_0 : decode cX5_bits 0 = .ok (.aload_n 0, 1) := by decide +kernel
theorem dX5_bits_1 : decode cX5_bits 1 = .ok (.getfield 15, 3) := by decide +kernel
theorem dX5_bits_4 : decode cX5_bits 4 = .ok (.ireturn, 1) := by decide +kernel
theorem dX5_length_0 : decode cX5_length 0 = .ok (.aload_n 0, 1) := by decide +kernel
theorem dX5_length_1 : decode cX5_length 1 = .ok (.getfield 19, 3) := by decide +kernel
theorem dX5_length_4 : decode cX5_length 4 = .ok (.ireturn, 1) := by decide +kernel
theorem dX5_has_0 : decode cX5_has 0 = .ok (.iload_n 1, 1) := by decide +kernel
theorem dX5_has_1 : decode cX5_has 1 = .ok (.ifCond .lt 15, 3) := by decide +kernel
theorem dX5_has_4 : decode cX5_has 4 = .ok (.iload_n 1, 1) := by decide +kernel
theorem dX5_has_5 : decode cX5_has 5 = .ok (.aload_n 0, 1) := by decide +kernel
theorem dX5_has_6 : decode cX5_has 6 = .ok (.getfield 19, 3) := by decide +kernel
theorem dX5_has_9 : decode cX5_has 9 = .ok (.if_icmp .ge 7, 3) := by decide +kernel
theorem dX5_has_12 : decode cX5_has 12 = .ok (.iconst 1, 1) := by decide +kernel
theorem dX5_has_13 : decode cX5_has 13 = .ok (.goto 4, 3) := by decide +kernel
theorem dX5_has_16 : decode cX5_has 16 = .ok (.iconst 0, 1) := by decide +kernel
theorem dX5_has_17 : decode cX5_has 17 = .ok (.ireturn, 1) := by decide +kernel
theorem dX5_hasRun_0 : decode cX5_hasRun 0 = .ok (.iload_n 2, 1) := by decide +kernel
theorem dX5_hasRun_1 : decode cX5_hasRun 1 = .ok (.ifCond .lt 29, 3) := by decide +kernel
theorem dX5_hasRun_4 : decode cX5_hasRun 4 = .ok (.iload_n 2, 1) := by decide +kernel
theorem dX5_hasRun_5 : decode cX5_hasRun 5 = .ok (.aload_n 0, 1) := by decide +kernel
theorem dX5_hasRun_6 : decode cX5_hasRun 6 = .ok (.getfield 19, 3) := by decide +kernel
theorem dX5_hasRun_9 : decode cX5_hasRun 9 = .ok (.if_icmp .gt 21, 3) := by decide +kernel
theorem dX5_hasRun_12 : decode cX5_hasRun 12 = .ok (.iload_n 1, 1) := by decide +kernel
theorem dX5_hasRun_13 : decode cX5_hasRun 13 = .ok (.ifCond .lt 17, 3) := by decide +kernel
theorem dX5_hasRun_16 : decode cX5_hasRun 16 = .ok (.iload_n 1, 1) := by decide +kernel
theorem dX5_hasRun_17 : decode cX5_hasRun 17 = .ok (.aload_n 0, 1) := by decide +kernel
theorem dX5_hasRun_18 : decode cX5_hasRun 18 = .ok (.getfield 19, 3) := by decide +kernel
theorem dX5_hasRun_21 : decode cX5_hasRun 21 = .ok (.iload_n 2, 1) := by decide +kernel
theorem dX5_hasRun_22 : decode cX5_hasRun 22 = .ok (.isub, 1) := by decide +kernel
theorem dX5_hasRun_23 : decode cX5_hasRun 23 = .ok (.if_icmp .gt 7, 3) := by decide +kernel
theorem dX5_hasRun_26 : decode cX5_hasRun 26 = .ok (.iconst 1, 1) := by decide +kernel
theorem dX5_hasRun_27 : decode cX5_hasRun 27 = .ok (.goto 4, 3) := by decide +kernel
theorem dX5_hasRun_30 : decode cX5_hasRun 30 = .ok (.iconst 0, 1) := by decide +kernel
theorem dX5_hasRun_31 : decode cX5_hasRun 31 = .ok (.ireturn, 1) := by decide +kernel
set_option maxRecDepth 20000 in
theorem ggX5_number_X5_has : GoodIn wsX5_number wsX5_has := goodIn_r _ [6, 7, 8, 9, 10] (by decide +kernel) (by decide +kernel)
set_option maxRecDepth 20000 in
theorem gX5_number_X5_has : GoodIn wsX5_number (wsV RX5 31 RX5 yX5_has wsX5_has) := goodIn_app (goodIn_of _ (by decide +kernel)) ggX5_number_X5_has
theorem dX5_number_0 : decode cX5_number 0 = .ok (.aload_n 0, 1) := by decide +kernel
theorem dX5_number_1 : decode cX5_number 1 = .ok (.iload_n 1, 1) := by decide +kernel
theorem dX5_number_2 : decode cX5_number 2 = .ok (.invokevirtual 31, 3) := by decide +kernel
theorem dX5_number_5 : decode cX5_number 5 = .ok (.ifCond .eq 12, 3) := by decide +kernel
theorem dX5_number_8 : decode cX5_number 8 = .ok (.aload_n 0, 1) := by decide +kernel
theorem dX5_number_9 : decode cX5_number 9 = .ok (.getfield 9, 3) := by decide +kernel
theorem dX5_number_12 : decode cX5_number 12 = .ok (.iload_n 1, 1) := by decide +kernel
theorem dX5_number_13 : decode cX5_number 13 = .ok (.laload, 1) := by decide +kernel
theorem dX5_number_14 : decode cX5_number 14 = .ok (.goto 4, 3) := by decide +kernel
theorem dX5_number_17 : decode cX5_number 17 = .ok (.lconst 0, 1) := by decide +kernel
theorem dX5_number_18 : decode cX5_number 18 = .ok (.lreturn, 1) := by decide +kernel
set_option maxRecDepth 20000 in
theorem ggX5_put_X5_has : GoodIn wsX5_put wsX5_has := goodIn_r _ [6, 7, 13, 14, 15] (by decide +kernel) (by decide +kernel)
set_option maxRecDepth 20000 in
theorem gX5_put_X5_has : GoodIn wsX5_put (wsV RX5 31 RX5 yX5_has wsX5_has) := goodIn_app (goodIn_of _ (by decide +kernel)) ggX5_put_X5_has
set_option maxRecDepth 20000 in
theorem ggX5_put_X5_cut : GoodIn wsX5_put wsX5_cut := goodIn_r _ [11, 12, 13, 14, 15] (by decide +kernel) (by decide +kernel)
set_option maxRecDepth 20000 in
theorem gX5_put_X5_cut : GoodIn wsX5_put (wsV RX5 35 RX5 yX5_cut wsX5_cut) := goodIn_app (goodIn_of _ (by decide +kernel)) ggX5_put_X5_cut
theorem dX5_put_0 : decode cX5_put 0 = .ok (.aload_n 0, 1) := by decide +kernel
theorem dX5_put_1 : decode cX5_put 1 = .ok (.iload_n 1, 1) := by decide +kernel
theorem dX5_put_2 : decode cX5_put 2 = .ok (.invokevirtual 31, 3) := by decide +kernel
theorem dX5_put_5 : decode cX5_put 5 = .ok (.ifCond .ne 5, 3) := by decide +kernel
theorem dX5_put_8 : decode cX5_put 8 = .ok (.lconst 0, 1) := by decide +kernel
theorem dX5_put_9 : decode cX5_put 9 = .ok (.lreturn, 1) := by decide +kernel
theorem dX5_put_10 : decode cX5_put 10 = .ok (.aload_n 0, 1) := by decide +kernel
theorem dX5_put_11 : decode cX5_put 11 = .ok (.getfield 9, 3) := by decide +kernel
theorem dX5_put_14 : decode cX5_put 14 = .ok (.iload_n 1, 1) := by decide +kernel
theorem dX5_put_15 : decode cX5_put 15 = .ok (.laload, 1) := by decide +kernel
theorem dX5_put_16 : decode cX5_put 16 = .ok (.lstore 4, 2) := by decide +kernel
theorem dX5_put_18 : decode cX5_put 18 = .ok (.aload_n 0, 1) := by decide +kernel
theorem dX5_put_19 : decode cX5_put 19 = .ok (.getfield 9, 3) := by decide +kernel
theorem dX5_put_22 : decode cX5_put 22 = .ok (.iload_n 1, 1) := by decide +kernel
theorem dX5_put_23 : decode cX5_put 23 = .ok (.aload_n 0, 1) := by decide +kernel
theorem dX5_put_24 : decode cX5_put 24 = .ok (.lload_n 2, 1) := by decide +kernel
theorem dX5_put_25 : decode cX5_put 25 = .ok (.invokevirtual 35, 3) := by decide +kernel
theorem dX5_put_28 : decode cX5_put 28 = .ok (.lastore, 1) := by decide +kernel
theorem dX5_put_29 : decode cX5_put 29 = .ok (.lload 4, 2) := by decide +kernel
theorem dX5_put_31 : decode cX5_put 31 = .ok (.lreturn, 1) := by decide +kernel
set_option maxRecDepth 20000 in
theorem ggX5_takeRun_X5_hasRun : GoodIn wsX5_takeRun wsX5_hasRun := goodIn_r _ [10, 11, 12, 13, 14] (by decide +kernel) (by decide +kernel)
set_option maxRecDepth 20000 in
theorem gX5_takeRun_X5_hasRun : GoodIn wsX5_takeRun (wsV RX5 39 RX5 yX5_hasRun wsX5_hasRun) := goodIn_app (goodIn_of _ (by decide +kernel)) ggX5_takeRun_X5_hasRun
theorem dX5_takeRun_0 : decode cX5_takeRun 0 = .ok (.aload_n 1, 1) := by decide +kernel
theorem dX5_takeRun_1 : decode cX5_takeRun 1 = .ok (.iload_n 2, 1) := by decide +kernel
theorem dX5_takeRun_2 : decode cX5_takeRun 2 = .ok (.iload 4, 2) := by decide +kernel
theorem dX5_takeRun_4 : decode cX5_takeRun 4 = .ok (.invokevirtual 39, 3) := by decide +kernel
theorem dX5_takeRun_7 : decode cX5_takeRun 7 = .ok (.ifCond .eq 28, 3) := by decide +kernel
theorem dX5_takeRun_10 : decode cX5_takeRun 10 = .ok (.aload_n 0, 1) := by decide +kernel
theorem dX5_takeRun_11 : decode cX5_takeRun 11 = .ok (.iload_n 3, 1) := by decide +kernel
theorem dX5_takeRun_12 : decode cX5_takeRun 12 = .ok (.iload 4, 2) := by decide +kernel
theorem dX5_takeRun_14 : decode cX5_takeRun 14 = .ok (.invokevirtual 39, 3) := by decide +kernel
theorem dX5_takeRun_17 : decode cX5_takeRun 17 = .ok (.ifCond .eq 18, 3) := by decide +kernel
theorem dX5_takeRun_20 : decode cX5_takeRun 20 = .ok (.aload_n 1, 1) := by decide +kernel
theorem dX5_takeRun_21 : decode cX5_takeRun 21 = .ok (.getfield 9, 3) := by decide +kernel
theorem dX5_takeRun_24 : decode cX5_takeRun 24 = .ok (.iload_n 2, 1) := by decide +kernel
theorem dX5_takeRun_25 : decode cX5_takeRun 25 = .ok (.aload_n 0, 1) := by decide +kernel
theorem dX5_takeRun_26 : decode cX5_takeRun 26 = .ok (.getfield 9, 3) := by decide +kernel
theorem dX5_takeRun_29 : decode cX5_takeRun 29 = .ok (.iload_n 3, 1) := by decide +kernel
theorem dX5_takeRun_30 : decode cX5_takeRun 30 = .ok (.iload 4, 2) := by decide +kernel
theorem dX5_takeRun_32 : decode cX5_takeRun 32 = .ok (.invokestatic 43, 3) := by decide +kernel
theorem dX5_takeRun_35 : decode cX5_takeRun 35 = .ok (.return_, 1) := by decide +kernel
set_option maxRecDepth 20000 in
theorem ggX5_tells_X7_wearer : GoodIn wsX5_tells wsX7_wearer := goodIn_r _ [9] (by decide +kernel) (by decide +kernel)
set_option maxRecDepth 20000 in
theorem gX5_tells_X7_wearer_n49 : GoodIn wsX5_tells (wsX7_wearer) := ggX5_tells_X7_wearer
theorem dX5_tells_0 : decode cX5_tells 0 = .ok (.aload_n 0, 1) := by decide +kernel
theorem dX5_tells_1 : decode cX5_tells 1 = .ok (.getfield 19, 3) := by decide +kernel
theorem dX5_tells_4 : decode cX5_tells 4 = .ok (.iload_n 2, 1) := by decide +kernel
theorem dX5_tells_5 : decode cX5_tells 5 = .ok (.invokestatic 22, 3) := by decide +kernel
theorem dX5_tells_8 : decode cX5_tells 8 = .ok (.istore_n 3, 1) := by decide +kernel
theorem dX5_tells_9 : decode cX5_tells 9 = .ok (.iconst 0, 1) := by decide +kernel
theorem dX5_tells_10 : decode cX5_tells 10 = .ok (.istore 4, 2) := by decide +kernel
theorem dX5_tells_12 : decode cX5_tells 12 = .ok (.iload 4, 2) := by decide +kernel
theorem dX5_tells_14 : decode cX5_tells 14 = .ok (.iload_n 3, 1) := by decide +kernel
theorem dX5_tells_15 : decode cX5_tells 15 = .ok (.if_icmp .ge 29, 3) := by decide +kernel
theorem dX5_tells_18 : decode cX5_tells 18 = .ok (.aload_n 0, 1) := by decide +kernel
theorem dX5_tells_19 : decode cX5_tells 19 = .ok (.getfield 9, 3) := by decide +kernel
theorem dX5_tells_22 : decode cX5_tells 22 = .ok (.iload 4, 2) := by decide +kernel
theorem dX5_tells_24 : decode cX5_tells 24 = .ok (.laload, 1) := by decide +kernel
theorem dX5_tells_25 : decode cX5_tells 25 = .ok (.iload_n 1, 1) := by decide +kernel
theorem dX5_tells_26 : decode cX5_tells 26 = .ok (.iload 4, 2) := by decide +kernel
theorem dX5_tells_28 : decode cX5_tells 28 = .ok (.invokestatic 49, 3) := by decide +kernel
theorem dX5_tells_31 : decode cX5_tells 31 = .ok (.i2l, 1) := by decide +kernel
theorem dX5_tells_32 : decode cX5_tells 32 = .ok (.lcmp, 1) := by decide +kernel
theorem dX5_tells_33 : decode cX5_tells 33 = .ok (.ifCond .eq 5, 3) := by decide +kernel
theorem dX5_tells_36 : decode cX5_tells 36 = .ok (.iconst 0, 1) := by decide +kernel
theorem dX5_tells_37 : decode cX5_tells 37 = .ok (.ireturn, 1) := by decide +kernel
theorem dX5_tells_38 : decode cX5_tells 38 = .ok (.iinc 4 1, 3) := by decide +kernel
theorem dX5_tells_41 : decode cX5_tells 41 = .ok (.goto (-29), 3) := by decide +kernel
theorem dX5_tells_44 : decode cX5_tells 44 = .ok (.iconst 1, 1) := by decide +kernel
theorem dX5_tells_45 : decode cX5_tells 45 = .ok (.ireturn, 1) := by decide +kernel
theorem dX5_cut_0 : decode cX5_cut 0 = .ok (.aload_n 0, 1) := by decide +kernel
theorem dX5_cut_1 : decode cX5_cut 1 = .ok (.getfield 15, 3) := by decide +kernel
theorem dX5_cut_4 : decode cX5_cut 4 = .ok (.lookupswitch 38 #[(8, 28), (16, 33)], 28) := by decide +kernel
theorem dX5_cut_32 : decode cX5_cut 32 = .ok (.lload_n 1, 1) := by decide +kernel
theorem dX5_cut_33 : decode cX5_cut 33 = .ok (.l2i, 1) := by decide +kernel
theorem dX5_cut_34 : decode cX5_cut 34 = .ok (.i2b, 1) := by decide +kernel
theorem dX5_cut_35 : decode cX5_cut 35 = .ok (.i2l, 1) := by decide +kernel
theorem dX5_cut_36 : decode cX5_cut 36 = .ok (.lreturn, 1) := by decide +kernel
theorem dX5_cut_37 : decode cX5_cut 37 = .ok (.lload_n 1, 1) := by decide +kernel
theorem dX5_cut_38 : decode cX5_cut 38 = .ok (.l2i, 1) := by decide +kernel
theorem dX5_cut_39 : decode cX5_cut 39 = .ok (.i2s, 1) := by decide +kernel
theorem dX5_cut_40 : decode cX5_cut 40 = .ok (.i2l, 1) := by decide +kernel
theorem dX5_cut_41 : decode cX5_cut 41 = .ok (.lreturn, 1) := by decide +kernel
theorem dX5_cut_42 : decode cX5_cut 42 = .ok (.lload_n 1, 1) := by decide +kernel
theorem dX5_cut_43 : decode cX5_cut 43 = .ok (.lreturn, 1) := by decide +kernel
