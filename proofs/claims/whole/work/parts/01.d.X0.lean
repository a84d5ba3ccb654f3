set_option maxRecDepth 20000 in
theorem ggX0_init_X4_init : GoodIn wsX0_init wsX4_init := goodIn_r _ [15, 16, 2, 3, 17, 18, 19, 20, 21, 22, 23, 24, 25, 26, 27, 28, 29] (by decide +kernel) (by decide +kernel)
set_option maxRecDepth 20000 in
theorem gX0_init_X4_init : GoodIn wsX0_init (wsX4_init) := ggX0_init_X4_init
theorem dX0_init_0 : decode cX0_init 0 = .ok (.aload_n 0, 1) := by decide +kernel
theorem dX0_init_1 : decode cX0_init 1 = .ok (.invokespecial 3, 3) := by decide +kernel
theorem dX0_init_4 : decode cX0_init 4 = .ok (.aload_n 0, 1) := by decide +kernel
theorem dX0_init_5 : decode cX0_init 5 = .ok (.new 9, 3) := by decide +kernel
theorem dX0_init_8 : decode cX0_init 8 = .ok (.dup, 1) := by decide +kernel
theorem dX0_init_9 : decode cX0_init 9 = .ok (.bipush 20, 2) := by decide +kernel
theorem dX0_init_11 : decode cX0_init 11 = .ok (.iconst 4, 1) := by decide +kernel
theorem dX0_init_12 : decode cX0_init 12 = .ok (.invokespecial 11, 3) := by decide +kernel
theorem dX0_init_15 : decode cX0_init 15 = .ok (.putfield 14, 3) := by decide +kernel
theorem dX0_init_18 : decode cX0_init 18 = .ok (.aload_n 0, 1) := by decide +kernel
theorem dX0_init_19 : decode cX0_init 19 = .ok (.new 9, 3) := by decide +kernel
theorem dX0_init_22 : decode cX0_init 22 = .ok (.dup, 1) := by decide +kernel
theorem dX0_init_23 : decode cX0_init 23 = .ok (.bipush 10, 2) := by decide +kernel
theorem dX0_init_25 : decode cX0_init 25 = .ok (.iconst 4, 1) := by decide +kernel
theorem dX0_init_26 : decode cX0_init 26 = .ok (.invokespecial 11, 3) := by decide +kernel
theorem dX0_init_29 : decode cX0_init 29 = .ok (.putfield 20, 3) := by decide +kernel
theorem dX0_init_32 : decode cX0_init 32 = .ok (.aload_n 0, 1) := by decide +kernel
theorem dX0_init_33 : decode cX0_init 33 = .ok (.new 9, 3) := by decide +kernel
theorem dX0_init_36 : decode cX0_init 36 = .ok (.dup, 1) := by decide +kernel
theorem dX0_init_37 : decode cX0_init 37 = .ok (.bipush 12, 2) := by decide +kernel
theorem dX0_init_39 : decode cX0_init 39 = .ok (.iconst 5, 1) := by decide +kernel
theorem dX0_init_40 : decode cX0_init 40 = .ok (.invokespecial 11, 3) := by decide +kernel
theorem dX0_init_43 : decode cX0_init 43 = .ok (.putfield 23, 3) := by decide +kernel
theorem dX0_init_46 : decode cX0_init 46 = .ok (.aload_n 0, 1) := by decide +kernel
theorem dX0_init_47 : decode cX0_init 47 = .ok (.iconst 4, 1) := by decide +kernel
theorem dX0_init_48 : decode cX0_init 48 = .ok (.putfield 26, 3) := by decide +kernel
theorem dX0_init_51 : decode cX0_init 51 = .ok (.aload_n 0, 1) := by decide +kernel
theorem dX0_init_52 : decode cX0_init 52 = .ok (.iconst 0, 1) := by decide +kernel
theorem dX0_init_53 : decode cX0_init 53 = .ok (.putfield 30, 3) := by decide +kernel
theorem dX0_init_56 : decode cX0_init 56 = .ok (.aload_n 0, 1) := by decide +kernel
theorem dX0_init_57 : decode cX0_init 57 = .ok (.iconst 0, 1) := by decide +kernel
theorem dX0_init_58 : decode cX0_init 58 = .ok (.putfield 34, 3) := by decide +kernel
theorem dX0_init_61 : decode cX0_init 61 = .ok (.return_, 1) := by decide +kernel
set_option maxRecDepth 20000 in
theorem ggX0_become_X4_become : GoodIn wsX0_become wsX4_become := goodIn_r _ [11, 12, 13, 14, 15, 16, 17, 18, 19, 20, 21, 22, 29, 30, 31, 32] (by decide +kernel) (by decide +kernel)
set_option maxRecDepth 20000 in
theorem gX0_become_X4_become : GoodIn wsX0_become (wsV RX0 37 RX4 yX4_become wsX4_become) := goodIn_app (goodIn_of _ (by decide +kernel)) ggX0_become_X4_become
theorem dX0_become_0 : decode cX0_become 0 = .ok (.aload_n 0, 1) := by decide +kernel
theorem dX0_become_1 : decode cX0_become 1 = .ok (.getfield 14, 3) := by decide +kernel
theorem dX0_become_4 : decode cX0_become 4 = .ok (.aload_n 1, 1) := by decide +kernel
theorem dX0_become_5 : decode cX0_become 5 = .ok (.getfield 14, 3) := by decide +kernel
theorem dX0_become_8 : decode cX0_become 8 = .ok (.invokevirtual 37, 3) := by decide +kernel
theorem dX0_become_11 : decode cX0_become 11 = .ok (.aload_n 0, 1) := by decide +kernel
theorem dX0_become_12 : decode cX0_become 12 = .ok (.getfield 20, 3) := by decide +kernel
theorem dX0_become_15 : decode cX0_become 15 = .ok (.aload_n 1, 1) := by decide +kernel
theorem dX0_become_16 : decode cX0_become 16 = .ok (.getfield 20, 3) := by decide +kernel
theorem dX0_become_19 : decode cX0_become 19 = .ok (.invokevirtual 37, 3) := by decide +kernel
theorem dX0_become_22 : decode cX0_become 22 = .ok (.aload_n 0, 1) := by decide +kernel
theorem dX0_become_23 : decode cX0_become 23 = .ok (.getfield 23, 3) := by decide +kernel
theorem dX0_become_26 : decode cX0_become 26 = .ok (.aload_n 1, 1) := by decide +kernel
theorem dX0_become_27 : decode cX0_become 27 = .ok (.getfield 23, 3) := by decide +kernel
theorem dX0_become_30 : decode cX0_become 30 = .ok (.invokevirtual 37, 3) := by decide +kernel
theorem dX0_become_33 : decode cX0_become 33 = .ok (.aload_n 0, 1) := by decide +kernel
theorem dX0_become_34 : decode cX0_become 34 = .ok (.aload_n 1, 1) := by decide +kernel
theorem dX0_become_35 : decode cX0_become 35 = .ok (.getfield 26, 3) := by decide +kernel
theorem dX0_become_38 : decode cX0_become 38 = .ok (.putfield 26, 3) := by decide +kernel
theorem dX0_become_41 : decode cX0_become 41 = .ok (.aload_n 0, 1) := by decide +kernel
theorem dX0_become_42 : decode cX0_become 42 = .ok (.aload_n 1, 1) := by decide +kernel
theorem dX0_become_43 : decode cX0_become 43 = .ok (.getfield 30, 3) := by decide +kernel
theorem dX0_become_46 : decode cX0_become 46 = .ok (.putfield 30, 3) := by decide +kernel
theorem dX0_become_49 : decode cX0_become 49 = .ok (.aload_n 0, 1) := by decide +kernel
theorem dX0_become_50 : decode cX0_become 50 = .ok (.aload_n 1, 1) := by decide +kernel
theorem dX0_become_51 : decode cX0_become 51 = .ok (.getfield 34, 3) := by decide +kernel
theorem dX0_become_54 : decode cX0_become 54 = .ok (.putfield 34, 3) := by decide +kernel
theorem dX0_become_57 : decode cX0_become 57 = .ok (.return_, 1) := by decide +kernel
set_option maxRecDepth 20000 in
theorem ggX0_isEmpty_X4_size : GoodIn wsX0_isEmpty wsX4_size := goodIn_r _ [8, 9, 16, 17, 18, 19] (by decide +kernel) (by decide +kernel)
set_option maxRecDepth 20000 in
theorem gX0_isEmpty_X4_size : GoodIn wsX0_isEmpty (wsV RX0 41 RX4 yX4_size wsX4_size) := goodIn_app (goodIn_of _ (by decide +kernel)) ggX0_isEmpty_X4_size
theorem dX0_isEmpty_0 : decode cX0_isEmpty 0 = .ok (.aload_n 0, 1) := by decide +kernel
theorem dX0_isEmpty_1 : decode cX0_isEmpty 1 = .ok (.getfield 14, 3) := by decide +kernel
theorem dX0_isEmpty_4 : decode cX0_isEmpty 4 = .ok (.invokevirtual 41, 3) := by decide +kernel
theorem dX0_isEmpty_7 : decode cX0_isEmpty 7 = .ok (.ifCond .ne 27, 3) := by decide +kernel
theorem dX0_isEmpty_10 : decode cX0_isEmpty 10 = .ok (.aload_n 0, 1) := by decide +kernel
theorem dX0_isEmpty_11 : decode cX0_isEmpty 11 = .ok (.getfield 20, 3) := by decide +kernel
theorem dX0_isEmpty_14 : decode cX0_isEmpty 14 = .ok (.invokevirtual 41, 3) := by decide +kernel
theorem dX0_isEmpty_17 : decode cX0_isEmpty 17 = .ok (.ifCond .ne 17, 3) := by decide +kernel
theorem dX0_isEmpty_20 : decode cX0_isEmpty 20 = .ok (.aload_n 0, 1) := by decide +kernel
theorem dX0_isEmpty_21 : decode cX0_isEmpty 21 = .ok (.getfield 23, 3) := by decide +kernel
theorem dX0_isEmpty_24 : decode cX0_isEmpty 24 = .ok (.invokevirtual 41, 3) := by decide +kernel
theorem dX0_isEmpty_27 : decode cX0_isEmpty 27 = .ok (.ifCond .ne 7, 3) := by decide +kernel
theorem dX0_isEmpty_30 : decode cX0_isEmpty 30 = .ok (.iconst 1, 1) := by decide +kernel
theorem dX0_isEmpty_31 : decode cX0_isEmpty 31 = .ok (.goto 4, 3) := by decide +kernel
theorem dX0_isEmpty_34 : decode cX0_isEmpty 34 = .ok (.iconst 0, 1) := by decide +kernel
theorem dX0_isEmpty_35 : decode cX0_isEmpty 35 = .ok (.ireturn, 1) := by decide +kernel
set_option maxRecDepth 20000 in
theorem ggX0_isDoubted_X4_cell : GoodIn wsX0_isDoubted wsX4_cell := goodIn_r _ [6, 7, 8, 9, 16, 17, 18, 19] (by decide +kernel) (by decide +kernel)
set_option maxRecDepth 20000 in
theorem gX0_isDoubted_X4_cell : GoodIn wsX0_isDoubted (wsV RX0 45 RX4 yX4_cell wsX4_cell) := goodIn_app (goodIn_of _ (by decide +kernel)) ggX0_isDoubted_X4_cell
theorem dX0_isDoubted_0 : decode cX0_isDoubted 0 = .ok (.aload_n 0, 1) := by decide +kernel
theorem dX0_isDoubted_1 : decode cX0_isDoubted 1 = .ok (.getfield 14, 3) := by decide +kernel
theorem dX0_isDoubted_4 : decode cX0_isDoubted 4 = .ok (.iload_n 1, 1) := by decide +kernel
theorem dX0_isDoubted_5 : decode cX0_isDoubted 5 = .ok (.iconst 3, 1) := by decide +kernel
theorem dX0_isDoubted_6 : decode cX0_isDoubted 6 = .ok (.invokevirtual 45, 3) := by decide +kernel
theorem dX0_isDoubted_9 : decode cX0_isDoubted 9 = .ok (.bipush 10, 2) := by decide +kernel
theorem dX0_isDoubted_11 : decode cX0_isDoubted 11 = .ok (.if_icmp .ge 7, 3) := by decide +kernel
theorem dX0_isDoubted_14 : decode cX0_isDoubted 14 = .ok (.iconst 1, 1) := by decide +kernel
theorem dX0_isDoubted_15 : decode cX0_isDoubted 15 = .ok (.goto 4, 3) := by decide +kernel
theorem dX0_isDoubted_18 : decode cX0_isDoubted 18 = .ok (.iconst 0, 1) := by decide +kernel
theorem dX0_isDoubted_19 : decode cX0_isDoubted 19 = .ok (.ireturn, 1) := by decide +kernel
set_option maxRecDepth 20000 in
theorem ggX0_doubted_X4_size : GoodIn wsX0_doubted wsX4_size := goodIn_r _ [6, 7, 20, 21, 22, 23] (by decide +kernel) (by decide +kernel)
set_option maxRecDepth 20000 in
theorem gX0_doubted_X4_size : GoodIn wsX0_doubted (wsV RX0 41 RX4 yX4_size wsX4_size) := goodIn_app (goodIn_of _ (by decide +kernel)) ggX0_doubted_X4_size
set_option maxRecDepth 20000 in
theorem ggX0_doubted_X4_cell : GoodIn wsX0_doubted wsX4_cell := goodIn_r _ [11, 7, 12, 13, 20, 21, 22, 23] (by decide +kernel) (by decide +kernel)
set_option maxRecDepth 20000 in
theorem gX0_doubted_X4_cell : GoodIn wsX0_doubted (wsV RX0 45 RX4 yX4_cell wsX4_cell) := goodIn_app (goodIn_of _ (by decide +kernel)) ggX0_doubted_X4_cell
theorem dX0_doubted_0 : decode cX0_doubted 0 = .ok (.iconst 0, 1) := by decide +kernel
theorem dX0_doubted_1 : decode cX0_doubted 1 = .ok (.istore_n 1, 1) := by decide +kernel
theorem dX0_doubted_2 : decode cX0_doubted 2 = .ok (.iconst 0, 1) := by decide +kernel
theorem dX0_doubted_3 : decode cX0_doubted 3 = .ok (.istore_n 2, 1) := by decide +kernel
theorem dX0_doubted_4 : decode cX0_doubted 4 = .ok (.iload_n 2, 1) := by decide +kernel
theorem dX0_doubted_5 : decode cX0_doubted 5 = .ok (.aload_n 0, 1) := by decide +kernel
theorem dX0_doubted_6 : decode cX0_doubted 6 = .ok (.getfield 14, 3) := by decide +kernel
theorem dX0_doubted_9 : decode cX0_doubted 9 = .ok (.invokevirtual 41, 3) := by decide +kernel
theorem dX0_doubted_12 : decode cX0_doubted 12 = .ok (.if_icmp .ge 26, 3) := by decide +kernel
theorem dX0_doubted_15 : decode cX0_doubted 15 = .ok (.aload_n 0, 1) := by decide +kernel
theorem dX0_doubted_16 : decode cX0_doubted 16 = .ok (.getfield 14, 3) := by decide +kernel
theorem dX0_doubted_19 : decode cX0_doubted 19 = .ok (.iload_n 2, 1) := by decide +kernel
theorem dX0_doubted_20 : decode cX0_doubted 20 = .ok (.iconst 3, 1) := by decide +kernel
theorem dX0_doubted_21 : decode cX0_doubted 21 = .ok (.invokevirtual 45, 3) := by decide +kernel
theorem dX0_doubted_24 : decode cX0_doubted 24 = .ok (.bipush 10, 2) := by decide +kernel
theorem dX0_doubted_26 : decode cX0_doubted 26 = .ok (.if_icmp .ge 6, 3) := by decide +kernel
theorem dX0_doubted_29 : decode cX0_doubted 29 = .ok (.iinc 1 1, 3) := by decide +kernel
theorem dX0_doubted_32 : decode cX0_doubted 32 = .ok (.iinc 2 1, 3) := by decide +kernel
theorem dX0_doubted_35 : decode cX0_doubted 35 = .ok (.goto (-31), 3) := by decide +kernel
theorem dX0_doubted_38 : decode cX0_doubted 38 = .ok (.iload_n 1, 1) := by decide +kernel
theorem dX0_doubted_39 : decode cX0_doubted 39 = .ok (.ireturn, 1) := by decide +kernel
set_option maxRecDepth 20000 in
theorem ggX0_hasRoomForDoubt_X0_doubted : GoodIn wsX0_hasRoomForDoubt wsX0_doubted := goodIn_r _ [5, 6, 7, 8, 9, 10, 11, 12, 13, 14, 15, 16, 17, 18, 19, 20, 21, 22, 23, 24, 25, 26, 27, 28] (by decide +kernel) (by decide +kernel)
set_option maxRecDepth 20000 in
theorem gX0_hasRoomForDoubt_X0_doubted : GoodIn wsX0_hasRoomForDoubt (wsV RX0 49 RX0 yX0_doubted wsX0_doubted) := goodIn_app (goodIn_of _ (by decide +kernel)) ggX0_hasRoomForDoubt_X0_doubted
theorem dX0_hasRoomForDoubt_0 : decode cX0_hasRoomForDoubt 0 = .ok (.aload_n 0, 1) := by decide +kernel
theorem dX0_hasRoomForDoubt_1 : decode cX0_hasRoomForDoubt 1 = .ok (.invokevirtual 49, 3) := by decide +kernel
theorem dX0_hasRoomForDoubt_4 : decode cX0_hasRoomForDoubt 4 = .ok (.bipush 6, 2) := by decide +kernel
theorem dX0_hasRoomForDoubt_6 : decode cX0_hasRoomForDoubt 6 = .ok (.if_icmp .ge 7, 3) := by decide +kernel
theorem dX0_hasRoomForDoubt_9 : decode cX0_hasRoomForDoubt 9 = .ok (.iconst 1, 1) := by decide +kernel
theorem dX0_hasRoomForDoubt_10 : decode cX0_hasRoomForDoubt 10 = .ok (.goto 4, 3) := by decide +kernel
theorem dX0_hasRoomForDoubt_13 : decode cX0_hasRoomForDoubt 13 = .ok (.iconst 0, 1) := by decide +kernel
theorem dX0_hasRoomForDoubt_14 : decode cX0_hasRoomForDoubt 14 = .ok (.ireturn, 1) := by decide +kernel
set_option maxRecDepth 20000 in
theorem ggX0_mayHaveTenths_X0_isDoubted : GoodIn wsX0_mayHaveTenths wsX0_isDoubted := goodIn_r _ [5, 6, 7, 8, 9, 10, 11, 12, 13, 14, 27, 28, 29, 30, 31, 32, 33, 34, 35, 36] (by decide +kernel) (by decide +kernel)
set_option maxRecDepth 20000 in
theorem gX0_mayHaveTenths_X0_isDoubted : GoodIn wsX0_mayHaveTenths (wsV RX0 52 RX0 yX0_isDoubted wsX0_isDoubted) := goodIn_app (goodIn_of _ (by decide +kernel)) ggX0_mayHaveTenths_X0_isDoubted
set_option maxRecDepth 20000 in
theorem ggX0_mayHaveTenths_X0_hasRoomForDoubt : GoodIn wsX0_mayHaveTenths wsX0_hasRoomForDoubt := goodIn_r _ [18, 19, 20, 21, 4, 22, 6, 23, 24, 25, 10, 26, 12, 7, 8, 9, 11, 13, 14, 27, 28, 29, 30, 31, 32, 33, 34, 35, 36] (by decide +kernel) (by decide +kernel)
set_option maxRecDepth 20000 in
theorem gX0_mayHaveTenths_X0_hasRoomForDoubt : GoodIn wsX0_mayHaveTenths (wsV RX0 56 RX0 yX0_hasRoomForDoubt wsX0_hasRoomForDoubt) := goodIn_app (goodIn_of _ (by decide +kernel)) ggX0_mayHaveTenths_X0_hasRoomForDoubt
theorem dX0_mayHaveTenths_0 : decode cX0_mayHaveTenths 0 = .ok (.iload_n 2, 1) := by decide +kernel
theorem dX0_mayHaveTenths_1 : decode cX0_mayHaveTenths 1 = .ok (.bipush 10, 2) := by decide +kernel
theorem dX0_mayHaveTenths_3 : decode cX0_mayHaveTenths 3 = .ok (.if_icmp .eq 18, 3) := by decide +kernel
theorem dX0_mayHaveTenths_6 : decode cX0_mayHaveTenths 6 = .ok (.aload_n 0, 1) := by decide +kernel
theorem dX0_mayHaveTenths_7 : decode cX0_mayHaveTenths 7 = .ok (.iload_n 1, 1) := by decide +kernel
theorem dX0_mayHaveTenths_8 : decode cX0_mayHaveTenths 8 = .ok (.invokevirtual 52, 3) := by decide +kernel
theorem dX0_mayHaveTenths_11 : decode cX0_mayHaveTenths 11 = .ok (.ifCond .ne 10, 3) := by decide +kernel
theorem dX0_mayHaveTenths_14 : decode cX0_mayHaveTenths 14 = .ok (.aload_n 0, 1) := by decide +kernel
theorem dX0_mayHaveTenths_15 : decode cX0_mayHaveTenths 15 = .ok (.invokevirtual 56, 3) := by decide +kernel
theorem dX0_mayHaveTenths_18 : decode cX0_mayHaveTenths 18 = .ok (.ifCond .eq 7, 3) := by decide +kernel
theorem dX0_mayHaveTenths_21 : decode cX0_mayHaveTenths 21 = .ok (.iconst 1, 1) := by decide +kernel
theorem dX0_mayHaveTenths_22 : decode cX0_mayHaveTenths 22 = .ok (.goto 4, 3) := by decide +kernel
theorem dX0_mayHaveTenths_25 : decode cX0_mayHaveTenths 25 = .ok (.iconst 0, 1) := by decide +kernel
theorem dX0_mayHaveTenths_26 : decode cX0_mayHaveTenths 26 = .ok (.ireturn, 1) := by decide +kernel
theorem dX0_isSwitchedOn_0 : decode cX0_isSwitchedOn 0 = .ok (.iload_n 1, 1) := by decide +kernel
theorem dX0_isSwitchedOn_1 : decode cX0_isSwitchedOn 1 = .ok (.ifCond .ne 10, 3) := by decide +kernel
theorem dX0_isSwitchedOn_4 : decode cX0_isSwitchedOn 4 = .ok (.aload_n 0, 1) := by decide +kernel
theorem dX0_isSwitchedOn_5 : decode cX0_isSwitchedOn 5 = .ok (.getfield 30, 3) := by decide +kernel
theorem dX0_isSwitchedOn_8 : decode cX0_isSwitchedOn 8 = .ok (.goto 7, 3) := by decide +kernel
theorem dX0_isSwitchedOn_11 : decode cX0_isSwitchedOn 11 = .ok (.aload_n 0, 1) := by decide +kernel
theorem dX0_isSwitchedOn_12 : decode cX0_isSwitchedOn 12 = .ok (.getfield 34, 3) := by decide +kernel
theorem dX0_isSwitchedOn_15 : decode cX0_isSwitchedOn 15 = .ok (.ireturn, 1) := by decide +kernel
theorem dX0_switchTo_0 : decode cX0_switchTo 0 = .ok (.iload_n 1, 1) := by decide +kernel
theorem dX0_switchTo_1 : decode cX0_switchTo 1 = .ok (.ifCond .ne 11, 3) := by decide +kernel
theorem dX0_switchTo_4 : decode cX0_switchTo 4 = .ok (.aload_n 0, 1) := by decide +kernel
theorem dX0_switchTo_5 : decode cX0_switchTo 5 = .ok (.iload_n 2, 1) := by decide +kernel
theorem dX0_switchTo_6 : decode cX0_switchTo 6 = .ok (.putfield 30, 3) := by decide +kernel
theorem dX0_switchTo_9 : decode cX0_switchTo 9 = .ok (.goto 8, 3) := by decide +kernel
theorem dX0_switchTo_12 : decode cX0_switchTo 12 = .ok (.aload_n 0, 1) := by decide +kernel
theorem dX0_switchTo_13 : decode cX0_switchTo 13 = .ok (.iload_n 2, 1) := by decide +kernel
theorem dX0_switchTo_14 : decode cX0_switchTo 14 = .ok (.putfield 34, 3) := by decide +kernel
theorem dX0_switchTo_17 : decode cX0_switchTo 17 = .ok (.return_, 1) := by decide +kernel
set_option maxRecDepth 20000 in
theorem ggX0_addDeed_X4_add : GoodIn wsX0_addDeed wsX4_add := goodIn_r _ [6, 7, 8, 9, 10, 5, 11, 12, 13, 14, 15, 16, 17, 18, 26, 27, 28, 29] (by decide +kernel) (by decide +kernel)
set_option maxRecDepth 20000 in
theorem gX0_addDeed_X4_add : GoodIn wsX0_addDeed (wsV RX0 60 RX4 yX4_add wsX4_add) := goodIn_app (goodIn_of _ (by decide +kernel)) ggX0_addDeed_X4_add
set_option maxRecDepth 20000 in
theorem ggX0_addDeed_X4_put : GoodIn wsX0_addDeed wsX4_put := goodIn_r _ [16, 7, 17, 18, 26, 27, 28, 29] (by decide +kernel) (by decide +kernel)
set_option maxRecDepth 20000 in
theorem gX0_addDeed_X4_put : GoodIn wsX0_addDeed (wsV RX0 64 RX4 yX4_put wsX4_put) := goodIn_app (goodIn_of _ (by decide +kernel)) ggX0_addDeed_X4_put
theorem dX0_addDeed_0 : decode cX0_addDeed 0 = .ok (.aload_n 0, 1) := by decide +kernel
theorem dX0_addDeed_1 : decode cX0_addDeed 1 = .ok (.getfield 23, 3) := by decide +kernel
theorem dX0_addDeed_4 : decode cX0_addDeed 4 = .ok (.iload_n 1, 1) := by decide +kernel
theorem dX0_addDeed_5 : decode cX0_addDeed 5 = .ok (.iload_n 2, 1) := by decide +kernel
theorem dX0_addDeed_6 : decode cX0_addDeed 6 = .ok (.iload_n 3, 1) := by decide +kernel
theorem dX0_addDeed_7 : decode cX0_addDeed 7 = .ok (.iload 4, 2) := by decide +kernel
theorem dX0_addDeed_9 : decode cX0_addDeed 9 = .ok (.invokevirtual 60, 3) := by decide +kernel
theorem dX0_addDeed_12 : decode cX0_addDeed 12 = .ok (.istore 6, 2) := by decide +kernel
theorem dX0_addDeed_14 : decode cX0_addDeed 14 = .ok (.aload_n 0, 1) := by decide +kernel
theorem dX0_addDeed_15 : decode cX0_addDeed 15 = .ok (.getfield 23, 3) := by decide +kernel
theorem dX0_addDeed_18 : decode cX0_addDeed 18 = .ok (.iload 6, 2) := by decide +kernel
theorem dX0_addDeed_20 : decode cX0_addDeed 20 = .ok (.iconst 4, 1) := by decide +kernel
theorem dX0_addDeed_21 : decode cX0_addDeed 21 = .ok (.iload 5, 2) := by decide +kernel
theorem dX0_addDeed_23 : decode cX0_addDeed 23 = .ok (.invokevirtual 64, 3) := by decide +kernel
theorem dX0_addDeed_26 : decode cX0_addDeed 26 = .ok (.pop, 1) := by decide +kernel
theorem dX0_addDeed_27 : decode cX0_addDeed 27 = .ok (.iload 6, 2) := by decide +kernel
theorem dX0_addDeed_29 : decode cX0_addDeed 29 = .ok (.ireturn, 1) := by decide +kernel
