set_option maxRecDepth 20000 in
theorem ggX7_init_X0_init : GoodIn wsX7_init wsX0_init := goodIn_r _ [34, 35, 2, 3, 36, 37, 38, 39, 40, 41, 42, 43, 44, 45, 46, 47, 48, 49, 50, 51, 52, 53, 54, 55, 28, 56, 151, 152, 153, 154, 106, 107, 108, 109, 110, 111] (by decide +kernel) (by decide +kernel)
set_option maxRecDepth 20000 in
theorem gX7_init_X0_init_n9 : GoodIn wsX7_init (wsX0_init) := ggX7_init_X0_init
set_option maxRecDepth 20000 in
theorem ggX7_init_X2_init : GoodIn wsX7_init wsX2_init := goodIn_r _ [59, 60, 2, 3, 28, 61, 62, 63, 64, 65, 66, 67, 68, 69, 70, 71, 72, 73, 74, 122, 123, 124, 125, 126, 127, 128, 129, 130, 131, 132, 133, 134, 135] (by decide +kernel) (by decide +kernel)
set_option maxRecDepth 20000 in
theorem gX7_init_X2_init : GoodIn wsX7_init (wsX2_init) := ggX7_init_X2_init
set_option maxRecDepth 20000 in
theorem ggX7_init_X1_init : GoodIn wsX7_init wsX1_init := goodIn_r _ [77, 78, 2, 3, 79, 80, 81, 82, 83, 84, 136, 137, 138, 139] (by decide +kernel) (by decide +kernel)
set_option maxRecDepth 20000 in
theorem gX7_init_X1_init : GoodIn wsX7_init (wsX1_init) := ggX7_init_X1_init
set_option maxRecDepth 20000 in
theorem ggX7_init_X6_init : GoodIn wsX7_init wsX6_init := goodIn_r _ [86, 87, 2, 3, 28, 88, 89, 140, 141] (by decide +kernel) (by decide +kernel)
set_option maxRecDepth 20000 in
theorem gX7_init_X6_init_n42 : GoodIn wsX7_init (wsX6_init) := ggX7_init_X6_init
set_option maxRecDepth 20000 in
theorem ggX7_init_X3_init : GoodIn wsX7_init wsX3_init := goodIn_r _ [92, 93, 2, 3, 94, 95, 96, 97, 98, 99, 142, 143, 144, 145, 146, 147] (by decide +kernel) (by decide +kernel)
set_option maxRecDepth 20000 in
theorem gX7_init_X3_init : GoodIn wsX7_init (wsX3_init) := ggX7_init_X3_init
set_option maxRecDepth 20000 in
theorem ggX7_init_X5_init : GoodIn wsX7_init wsX5_init := goodIn_r _ [101, 102, 2, 3, 79, 103, 104, 105, 148, 149, 150] (by decide +kernel) (by decide +kernel)
set_option maxRecDepth 20000 in
theorem gX7_init_X5_init_n70 : GoodIn wsX7_init (wsX5_init) := ggX7_init_X5_init
theorem dX7_init_0 : decode cX7_init 0 = .ok (.aload_n 0, 1) := by decide +kernel
theorem dX7_init_1 : decode cX7_init 1 = .ok (.invokespecial 1, 3) := by decide +kernel
theorem dX7_init_4 : decode cX7_init 4 = .ok (.aload_n 0, 1) := by decide +kernel
theorem dX7_init_5 : decode cX7_init 5 = .ok (.new 7, 3) := by decide +kernel
theorem dX7_init_8 : decode cX7_init 8 = .ok (.dup, 1) := by decide +kernel
theorem dX7_init_9 : decode cX7_init 9 = .ok (.invokespecial 9, 3) := by decide +kernel
theorem dX7_init_12 : decode cX7_init 12 = .ok (.putfield 10, 3) := by decide +kernel
theorem dX7_init_15 : decode cX7_init 15 = .ok (.aload_n 0, 1) := by decide +kernel
theorem dX7_init_16 : decode cX7_init 16 = .ok (.new 7, 3) := by decide +kernel
theorem dX7_init_19 : decode cX7_init 19 = .ok (.dup, 1) := by decide +kernel
theorem dX7_init_20 : decode cX7_init 20 = .ok (.invokespecial 9, 3) := by decide +kernel
theorem dX7_init_23 : decode cX7_init 23 = .ok (.putfield 16, 3) := by decide +kernel
theorem dX7_init_26 : decode cX7_init 26 = .ok (.aload_n 0, 1) := by decide +kernel
theorem dX7_init_27 : decode cX7_init 27 = .ok (.new 7, 3) := by decide +kernel
theorem dX7_init_30 : decode cX7_init 30 = .ok (.dup, 1) := by decide +kernel
theorem dX7_init_31 : decode cX7_init 31 = .ok (.invokespecial 9, 3) := by decide +kernel
theorem dX7_init_34 : decode cX7_init 34 = .ok (.putfield 19, 3) := by decide +kernel
theorem dX7_init_37 : decode cX7_init 37 = .ok (.aload_n 0, 1) := by decide +kernel
theorem dX7_init_38 : decode cX7_init 38 = .ok (.new 22, 3) := by decide +kernel
theorem dX7_init_41 : decode cX7_init 41 = .ok (.dup, 1) := by decide +kernel
theorem dX7_init_42 : decode cX7_init 42 = .ok (.aload_n 0, 1) := by decide +kernel
theorem dX7_init_43 : decode cX7_init 43 = .ok (.getfield 10, 3) := by decide +kernel
theorem dX7_init_46 : decode cX7_init 46 = .ok (.invokespecial 24, 3) := by decide +kernel
theorem dX7_init_49 : decode cX7_init 49 = .ok (.putfield 27, 3) := by decide +kernel
theorem dX7_init_52 : decode cX7_init 52 = .ok (.aload_n 0, 1) := by decide +kernel
theorem dX7_init_53 : decode cX7_init 53 = .ok (.new 31, 3) := by decide +kernel
theorem dX7_init_56 : decode cX7_init 56 = .ok (.dup, 1) := by decide +kernel
theorem dX7_init_57 : decode cX7_init 57 = .ok (.aload_n 0, 1) := by decide +kernel
theorem dX7_init_58 : decode cX7_init 58 = .ok (.getfield 10, 3) := by decide +kernel
theorem dX7_init_61 : decode cX7_init 61 = .ok (.aload_n 0, 1) := by decide +kernel
theorem dX7_init_62 : decode cX7_init 62 = .ok (.getfield 27, 3) := by decide +kernel
theorem dX7_init_65 : decode cX7_init 65 = .ok (.invokespecial 33, 3) := by decide +kernel
theorem dX7_init_68 : decode cX7_init 68 = .ok (.putfield 36, 3) := by decide +kernel
theorem dX7_init_71 : decode cX7_init 71 = .ok (.aload_n 0, 1) := by decide +kernel
theorem dX7_init_72 : decode cX7_init 72 = .ok (.new 40, 3) := by decide +kernel
theorem dX7_init_75 : decode cX7_init 75 = .ok (.dup, 1) := by decide +kernel
theorem dX7_init_76 : decode cX7_init 76 = .ok (.invokespecial 42, 3) := by decide +kernel
theorem dX7_init_79 : decode cX7_init 79 = .ok (.putfield 43, 3) := by decide +kernel
theorem dX7_init_82 : decode cX7_init 82 = .ok (.aload_n 0, 1) := by decide +kernel
theorem dX7_init_83 : decode cX7_init 83 = .ok (.new 47, 3) := by decide +kernel
theorem dX7_init_86 : decode cX7_init 86 = .ok (.dup, 1) := by decide +kernel
theorem dX7_init_87 : decode cX7_init 87 = .ok (.aload_n 0, 1) := by decide +kernel
theorem dX7_init_88 : decode cX7_init 88 = .ok (.getfield 43, 3) := by decide +kernel
theorem dX7_init_91 : decode cX7_init 91 = .ok (.aload_n 0, 1) := by decide +kernel
theorem dX7_init_92 : decode cX7_init 92 = .ok (.getfield 19, 3) := by decide +kernel
theorem dX7_init_95 : decode cX7_init 95 = .ok (.invokespecial 49, 3) := by decide +kernel
theorem dX7_init_98 : decode cX7_init 98 = .ok (.putfield 52, 3) := by decide +kernel
theorem dX7_init_101 : decode cX7_init 101 = .ok (.aload_n 0, 1) := by decide +kernel
theorem dX7_init_102 : decode cX7_init 102 = .ok (.iconst 4, 1) := by decide +kernel
theorem dX7_init_103 : decode cX7_init 103 = .ok (.anewarray 56, 3) := by decide +kernel
theorem dX7_init_106 : decode cX7_init 106 = .ok (.putfield 58, 3) := by decide +kernel
theorem dX7_init_109 : decode cX7_init 109 = .ok (.aload_n 0, 1) := by decide +kernel
theorem dX7_init_110 : decode cX7_init 110 = .ok (.bipush 7, 2) := by decide +kernel
theorem dX7_init_112 : decode cX7_init 112 = .ok (.newarray .int, 2) := by decide +kernel
theorem dX7_init_114 : decode cX7_init 114 = .ok (.putfield 62, 3) := by decide +kernel
theorem dX7_init_117 : decode cX7_init 117 = .ok (.aload_n 0, 1) := by decide +kernel
theorem dX7_init_118 : decode cX7_init 118 = .ok (.iconst 0, 1) := by decide +kernel
theorem dX7_init_119 : decode cX7_init 119 = .ok (.putfield 66, 3) := by decide +kernel
theorem dX7_init_122 : decode cX7_init 122 = .ok (.iconst 0, 1) := by decide +kernel
theorem dX7_init_123 : decode cX7_init 123 = .ok (.istore_n 1, 1) := by decide +kernel
theorem dX7_init_124 : decode cX7_init 124 = .ok (.iload_n 1, 1) := by decide +kernel
theorem dX7_init_125 : decode cX7_init 125 = .ok (.iconst 4, 1) := by decide +kernel
theorem dX7_init_126 : decode cX7_init 126 = .ok (.if_icmp .ge 22, 3) := by decide +kernel
theorem dX7_init_129 : decode cX7_init 129 = .ok (.aload_n 0, 1) := by decide +kernel
theorem dX7_init_130 : decode cX7_init 130 = .ok (.getfield 58, 3) := by decide +kernel
theorem dX7_init_133 : decode cX7_init 133 = .ok (.iload_n 1, 1) := by decide +kernel
theorem dX7_init_134 : decode cX7_init 134 = .ok (.new 56, 3) := by decide +kernel
theorem dX7_init_137 : decode cX7_init 137 = .ok (.dup, 1) := by decide +kernel
theorem dX7_init_138 : decode cX7_init 138 = .ok (.invokespecial 70, 3) := by decide +kernel
theorem dX7_init_141 : decode cX7_init 141 = .ok (.aastore, 1) := by decide +kernel
theorem dX7_init_142 : decode cX7_init 142 = .ok (.iinc 1 1, 3) := by decide +kernel
theorem dX7_init_145 : decode cX7_init 145 = .ok (.goto (-21), 3) := by decide +kernel
theorem dX7_init_148 : decode cX7_init 148 = .ok (.return_, 1) := by decide +kernel
set_option maxRecDepth 20000 in
theorem ggX7_people_X7_found : GoodIn wsX7_people wsX7_found := goodIn_r _ [9, 1, 10, 31, 32, 33, 34, 35, 36, 37, 38, 39, 40] (by decide +kernel) (by decide +kernel)
set_option maxRecDepth 20000 in
theorem gX7_people_X7_found : GoodIn wsX7_people (wsV RX7 72 RX7 yX7_found wsX7_found) := goodIn_app (goodIn_of _ (by decide +kernel)) ggX7_people_X7_found
set_option maxRecDepth 20000 in
theorem ggX7_people_X0_isEmpty : GoodIn wsX7_people wsX0_isEmpty := goodIn_r _ [15, 16, 17, 18, 19, 20, 21, 22, 23, 24, 41, 42, 43, 44, 45, 46, 47, 48, 49, 50] (by decide +kernel) (by decide +kernel)
set_option maxRecDepth 20000 in
theorem gX7_people_X0_isEmpty : GoodIn wsX7_people (wsV RX7 76 RX0 yX0_isEmpty wsX0_isEmpty) := goodIn_app (goodIn_of _ (by decide +kernel)) ggX7_people_X0_isEmpty
set_option maxRecDepth 20000 in
theorem ggX7_people_X2_forget : GoodIn wsX7_people wsX2_forget := goodIn_r _ [29, 30, 51, 52, 53, 54, 55, 56, 57, 58, 59, 60, 61, 62, 63, 64] (by decide +kernel) (by decide +kernel)
set_option maxRecDepth 20000 in
theorem gX7_people_X2_forget : GoodIn wsX7_people (wsV RX7 85 RX2 yX2_forget wsX2_forget) := goodIn_app (goodIn_of _ (by decide +kernel)) ggX7_people_X2_forget
theorem dX7_people_0 : decode cX7_people 0 = .ok (.iload_n 1, 1) := by decide +kernel
theorem dX7_people_1 : decode cX7_people 1 = .ok (.iconst 2, 1) := by decide +kernel
theorem dX7_people_2 : decode cX7_people 2 = .ok (.if_icmp .lt 9, 3) := by decide +kernel
theorem dX7_people_5 : decode cX7_people 5 = .ok (.iload_n 1, 1) := by decide +kernel
theorem dX7_people_6 : decode cX7_people 6 = .ok (.bipush 8, 2) := by decide +kernel
theorem dX7_people_8 : decode cX7_people 8 = .ok (.if_icmp .le 10, 3) := by decide +kernel
theorem dX7_people_11 : decode cX7_people 11 = .ok (.aload_n 0, 1) := by decide +kernel
theorem dX7_people_12 : decode cX7_people 12 = .ok (.ldc 71, 2) := by decide +kernel
theorem dX7_people_14 : decode cX7_people 14 = .ok (.invokevirtual 72, 3) := by decide +kernel
theorem dX7_people_17 : decode cX7_people 17 = .ok (.ireturn, 1) := by decide +kernel
theorem dX7_people_18 : decode cX7_people 18 = .ok (.aload_n 0, 1) := by decide +kernel
theorem dX7_people_19 : decode cX7_people 19 = .ok (.getfield 10, 3) := by decide +kernel
theorem dX7_people_22 : decode cX7_people 22 = .ok (.invokevirtual 76, 3) := by decide +kernel
theorem dX7_people_25 : decode cX7_people 25 = .ok (.ifCond .ne 10, 3) := by decide +kernel
theorem dX7_people_28 : decode cX7_people 28 = .ok (.aload_n 0, 1) := by decide +kernel
theorem dX7_people_29 : decode cX7_people 29 = .ok (.ldc 80, 2) := by decide +kernel
theorem dX7_people_31 : decode cX7_people 31 = .ok (.invokevirtual 72, 3) := by decide +kernel
theorem dX7_people_34 : decode cX7_people 34 = .ok (.ireturn, 1) := by decide +kernel
theorem dX7_people_35 : decode cX7_people 35 = .ok (.aload_n 0, 1) := by decide +kernel
theorem dX7_people_36 : decode cX7_people 36 = .ok (.getfield 10, 3) := by decide +kernel
theorem dX7_people_39 : decode cX7_people 39 = .ok (.getfield 81, 3) := by decide +kernel
theorem dX7_people_42 : decode cX7_people 42 = .ok (.istore_n 2, 1) := by decide +kernel
theorem dX7_people_43 : decode cX7_people 43 = .ok (.aload_n 0, 1) := by decide +kernel
theorem dX7_people_44 : decode cX7_people 44 = .ok (.getfield 10, 3) := by decide +kernel
theorem dX7_people_47 : decode cX7_people 47 = .ok (.iload_n 1, 1) := by decide +kernel
theorem dX7_people_48 : decode cX7_people 48 = .ok (.putfield 81, 3) := by decide +kernel
theorem dX7_people_51 : decode cX7_people 51 = .ok (.aload_n 0, 1) := by decide +kernel
theorem dX7_people_52 : decode cX7_people 52 = .ok (.getfield 27, 3) := by decide +kernel
theorem dX7_people_55 : decode cX7_people 55 = .ok (.invokevirtual 85, 3) := by decide +kernel
theorem dX7_people_58 : decode cX7_people 58 = .ok (.iload_n 2, 1) := by decide +kernel
theorem dX7_people_59 : decode cX7_people 59 = .ok (.ireturn, 1) := by decide +kernel
set_option maxRecDepth 20000 in
theorem ggX7_bow_X7_isHour : GoodIn wsX7_bow wsX7_isHour := goodIn_r _ [8] (by decide +kernel) (by decide +kernel)
set_option maxRecDepth 20000 in
theorem gX7_bow_X7_isHour : GoodIn wsX7_bow (va_wsS RX7 88 yX7_isHour wsX7_isHour) := goodIn_app (goodIn_of _ (by decide +kernel)) ggX7_bow_X7_isHour
set_option maxRecDepth 20000 in
theorem ggX7_bow_X7_areUnlike : GoodIn wsX7_bow wsX7_areUnlike := goodIn_r _ [12, 13, 14, 15, 7, 16, 2, 67, 68, 69, 70, 71, 72, 73, 74, 75, 76, 77, 78, 79, 80, 81, 82] (by decide +kernel) (by decide +kernel)
set_option maxRecDepth 20000 in
theorem gX7_bow_X7_areUnlike : GoodIn wsX7_bow (wsV RX7 92 RX7 yX7_areUnlike wsX7_areUnlike) := goodIn_app (goodIn_of _ (by decide +kernel)) ggX7_bow_X7_areUnlike
set_option maxRecDepth 20000 in
theorem ggX7_bow_X7_areTenths : GoodIn wsX7_bow wsX7_areTenths := goodIn_r _ [19] (by decide +kernel) (by decide +kernel)
set_option maxRecDepth 20000 in
theorem gX7_bow_X7_areTenths : GoodIn wsX7_bow (va_wsS RX7 96 yX7_areTenths wsX7_areTenths) := goodIn_app (goodIn_of _ (by decide +kernel)) ggX7_bow_X7_areTenths
set_option maxRecDepth 20000 in
theorem ggX7_bow_X7_found : GoodIn wsX7_bow wsX7_found := goodIn_r _ [23, 1, 24, 67, 68, 69, 70, 71, 72, 73, 74, 75, 76] (by decide +kernel) (by decide +kernel)
set_option maxRecDepth 20000 in
theorem gX7_bow_X7_found : GoodIn wsX7_bow (wsV RX7 72 RX7 yX7_found wsX7_found) := goodIn_app (goodIn_of _ (by decide +kernel)) ggX7_bow_X7_found
set_option maxRecDepth 20000 in
theorem ggX7_bow_X4_isFull : GoodIn wsX7_bow wsX4_isFull := goodIn_r _ [29, 30, 31, 83, 84, 85, 86] (by decide +kernel) (by decide +kernel)
set_option maxRecDepth 20000 in
theorem gX7_bow_X4_isFull : GoodIn wsX7_bow (wsV RX7 103 RX4 yX4_isFull wsX4_isFull) := goodIn_app (goodIn_of _ (by decide +kernel)) ggX7_bow_X4_isFull
set_option maxRecDepth 20000 in
theorem ggX7_bow_X0_hasRoomForDoubt : GoodIn wsX7_bow wsX0_hasRoomForDoubt := goodIn_r _ [36, 37, 38, 39, 35, 40, 41, 42, 43, 44, 28, 45, 30, 46, 47, 48, 49, 50, 51, 77, 78, 79, 80, 81, 82, 83, 84, 85, 86] (by decide +kernel) (by decide +kernel)
set_option maxRecDepth 20000 in
theorem gX7_bow_X0_hasRoomForDoubt : GoodIn wsX7_bow (wsV RX7 108 RX0 yX0_hasRoomForDoubt wsX0_hasRoomForDoubt) := goodIn_app (goodIn_of _ (by decide +kernel)) ggX7_bow_X0_hasRoomForDoubt
set_option maxRecDepth 20000 in
theorem ggX7_bow_X2_forget : GoodIn wsX7_bow wsX2_forget := goodIn_r _ [56, 57, 87, 88, 89, 90, 91, 92, 93, 94, 95, 96, 97, 98, 99, 100] (by decide +kernel) (by decide +kernel)
set_option maxRecDepth 20000 in
theorem gX7_bow_X2_forget : GoodIn wsX7_bow (wsV RX7 85 RX2 yX2_forget wsX2_forget) := goodIn_app (goodIn_of _ (by decide +kernel)) ggX7_bow_X2_forget
set_option maxRecDepth 20000 in
theorem ggX7_bow_X4_add : GoodIn wsX7_bow wsX4_add := goodIn_r _ [61, 30, 62, 26, 27, 28, 29, 31, 63, 64, 65, 66, 50, 51, 83, 84, 85, 86] (by decide +kernel) (by decide +kernel)
set_option maxRecDepth 20000 in
theorem gX7_bow_X4_add : GoodIn wsX7_bow (wsV RX7 112 RX4 yX4_add wsX4_add) := goodIn_app (goodIn_of _ (by decide +kernel)) ggX7_bow_X4_add
theorem dX7_bow_0 : decode cX7_bow 0 = .ok (.iload_n 1, 1) := by decide +kernel
theorem dX7_bow_1 : decode cX7_bow 1 = .ok (.invokestatic 88, 3) := by decide +kernel
theorem dX7_bow_4 : decode cX7_bow 4 = .ok (.ifCond .eq 20, 3) := by decide +kernel
theorem dX7_bow_7 : decode cX7_bow 7 = .ok (.aload_n 0, 1) := by decide +kernel
theorem dX7_bow_8 : decode cX7_bow 8 = .ok (.iload_n 2, 1) := by decide +kernel
theorem dX7_bow_9 : decode cX7_bow 9 = .ok (.iload_n 3, 1) := by decide +kernel
theorem dX7_bow_10 : decode cX7_bow 10 = .ok (.invokevirtual 92, 3) := by decide +kernel
theorem dX7_bow_13 : decode cX7_bow 13 = .ok (.ifCond .eq 11, 3) := by decide +kernel
theorem dX7_bow_16 : decode cX7_bow 16 = .ok (.iload 4, 2) := by decide +kernel
theorem dX7_bow_18 : decode cX7_bow 18 = .ok (.invokestatic 96, 3) := by decide +kernel
theorem dX7_bow_21 : decode cX7_bow 21 = .ok (.ifCond .ne 10, 3) := by decide +kernel
theorem dX7_bow_24 : decode cX7_bow 24 = .ok (.aload_n 0, 1) := by decide +kernel
theorem dX7_bow_25 : decode cX7_bow 25 = .ok (.ldc 71, 2) := by decide +kernel
theorem dX7_bow_27 : decode cX7_bow 27 = .ok (.invokevirtual 72, 3) := by decide +kernel
theorem dX7_bow_30 : decode cX7_bow 30 = .ok (.ireturn, 1) := by decide +kernel
theorem dX7_bow_31 : decode cX7_bow 31 = .ok (.aload_n 0, 1) := by decide +kernel
theorem dX7_bow_32 : decode cX7_bow 32 = .ok (.getfield 10, 3) := by decide +kernel
theorem dX7_bow_35 : decode cX7_bow 35 = .ok (.getfield 99, 3) := by decide +kernel
theorem dX7_bow_38 : decode cX7_bow 38 = .ok (.invokevirtual 103, 3) := by decide +kernel
theorem dX7_bow_41 : decode cX7_bow 41 = .ok (.ifCond .ne 20, 3) := by decide +kernel
theorem dX7_bow_44 : decode cX7_bow 44 = .ok (.iload 4, 2) := by decide +kernel
theorem dX7_bow_46 : decode cX7_bow 46 = .ok (.bipush 10, 2) := by decide +kernel
theorem dX7_bow_48 : decode cX7_bow 48 = .ok (.if_icmp .ge 20, 3) := by decide +kernel
theorem dX7_bow_51 : decode cX7_bow 51 = .ok (.aload_n 0, 1) := by decide +kernel
theorem dX7_bow_52 : decode cX7_bow 52 = .ok (.getfield 10, 3) := by decide +kernel
theorem dX7_bow_55 : decode cX7_bow 55 = .ok (.invokevirtual 108, 3) := by decide +kernel
theorem dX7_bow_58 : decode cX7_bow 58 = .ok (.ifCond .ne 10, 3) := by decide +kernel
theorem dX7_bow_61 : decode cX7_bow 61 = .ok (.aload_n 0, 1) := by decide +kernel
theorem dX7_bow_62 : decode cX7_bow 62 = .ok (.ldc 111, 2) := by decide +kernel
theorem dX7_bow_64 : decode cX7_bow 64 = .ok (.invokevirtual 72, 3) := by decide +kernel
theorem dX7_bow_67 : decode cX7_bow 67 = .ok (.ireturn, 1) := by decide +kernel
theorem dX7_bow_68 : decode cX7_bow 68 = .ok (.aload_n 0, 1) := by decide +kernel
theorem dX7_bow_69 : decode cX7_bow 69 = .ok (.getfield 27, 3) := by decide +kernel
theorem dX7_bow_72 : decode cX7_bow 72 = .ok (.invokevirtual 85, 3) := by decide +kernel
theorem dX7_bow_75 : decode cX7_bow 75 = .ok (.aload_n 0, 1) := by decide +kernel
theorem dX7_bow_76 : decode cX7_bow 76 = .ok (.getfield 10, 3) := by decide +kernel
theorem dX7_bow_79 : decode cX7_bow 79 = .ok (.getfield 99, 3) := by decide +kernel
theorem dX7_bow_82 : decode cX7_bow 82 = .ok (.iload_n 1, 1) := by decide +kernel
theorem dX7_bow_83 : decode cX7_bow 83 = .ok (.iload_n 2, 1) := by decide +kernel
theorem dX7_bow_84 : decode cX7_bow 84 = .ok (.iload_n 3, 1) := by decide +kernel
theorem dX7_bow_85 : decode cX7_bow 85 = .ok (.iload 4, 2) := by decide +kernel
theorem dX7_bow_87 : decode cX7_bow 87 = .ok (.invokevirtual 112, 3) := by decide +kernel
theorem dX7_bow_90 : decode cX7_bow 90 = .ok (.ireturn, 1) := by decide +kernel
set_option maxRecDepth 20000 in
theorem ggX7_bowOf_X4_has : GoodIn wsX7_bowOf wsX4_has := goodIn_r _ [7, 8, 37, 38, 39, 40] (by decide +kernel) (by decide +kernel)
set_option maxRecDepth 20000 in
theorem gX7_bowOf_X4_has : GoodIn wsX7_bowOf (wsV RX7 116 RX4 yX4_has wsX4_has) := goodIn_app (goodIn_of _ (by decide +kernel)) ggX7_bowOf_X4_has
set_option maxRecDepth 20000 in
theorem ggX7_bowOf_X7_found : GoodIn wsX7_bowOf wsX7_found := goodIn_r _ [13, 2, 14, 21, 22, 23, 24, 25, 26, 27, 28, 29, 30] (by decide +kernel) (by decide +kernel)
set_option maxRecDepth 20000 in
theorem gX7_bowOf_X7_found : GoodIn wsX7_bowOf (wsV RX7 72 RX7 yX7_found wsX7_found) := goodIn_app (goodIn_of _ (by decide +kernel)) ggX7_bowOf_X7_found
set_option maxRecDepth 20000 in
theorem ggX7_bowOf_X4_cell : GoodIn wsX7_bowOf wsX4_cell := goodIn_r _ [18, 8, 19, 20, 37, 38, 39, 40] (by decide +kernel) (by decide +kernel)
set_option maxRecDepth 20000 in
theorem gX7_bowOf_X4_cell : GoodIn wsX7_bowOf (wsV RX7 119 RX4 yX4_cell wsX4_cell) := goodIn_app (goodIn_of _ (by decide +kernel)) ggX7_bowOf_X4_cell
theorem dX7_bowOf_0 : decode cX7_bowOf 0 = .ok (.aload_n 0, 1) := by decide +kernel
theorem dX7_bowOf_1 : decode cX7_bowOf 1 = .ok (.getfield 10, 3) := by decide +kernel
theorem dX7_bowOf_4 : decode cX7_bowOf 4 = .ok (.getfield 99, 3) := by decide +kernel
theorem dX7_bowOf_7 : decode cX7_bowOf 7 = .ok (.iload_n 1, 1) := by decide +kernel
theorem dX7_bowOf_8 : decode cX7_bowOf 8 = .ok (.invokevirtual 116, 3) := by decide +kernel
theorem dX7_bowOf_11 : decode cX7_bowOf 11 = .ok (.ifCond .eq 12, 3) := by decide +kernel
theorem dX7_bowOf_14 : decode cX7_bowOf 14 = .ok (.iload_n 2, 1) := by decide +kernel
theorem dX7_bowOf_15 : decode cX7_bowOf 15 = .ok (.ifCond .lt 8, 3) := by decide +kernel
theorem dX7_bowOf_18 : decode cX7_bowOf 18 = .ok (.iload_n 2, 1) := by decide +kernel
theorem dX7_bowOf_19 : decode cX7_bowOf 19 = .ok (.iconst 4, 1) := by decide +kernel
theorem dX7_bowOf_20 : decode cX7_bowOf 20 = .ok (.if_icmp .lt 10, 3) := by decide +kernel
theorem dX7_bowOf_23 : decode cX7_bowOf 23 = .ok (.aload_n 0, 1) := by decide +kernel
theorem dX7_bowOf_24 : decode cX7_bowOf 24 = .ok (.ldc 71, 2) := by decide +kernel
theorem dX7_bowOf_26 : decode cX7_bowOf 26 = .ok (.invokevirtual 72, 3) := by decide +kernel
theorem dX7_bowOf_29 : decode cX7_bowOf 29 = .ok (.ireturn, 1) := by decide +kernel
theorem dX7_bowOf_30 : decode cX7_bowOf 30 = .ok (.aload_n 0, 1) := by decide +kernel
theorem dX7_bowOf_31 : decode cX7_bowOf 31 = .ok (.getfield 10, 3) := by decide +kernel
theorem dX7_bowOf_34 : decode cX7_bowOf 34 = .ok (.getfield 99, 3) := by decide +kernel
theorem dX7_bowOf_37 : decode cX7_bowOf 37 = .ok (.iload_n 1, 1) := by decide +kernel
theorem dX7_bowOf_38 : decode cX7_bowOf 38 = .ok (.iload_n 2, 1) := by decide +kernel
theorem dX7_bowOf_39 : decode cX7_bowOf 39 = .ok (.invokevirtual 119, 3) := by decide +kernel
theorem dX7_bowOf_42 : decode cX7_bowOf 42 = .ok (.ireturn, 1) := by decide +kernel
set_option maxRecDepth 20000 in
theorem ggX7_doubt_X4_has : GoodIn wsX7_doubt wsX4_has := goodIn_r _ [9, 10, 74, 75, 76, 77] (by decide +kernel) (by decide +kernel)
set_option maxRecDepth 20000 in
theorem gX7_doubt_X4_has : GoodIn wsX7_doubt (wsV RX7 116 RX4 yX4_has wsX4_has) := goodIn_app (goodIn_of _ (by decide +kernel)) ggX7_doubt_X4_has
set_option maxRecDepth 20000 in
theorem ggX7_doubt_X7_areTenths : GoodIn wsX7_doubt wsX7_areTenths := goodIn_r _ [14] (by decide +kernel) (by decide +kernel)
set_option maxRecDepth 20000 in
theorem gX7_doubt_X7_areTenths : GoodIn wsX7_doubt (va_wsS RX7 96 yX7_areTenths wsX7_areTenths) := goodIn_app (goodIn_of _ (by decide +kernel)) ggX7_doubt_X7_areTenths
set_option maxRecDepth 20000 in
theorem ggX7_doubt_X7_found : GoodIn wsX7_doubt wsX7_found := goodIn_r _ [18, 2, 19, 58, 59, 60, 61, 62, 63, 64, 65, 66, 67] (by decide +kernel) (by decide +kernel)
set_option maxRecDepth 20000 in
theorem gX7_doubt_X7_found : GoodIn wsX7_doubt (wsV RX7 72 RX7 yX7_found wsX7_found) := goodIn_app (goodIn_of _ (by decide +kernel)) ggX7_doubt_X7_found
set_option maxRecDepth 20000 in
theorem ggX7_doubt_X0_mayHaveTenths : GoodIn wsX7_doubt wsX0_mayHaveTenths := goodIn_r _ [24, 25, 26, 27, 23, 28, 29, 30, 31, 32, 8, 33, 10, 34, 35, 36, 37, 38, 39, 40, 41, 42, 43, 44, 45, 46, 47, 68, 69, 70, 71, 72, 73, 74, 75, 76, 77] (by decide +kernel) (by decide +kernel)
set_option maxRecDepth 20000 in
theorem gX7_doubt_X0_mayHaveTenths : GoodIn wsX7_doubt (wsV RX7 123 RX0 yX0_mayHaveTenths wsX0_mayHaveTenths) := goodIn_app (goodIn_of _ (by decide +kernel)) ggX7_doubt_X0_mayHaveTenths
set_option maxRecDepth 20000 in
theorem ggX7_doubt_X2_forget : GoodIn wsX7_doubt wsX2_forget := goodIn_r _ [52, 53, 78, 79, 80, 81, 82, 83, 84, 85, 86, 87, 88, 89, 90, 91] (by decide +kernel) (by decide +kernel)
set_option maxRecDepth 20000 in
theorem gX7_doubt_X2_forget : GoodIn wsX7_doubt (wsV RX7 85 RX2 yX2_forget wsX2_forget) := goodIn_app (goodIn_of _ (by decide +kernel)) ggX7_doubt_X2_forget
set_option maxRecDepth 20000 in
theorem ggX7_doubt_X4_put : GoodIn wsX7_doubt wsX4_put := goodIn_r _ [57, 10, 34, 35, 74, 75, 76, 77] (by decide +kernel) (by decide +kernel)
set_option maxRecDepth 20000 in
theorem gX7_doubt_X4_put : GoodIn wsX7_doubt (wsV RX7 126 RX4 yX4_put wsX4_put) := goodIn_app (goodIn_of _ (by decide +kernel)) ggX7_doubt_X4_put
theorem dX7_doubt_0 : decode cX7_doubt 0 = .ok (.aload_n 0, 1) := by decide +kernel
theorem dX7_doubt_1 : decode cX7_doubt 1 = .ok (.getfield 10, 3) := by decide +kernel
theorem dX7_doubt_4 : decode cX7_doubt 4 = .ok (.getfield 99, 3) := by decide +kernel
theorem dX7_doubt_7 : decode cX7_doubt 7 = .ok (.iload_n 1, 1) := by decide +kernel
theorem dX7_doubt_8 : decode cX7_doubt 8 = .ok (.invokevirtual 116, 3) := by decide +kernel
theorem dX7_doubt_11 : decode cX7_doubt 11 = .ok (.ifCond .eq 10, 3) := by decide +kernel
theorem dX7_doubt_14 : decode cX7_doubt 14 = .ok (.iload_n 2, 1) := by decide +kernel
theorem dX7_doubt_15 : decode cX7_doubt 15 = .ok (.invokestatic 96, 3) := by decide +kernel
theorem dX7_doubt_18 : decode cX7_doubt 18 = .ok (.ifCond .ne 10, 3) := by decide +kernel
theorem dX7_doubt_21 : decode cX7_doubt 21 = .ok (.aload_n 0, 1) := by decide +kernel
theorem dX7_doubt_22 : decode cX7_doubt 22 = .ok (.ldc 71, 2) := by decide +kernel
theorem dX7_doubt_24 : decode cX7_doubt 24 = .ok (.invokevirtual 72, 3) := by decide +kernel
theorem dX7_doubt_27 : decode cX7_doubt 27 = .ok (.ireturn, 1) := by decide +kernel
theorem dX7_doubt_28 : decode cX7_doubt 28 = .ok (.aload_n 0, 1) := by decide +kernel
theorem dX7_doubt_29 : decode cX7_doubt 29 = .ok (.getfield 10, 3) := by decide +kernel
theorem dX7_doubt_32 : decode cX7_doubt 32 = .ok (.iload_n 1, 1) := by decide +kernel
theorem dX7_doubt_33 : decode cX7_doubt 33 = .ok (.iload_n 2, 1) := by decide +kernel
theorem dX7_doubt_34 : decode cX7_doubt 34 = .ok (.invokevirtual 123, 3) := by decide +kernel
theorem dX7_doubt_37 : decode cX7_doubt 37 = .ok (.ifCond .ne 10, 3) := by decide +kernel
theorem dX7_doubt_40 : decode cX7_doubt 40 = .ok (.aload_n 0, 1) := by decide +kernel
theorem dX7_doubt_41 : decode cX7_doubt 41 = .ok (.ldc 111, 2) := by decide +kernel
theorem dX7_doubt_43 : decode cX7_doubt 43 = .ok (.invokevirtual 72, 3) := by decide +kernel
theorem dX7_doubt_46 : decode cX7_doubt 46 = .ok (.ireturn, 1) := by decide +kernel
theorem dX7_doubt_47 : decode cX7_doubt 47 = .ok (.aload_n 0, 1) := by decide +kernel
theorem dX7_doubt_48 : decode cX7_doubt 48 = .ok (.getfield 27, 3) := by decide +kernel
theorem dX7_doubt_51 : decode cX7_doubt 51 = .ok (.invokevirtual 85, 3) := by decide +kernel
theorem dX7_doubt_54 : decode cX7_doubt 54 = .ok (.aload_n 0, 1) := by decide +kernel
theorem dX7_doubt_55 : decode cX7_doubt 55 = .ok (.getfield 10, 3) := by decide +kernel
theorem dX7_doubt_58 : decode cX7_doubt 58 = .ok (.getfield 99, 3) := by decide +kernel
theorem dX7_doubt_61 : decode cX7_doubt 61 = .ok (.iload_n 1, 1) := by decide +kernel
theorem dX7_doubt_62 : decode cX7_doubt 62 = .ok (.iconst 3, 1) := by decide +kernel
theorem dX7_doubt_63 : decode cX7_doubt 63 = .ok (.iload_n 2, 1) := by decide +kernel
theorem dX7_doubt_64 : decode cX7_doubt 64 = .ok (.invokevirtual 126, 3) := by decide +kernel
theorem dX7_doubt_67 : decode cX7_doubt 67 = .ok (.ireturn, 1) := by decide +kernel
set_option maxRecDepth 20000 in
theorem ggX7_let_X7_found : GoodIn wsX7_let wsX7_found := goodIn_r _ [8, 1, 9, 27, 28, 29, 30, 31, 32, 33, 34, 35, 36] (by decide +kernel) (by decide +kernel)
set_option maxRecDepth 20000 in
theorem gX7_let_X7_found : GoodIn wsX7_let (wsV RX7 72 RX7 yX7_found wsX7_found) := goodIn_app (goodIn_of _ (by decide +kernel)) ggX7_let_X7_found
set_option maxRecDepth 20000 in
theorem ggX7_let_X0_isSwitchedOn : GoodIn wsX7_let wsX0_isSwitchedOn := goodIn_r _ [14, 15, 16, 37, 38, 39, 40, 41, 42] (by decide +kernel) (by decide +kernel)
set_option maxRecDepth 20000 in
theorem gX7_let_X0_isSwitchedOn : GoodIn wsX7_let (wsV RX7 130 RX0 yX0_isSwitchedOn wsX0_isSwitchedOn) := goodIn_app (goodIn_of _ (by decide +kernel)) ggX7_let_X0_isSwitchedOn
set_option maxRecDepth 20000 in
theorem ggX7_let_X0_switchTo : GoodIn wsX7_let wsX0_switchTo := goodIn_r _ [20, 15, 16, 37, 38, 39, 40, 41, 42] (by decide +kernel) (by decide +kernel)
set_option maxRecDepth 20000 in
theorem gX7_let_X0_switchTo : GoodIn wsX7_let (wsV RX7 133 RX0 yX0_switchTo wsX0_switchTo) := goodIn_app (goodIn_of _ (by decide +kernel)) ggX7_let_X0_switchTo
set_option maxRecDepth 20000 in
theorem ggX7_let_X2_forget : GoodIn wsX7_let wsX2_forget := goodIn_r _ [25, 26, 43, 44, 45, 46, 47, 48, 49, 50, 51, 52, 53, 54, 55, 56] (by decide +kernel) (by decide +kernel)
set_option maxRecDepth 20000 in
theorem gX7_let_X2_forget : GoodIn wsX7_let (wsV RX7 85 RX2 yX2_forget wsX2_forget) := goodIn_app (goodIn_of _ (by decide +kernel)) ggX7_let_X2_forget
theorem dX7_let_0 : decode cX7_let 0 = .ok (.iload_n 1, 1) := by decide +kernel
theorem dX7_let_1 : decode cX7_let 1 = .ok (.ifCond .eq 15, 3) := by decide +kernel
theorem dX7_let_4 : decode cX7_let 4 = .ok (.iload_n 1, 1) := by decide +kernel
theorem dX7_let_5 : decode cX7_let 5 = .ok (.iconst 1, 1) := by decide +kernel
theorem dX7_let_6 : decode cX7_let 6 = .ok (.if_icmp .eq 10, 3) := by decide +kernel
theorem dX7_let_9 : decode cX7_let 9 = .ok (.aload_n 0, 1) := by decide +kernel
theorem dX7_let_10 : decode cX7_let 10 = .ok (.ldc 71, 2) := by decide +kernel
theorem dX7_let_12 : decode cX7_let 12 = .ok (.invokevirtual 72, 3) := by decide +kernel
theorem dX7_let_15 : decode cX7_let 15 = .ok (.ireturn, 1) := by decide +kernel
theorem dX7_let_16 : decode cX7_let 16 = .ok (.aload_n 0, 1) := by decide +kernel
theorem dX7_let_17 : decode cX7_let 17 = .ok (.getfield 10, 3) := by decide +kernel
theorem dX7_let_20 : decode cX7_let 20 = .ok (.iload_n 1, 1) := by decide +kernel
theorem dX7_let_21 : decode cX7_let 21 = .ok (.invokevirtual 130, 3) := by decide +kernel
theorem dX7_let_24 : decode cX7_let 24 = .ok (.iload_n 2, 1) := by decide +kernel
theorem dX7_let_25 : decode cX7_let 25 = .ok (.if_icmp .ne 5, 3) := by decide +kernel
theorem dX7_let_28 : decode cX7_let 28 = .ok (.iconst 0, 1) := by decide +kernel
theorem dX7_let_29 : decode cX7_let 29 = .ok (.ireturn, 1) := by decide +kernel
theorem dX7_let_30 : decode cX7_let 30 = .ok (.aload_n 0, 1) := by decide +kernel
theorem dX7_let_31 : decode cX7_let 31 = .ok (.getfield 10, 3) := by decide +kernel
theorem dX7_let_34 : decode cX7_let 34 = .ok (.iload_n 1, 1) := by decide +kernel
theorem dX7_let_35 : decode cX7_let 35 = .ok (.iload_n 2, 1) := by decide +kernel
theorem dX7_let_36 : decode cX7_let 36 = .ok (.invokevirtual 133, 3) := by decide +kernel
theorem dX7_let_39 : decode cX7_let 39 = .ok (.aload_n 0, 1) := by decide +kernel
theorem dX7_let_40 : decode cX7_let 40 = .ok (.getfield 27, 3) := by decide +kernel
theorem dX7_let_43 : decode cX7_let 43 = .ok (.invokevirtual 85, 3) := by decide +kernel
theorem dX7_let_46 : decode cX7_let 46 = .ok (.iconst 1, 1) := by decide +kernel
theorem dX7_let_47 : decode cX7_let 47 = .ok (.ireturn, 1) := by decide +kernel
set_option maxRecDepth 20000 in
theorem ggX7_says_X7_isHour : GoodIn wsX7_says wsX7_isHour := goodIn_r _ [8] (by decide +kernel) (by decide +kernel)
set_option maxRecDepth 20000 in
theorem gX7_says_X7_isHour : GoodIn wsX7_says (va_wsS RX7 88 yX7_isHour wsX7_isHour) := goodIn_app (goodIn_of _ (by decide +kernel)) ggX7_says_X7_isHour
set_option maxRecDepth 20000 in
theorem ggX7_says_X7_isPerson : GoodIn wsX7_says wsX7_isPerson := goodIn_r _ [12, 2, 42, 43, 44, 45, 46, 47, 48, 49, 50, 51, 52, 53, 54, 55, 56, 57] (by decide +kernel) (by decide +kernel)
set_option maxRecDepth 20000 in
theorem gX7_says_X7_isPerson : GoodIn wsX7_says (wsV RX7 137 RX7 yX7_isPerson wsX7_isPerson) := goodIn_app (goodIn_of _ (by decide +kernel)) ggX7_says_X7_isPerson
set_option maxRecDepth 20000 in
theorem ggX7_says_X7_found : GoodIn wsX7_says wsX7_found := goodIn_r _ [16, 1, 17, 42, 43, 44, 45, 46, 47, 48, 49, 50, 51] (by decide +kernel) (by decide +kernel)
set_option maxRecDepth 20000 in
theorem gX7_says_X7_found : GoodIn wsX7_says (wsV RX7 72 RX7 yX7_found wsX7_found) := goodIn_app (goodIn_of _ (by decide +kernel)) ggX7_says_X7_found
set_option maxRecDepth 20000 in
theorem ggX7_says_X4_isFull : GoodIn wsX7_says wsX4_isFull := goodIn_r _ [22, 23, 24, 58, 59, 60, 61] (by decide +kernel) (by decide +kernel)
set_option maxRecDepth 20000 in
theorem gX7_says_X4_isFull : GoodIn wsX7_says (wsV RX7 103 RX4 yX4_isFull wsX4_isFull) := goodIn_app (goodIn_of _ (by decide +kernel)) ggX7_says_X4_isFull
set_option maxRecDepth 20000 in
theorem ggX7_says_X2_forget : GoodIn wsX7_says wsX2_forget := goodIn_r _ [29, 30, 62, 63, 64, 65, 66, 67, 68, 69, 70, 71, 72, 73, 74, 75] (by decide +kernel) (by decide +kernel)
set_option maxRecDepth 20000 in
theorem gX7_says_X2_forget : GoodIn wsX7_says (wsV RX7 85 RX2 yX2_forget wsX2_forget) := goodIn_app (goodIn_of _ (by decide +kernel)) ggX7_says_X2_forget
set_option maxRecDepth 20000 in
theorem ggX7_says_X4_add : GoodIn wsX7_says wsX4_add := goodIn_r _ [34, 23, 35, 19, 20, 21, 22, 24, 36, 37, 38, 39, 40, 41, 58, 59, 60, 61] (by decide +kernel) (by decide +kernel)
set_option maxRecDepth 20000 in
theorem gX7_says_X4_add : GoodIn wsX7_says (wsV RX7 112 RX4 yX4_add wsX4_add) := goodIn_app (goodIn_of _ (by decide +kernel)) ggX7_says_X4_add
theorem dX7_says_0 : decode cX7_says 0 = .ok (.iload_n 1, 1) := by decide +kernel
theorem dX7_says_1 : decode cX7_says 1 = .ok (.invokestatic 88, 3) := by decide +kernel
theorem dX7_says_4 : decode cX7_says 4 = .ok (.ifCond .eq 19, 3) := by decide +kernel
theorem dX7_says_7 : decode cX7_says 7 = .ok (.aload_n 0, 1) := by decide +kernel
theorem dX7_says_8 : decode cX7_says 8 = .ok (.iload_n 2, 1) := by decide +kernel
theorem dX7_says_9 : decode cX7_says 9 = .ok (.invokevirtual 137, 3) := by decide +kernel
theorem dX7_says_12 : decode cX7_says 12 = .ok (.ifCond .eq 11, 3) := by decide +kernel
theorem dX7_says_15 : decode cX7_says 15 = .ok (.aload_n 0, 1) := by decide +kernel
theorem dX7_says_16 : decode cX7_says 16 = .ok (.iload_n 3, 1) := by decide +kernel
theorem dX7_says_17 : decode cX7_says 17 = .ok (.invokevirtual 137, 3) := by decide +kernel
theorem dX7_says_20 : decode cX7_says 20 = .ok (.ifCond .ne 10, 3) := by decide +kernel
theorem dX7_says_23 : decode cX7_says 23 = .ok (.aload_n 0, 1) := by decide +kernel
theorem dX7_says_24 : decode cX7_says 24 = .ok (.ldc 71, 2) := by decide +kernel
theorem dX7_says_26 : decode cX7_says 26 = .ok (.invokevirtual 72, 3) := by decide +kernel
theorem dX7_says_29 : decode cX7_says 29 = .ok (.ireturn, 1) := by decide +kernel
theorem dX7_says_30 : decode cX7_says 30 = .ok (.aload_n 0, 1) := by decide +kernel
theorem dX7_says_31 : decode cX7_says 31 = .ok (.getfield 10, 3) := by decide +kernel
theorem dX7_says_34 : decode cX7_says 34 = .ok (.getfield 140, 3) := by decide +kernel
theorem dX7_says_37 : decode cX7_says 37 = .ok (.invokevirtual 103, 3) := by decide +kernel
theorem dX7_says_40 : decode cX7_says 40 = .ok (.ifCond .eq 10, 3) := by decide +kernel
theorem dX7_says_43 : decode cX7_says 43 = .ok (.aload_n 0, 1) := by decide +kernel
theorem dX7_says_44 : decode cX7_says 44 = .ok (.ldc 111, 2) := by decide +kernel
theorem dX7_says_46 : decode cX7_says 46 = .ok (.invokevirtual 72, 3) := by decide +kernel
theorem dX7_says_49 : decode cX7_says 49 = .ok (.ireturn, 1) := by decide +kernel
theorem dX7_says_50 : decode cX7_says 50 = .ok (.aload_n 0, 1) := by decide +kernel
theorem dX7_says_51 : decode cX7_says 51 = .ok (.getfield 27, 3) := by decide +kernel
theorem dX7_says_54 : decode cX7_says 54 = .ok (.invokevirtual 85, 3) := by decide +kernel
theorem dX7_says_57 : decode cX7_says 57 = .ok (.aload_n 0, 1) := by decide +kernel
theorem dX7_says_58 : decode cX7_says 58 = .ok (.getfield 10, 3) := by decide +kernel
theorem dX7_says_61 : decode cX7_says 61 = .ok (.getfield 140, 3) := by decide +kernel
theorem dX7_says_64 : decode cX7_says 64 = .ok (.iload_n 1, 1) := by decide +kernel
theorem dX7_says_65 : decode cX7_says 65 = .ok (.iload_n 2, 1) := by decide +kernel
theorem dX7_says_66 : decode cX7_says 66 = .ok (.iload_n 3, 1) := by decide +kernel
theorem dX7_says_67 : decode cX7_says 67 = .ok (.iload 4, 2) := by decide +kernel
theorem dX7_says_69 : decode cX7_says 69 = .ok (.ifCond .eq 7, 3) := by decide +kernel
theorem dX7_says_72 : decode cX7_says 72 = .ok (.iconst 1, 1) := by decide +kernel
theorem dX7_says_73 : decode cX7_says 73 = .ok (.goto 4, 3) := by decide +kernel
theorem dX7_says_76 : decode cX7_says 76 = .ok (.iconst 0, 1) := by decide +kernel
theorem dX7_says_77 : decode cX7_says 77 = .ok (.invokevirtual 112, 3) := by decide +kernel
theorem dX7_says_80 : decode cX7_says 80 = .ok (.ireturn, 1) := by decide +kernel
set_option maxRecDepth 20000 in
theorem ggX7_sayingOf_X4_has : GoodIn wsX7_sayingOf wsX4_has := goodIn_r _ [7, 8, 37, 38, 39, 40] (by decide +kernel) (by decide +kernel)
set_option maxRecDepth 20000 in
theorem gX7_sayingOf_X4_has : GoodIn wsX7_sayingOf (wsV RX7 116 RX4 yX4_has wsX4_has) := goodIn_app (goodIn_of _ (by decide +kernel)) ggX7_sayingOf_X4_has
set_option maxRecDepth 20000 in
theorem ggX7_sayingOf_X7_found : GoodIn wsX7_sayingOf wsX7_found := goodIn_r _ [13, 2, 14, 21, 22, 23, 24, 25, 26, 27, 28, 29, 30] (by decide +kernel) (by decide +kernel)
set_option maxRecDepth 20000 in
theorem gX7_sayingOf_X7_found : GoodIn wsX7_sayingOf (wsV RX7 72 RX7 yX7_found wsX7_found) := goodIn_app (goodIn_of _ (by decide +kernel)) ggX7_sayingOf_X7_found
set_option maxRecDepth 20000 in
theorem ggX7_sayingOf_X4_cell : GoodIn wsX7_sayingOf wsX4_cell := goodIn_r _ [18, 8, 19, 20, 37, 38, 39, 40] (by decide +kernel) (by decide +kernel)
set_option maxRecDepth 20000 in
theorem gX7_sayingOf_X4_cell : GoodIn wsX7_sayingOf (wsV RX7 119 RX4 yX4_cell wsX4_cell) := goodIn_app (goodIn_of _ (by decide +kernel)) ggX7_sayingOf_X4_cell
theorem dX7_sayingOf_0 : decode cX7_sayingOf 0 = .ok (.aload_n 0, 1) := by decide +kernel
theorem dX7_sayingOf_1 : decode cX7_sayingOf 1 = .ok (.getfield 10, 3) := by decide +kernel
theorem dX7_sayingOf_4 : decode cX7_sayingOf 4 = .ok (.getfield 140, 3) := by decide +kernel
theorem dX7_sayingOf_7 : decode cX7_sayingOf 7 = .ok (.iload_n 1, 1) := by decide +kernel
theorem dX7_sayingOf_8 : decode cX7_sayingOf 8 = .ok (.invokevirtual 116, 3) := by decide +kernel
theorem dX7_sayingOf_11 : decode cX7_sayingOf 11 = .ok (.ifCond .eq 12, 3) := by decide +kernel
theorem dX7_sayingOf_14 : decode cX7_sayingOf 14 = .ok (.iload_n 2, 1) := by decide +kernel
theorem dX7_sayingOf_15 : decode cX7_sayingOf 15 = .ok (.ifCond .lt 8, 3) := by decide +kernel
theorem dX7_sayingOf_18 : decode cX7_sayingOf 18 = .ok (.iload_n 2, 1) := by decide +kernel
theorem dX7_sayingOf_19 : decode cX7_sayingOf 19 = .ok (.iconst 4, 1) := by decide +kernel
theorem dX7_sayingOf_20 : decode cX7_sayingOf 20 = .ok (.if_icmp .lt 10, 3) := by decide +kernel
theorem dX7_sayingOf_23 : decode cX7_sayingOf 23 = .ok (.aload_n 0, 1) := by decide +kernel
theorem dX7_sayingOf_24 : decode cX7_sayingOf 24 = .ok (.ldc 71, 2) := by decide +kernel
theorem dX7_sayingOf_26 : decode cX7_sayingOf 26 = .ok (.invokevirtual 72, 3) := by decide +kernel
theorem dX7_sayingOf_29 : decode cX7_sayingOf 29 = .ok (.ireturn, 1) := by decide +kernel
theorem dX7_sayingOf_30 : decode cX7_sayingOf 30 = .ok (.aload_n 0, 1) := by decide +kernel
theorem dX7_sayingOf_31 : decode cX7_sayingOf 31 = .ok (.getfield 10, 3) := by decide +kernel
theorem dX7_sayingOf_34 : decode cX7_sayingOf 34 = .ok (.getfield 140, 3) := by decide +kernel
theorem dX7_sayingOf_37 : decode cX7_sayingOf 37 = .ok (.iload_n 1, 1) := by decide +kernel
theorem dX7_sayingOf_38 : decode cX7_sayingOf 38 = .ok (.iload_n 2, 1) := by decide +kernel
theorem dX7_sayingOf_39 : decode cX7_sayingOf 39 = .ok (.invokevirtual 119, 3) := by decide +kernel
theorem dX7_sayingOf_42 : decode cX7_sayingOf 42 = .ok (.ireturn, 1) := by decide +kernel
set_option maxRecDepth 20000 in
theorem ggX7_nights_X7_fresh : GoodIn wsX7_nights wsX7_fresh := goodIn_r _ [5, 6, 7, 8, 9, 10, 11, 12, 13, 14, 15, 16, 17, 18, 19, 20, 21, 22, 23, 24, 25, 26, 27, 28, 29, 30, 31, 32, 33, 34, 35, 36, 37, 38, 39, 40, 41, 42, 43, 44, 45, 46, 47, 48, 49, 50, 51, 52, 53, 54, 55, 56, 57, 58, 59, 60, 61, 62, 63, 64, 65, 66, 67, 68, 69, 70, 71, 72, 73, 74, 75, 76, 77, 78, 79, 80, 81, 82, 83, 84, 85, 86, 87, 88, 89, 90, 91, 92, 93, 4, 94, 95, 96, 97, 98, 99, 100, 101, 102, 103, 104, 105, 106, 107, 108, 109, 110, 111, 112, 113, 114, 115, 116, 117, 126, 127, 128, 129, 130, 131, 132, 133, 134, 135, 136, 137, 138, 139, 140, 141, 142, 143, 144, 145, 146, 147, 148, 149, 150, 151, 152, 153, 154, 155, 156, 157, 158, 159] (by decide +kernel) (by decide +kernel)
set_option maxRecDepth 20000 in
theorem gX7_nights_X7_fresh : GoodIn wsX7_nights (wsV RX7 143 RX7 yX7_fresh wsX7_fresh) := goodIn_app (goodIn_of _ (by decide +kernel)) ggX7_nights_X7_fresh
set_option maxRecDepth 20000 in
theorem ggX7_nights_X2_howManyHold : GoodIn wsX7_nights wsX2_howManyHold := goodIn_r _ [121, 63, 64, 65, 10, 66, 53, 122, 123, 124, 125, 114, 115, 116, 117, 22, 136, 137, 138, 139, 140, 141, 142, 143, 144, 145, 146, 147, 148, 149] (by decide +kernel) (by decide +kernel)
set_option maxRecDepth 20000 in
theorem gX7_nights_X2_howManyHold : GoodIn wsX7_nights (wsV RX7 147 RX2 yX2_howManyHold wsX2_howManyHold) := goodIn_app (goodIn_of _ (by decide +kernel)) ggX7_nights_X2_howManyHold
theorem dX7_nights_0 : decode cX7_nights 0 = .ok (.aload_n 0, 1) := by decide +kernel
theorem dX7_nights_1 : decode cX7_nights 1 = .ok (.invokevirtual 143, 3) := by decide +kernel
theorem dX7_nights_4 : decode cX7_nights 4 = .ok (.invokevirtual 147, 3) := by decide +kernel
theorem dX7_nights_7 : decode cX7_nights 7 = .ok (.ireturn, 1) := by decide +kernel
set_option maxRecDepth 20000 in
theorem ggX7_all_X7_fresh : GoodIn wsX7_all wsX7_fresh := goodIn_r _ [5, 6, 7, 8, 9, 10, 11, 12, 13, 14, 15, 16, 17, 18, 19, 20, 21, 22, 23, 24, 25, 26, 27, 28, 29, 30, 31, 32, 33, 34, 35, 36, 37, 38, 39, 40, 41, 42, 43, 44, 45, 46, 47, 48, 49, 50, 51, 52, 53, 54, 55, 56, 57, 58, 59, 60, 61, 62, 63, 64, 65, 66, 67, 68, 69, 70, 71, 72, 73, 74, 75, 76, 77, 78, 79, 80, 81, 82, 83, 84, 85, 86, 87, 88, 89, 90, 91, 92, 93, 4, 94, 95, 96, 97, 98, 99, 100, 101, 102, 103, 104, 105, 106, 107, 108, 109, 110, 111, 112, 113, 114, 115, 116, 117, 122, 123, 124, 125, 126, 127, 128, 129, 130, 131, 132, 133, 134, 135, 136, 137, 138, 139, 140, 141, 142, 143, 144, 145, 146, 147, 148, 149, 150, 151, 152, 153, 154, 155] (by decide +kernel) (by decide +kernel)
set_option maxRecDepth 20000 in
theorem gX7_all_X7_fresh : GoodIn wsX7_all (wsV RX7 143 RX7 yX7_fresh wsX7_fresh) := goodIn_app (goodIn_of _ (by decide +kernel)) ggX7_all_X7_fresh
set_option maxRecDepth 20000 in
theorem ggX7_all_X2_allWeights : GoodIn wsX7_all wsX2_allWeights := goodIn_r _ [121, 63, 64, 65, 10, 66, 53, 114, 115, 116, 117, 22, 132, 133, 134, 135, 136, 137, 138, 139, 140, 141, 142, 143, 144, 145] (by decide +kernel) (by decide +kernel)
set_option maxRecDepth 20000 in
theorem gX7_all_X2_allWeights : GoodIn wsX7_all (wsV RX7 151 RX2 yX2_allWeights wsX2_allWeights) := goodIn_app (goodIn_of _ (by decide +kernel)) ggX7_all_X2_allWeights
theorem dX7_all_0 : decode cX7_all 0 = .ok (.aload_n 0, 1) := by decide +kernel
theorem dX7_all_1 : decode cX7_all 1 = .ok (.invokevirtual 143, 3) := by decide +kernel
theorem dX7_all_4 : decode cX7_all 4 = .ok (.invokevirtual 151, 3) := by decide +kernel
theorem dX7_all_7 : decode cX7_all 7 = .ok (.lreturn, 1) := by decide +kernel
set_option maxRecDepth 20000 in
theorem ggX7_likeliest_X7_fresh : GoodIn wsX7_likeliest wsX7_fresh := goodIn_r _ [7, 2, 8, 9, 10, 11, 12, 13, 14, 15, 16, 17, 18, 19, 20, 21, 22, 23, 24, 25, 26, 27, 28, 29, 30, 31, 32, 33, 34, 35, 36, 37, 38, 39, 40, 41, 42, 43, 44, 45, 46, 47, 48, 49, 50, 51, 52, 53, 54, 55, 56, 57, 58, 59, 60, 61, 62, 63, 64, 65, 66, 67, 68, 69, 70, 71, 72, 73, 74, 75, 76, 77, 78, 79, 80, 81, 82, 83, 84, 85, 86, 87, 88, 89, 90, 91, 92, 93, 94, 6, 95, 96, 97, 98, 99, 100, 101, 102, 103, 104, 105, 106, 107, 108, 109, 110, 111, 112, 113, 114, 115, 116, 117, 118, 134, 135, 136, 137, 138, 139, 140, 141, 142, 143, 144, 145, 146, 147, 148, 149, 150, 151, 152, 153, 154, 155, 156, 157, 158, 159, 160, 161, 162, 163, 164, 165, 166, 167] (by decide +kernel) (by decide +kernel)
set_option maxRecDepth 20000 in
theorem gX7_likeliest_X7_fresh : GoodIn wsX7_likeliest (wsV RX7 143 RX7 yX7_fresh wsX7_fresh) := goodIn_app (goodIn_of _ (by decide +kernel)) ggX7_likeliest_X7_fresh
set_option maxRecDepth 20000 in
theorem ggX7_likeliest_X2_someHolds : GoodIn wsX7_likeliest wsX2_someHolds := goodIn_r _ [122, 20, 144, 145, 146, 147, 148, 149, 150, 151, 152, 153, 154, 155, 156, 157] (by decide +kernel) (by decide +kernel)
set_option maxRecDepth 20000 in
theorem gX7_likeliest_X2_someHolds : GoodIn wsX7_likeliest (wsV RX7 155 RX2 yX2_someHolds wsX2_someHolds) := goodIn_app (goodIn_of _ (by decide +kernel)) ggX7_likeliest_X2_someHolds
set_option maxRecDepth 20000 in
theorem ggX7_likeliest_X7_found : GoodIn wsX7_likeliest wsX7_found := goodIn_r _ [126, 127, 128, 134, 135, 136, 137, 138, 139, 140, 141, 142, 143] (by decide +kernel) (by decide +kernel)
set_option maxRecDepth 20000 in
theorem gX7_likeliest_X7_found : GoodIn wsX7_likeliest (wsV RX7 72 RX7 yX7_found wsX7_found) := goodIn_app (goodIn_of _ (by decide +kernel)) ggX7_likeliest_X7_found
set_option maxRecDepth 20000 in
theorem ggX7_likeliest_X2_likeliestNight : GoodIn wsX7_likeliest wsX2_likeliestNight := goodIn_r _ [132, 20, 144, 145, 146, 147, 148, 149, 150, 151, 152, 153, 154, 155, 156, 157] (by decide +kernel) (by decide +kernel)
set_option maxRecDepth 20000 in
theorem gX7_likeliest_X2_likeliestNight : GoodIn wsX7_likeliest (wsV RX7 159 RX2 yX2_likeliestNight wsX2_likeliestNight) := goodIn_app (goodIn_of _ (by decide +kernel)) ggX7_likeliest_X2_likeliestNight
set_option maxRecDepth 20000 in
theorem ggX7_likeliest_X2_bowsMadeIn : GoodIn wsX7_likeliest wsX2_bowsMadeIn := goodIn_r _ [89, 55, 90, 91, 92, 11, 93, 54, 56, 144, 145, 146, 147, 148, 149, 150, 151, 152, 153, 154, 155, 156, 157] (by decide +kernel) (by decide +kernel)
set_option maxRecDepth 20000 in
theorem gX7_likeliest_X2_bowsMadeIn : GoodIn wsX7_likeliest (wsV RX7 162 RX2 yX2_bowsMadeIn wsX2_bowsMadeIn) := goodIn_app (goodIn_of _ (by decide +kernel)) ggX7_likeliest_X2_bowsMadeIn
theorem dX7_likeliest_0 : decode cX7_likeliest 0 = .ok (.aload_n 0, 1) := by decide +kernel
theorem dX7_likeliest_1 : decode cX7_likeliest 1 = .ok (.invokevirtual 143, 3) := by decide +kernel
theorem dX7_likeliest_4 : decode cX7_likeliest 4 = .ok (.invokevirtual 155, 3) := by decide +kernel
theorem dX7_likeliest_7 : decode cX7_likeliest 7 = .ok (.ifCond .ne 10, 3) := by decide +kernel
theorem dX7_likeliest_10 : decode cX7_likeliest 10 = .ok (.aload_n 0, 1) := by decide +kernel
theorem dX7_likeliest_11 : decode cX7_likeliest 11 = .ok (.ldc 158, 2) := by decide +kernel
theorem dX7_likeliest_13 : decode cX7_likeliest 13 = .ok (.invokevirtual 72, 3) := by decide +kernel
theorem dX7_likeliest_16 : decode cX7_likeliest 16 = .ok (.ireturn, 1) := by decide +kernel
theorem dX7_likeliest_17 : decode cX7_likeliest 17 = .ok (.aload_n 0, 1) := by decide +kernel
theorem dX7_likeliest_18 : decode cX7_likeliest 18 = .ok (.getfield 27, 3) := by decide +kernel
theorem dX7_likeliest_21 : decode cX7_likeliest 21 = .ok (.aload_n 0, 1) := by decide +kernel
theorem dX7_likeliest_22 : decode cX7_likeliest 22 = .ok (.getfield 27, 3) := by decide +kernel
theorem dX7_likeliest_25 : decode cX7_likeliest 25 = .ok (.invokevirtual 159, 3) := by decide +kernel
theorem dX7_likeliest_28 : decode cX7_likeliest 28 = .ok (.invokevirtual 162, 3) := by decide +kernel
theorem dX7_likeliest_31 : decode cX7_likeliest 31 = .ok (.ireturn, 1) := by decide +kernel
set_option maxRecDepth 20000 in
theorem ggX7_wore_X7_isPerson : GoodIn wsX7_wore wsX7_isPerson := goodIn_r _ [6, 7, 148, 149, 150, 151, 152, 153, 154, 155, 156, 157, 158, 159, 160, 161, 162, 163] (by decide +kernel) (by decide +kernel)
set_option maxRecDepth 20000 in
theorem gX7_wore_X7_isPerson : GoodIn wsX7_wore (wsV RX7 137 RX7 yX7_isPerson wsX7_isPerson) := goodIn_app (goodIn_of _ (by decide +kernel)) ggX7_wore_X7_isPerson
set_option maxRecDepth 20000 in
theorem ggX7_wore_X7_isHour : GoodIn wsX7_wore wsX7_isHour := goodIn_r _ [10] (by decide +kernel) (by decide +kernel)
set_option maxRecDepth 20000 in
theorem gX7_wore_X7_isHour : GoodIn wsX7_wore (va_wsS RX7 88 yX7_isHour wsX7_isHour) := goodIn_app (goodIn_of _ (by decide +kernel)) ggX7_wore_X7_isHour
set_option maxRecDepth 20000 in
theorem ggX7_wore_X7_found : GoodIn wsX7_wore wsX7_found := goodIn_r _ [14, 1, 15, 148, 149, 150, 151, 152, 153, 154, 155, 156, 157] (by decide +kernel) (by decide +kernel)
set_option maxRecDepth 20000 in
theorem gX7_wore_X7_found : GoodIn wsX7_wore (wsV RX7 72 RX7 yX7_found wsX7_found) := goodIn_app (goodIn_of _ (by decide +kernel)) ggX7_wore_X7_found
set_option maxRecDepth 20000 in
theorem ggX7_wore_X7_fresh : GoodIn wsX7_wore wsX7_fresh := goodIn_r _ [19, 20, 21, 22, 23, 24, 25, 26, 27, 28, 29, 30, 31, 32, 33, 34, 35, 36, 37, 38, 39, 40, 41, 42, 43, 44, 45, 46, 47, 48, 49, 50, 51, 52, 53, 54, 55, 56, 57, 58, 59, 60, 61, 62, 63, 64, 65, 66, 67, 68, 69, 70, 71, 72, 73, 74, 75, 76, 77, 78, 79, 80, 81, 82, 83, 84, 85, 86, 87, 88, 89, 90, 91, 92, 93, 94, 95, 96, 97, 98, 99, 100, 101, 102, 103, 104, 105, 106, 107, 5, 108, 109, 110, 111, 112, 113, 114, 115, 116, 117, 118, 119, 120, 121, 122, 123, 124, 125, 126, 127, 128, 129, 130, 131, 148, 149, 150, 151, 152, 153, 154, 155, 156, 157, 164, 165, 166, 167, 168, 169, 170, 171, 172, 173, 174, 175, 176, 177, 158, 159, 160, 161, 162, 163, 178, 179, 180, 181] (by decide +kernel) (by decide +kernel)
set_option maxRecDepth 20000 in
theorem gX7_wore_X7_fresh : GoodIn wsX7_wore (wsV RX7 143 RX7 yX7_fresh wsX7_fresh) := goodIn_app (goodIn_of _ (by decide +kernel)) ggX7_wore_X7_fresh
set_option maxRecDepth 20000 in
theorem ggX7_wore_X2_wearersOf : GoodIn wsX7_wore wsX2_wearersOf := goodIn_r _ [135, 77, 78, 79, 24, 80, 67, 136, 137, 138, 139, 128, 129, 130, 131, 36, 124, 125, 126, 127, 97, 98, 62, 107, 5, 108, 164, 165, 166, 167, 168, 169, 170, 171, 172, 173, 174, 175, 176, 177] (by decide +kernel) (by decide +kernel)
set_option maxRecDepth 20000 in
theorem gX7_wore_X2_wearersOf : GoodIn wsX7_wore (wsV RX7 165 RX2 yX2_wearersOf wsX2_wearersOf) := goodIn_app (goodIn_of _ (by decide +kernel)) ggX7_wore_X2_wearersOf
set_option maxRecDepth 20000 in
theorem ggX7_wore_X7_onlyOneOf : GoodIn wsX7_wore wsX7_onlyOneOf := goodIn_r _ [142] (by decide +kernel) (by decide +kernel)
set_option maxRecDepth 20000 in
theorem gX7_wore_X7_onlyOneOf : GoodIn wsX7_wore (va_wsS RX7 168 yX7_onlyOneOf wsX7_onlyOneOf) := goodIn_app (goodIn_of _ (by decide +kernel)) ggX7_wore_X7_onlyOneOf
set_option maxRecDepth 20000 in
theorem ggX7_wore_X7_orNone : GoodIn wsX7_wore wsX7_orNone := goodIn_r _ [146, 147, 11, 12, 13, 5, 14, 1, 15, 148, 149, 150, 151, 152, 153, 154, 155, 156, 157] (by decide +kernel) (by decide +kernel)
set_option maxRecDepth 20000 in
theorem gX7_wore_X7_orNone : GoodIn wsX7_wore (wsV RX7 171 RX7 yX7_orNone wsX7_orNone) := goodIn_app (goodIn_of _ (by decide +kernel)) ggX7_wore_X7_orNone
theorem dX7_wore_0 : decode cX7_wore 0 = .ok (.aload_n 0, 1) := by decide +kernel
theorem dX7_wore_1 : decode cX7_wore 1 = .ok (.iload_n 1, 1) := by decide +kernel
theorem dX7_wore_2 : decode cX7_wore 2 = .ok (.invokevirtual 137, 3) := by decide +kernel
theorem dX7_wore_5 : decode cX7_wore 5 = .ok (.ifCond .eq 10, 3) := by decide +kernel
theorem dX7_wore_8 : decode cX7_wore 8 = .ok (.iload_n 2, 1) := by decide +kernel
theorem dX7_wore_9 : decode cX7_wore 9 = .ok (.invokestatic 88, 3) := by decide +kernel
theorem dX7_wore_12 : decode cX7_wore 12 = .ok (.ifCond .ne 10, 3) := by decide +kernel
theorem dX7_wore_15 : decode cX7_wore 15 = .ok (.aload_n 0, 1) := by decide +kernel
theorem dX7_wore_16 : decode cX7_wore 16 = .ok (.ldc 71, 2) := by decide +kernel
theorem dX7_wore_18 : decode cX7_wore 18 = .ok (.invokevirtual 72, 3) := by decide +kernel
theorem dX7_wore_21 : decode cX7_wore 21 = .ok (.ireturn, 1) := by decide +kernel
theorem dX7_wore_22 : decode cX7_wore 22 = .ok (.aload_n 0, 1) := by decide +kernel
theorem dX7_wore_23 : decode cX7_wore 23 = .ok (.aload_n 0, 1) := by decide +kernel
theorem dX7_wore_24 : decode cX7_wore 24 = .ok (.invokevirtual 143, 3) := by decide +kernel
theorem dX7_wore_27 : decode cX7_wore 27 = .ok (.iload_n 1, 1) := by decide +kernel
theorem dX7_wore_28 : decode cX7_wore 28 = .ok (.iload_n 2, 1) := by decide +kernel
theorem dX7_wore_29 : decode cX7_wore 29 = .ok (.invokevirtual 165, 3) := by decide +kernel
theorem dX7_wore_32 : decode cX7_wore 32 = .ok (.invokestatic 168, 3) := by decide +kernel
theorem dX7_wore_35 : decode cX7_wore 35 = .ok (.invokevirtual 171, 3) := by decide +kernel
theorem dX7_wore_38 : decode cX7_wore 38 = .ok (.ireturn, 1) := by decide +kernel
set_option maxRecDepth 20000 in
theorem ggX7_may_X7_isPerson : GoodIn wsX7_may wsX7_isPerson := goodIn_r _ [6, 7, 140, 141, 142, 143, 144, 145, 146, 147, 148, 149, 150, 151, 152, 153, 154, 155] (by decide +kernel) (by decide +kernel)
set_option maxRecDepth 20000 in
theorem gX7_may_X7_isPerson : GoodIn wsX7_may (wsV RX7 137 RX7 yX7_isPerson wsX7_isPerson) := goodIn_app (goodIn_of _ (by decide +kernel)) ggX7_may_X7_isPerson
set_option maxRecDepth 20000 in
theorem ggX7_may_X7_isHour : GoodIn wsX7_may wsX7_isHour := goodIn_r _ [10] (by decide +kernel) (by decide +kernel)
set_option maxRecDepth 20000 in
theorem gX7_may_X7_isHour : GoodIn wsX7_may (va_wsS RX7 88 yX7_isHour wsX7_isHour) := goodIn_app (goodIn_of _ (by decide +kernel)) ggX7_may_X7_isHour
set_option maxRecDepth 20000 in
theorem ggX7_may_X7_found : GoodIn wsX7_may wsX7_found := goodIn_r _ [14, 1, 15, 140, 141, 142, 143, 144, 145, 146, 147, 148, 149] (by decide +kernel) (by decide +kernel)
set_option maxRecDepth 20000 in
theorem gX7_may_X7_found : GoodIn wsX7_may (wsV RX7 72 RX7 yX7_found wsX7_found) := goodIn_app (goodIn_of _ (by decide +kernel)) ggX7_may_X7_found
set_option maxRecDepth 20000 in
theorem ggX7_may_X7_fresh : GoodIn wsX7_may wsX7_fresh := goodIn_r _ [19, 20, 21, 22, 23, 24, 25, 26, 27, 28, 29, 30, 31, 32, 33, 34, 35, 36, 37, 38, 39, 40, 41, 42, 43, 44, 45, 46, 47, 48, 49, 50, 51, 52, 53, 54, 55, 56, 57, 58, 59, 60, 61, 62, 63, 64, 65, 66, 67, 68, 69, 70, 71, 72, 73, 74, 75, 76, 77, 78, 79, 80, 81, 82, 83, 84, 85, 86, 87, 88, 89, 90, 91, 92, 93, 94, 95, 96, 97, 98, 99, 100, 101, 102, 103, 104, 105, 106, 107, 5, 108, 109, 110, 111, 112, 113, 114, 115, 116, 117, 118, 119, 120, 121, 122, 123, 124, 125, 126, 127, 128, 129, 130, 131, 140, 141, 142, 143, 144, 145, 146, 147, 148, 149, 156, 157, 158, 159, 160, 161, 162, 163, 164, 165, 166, 167, 168, 169, 150, 151, 152, 153, 154, 155, 170, 171, 172, 173] (by decide +kernel) (by decide +kernel)
set_option maxRecDepth 20000 in
theorem gX7_may_X7_fresh : GoodIn wsX7_may (wsV RX7 143 RX7 yX7_fresh wsX7_fresh) := goodIn_app (goodIn_of _ (by decide +kernel)) ggX7_may_X7_fresh
set_option maxRecDepth 20000 in
theorem ggX7_may_X2_wearersOf : GoodIn wsX7_may wsX2_wearersOf := goodIn_r _ [135, 77, 78, 79, 24, 80, 67, 136, 137, 138, 139, 128, 129, 130, 131, 36, 124, 125, 126, 127, 97, 98, 62, 107, 5, 108, 156, 157, 158, 159, 160, 161, 162, 163, 164, 165, 166, 167, 168, 169] (by decide +kernel) (by decide +kernel)
set_option maxRecDepth 20000 in
theorem gX7_may_X2_wearersOf : GoodIn wsX7_may (wsV RX7 165 RX2 yX2_wearersOf wsX2_wearersOf) := goodIn_app (goodIn_of _ (by decide +kernel)) ggX7_may_X2_wearersOf
theorem dX7_may_0 : decode cX7_may 0 = .ok (.aload_n 0, 1) := by decide +kernel
theorem dX7_may_1 : decode cX7_may 1 = .ok (.iload_n 1, 1) := by decide +kernel
theorem dX7_may_2 : decode cX7_may 2 = .ok (.invokevirtual 137, 3) := by decide +kernel
theorem dX7_may_5 : decode cX7_may 5 = .ok (.ifCond .eq 10, 3) := by decide +kernel
theorem dX7_may_8 : decode cX7_may 8 = .ok (.iload_n 2, 1) := by decide +kernel
theorem dX7_may_9 : decode cX7_may 9 = .ok (.invokestatic 88, 3) := by decide +kernel
theorem dX7_may_12 : decode cX7_may 12 = .ok (.ifCond .ne 10, 3) := by decide +kernel
theorem dX7_may_15 : decode cX7_may 15 = .ok (.aload_n 0, 1) := by decide +kernel
theorem dX7_may_16 : decode cX7_may 16 = .ok (.ldc 71, 2) := by decide +kernel
theorem dX7_may_18 : decode cX7_may 18 = .ok (.invokevirtual 72, 3) := by decide +kernel
theorem dX7_may_21 : decode cX7_may 21 = .ok (.ireturn, 1) := by decide +kernel
theorem dX7_may_22 : decode cX7_may 22 = .ok (.aload_n 0, 1) := by decide +kernel
theorem dX7_may_23 : decode cX7_may 23 = .ok (.invokevirtual 143, 3) := by decide +kernel
theorem dX7_may_26 : decode cX7_may 26 = .ok (.iload_n 1, 1) := by decide +kernel
theorem dX7_may_27 : decode cX7_may 27 = .ok (.iload_n 2, 1) := by decide +kernel
theorem dX7_may_28 : decode cX7_may 28 = .ok (.invokevirtual 165, 3) := by decide +kernel
theorem dX7_may_31 : decode cX7_may 31 = .ok (.ireturn, 1) := by decide +kernel
set_option maxRecDepth 20000 in
theorem ggX7_odds_X7_isPerson : GoodIn wsX7_odds wsX7_isPerson := goodIn_r _ [6, 7, 136, 137, 138, 139, 140, 141, 142, 143, 144, 145, 146, 147, 148, 149, 150, 151] (by decide +kernel) (by decide +kernel)
set_option maxRecDepth 20000 in
theorem gX7_odds_X7_isPerson : GoodIn wsX7_odds (wsV RX7 137 RX7 yX7_isPerson wsX7_isPerson) := goodIn_app (goodIn_of _ (by decide +kernel)) ggX7_odds_X7_isPerson
set_option maxRecDepth 20000 in
theorem ggX7_odds_X7_isHour : GoodIn wsX7_odds wsX7_isHour := goodIn_r _ [10] (by decide +kernel) (by decide +kernel)
set_option maxRecDepth 20000 in
theorem gX7_odds_X7_isHour : GoodIn wsX7_odds (va_wsS RX7 88 yX7_isHour wsX7_isHour) := goodIn_app (goodIn_of _ (by decide +kernel)) ggX7_odds_X7_isHour
set_option maxRecDepth 20000 in
theorem ggX7_odds_X7_found : GoodIn wsX7_odds wsX7_found := goodIn_r _ [14, 1, 15, 136, 137, 138, 139, 140, 141, 142, 143, 144, 145] (by decide +kernel) (by decide +kernel)
set_option maxRecDepth 20000 in
theorem gX7_odds_X7_found : GoodIn wsX7_odds (wsV RX7 72 RX7 yX7_found wsX7_found) := goodIn_app (goodIn_of _ (by decide +kernel)) ggX7_odds_X7_found
set_option maxRecDepth 20000 in
theorem ggX7_odds_X7_fresh : GoodIn wsX7_odds wsX7_fresh := goodIn_r _ [19, 20, 21, 22, 23, 24, 25, 26, 27, 28, 29, 30, 31, 32, 33, 34, 35, 36, 37, 38, 39, 40, 41, 42, 43, 44, 45, 46, 47, 48, 49, 50, 51, 52, 53, 54, 55, 56, 57, 58, 59, 60, 61, 62, 63, 64, 65, 66, 67, 68, 69, 70, 71, 72, 73, 74, 75, 76, 77, 78, 79, 80, 81, 82, 83, 84, 85, 86, 87, 88, 89, 90, 91, 92, 93, 94, 95, 96, 97, 98, 99, 100, 101, 102, 103, 104, 105, 106, 107, 5, 108, 109, 110, 111, 112, 113, 114, 115, 116, 117, 118, 119, 120, 121, 122, 123, 124, 125, 126, 127, 128, 129, 130, 131, 136, 137, 138, 139, 140, 141, 142, 143, 144, 145, 152, 153, 154, 155, 156, 157, 158, 159, 160, 161, 162, 163, 164, 165, 146, 147, 148, 149, 150, 151, 166, 167, 168, 169] (by decide +kernel) (by decide +kernel)
set_option maxRecDepth 20000 in
theorem gX7_odds_X7_fresh : GoodIn wsX7_odds (wsV RX7 143 RX7 yX7_fresh wsX7_fresh) := goodIn_app (goodIn_of _ (by decide +kernel)) ggX7_odds_X7_fresh
set_option maxRecDepth 20000 in
theorem ggX7_odds_X2_oddsOf : GoodIn wsX7_odds wsX2_oddsOf := goodIn_r _ [135, 77, 78, 79, 24, 80, 67, 124, 125, 126, 127, 97, 98, 62, 107, 5, 108, 128, 129, 130, 131, 36, 152, 153, 154, 155, 156, 157, 158, 159, 160, 161, 162, 163, 164, 165] (by decide +kernel) (by decide +kernel)
set_option maxRecDepth 20000 in
theorem gX7_odds_X2_oddsOf : GoodIn wsX7_odds (wsV RX7 174 RX2 yX2_oddsOf wsX2_oddsOf) := goodIn_app (goodIn_of _ (by decide +kernel)) ggX7_odds_X2_oddsOf
theorem dX7_odds_0 : decode cX7_odds 0 = .ok (.aload_n 0, 1) := by decide +kernel
theorem dX7_odds_1 : decode cX7_odds 1 = .ok (.iload_n 1, 1) := by decide +kernel
theorem dX7_odds_2 : decode cX7_odds 2 = .ok (.invokevirtual 137, 3) := by decide +kernel
theorem dX7_odds_5 : decode cX7_odds 5 = .ok (.ifCond .eq 18, 3) := by decide +kernel
theorem dX7_odds_8 : decode cX7_odds 8 = .ok (.aload_n 0, 1) := by decide +kernel
theorem dX7_odds_9 : decode cX7_odds 9 = .ok (.iload_n 2, 1) := by decide +kernel
theorem dX7_odds_10 : decode cX7_odds 10 = .ok (.invokevirtual 137, 3) := by decide +kernel
theorem dX7_odds_13 : decode cX7_odds 13 = .ok (.ifCond .eq 10, 3) := by decide +kernel
theorem dX7_odds_16 : decode cX7_odds 16 = .ok (.iload_n 3, 1) := by decide +kernel
theorem dX7_odds_17 : decode cX7_odds 17 = .ok (.invokestatic 88, 3) := by decide +kernel
theorem dX7_odds_20 : decode cX7_odds 20 = .ok (.ifCond .ne 11, 3) := by decide +kernel
theorem dX7_odds_23 : decode cX7_odds 23 = .ok (.aload_n 0, 1) := by decide +kernel
theorem dX7_odds_24 : decode cX7_odds 24 = .ok (.ldc 71, 2) := by decide +kernel
theorem dX7_odds_26 : decode cX7_odds 26 = .ok (.invokevirtual 72, 3) := by decide +kernel
theorem dX7_odds_29 : decode cX7_odds 29 = .ok (.i2l, 1) := by decide +kernel
theorem dX7_odds_30 : decode cX7_odds 30 = .ok (.lreturn, 1) := by decide +kernel
theorem dX7_odds_31 : decode cX7_odds 31 = .ok (.aload_n 0, 1) := by decide +kernel
theorem dX7_odds_32 : decode cX7_odds 32 = .ok (.invokevirtual 143, 3) := by decide +kernel
theorem dX7_odds_35 : decode cX7_odds 35 = .ok (.iload_n 1, 1) := by decide +kernel
theorem dX7_odds_36 : decode cX7_odds 36 = .ok (.iload_n 2, 1) := by decide +kernel
theorem dX7_odds_37 : decode cX7_odds 37 = .ok (.iload_n 3, 1) := by decide +kernel
theorem dX7_odds_38 : decode cX7_odds 38 = .ok (.invokevirtual 174, 3) := by decide +kernel
theorem dX7_odds_41 : decode cX7_odds 41 = .ok (.lreturn, 1) := by decide +kernel
set_option maxRecDepth 20000 in
theorem ggX7_behind_X7_isPerson : GoodIn wsX7_behind wsX7_isPerson := goodIn_r _ [6, 7, 150, 151, 152, 153, 154, 155, 156, 157, 158, 159, 160, 161, 162, 163, 164, 165] (by decide +kernel) (by decide +kernel)
set_option maxRecDepth 20000 in
theorem gX7_behind_X7_isPerson : GoodIn wsX7_behind (wsV RX7 137 RX7 yX7_isPerson wsX7_isPerson) := goodIn_app (goodIn_of _ (by decide +kernel)) ggX7_behind_X7_isPerson
set_option maxRecDepth 20000 in
theorem ggX7_behind_X7_isHour : GoodIn wsX7_behind wsX7_isHour := goodIn_r _ [10] (by decide +kernel) (by decide +kernel)
set_option maxRecDepth 20000 in
theorem gX7_behind_X7_isHour : GoodIn wsX7_behind (va_wsS RX7 88 yX7_isHour wsX7_isHour) := goodIn_app (goodIn_of _ (by decide +kernel)) ggX7_behind_X7_isHour
set_option maxRecDepth 20000 in
theorem ggX7_behind_X7_found : GoodIn wsX7_behind wsX7_found := goodIn_r _ [14, 1, 15, 150, 151, 152, 153, 154, 155, 156, 157, 158, 159] (by decide +kernel) (by decide +kernel)
set_option maxRecDepth 20000 in
theorem gX7_behind_X7_found : GoodIn wsX7_behind (wsV RX7 72 RX7 yX7_found wsX7_found) := goodIn_app (goodIn_of _ (by decide +kernel)) ggX7_behind_X7_found
set_option maxRecDepth 20000 in
theorem ggX7_behind_X7_fresh : GoodIn wsX7_behind wsX7_fresh := goodIn_r _ [19, 20, 21, 22, 23, 24, 25, 26, 27, 28, 29, 30, 31, 32, 33, 34, 35, 36, 37, 38, 39, 40, 41, 42, 43, 44, 45, 46, 47, 48, 49, 50, 51, 52, 53, 54, 55, 56, 57, 58, 59, 60, 61, 62, 63, 64, 65, 66, 67, 68, 69, 70, 71, 72, 73, 74, 75, 76, 77, 78, 79, 80, 81, 82, 83, 84, 85, 86, 87, 88, 89, 90, 91, 92, 93, 94, 95, 96, 97, 98, 99, 100, 101, 102, 103, 104, 105, 106, 107, 5, 108, 109, 110, 111, 112, 113, 114, 115, 116, 117, 118, 119, 120, 121, 122, 123, 124, 125, 126, 127, 128, 129, 130, 131, 150, 151, 152, 153, 154, 155, 156, 157, 158, 159, 166, 167, 168, 169, 170, 171, 172, 173, 174, 175, 176, 177, 178, 179, 160, 161, 162, 163, 164, 165, 180, 181, 182, 183] (by decide +kernel) (by decide +kernel)
set_option maxRecDepth 20000 in
theorem gX7_behind_X7_fresh : GoodIn wsX7_behind (wsV RX7 143 RX7 yX7_fresh wsX7_fresh) := goodIn_app (goodIn_of _ (by decide +kernel)) ggX7_behind_X7_fresh
set_option maxRecDepth 20000 in
theorem ggX7_behind_X2_masksOf : GoodIn wsX7_behind wsX2_masksOf := goodIn_r _ [135, 77, 78, 79, 24, 80, 67, 136, 137, 138, 139, 128, 129, 130, 131, 36, 124, 125, 126, 127, 97, 98, 62, 140, 5, 141, 115, 107, 108, 166, 167, 168, 169, 170, 171, 172, 173, 174, 175, 176, 177, 178, 179] (by decide +kernel) (by decide +kernel)
set_option maxRecDepth 20000 in
theorem gX7_behind_X2_masksOf : GoodIn wsX7_behind (wsV RX7 178 RX2 yX2_masksOf wsX2_masksOf) := goodIn_app (goodIn_of _ (by decide +kernel)) ggX7_behind_X2_masksOf
set_option maxRecDepth 20000 in
theorem ggX7_behind_X7_onlyOneOf : GoodIn wsX7_behind wsX7_onlyOneOf := goodIn_r _ [144] (by decide +kernel) (by decide +kernel)
set_option maxRecDepth 20000 in
theorem gX7_behind_X7_onlyOneOf : GoodIn wsX7_behind (va_wsS RX7 168 yX7_onlyOneOf wsX7_onlyOneOf) := goodIn_app (goodIn_of _ (by decide +kernel)) ggX7_behind_X7_onlyOneOf
set_option maxRecDepth 20000 in
theorem ggX7_behind_X7_orNone : GoodIn wsX7_behind wsX7_orNone := goodIn_r _ [148, 149, 11, 12, 13, 5, 14, 1, 15, 150, 151, 152, 153, 154, 155, 156, 157, 158, 159] (by decide +kernel) (by decide +kernel)
set_option maxRecDepth 20000 in
theorem gX7_behind_X7_orNone : GoodIn wsX7_behind (wsV RX7 171 RX7 yX7_orNone wsX7_orNone) := goodIn_app (goodIn_of _ (by decide +kernel)) ggX7_behind_X7_orNone
theorem dX7_behind_0 : decode cX7_behind 0 = .ok (.aload_n 0, 1) := by decide +kernel
theorem dX7_behind_1 : decode cX7_behind 1 = .ok (.iload_n 1, 1) := by decide +kernel
theorem dX7_behind_2 : decode cX7_behind 2 = .ok (.invokevirtual 137, 3) := by decide +kernel
theorem dX7_behind_5 : decode cX7_behind 5 = .ok (.ifCond .eq 10, 3) := by decide +kernel
theorem dX7_behind_8 : decode cX7_behind 8 = .ok (.iload_n 2, 1) := by decide +kernel
theorem dX7_behind_9 : decode cX7_behind 9 = .ok (.invokestatic 88, 3) := by decide +kernel
theorem dX7_behind_12 : decode cX7_behind 12 = .ok (.ifCond .ne 10, 3) := by decide +kernel
theorem dX7_behind_15 : decode cX7_behind 15 = .ok (.aload_n 0, 1) := by decide +kernel
theorem dX7_behind_16 : decode cX7_behind 16 = .ok (.ldc 71, 2) := by decide +kernel
theorem dX7_behind_18 : decode cX7_behind 18 = .ok (.invokevirtual 72, 3) := by decide +kernel
theorem dX7_behind_21 : decode cX7_behind 21 = .ok (.ireturn, 1) := by decide +kernel
theorem dX7_behind_22 : decode cX7_behind 22 = .ok (.aload_n 0, 1) := by decide +kernel
theorem dX7_behind_23 : decode cX7_behind 23 = .ok (.aload_n 0, 1) := by decide +kernel
theorem dX7_behind_24 : decode cX7_behind 24 = .ok (.invokevirtual 143, 3) := by decide +kernel
theorem dX7_behind_27 : decode cX7_behind 27 = .ok (.iload_n 1, 1) := by decide +kernel
theorem dX7_behind_28 : decode cX7_behind 28 = .ok (.iload_n 2, 1) := by decide +kernel
theorem dX7_behind_29 : decode cX7_behind 29 = .ok (.invokevirtual 178, 3) := by decide +kernel
theorem dX7_behind_32 : decode cX7_behind 32 = .ok (.invokestatic 168, 3) := by decide +kernel
theorem dX7_behind_35 : decode cX7_behind 35 = .ok (.invokevirtual 171, 3) := by decide +kernel
theorem dX7_behind_38 : decode cX7_behind 38 = .ok (.ireturn, 1) := by decide +kernel
set_option maxRecDepth 20000 in
theorem ggX7_met_X7_isPerson : GoodIn wsX7_met wsX7_isPerson := goodIn_r _ [6, 7, 133, 134, 135, 136, 137, 138, 139, 140, 141, 142, 143, 144, 145, 146, 147, 148] (by decide +kernel) (by decide +kernel)
set_option maxRecDepth 20000 in
theorem gX7_met_X7_isPerson : GoodIn wsX7_met (wsV RX7 137 RX7 yX7_isPerson wsX7_isPerson) := goodIn_app (goodIn_of _ (by decide +kernel)) ggX7_met_X7_isPerson
set_option maxRecDepth 20000 in
theorem ggX7_met_X7_found : GoodIn wsX7_met wsX7_found := goodIn_r _ [11, 1, 12, 133, 134, 135, 136, 137, 138, 139, 140, 141, 142] (by decide +kernel) (by decide +kernel)
set_option maxRecDepth 20000 in
theorem gX7_met_X7_found : GoodIn wsX7_met (wsV RX7 72 RX7 yX7_found wsX7_found) := goodIn_app (goodIn_of _ (by decide +kernel)) ggX7_met_X7_found
set_option maxRecDepth 20000 in
theorem ggX7_met_X7_fresh : GoodIn wsX7_met wsX7_fresh := goodIn_r _ [16, 17, 18, 19, 20, 21, 22, 23, 24, 25, 26, 27, 28, 29, 30, 31, 32, 33, 34, 35, 36, 37, 38, 39, 40, 41, 42, 43, 44, 45, 46, 47, 48, 49, 50, 51, 52, 53, 54, 55, 56, 57, 58, 59, 60, 61, 62, 63, 64, 65, 66, 67, 68, 69, 70, 71, 72, 73, 74, 75, 76, 77, 78, 79, 80, 81, 82, 83, 84, 85, 86, 87, 88, 89, 90, 91, 92, 93, 94, 95, 96, 97, 98, 99, 100, 101, 102, 103, 104, 5, 105, 106, 107, 108, 109, 110, 111, 112, 113, 114, 115, 116, 117, 118, 119, 120, 121, 122, 123, 124, 125, 126, 127, 128, 133, 134, 135, 136, 137, 138, 139, 140, 141, 142, 149, 150, 151, 152, 153, 154, 155, 156, 157, 158, 159, 160, 161, 162, 143, 144, 145, 146, 147, 148, 163, 164, 165, 166] (by decide +kernel) (by decide +kernel)
set_option maxRecDepth 20000 in
theorem gX7_met_X7_fresh : GoodIn wsX7_met (wsV RX7 143 RX7 yX7_fresh wsX7_fresh) := goodIn_app (goodIn_of _ (by decide +kernel)) ggX7_met_X7_fresh
set_option maxRecDepth 20000 in
theorem ggX7_met_X2_metBy : GoodIn wsX7_met wsX2_metBy := goodIn_r _ [132, 32, 149, 150, 151, 152, 153, 154, 155, 156, 157, 158, 159, 160, 161, 162] (by decide +kernel) (by decide +kernel)
set_option maxRecDepth 20000 in
theorem gX7_met_X2_metBy : GoodIn wsX7_met (wsV RX7 181 RX2 yX2_metBy wsX2_metBy) := goodIn_app (goodIn_of _ (by decide +kernel)) ggX7_met_X2_metBy
theorem dX7_met_0 : decode cX7_met 0 = .ok (.aload_n 0, 1) := by decide +kernel
theorem dX7_met_1 : decode cX7_met 1 = .ok (.iload_n 1, 1) := by decide +kernel
theorem dX7_met_2 : decode cX7_met 2 = .ok (.invokevirtual 137, 3) := by decide +kernel
theorem dX7_met_5 : decode cX7_met 5 = .ok (.ifCond .ne 10, 3) := by decide +kernel
theorem dX7_met_8 : decode cX7_met 8 = .ok (.aload_n 0, 1) := by decide +kernel
theorem dX7_met_9 : decode cX7_met 9 = .ok (.ldc 71, 2) := by decide +kernel
theorem dX7_met_11 : decode cX7_met 11 = .ok (.invokevirtual 72, 3) := by decide +kernel
theorem dX7_met_14 : decode cX7_met 14 = .ok (.ireturn, 1) := by decide +kernel
theorem dX7_met_15 : decode cX7_met 15 = .ok (.aload_n 0, 1) := by decide +kernel
theorem dX7_met_16 : decode cX7_met 16 = .ok (.invokevirtual 143, 3) := by decide +kernel
theorem dX7_met_19 : decode cX7_met 19 = .ok (.iload_n 1, 1) := by decide +kernel
theorem dX7_met_20 : decode cX7_met 20 = .ok (.invokevirtual 181, 3) := by decide +kernel
theorem dX7_met_23 : decode cX7_met 23 = .ok (.ireturn, 1) := by decide +kernel
set_option maxRecDepth 20000 in
theorem ggX7_lie_X7_fresh : GoodIn wsX7_lie wsX7_fresh := goodIn_r _ [5, 6, 7, 8, 9, 10, 11, 12, 13, 14, 15, 16, 17, 18, 19, 20, 21, 22, 23, 24, 25, 26, 27, 28, 29, 30, 31, 32, 33, 34, 35, 36, 37, 38, 39, 40, 41, 42, 43, 44, 45, 46, 47, 48, 49, 50, 51, 52, 53, 54, 55, 56, 57, 58, 59, 60, 61, 62, 63, 64, 65, 66, 67, 68, 69, 70, 71, 72, 73, 74, 75, 76, 77, 78, 79, 80, 81, 82, 83, 84, 85, 86, 87, 88, 89, 90, 91, 92, 93, 4, 94, 95, 96, 97, 98, 99, 100, 101, 102, 103, 104, 105, 106, 107, 108, 109, 110, 111, 112, 113, 114, 115, 116, 117, 133, 134, 135, 136, 137, 138, 139, 140, 141, 142, 143, 144, 145, 146, 147, 148, 149, 150, 151, 152, 153, 154, 155, 156, 157, 158, 159, 160, 161, 162, 163, 164, 165, 166] (by decide +kernel) (by decide +kernel)
set_option maxRecDepth 20000 in
theorem gX7_lie_X7_fresh : GoodIn wsX7_lie (wsV RX7 143 RX7 yX7_fresh wsX7_fresh) := goodIn_app (goodIn_of _ (by decide +kernel)) ggX7_lie_X7_fresh
set_option maxRecDepth 20000 in
theorem ggX7_lie_X2_firstLie : GoodIn wsX7_lie wsX2_firstLie := goodIn_r _ [121, 20, 13, 23, 24, 25, 26, 27, 28, 143, 144, 145, 146, 147, 148, 149, 150, 151, 152, 153, 154, 155, 156, 157, 158, 159, 160, 161, 162, 163, 164, 165, 166] (by decide +kernel) (by decide +kernel)
set_option maxRecDepth 20000 in
theorem gX7_lie_X2_firstLie : GoodIn wsX7_lie (wsV RX7 184 RX2 yX2_firstLie wsX2_firstLie) := goodIn_app (goodIn_of _ (by decide +kernel)) ggX7_lie_X2_firstLie
set_option maxRecDepth 20000 in
theorem ggX7_lie_X7_orNone : GoodIn wsX7_lie wsX7_orNone := goodIn_r _ [125, 126, 127, 128, 129, 4, 130, 131, 132, 133, 134, 135, 136, 137, 138, 139, 140, 141, 142] (by decide +kernel) (by decide +kernel)
set_option maxRecDepth 20000 in
theorem gX7_lie_X7_orNone : GoodIn wsX7_lie (wsV RX7 171 RX7 yX7_orNone wsX7_orNone) := goodIn_app (goodIn_of _ (by decide +kernel)) ggX7_lie_X7_orNone
theorem dX7_lie_0 : decode cX7_lie 0 = .ok (.aload_n 0, 1) := by decide +kernel
theorem dX7_lie_1 : decode cX7_lie 1 = .ok (.aload_n 0, 1) := by decide +kernel
theorem dX7_lie_2 : decode cX7_lie 2 = .ok (.invokevirtual 143, 3) := by decide +kernel
theorem dX7_lie_5 : decode cX7_lie 5 = .ok (.invokevirtual 184, 3) := by decide +kernel
theorem dX7_lie_8 : decode cX7_lie 8 = .ok (.invokevirtual 171, 3) := by decide +kernel
theorem dX7_lie_11 : decode cX7_lie 11 = .ok (.ireturn, 1) := by decide +kernel
set_option maxRecDepth 20000 in
theorem ggX7_deed_X7_isKind : GoodIn wsX7_deed wsX7_isKind := goodIn_r _ [7] (by decide +kernel) (by decide +kernel)
set_option maxRecDepth 20000 in
theorem gX7_deed_X7_isKind : GoodIn wsX7_deed (va_wsS RX7 187 yX7_isKind wsX7_isKind) := goodIn_app (goodIn_of _ (by decide +kernel)) ggX7_deed_X7_isKind
set_option maxRecDepth 20000 in
theorem ggX7_deed_X7_isHour : GoodIn wsX7_deed wsX7_isHour := goodIn_r _ [10] (by decide +kernel) (by decide +kernel)
set_option maxRecDepth 20000 in
theorem gX7_deed_X7_isHour : GoodIn wsX7_deed (va_wsS RX7 88 yX7_isHour wsX7_isHour) := goodIn_app (goodIn_of _ (by decide +kernel)) ggX7_deed_X7_isHour
set_option maxRecDepth 20000 in
theorem ggX7_deed_X7_areUnlike : GoodIn wsX7_deed wsX7_areUnlike := goodIn_r _ [14, 15, 16, 17, 6, 18, 2, 49, 50, 51, 52, 53, 54, 55, 56, 57, 58, 59, 60, 61, 62, 63, 64] (by decide +kernel) (by decide +kernel)
set_option maxRecDepth 20000 in
theorem gX7_deed_X7_areUnlike : GoodIn wsX7_deed (wsV RX7 92 RX7 yX7_areUnlike wsX7_areUnlike) := goodIn_app (goodIn_of _ (by decide +kernel)) ggX7_deed_X7_areUnlike
set_option maxRecDepth 20000 in
theorem ggX7_deed_X7_found : GoodIn wsX7_deed wsX7_found := goodIn_r _ [22, 1, 23, 49, 50, 51, 52, 53, 54, 55, 56, 57, 58] (by decide +kernel) (by decide +kernel)
set_option maxRecDepth 20000 in
theorem gX7_deed_X7_found : GoodIn wsX7_deed (wsV RX7 72 RX7 yX7_found wsX7_found) := goodIn_app (goodIn_of _ (by decide +kernel)) ggX7_deed_X7_found
set_option maxRecDepth 20000 in
theorem ggX7_deed_X4_isFull : GoodIn wsX7_deed wsX4_isFull := goodIn_r _ [28, 29, 30, 65, 66, 67, 68] (by decide +kernel) (by decide +kernel)
set_option maxRecDepth 20000 in
theorem gX7_deed_X4_isFull : GoodIn wsX7_deed (wsV RX7 103 RX4 yX4_isFull wsX4_isFull) := goodIn_app (goodIn_of _ (by decide +kernel)) ggX7_deed_X4_isFull
set_option maxRecDepth 20000 in
theorem ggX7_deed_X0_addDeed : GoodIn wsX7_deed wsX0_addDeed := goodIn_r _ [35, 36, 37, 38, 39, 27, 40, 29, 41, 25, 26, 28, 30, 42, 43, 44, 45, 46, 47, 48, 59, 60, 61, 62, 63, 64, 65, 66, 67, 68] (by decide +kernel) (by decide +kernel)
set_option maxRecDepth 20000 in
theorem gX7_deed_X0_addDeed : GoodIn wsX7_deed (wsV RX7 193 RX0 yX0_addDeed wsX0_addDeed) := goodIn_app (goodIn_of _ (by decide +kernel)) ggX7_deed_X0_addDeed
theorem dX7_deed_0 : decode cX7_deed 0 = .ok (.iload_n 1, 1) := by decide +kernel
theorem dX7_deed_1 : decode cX7_deed 1 = .ok (.invokestatic 187, 3) := by decide +kernel
theorem dX7_deed_4 : decode cX7_deed 4 = .ok (.ifCond .eq 33, 3) := by decide +kernel
theorem dX7_deed_7 : decode cX7_deed 7 = .ok (.iload_n 2, 1) := by decide +kernel
theorem dX7_deed_8 : decode cX7_deed 8 = .ok (.invokestatic 88, 3) := by decide +kernel
theorem dX7_deed_11 : decode cX7_deed 11 = .ok (.ifCond .eq 26, 3) := by decide +kernel
theorem dX7_deed_14 : decode cX7_deed 14 = .ok (.aload_n 0, 1) := by decide +kernel
theorem dX7_deed_15 : decode cX7_deed 15 = .ok (.iload_n 3, 1) := by decide +kernel
theorem dX7_deed_16 : decode cX7_deed 16 = .ok (.iload 4, 2) := by decide +kernel
theorem dX7_deed_18 : decode cX7_deed 18 = .ok (.invokevirtual 92, 3) := by decide +kernel
theorem dX7_deed_21 : decode cX7_deed 21 = .ok (.ifCond .eq 16, 3) := by decide +kernel
theorem dX7_deed_24 : decode cX7_deed 24 = .ok (.iload 5, 2) := by decide +kernel
theorem dX7_deed_26 : decode cX7_deed 26 = .ok (.ifCond .lt 11, 3) := by decide +kernel
theorem dX7_deed_29 : decode cX7_deed 29 = .ok (.iload 5, 2) := by decide +kernel
theorem dX7_deed_31 : decode cX7_deed 31 = .ok (.sipush 1000, 3) := by decide +kernel
theorem dX7_deed_34 : decode cX7_deed 34 = .ok (.if_icmp .lt 10, 3) := by decide +kernel
theorem dX7_deed_37 : decode cX7_deed 37 = .ok (.aload_n 0, 1) := by decide +kernel
theorem dX7_deed_38 : decode cX7_deed 38 = .ok (.ldc 71, 2) := by decide +kernel
theorem dX7_deed_40 : decode cX7_deed 40 = .ok (.invokevirtual 72, 3) := by decide +kernel
theorem dX7_deed_43 : decode cX7_deed 43 = .ok (.ireturn, 1) := by decide +kernel
theorem dX7_deed_44 : decode cX7_deed 44 = .ok (.aload_n 0, 1) := by decide +kernel
theorem dX7_deed_45 : decode cX7_deed 45 = .ok (.getfield 10, 3) := by decide +kernel
theorem dX7_deed_48 : decode cX7_deed 48 = .ok (.getfield 190, 3) := by decide +kernel
theorem dX7_deed_51 : decode cX7_deed 51 = .ok (.invokevirtual 103, 3) := by decide +kernel
theorem dX7_deed_54 : decode cX7_deed 54 = .ok (.ifCond .eq 10, 3) := by decide +kernel
theorem dX7_deed_57 : decode cX7_deed 57 = .ok (.aload_n 0, 1) := by decide +kernel
theorem dX7_deed_58 : decode cX7_deed 58 = .ok (.ldc 111, 2) := by decide +kernel
theorem dX7_deed_60 : decode cX7_deed 60 = .ok (.invokevirtual 72, 3) := by decide +kernel
theorem dX7_deed_63 : decode cX7_deed 63 = .ok (.ireturn, 1) := by decide +kernel
theorem dX7_deed_64 : decode cX7_deed 64 = .ok (.aload_n 0, 1) := by decide +kernel
theorem dX7_deed_65 : decode cX7_deed 65 = .ok (.getfield 10, 3) := by decide +kernel
theorem dX7_deed_68 : decode cX7_deed 68 = .ok (.iload_n 1, 1) := by decide +kernel
theorem dX7_deed_69 : decode cX7_deed 69 = .ok (.iload_n 2, 1) := by decide +kernel
theorem dX7_deed_70 : decode cX7_deed 70 = .ok (.iload_n 3, 1) := by decide +kernel
theorem dX7_deed_71 : decode cX7_deed 71 = .ok (.iload 4, 2) := by decide +kernel
theorem dX7_deed_73 : decode cX7_deed 73 = .ok (.iload 5, 2) := by decide +kernel
theorem dX7_deed_75 : decode cX7_deed 75 = .ok (.invokevirtual 193, 3) := by decide +kernel
theorem dX7_deed_78 : decode cX7_deed 78 = .ok (.ireturn, 1) := by decide +kernel
set_option maxRecDepth 20000 in
theorem ggX7_deedOf_X4_has : GoodIn wsX7_deedOf wsX4_has := goodIn_r _ [8, 9, 59, 60, 61, 62] (by decide +kernel) (by decide +kernel)
set_option maxRecDepth 20000 in
theorem gX7_deedOf_X4_has : GoodIn wsX7_deedOf (wsV RX7 116 RX4 yX4_has wsX4_has) := goodIn_app (goodIn_of _ (by decide +kernel)) ggX7_deedOf_X4_has
set_option maxRecDepth 20000 in
theorem ggX7_deedOf_X7_found : GoodIn wsX7_deedOf wsX7_found := goodIn_r _ [14, 2, 15, 43, 44, 45, 46, 47, 48, 49, 50, 51, 52] (by decide +kernel) (by decide +kernel)
set_option maxRecDepth 20000 in
theorem gX7_deedOf_X7_found : GoodIn wsX7_deedOf (wsV RX7 72 RX7 yX7_found wsX7_found) := goodIn_app (goodIn_of _ (by decide +kernel)) ggX7_deedOf_X7_found
set_option maxRecDepth 20000 in
theorem ggX7_deedOf_X1_paysOf : GoodIn wsX7_deedOf wsX1_paysOf := goodIn_r _ [20, 21, 22, 23, 19, 24, 25, 26, 27, 28, 7, 29, 9, 30, 31, 63, 64, 65, 66, 53, 54, 55, 56, 57, 58, 59, 60, 61, 62] (by decide +kernel) (by decide +kernel)
set_option maxRecDepth 20000 in
theorem gX7_deedOf_X1_paysOf : GoodIn wsX7_deedOf (wsV RX7 197 RX1 yX1_paysOf wsX1_paysOf) := goodIn_app (goodIn_of _ (by decide +kernel)) ggX7_deedOf_X1_paysOf
set_option maxRecDepth 20000 in
theorem ggX7_deedOf_X1_binds : GoodIn wsX7_deedOf wsX1_binds := goodIn_r _ [35, 21, 22, 23, 19, 24, 25, 26, 27, 28, 7, 29, 9, 30, 31, 36, 13, 37, 38, 39, 40, 41, 63, 64, 65, 66, 53, 54, 55, 56, 57, 58, 59, 60, 61, 62] (by decide +kernel) (by decide +kernel)
set_option maxRecDepth 20000 in
theorem gX7_deedOf_X1_binds : GoodIn wsX7_deedOf (wsV RX7 200 RX1 yX1_binds wsX1_binds) := goodIn_app (goodIn_of _ (by decide +kernel)) ggX7_deedOf_X1_binds
set_option maxRecDepth 20000 in
theorem ggX7_deedOf_X4_cell : GoodIn wsX7_deedOf wsX4_cell := goodIn_r _ [29, 9, 30, 31, 59, 60, 61, 62] (by decide +kernel) (by decide +kernel)
set_option maxRecDepth 20000 in
theorem gX7_deedOf_X4_cell : GoodIn wsX7_deedOf (wsV RX7 119 RX4 yX4_cell wsX4_cell) := goodIn_app (goodIn_of _ (by decide +kernel)) ggX7_deedOf_X4_cell
theorem dX7_deedOf_0 : decode cX7_deedOf 0 = .ok (.aload_n 0, 1) := by decide +kernel
theorem dX7_deedOf_1 : decode cX7_deedOf 1 = .ok (.getfield 10, 3) := by decide +kernel
theorem dX7_deedOf_4 : decode cX7_deedOf 4 = .ok (.getfield 190, 3) := by decide +kernel
theorem dX7_deedOf_7 : decode cX7_deedOf 7 = .ok (.iload_n 1, 1) := by decide +kernel
theorem dX7_deedOf_8 : decode cX7_deedOf 8 = .ok (.invokevirtual 116, 3) := by decide +kernel
theorem dX7_deedOf_11 : decode cX7_deedOf 11 = .ok (.ifCond .ne 10, 3) := by decide +kernel
theorem dX7_deedOf_14 : decode cX7_deedOf 14 = .ok (.aload_n 0, 1) := by decide +kernel
theorem dX7_deedOf_15 : decode cX7_deedOf 15 = .ok (.ldc 71, 2) := by decide +kernel
theorem dX7_deedOf_17 : decode cX7_deedOf 17 = .ok (.invokevirtual 72, 3) := by decide +kernel
theorem dX7_deedOf_20 : decode cX7_deedOf 20 = .ok (.ireturn, 1) := by decide +kernel
theorem dX7_deedOf_21 : decode cX7_deedOf 21 = .ok (.iload_n 2, 1) := by decide +kernel
theorem dX7_deedOf_22 : decode cX7_deedOf 22 = .ok (.iconst 5, 1) := by decide +kernel
theorem dX7_deedOf_23 : decode cX7_deedOf 23 = .ok (.if_icmp .ne 12, 3) := by decide +kernel
theorem dX7_deedOf_26 : decode cX7_deedOf 26 = .ok (.aload_n 0, 1) := by decide +kernel
theorem dX7_deedOf_27 : decode cX7_deedOf 27 = .ok (.getfield 36, 3) := by decide +kernel
theorem dX7_deedOf_30 : decode cX7_deedOf 30 = .ok (.iload_n 1, 1) := by decide +kernel
theorem dX7_deedOf_31 : decode cX7_deedOf 31 = .ok (.invokevirtual 197, 3) := by decide +kernel
theorem dX7_deedOf_34 : decode cX7_deedOf 34 = .ok (.ireturn, 1) := by decide +kernel
theorem dX7_deedOf_35 : decode cX7_deedOf 35 = .ok (.iload_n 2, 1) := by decide +kernel
theorem dX7_deedOf_36 : decode cX7_deedOf 36 = .ok (.bipush 6, 2) := by decide +kernel
theorem dX7_deedOf_38 : decode cX7_deedOf 38 = .ok (.if_icmp .ne 20, 3) := by decide +kernel
theorem dX7_deedOf_41 : decode cX7_deedOf 41 = .ok (.aload_n 0, 1) := by decide +kernel
theorem dX7_deedOf_42 : decode cX7_deedOf 42 = .ok (.getfield 36, 3) := by decide +kernel
theorem dX7_deedOf_45 : decode cX7_deedOf 45 = .ok (.iload_n 1, 1) := by decide +kernel
theorem dX7_deedOf_46 : decode cX7_deedOf 46 = .ok (.invokevirtual 200, 3) := by decide +kernel
theorem dX7_deedOf_49 : decode cX7_deedOf 49 = .ok (.ifCond .eq 7, 3) := by decide +kernel
theorem dX7_deedOf_52 : decode cX7_deedOf 52 = .ok (.iconst 1, 1) := by decide +kernel
theorem dX7_deedOf_53 : decode cX7_deedOf 53 = .ok (.goto 4, 3) := by decide +kernel
theorem dX7_deedOf_56 : decode cX7_deedOf 56 = .ok (.iconst 0, 1) := by decide +kernel
theorem dX7_deedOf_57 : decode cX7_deedOf 57 = .ok (.ireturn, 1) := by decide +kernel
theorem dX7_deedOf_58 : decode cX7_deedOf 58 = .ok (.iload_n 2, 1) := by decide +kernel
theorem dX7_deedOf_59 : decode cX7_deedOf 59 = .ok (.ifCond .lt 8, 3) := by decide +kernel
theorem dX7_deedOf_62 : decode cX7_deedOf 62 = .ok (.iload_n 2, 1) := by decide +kernel
theorem dX7_deedOf_63 : decode cX7_deedOf 63 = .ok (.iconst 5, 1) := by decide +kernel
theorem dX7_deedOf_64 : decode cX7_deedOf 64 = .ok (.if_icmp .lt 10, 3) := by decide +kernel
theorem dX7_deedOf_67 : decode cX7_deedOf 67 = .ok (.aload_n 0, 1) := by decide +kernel
theorem dX7_deedOf_68 : decode cX7_deedOf 68 = .ok (.ldc 71, 2) := by decide +kernel
theorem dX7_deedOf_70 : decode cX7_deedOf 70 = .ok (.invokevirtual 72, 3) := by decide +kernel
theorem dX7_deedOf_73 : decode cX7_deedOf 73 = .ok (.ireturn, 1) := by decide +kernel
theorem dX7_deedOf_74 : decode cX7_deedOf 74 = .ok (.aload_n 0, 1) := by decide +kernel
theorem dX7_deedOf_75 : decode cX7_deedOf 75 = .ok (.getfield 10, 3) := by decide +kernel
theorem dX7_deedOf_78 : decode cX7_deedOf 78 = .ok (.getfield 190, 3) := by decide +kernel
theorem dX7_deedOf_81 : decode cX7_deedOf 81 = .ok (.iload_n 1, 1) := by decide +kernel
theorem dX7_deedOf_82 : decode cX7_deedOf 82 = .ok (.iload_n 2, 1) := by decide +kernel
theorem dX7_deedOf_83 : decode cX7_deedOf 83 = .ok (.invokevirtual 119, 3) := by decide +kernel
theorem dX7_deedOf_86 : decode cX7_deedOf 86 = .ok (.ireturn, 1) := by decide +kernel
set_option maxRecDepth 20000 in
theorem ggX7_turn_X4_has : GoodIn wsX7_turn wsX4_has := goodIn_r _ [7, 8, 40, 41, 42, 43] (by decide +kernel) (by decide +kernel)
set_option maxRecDepth 20000 in
theorem gX7_turn_X4_has : GoodIn wsX7_turn (wsV RX7 116 RX4 yX4_has wsX4_has) := goodIn_app (goodIn_of _ (by decide +kernel)) ggX7_turn_X4_has
set_option maxRecDepth 20000 in
theorem ggX7_turn_X7_isKind : GoodIn wsX7_turn wsX7_isKind := goodIn_r _ [12] (by decide +kernel) (by decide +kernel)
set_option maxRecDepth 20000 in
theorem gX7_turn_X7_isKind : GoodIn wsX7_turn (va_wsS RX7 187 yX7_isKind wsX7_isKind) := goodIn_app (goodIn_of _ (by decide +kernel)) ggX7_turn_X7_isKind
set_option maxRecDepth 20000 in
theorem ggX7_turn_X7_found : GoodIn wsX7_turn wsX7_found := goodIn_r _ [16, 2, 17, 24, 25, 26, 27, 28, 29, 30, 31, 32, 33] (by decide +kernel) (by decide +kernel)
set_option maxRecDepth 20000 in
theorem gX7_turn_X7_found : GoodIn wsX7_turn (wsV RX7 72 RX7 yX7_found wsX7_found) := goodIn_app (goodIn_of _ (by decide +kernel)) ggX7_turn_X7_found
set_option maxRecDepth 20000 in
theorem ggX7_turn_X4_put : GoodIn wsX7_turn wsX4_put := goodIn_r _ [21, 8, 22, 23, 40, 41, 42, 43] (by decide +kernel) (by decide +kernel)
set_option maxRecDepth 20000 in
theorem gX7_turn_X4_put : GoodIn wsX7_turn (wsV RX7 126 RX4 yX4_put wsX4_put) := goodIn_app (goodIn_of _ (by decide +kernel)) ggX7_turn_X4_put
theorem dX7_turn_0 : decode cX7_turn 0 = .ok (.aload_n 0, 1) := by decide +kernel
theorem dX7_turn_1 : decode cX7_turn 1 = .ok (.getfield 10, 3) := by decide +kernel
theorem dX7_turn_4 : decode cX7_turn 4 = .ok (.getfield 190, 3) := by decide +kernel
theorem dX7_turn_7 : decode cX7_turn 7 = .ok (.iload_n 1, 1) := by decide +kernel
theorem dX7_turn_8 : decode cX7_turn 8 = .ok (.invokevirtual 116, 3) := by decide +kernel
theorem dX7_turn_11 : decode cX7_turn 11 = .ok (.ifCond .eq 10, 3) := by decide +kernel
theorem dX7_turn_14 : decode cX7_turn 14 = .ok (.iload_n 2, 1) := by decide +kernel
theorem dX7_turn_15 : decode cX7_turn 15 = .ok (.invokestatic 187, 3) := by decide +kernel
theorem dX7_turn_18 : decode cX7_turn 18 = .ok (.ifCond .ne 10, 3) := by decide +kernel
theorem dX7_turn_21 : decode cX7_turn 21 = .ok (.aload_n 0, 1) := by decide +kernel
theorem dX7_turn_22 : decode cX7_turn 22 = .ok (.ldc 71, 2) := by decide +kernel
theorem dX7_turn_24 : decode cX7_turn 24 = .ok (.invokevirtual 72, 3) := by decide +kernel
theorem dX7_turn_27 : decode cX7_turn 27 = .ok (.ireturn, 1) := by decide +kernel
theorem dX7_turn_28 : decode cX7_turn 28 = .ok (.aload_n 0, 1) := by decide +kernel
theorem dX7_turn_29 : decode cX7_turn 29 = .ok (.getfield 10, 3) := by decide +kernel
theorem dX7_turn_32 : decode cX7_turn 32 = .ok (.getfield 190, 3) := by decide +kernel
theorem dX7_turn_35 : decode cX7_turn 35 = .ok (.iload_n 1, 1) := by decide +kernel
theorem dX7_turn_36 : decode cX7_turn 36 = .ok (.iconst 0, 1) := by decide +kernel
theorem dX7_turn_37 : decode cX7_turn 37 = .ok (.iload_n 2, 1) := by decide +kernel
theorem dX7_turn_38 : decode cX7_turn 38 = .ok (.invokevirtual 126, 3) := by decide +kernel
theorem dX7_turn_41 : decode cX7_turn 41 = .ok (.ireturn, 1) := by decide +kernel
set_option maxRecDepth 20000 in
theorem ggX7_as_X4_has : GoodIn wsX7_as wsX4_has := goodIn_r _ [8, 9, 45, 46, 47, 48] (by decide +kernel) (by decide +kernel)
set_option maxRecDepth 20000 in
theorem gX7_as_X4_has : GoodIn wsX7_as (wsV RX7 116 RX4 yX4_has wsX4_has) := goodIn_app (goodIn_of _ (by decide +kernel)) ggX7_as_X4_has
set_option maxRecDepth 20000 in
theorem ggX7_as_X7_isKind : GoodIn wsX7_as wsX7_isKind := goodIn_r _ [13] (by decide +kernel) (by decide +kernel)
set_option maxRecDepth 20000 in
theorem gX7_as_X7_isKind : GoodIn wsX7_as (va_wsS RX7 187 yX7_isKind wsX7_isKind) := goodIn_app (goodIn_of _ (by decide +kernel)) ggX7_as_X7_isKind
set_option maxRecDepth 20000 in
theorem ggX7_as_X7_found : GoodIn wsX7_as wsX7_found := goodIn_r _ [17, 2, 18, 29, 30, 31, 32, 33, 34, 35, 36, 37, 38] (by decide +kernel) (by decide +kernel)
set_option maxRecDepth 20000 in
theorem gX7_as_X7_found : GoodIn wsX7_as (wsV RX7 72 RX7 yX7_found wsX7_found) := goodIn_app (goodIn_of _ (by decide +kernel)) ggX7_as_X7_found
set_option maxRecDepth 20000 in
theorem ggX7_as_X4_cell : GoodIn wsX7_as wsX4_cell := goodIn_r _ [22, 9, 23, 24, 45, 46, 47, 48] (by decide +kernel) (by decide +kernel)
set_option maxRecDepth 20000 in
theorem gX7_as_X4_cell : GoodIn wsX7_as (wsV RX7 119 RX4 yX4_cell wsX4_cell) := goodIn_app (goodIn_of _ (by decide +kernel)) ggX7_as_X4_cell
set_option maxRecDepth 20000 in
theorem ggX7_as_X7_isOfKind : GoodIn wsX7_as wsX7_isOfKind := goodIn_r _ [27, 28, 10, 11, 12, 13] (by decide +kernel) (by decide +kernel)
set_option maxRecDepth 20000 in
theorem gX7_as_X7_isOfKind : GoodIn wsX7_as (va_wsS RX7 203 yX7_isOfKind wsX7_isOfKind) := goodIn_app (goodIn_of _ (by decide +kernel)) ggX7_as_X7_isOfKind
theorem dX7_as_0 : decode cX7_as 0 = .ok (.aload_n 0, 1) := by decide +kernel
theorem dX7_as_1 : decode cX7_as 1 = .ok (.getfield 10, 3) := by decide +kernel
theorem dX7_as_4 : decode cX7_as 4 = .ok (.getfield 190, 3) := by decide +kernel
theorem dX7_as_7 : decode cX7_as 7 = .ok (.iload_n 1, 1) := by decide +kernel
theorem dX7_as_8 : decode cX7_as 8 = .ok (.invokevirtual 116, 3) := by decide +kernel
theorem dX7_as_11 : decode cX7_as 11 = .ok (.ifCond .eq 10, 3) := by decide +kernel
theorem dX7_as_14 : decode cX7_as 14 = .ok (.iload_n 2, 1) := by decide +kernel
theorem dX7_as_15 : decode cX7_as 15 = .ok (.invokestatic 187, 3) := by decide +kernel
theorem dX7_as_18 : decode cX7_as 18 = .ok (.ifCond .ne 10, 3) := by decide +kernel
theorem dX7_as_21 : decode cX7_as 21 = .ok (.aload_n 0, 1) := by decide +kernel
theorem dX7_as_22 : decode cX7_as 22 = .ok (.ldc 71, 2) := by decide +kernel
theorem dX7_as_24 : decode cX7_as 24 = .ok (.invokevirtual 72, 3) := by decide +kernel
theorem dX7_as_27 : decode cX7_as 27 = .ok (.ireturn, 1) := by decide +kernel
theorem dX7_as_28 : decode cX7_as 28 = .ok (.aload_n 0, 1) := by decide +kernel
theorem dX7_as_29 : decode cX7_as 29 = .ok (.getfield 10, 3) := by decide +kernel
theorem dX7_as_32 : decode cX7_as 32 = .ok (.getfield 190, 3) := by decide +kernel
theorem dX7_as_35 : decode cX7_as 35 = .ok (.iload_n 1, 1) := by decide +kernel
theorem dX7_as_36 : decode cX7_as 36 = .ok (.iconst 0, 1) := by decide +kernel
theorem dX7_as_37 : decode cX7_as 37 = .ok (.invokevirtual 119, 3) := by decide +kernel
theorem dX7_as_40 : decode cX7_as 40 = .ok (.iload_n 2, 1) := by decide +kernel
theorem dX7_as_41 : decode cX7_as 41 = .ok (.invokestatic 203, 3) := by decide +kernel
theorem dX7_as_44 : decode cX7_as 44 = .ok (.ifCond .ne 10, 3) := by decide +kernel
theorem dX7_as_47 : decode cX7_as 47 = .ok (.aload_n 0, 1) := by decide +kernel
theorem dX7_as_48 : decode cX7_as 48 = .ok (.ldc 206, 2) := by decide +kernel
theorem dX7_as_50 : decode cX7_as 50 = .ok (.invokevirtual 72, 3) := by decide +kernel
theorem dX7_as_53 : decode cX7_as 53 = .ok (.ireturn, 1) := by decide +kernel
theorem dX7_as_54 : decode cX7_as 54 = .ok (.aload_n 0, 1) := by decide +kernel
theorem dX7_as_55 : decode cX7_as 55 = .ok (.getfield 10, 3) := by decide +kernel
theorem dX7_as_58 : decode cX7_as 58 = .ok (.getfield 190, 3) := by decide +kernel
theorem dX7_as_61 : decode cX7_as 61 = .ok (.iload_n 1, 1) := by decide +kernel
theorem dX7_as_62 : decode cX7_as 62 = .ok (.iconst 4, 1) := by decide +kernel
theorem dX7_as_63 : decode cX7_as 63 = .ok (.invokevirtual 119, 3) := by decide +kernel
theorem dX7_as_66 : decode cX7_as 66 = .ok (.ireturn, 1) := by decide +kernel
set_option maxRecDepth 20000 in
theorem ggX7_who_X4_has : GoodIn wsX7_who wsX4_has := goodIn_r _ [8, 9, 178, 179, 180, 181] (by decide +kernel) (by decide +kernel)
set_option maxRecDepth 20000 in
theorem gX7_who_X4_has : GoodIn wsX7_who (wsV RX7 116 RX4 yX4_has wsX4_has) := goodIn_app (goodIn_of _ (by decide +kernel)) ggX7_who_X4_has
set_option maxRecDepth 20000 in
theorem ggX7_who_X7_found : GoodIn wsX7_who wsX7_found := goodIn_r _ [14, 2, 15, 162, 163, 164, 165, 166, 167, 168, 169, 170, 171] (by decide +kernel) (by decide +kernel)
set_option maxRecDepth 20000 in
theorem gX7_who_X7_found : GoodIn wsX7_who (wsV RX7 72 RX7 yX7_found wsX7_found) := goodIn_app (goodIn_of _ (by decide +kernel)) ggX7_who_X7_found
set_option maxRecDepth 20000 in
theorem ggX7_who_X7_fresh : GoodIn wsX7_who wsX7_fresh := goodIn_r _ [19, 20, 21, 22, 23, 24, 25, 26, 27, 28, 29, 30, 31, 32, 33, 34, 35, 36, 37, 38, 39, 7, 40, 9, 41, 42, 43, 44, 45, 46, 47, 48, 49, 50, 51, 52, 53, 54, 55, 56, 57, 58, 59, 60, 61, 62, 63, 64, 65, 66, 67, 68, 69, 70, 71, 72, 73, 74, 75, 76, 77, 78, 79, 80, 81, 82, 83, 84, 85, 86, 87, 88, 89, 90, 91, 92, 93, 94, 95, 96, 97, 98, 99, 100, 101, 102, 103, 104, 105, 13, 106, 107, 108, 109, 110, 111, 112, 113, 114, 115, 116, 117, 118, 119, 120, 121, 122, 123, 124, 125, 126, 127, 128, 129, 162, 163, 164, 165, 166, 167, 168, 169, 170, 171, 182, 183, 184, 185, 186, 187, 188, 189, 190, 191, 192, 193, 194, 195, 172, 173, 174, 175, 176, 177, 178, 179, 180, 181] (by decide +kernel) (by decide +kernel)
set_option maxRecDepth 20000 in
theorem gX7_who_X7_fresh : GoodIn wsX7_who (wsV RX7 143 RX7 yX7_fresh wsX7_fresh) := goodIn_app (goodIn_of _ (by decide +kernel)) ggX7_who_X7_fresh
set_option maxRecDepth 20000 in
theorem ggX7_who_X1_doersOf : GoodIn wsX7_who wsX1_doersOf := goodIn_r _ [134, 135, 136, 137, 138, 133, 139, 140, 141, 51, 52, 7, 53, 9, 54, 55, 142, 143, 144, 24, 145, 75, 76, 77, 78, 65, 146, 147, 148, 149, 126, 127, 128, 129, 36, 122, 123, 124, 125, 95, 96, 60, 105, 13, 106, 196, 197, 198, 199, 172, 173, 174, 175, 176, 177, 178, 179, 180, 181, 182, 183, 184, 185, 186, 187, 188, 189, 190, 191, 192, 193, 194, 195] (by decide +kernel) (by decide +kernel)
set_option maxRecDepth 20000 in
theorem gX7_who_X1_doersOf : GoodIn wsX7_who (wsV RX7 207 RX1 yX1_doersOf wsX1_doersOf) := goodIn_app (goodIn_of _ (by decide +kernel)) ggX7_who_X1_doersOf
set_option maxRecDepth 20000 in
theorem ggX7_who_X1_othersOf : GoodIn wsX7_who wsX1_othersOf := goodIn_r _ [153, 135, 136, 137, 138, 133, 139, 140, 141, 51, 52, 7, 53, 9, 54, 55, 142, 143, 144, 24, 145, 75, 76, 77, 78, 65, 146, 147, 148, 149, 126, 127, 128, 129, 36, 122, 123, 124, 125, 95, 96, 60, 105, 13, 106, 196, 197, 198, 199, 172, 173, 174, 175, 176, 177, 178, 179, 180, 181, 182, 183, 184, 185, 186, 187, 188, 189, 190, 191, 192, 193, 194, 195] (by decide +kernel) (by decide +kernel)
set_option maxRecDepth 20000 in
theorem gX7_who_X1_othersOf : GoodIn wsX7_who (wsV RX7 210 RX1 yX1_othersOf wsX1_othersOf) := goodIn_app (goodIn_of _ (by decide +kernel)) ggX7_who_X1_othersOf
set_option maxRecDepth 20000 in
theorem ggX7_who_X7_onlyOneOf : GoodIn wsX7_who wsX7_onlyOneOf := goodIn_r _ [156] (by decide +kernel) (by decide +kernel)
set_option maxRecDepth 20000 in
theorem gX7_who_X7_onlyOneOf : GoodIn wsX7_who (va_wsS RX7 168 yX7_onlyOneOf wsX7_onlyOneOf) := goodIn_app (goodIn_of _ (by decide +kernel)) ggX7_who_X7_onlyOneOf
set_option maxRecDepth 20000 in
theorem ggX7_who_X7_orNone : GoodIn wsX7_who wsX7_orNone := goodIn_r _ [160, 161, 10, 11, 12, 13, 14, 2, 15, 162, 163, 164, 165, 166, 167, 168, 169, 170, 171] (by decide +kernel) (by decide +kernel)
set_option maxRecDepth 20000 in
theorem gX7_who_X7_orNone : GoodIn wsX7_who (wsV RX7 171 RX7 yX7_orNone wsX7_orNone) := goodIn_app (goodIn_of _ (by decide +kernel)) ggX7_who_X7_orNone
theorem dX7_who_0 : decode cX7_who 0 = .ok (.aload_n 0, 1) := by decide +kernel
theorem dX7_who_1 : decode cX7_who 1 = .ok (.getfield 10, 3) := by decide +kernel
theorem dX7_who_4 : decode cX7_who 4 = .ok (.getfield 190, 3) := by decide +kernel
theorem dX7_who_7 : decode cX7_who 7 = .ok (.iload_n 1, 1) := by decide +kernel
theorem dX7_who_8 : decode cX7_who 8 = .ok (.invokevirtual 116, 3) := by decide +kernel
theorem dX7_who_11 : decode cX7_who 11 = .ok (.ifCond .eq 12, 3) := by decide +kernel
theorem dX7_who_14 : decode cX7_who 14 = .ok (.iload_n 2, 1) := by decide +kernel
theorem dX7_who_15 : decode cX7_who 15 = .ok (.ifCond .lt 8, 3) := by decide +kernel
theorem dX7_who_18 : decode cX7_who 18 = .ok (.iload_n 2, 1) := by decide +kernel
theorem dX7_who_19 : decode cX7_who 19 = .ok (.iconst 1, 1) := by decide +kernel
theorem dX7_who_20 : decode cX7_who 20 = .ok (.if_icmp .le 10, 3) := by decide +kernel
theorem dX7_who_23 : decode cX7_who 23 = .ok (.aload_n 0, 1) := by decide +kernel
theorem dX7_who_24 : decode cX7_who 24 = .ok (.ldc 71, 2) := by decide +kernel
theorem dX7_who_26 : decode cX7_who 26 = .ok (.invokevirtual 72, 3) := by decide +kernel
theorem dX7_who_29 : decode cX7_who 29 = .ok (.ireturn, 1) := by decide +kernel
theorem dX7_who_30 : decode cX7_who 30 = .ok (.aload_n 0, 1) := by decide +kernel
theorem dX7_who_31 : decode cX7_who 31 = .ok (.invokevirtual 143, 3) := by decide +kernel
theorem dX7_who_34 : decode cX7_who 34 = .ok (.pop, 1) := by decide +kernel
theorem dX7_who_35 : decode cX7_who 35 = .ok (.aload_n 0, 1) := by decide +kernel
theorem dX7_who_36 : decode cX7_who 36 = .ok (.iload_n 2, 1) := by decide +kernel
theorem dX7_who_37 : decode cX7_who 37 = .ok (.ifCond .ne 14, 3) := by decide +kernel
theorem dX7_who_40 : decode cX7_who 40 = .ok (.aload_n 0, 1) := by decide +kernel
theorem dX7_who_41 : decode cX7_who 41 = .ok (.getfield 36, 3) := by decide +kernel
theorem dX7_who_44 : decode cX7_who 44 = .ok (.iload_n 1, 1) := by decide +kernel
theorem dX7_who_45 : decode cX7_who 45 = .ok (.invokevirtual 207, 3) := by decide +kernel
theorem dX7_who_48 : decode cX7_who 48 = .ok (.goto 11, 3) := by decide +kernel
theorem dX7_who_51 : decode cX7_who 51 = .ok (.aload_n 0, 1) := by decide +kernel
theorem dX7_who_52 : decode cX7_who 52 = .ok (.getfield 36, 3) := by decide +kernel
theorem dX7_who_55 : decode cX7_who 55 = .ok (.iload_n 1, 1) := by decide +kernel
theorem dX7_who_56 : decode cX7_who 56 = .ok (.invokevirtual 210, 3) := by decide +kernel
theorem dX7_who_59 : decode cX7_who 59 = .ok (.invokestatic 168, 3) := by decide +kernel
theorem dX7_who_62 : decode cX7_who 62 = .ok (.invokevirtual 171, 3) := by decide +kernel
theorem dX7_who_65 : decode cX7_who 65 = .ok (.ireturn, 1) := by decide +kernel
set_option maxRecDepth 20000 in
theorem ggX7_same_X4_has : GoodIn wsX7_same wsX4_has := goodIn_r _ [8, 9, 165, 166, 167, 168] (by decide +kernel) (by decide +kernel)
set_option maxRecDepth 20000 in
theorem gX7_same_X4_has : GoodIn wsX7_same (wsV RX7 116 RX4 yX4_has wsX4_has) := goodIn_app (goodIn_of _ (by decide +kernel)) ggX7_same_X4_has
set_option maxRecDepth 20000 in
theorem ggX7_same_X7_found : GoodIn wsX7_same wsX7_found := goodIn_r _ [14, 2, 15, 149, 150, 151, 152, 153, 154, 155, 156, 157, 158] (by decide +kernel) (by decide +kernel)
set_option maxRecDepth 20000 in
theorem gX7_same_X7_found : GoodIn wsX7_same (wsV RX7 72 RX7 yX7_found wsX7_found) := goodIn_app (goodIn_of _ (by decide +kernel)) ggX7_same_X7_found
set_option maxRecDepth 20000 in
theorem ggX7_same_X7_fresh : GoodIn wsX7_same wsX7_fresh := goodIn_r _ [19, 20, 21, 22, 23, 24, 25, 26, 27, 28, 29, 30, 31, 32, 33, 34, 35, 36, 37, 38, 39, 7, 40, 9, 41, 42, 43, 44, 45, 46, 47, 48, 49, 50, 51, 52, 53, 54, 55, 56, 57, 58, 59, 60, 61, 62, 63, 64, 65, 66, 67, 68, 69, 70, 71, 72, 73, 74, 75, 76, 77, 78, 79, 80, 81, 82, 83, 84, 85, 86, 87, 88, 89, 90, 91, 92, 93, 94, 95, 96, 97, 98, 99, 100, 101, 102, 103, 104, 105, 13, 106, 107, 108, 109, 110, 111, 112, 113, 114, 115, 116, 117, 118, 119, 120, 121, 122, 123, 124, 125, 126, 127, 128, 129, 149, 150, 151, 152, 153, 154, 155, 156, 157, 158, 169, 170, 171, 172, 173, 174, 175, 176, 177, 178, 179, 180, 181, 182, 159, 160, 161, 162, 163, 164, 165, 166, 167, 168] (by decide +kernel) (by decide +kernel)
set_option maxRecDepth 20000 in
theorem gX7_same_X7_fresh : GoodIn wsX7_same (wsV RX7 143 RX7 yX7_fresh wsX7_fresh) := goodIn_app (goodIn_of _ (by decide +kernel)) ggX7_same_X7_fresh
set_option maxRecDepth 20000 in
theorem ggX7_same_X1_oddsOfOneDoer : GoodIn wsX7_same wsX1_oddsOfOneDoer := goodIn_r _ [134, 135, 136, 76, 77, 24, 78, 65, 137, 138, 139, 133, 140, 141, 142, 143, 144, 145, 146, 51, 52, 7, 53, 9, 54, 55, 147, 123, 124, 125, 95, 96, 60, 105, 13, 106, 148, 127, 128, 129, 36, 75, 183, 184, 185, 186, 169, 170, 171, 172, 173, 174, 175, 176, 177, 178, 179, 180, 181, 182, 159, 160, 161, 162, 163, 164, 165, 166, 167, 168] (by decide +kernel) (by decide +kernel)
set_option maxRecDepth 20000 in
theorem gX7_same_X1_oddsOfOneDoer : GoodIn wsX7_same (wsV RX7 213 RX1 yX1_oddsOfOneDoer wsX1_oddsOfOneDoer) := goodIn_app (goodIn_of _ (by decide +kernel)) ggX7_same_X1_oddsOfOneDoer
theorem dX7_same_0 : decode cX7_same 0 = .ok (.aload_n 0, 1) := by decide +kernel
theorem dX7_same_1 : decode cX7_same 1 = .ok (.getfield 10, 3) := by decide +kernel
theorem dX7_same_4 : decode cX7_same 4 = .ok (.getfield 190, 3) := by decide +kernel
theorem dX7_same_7 : decode cX7_same 7 = .ok (.iload_n 1, 1) := by decide +kernel
theorem dX7_same_8 : decode cX7_same 8 = .ok (.invokevirtual 116, 3) := by decide +kernel
theorem dX7_same_11 : decode cX7_same 11 = .ok (.ifCond .eq 22, 3) := by decide +kernel
theorem dX7_same_14 : decode cX7_same 14 = .ok (.aload_n 0, 1) := by decide +kernel
theorem dX7_same_15 : decode cX7_same 15 = .ok (.getfield 10, 3) := by decide +kernel
theorem dX7_same_18 : decode cX7_same 18 = .ok (.getfield 190, 3) := by decide +kernel
theorem dX7_same_21 : decode cX7_same 21 = .ok (.iload_n 2, 1) := by decide +kernel
theorem dX7_same_22 : decode cX7_same 22 = .ok (.invokevirtual 116, 3) := by decide +kernel
theorem dX7_same_25 : decode cX7_same 25 = .ok (.ifCond .eq 8, 3) := by decide +kernel
theorem dX7_same_28 : decode cX7_same 28 = .ok (.iload_n 1, 1) := by decide +kernel
theorem dX7_same_29 : decode cX7_same 29 = .ok (.iload_n 2, 1) := by decide +kernel
theorem dX7_same_30 : decode cX7_same 30 = .ok (.if_icmp .ne 11, 3) := by decide +kernel
theorem dX7_same_33 : decode cX7_same 33 = .ok (.aload_n 0, 1) := by decide +kernel
theorem dX7_same_34 : decode cX7_same 34 = .ok (.ldc 71, 2) := by decide +kernel
theorem dX7_same_36 : decode cX7_same 36 = .ok (.invokevirtual 72, 3) := by decide +kernel
theorem dX7_same_39 : decode cX7_same 39 = .ok (.i2l, 1) := by decide +kernel
theorem dX7_same_40 : decode cX7_same 40 = .ok (.lreturn, 1) := by decide +kernel
theorem dX7_same_41 : decode cX7_same 41 = .ok (.aload_n 0, 1) := by decide +kernel
theorem dX7_same_42 : decode cX7_same 42 = .ok (.invokevirtual 143, 3) := by decide +kernel
theorem dX7_same_45 : decode cX7_same 45 = .ok (.pop, 1) := by decide +kernel
theorem dX7_same_46 : decode cX7_same 46 = .ok (.aload_n 0, 1) := by decide +kernel
theorem dX7_same_47 : decode cX7_same 47 = .ok (.getfield 36, 3) := by decide +kernel
theorem dX7_same_50 : decode cX7_same 50 = .ok (.iload_n 1, 1) := by decide +kernel
theorem dX7_same_51 : decode cX7_same 51 = .ok (.iload_n 2, 1) := by decide +kernel
theorem dX7_same_52 : decode cX7_same 52 = .ok (.invokevirtual 213, 3) := by decide +kernel
theorem dX7_same_55 : decode cX7_same 55 = .ok (.lreturn, 1) := by decide +kernel
set_option maxRecDepth 20000 in
theorem ggX7_owes_X7_isPerson : GoodIn wsX7_owes wsX7_isPerson := goodIn_r _ [7, 8, 151, 152, 153, 154, 155, 156, 157, 158, 159, 160, 161, 162, 163, 164, 165, 166] (by decide +kernel) (by decide +kernel)
set_option maxRecDepth 20000 in
theorem gX7_owes_X7_isPerson : GoodIn wsX7_owes (wsV RX7 137 RX7 yX7_isPerson wsX7_isPerson) := goodIn_app (goodIn_of _ (by decide +kernel)) ggX7_owes_X7_isPerson
set_option maxRecDepth 20000 in
theorem ggX7_owes_X7_found : GoodIn wsX7_owes wsX7_found := goodIn_r _ [12, 1, 13, 151, 152, 153, 154, 155, 156, 157, 158, 159, 160] (by decide +kernel) (by decide +kernel)
set_option maxRecDepth 20000 in
theorem gX7_owes_X7_found : GoodIn wsX7_owes (wsV RX7 72 RX7 yX7_found wsX7_found) := goodIn_app (goodIn_of _ (by decide +kernel)) ggX7_owes_X7_found
set_option maxRecDepth 20000 in
theorem ggX7_owes_X7_fresh : GoodIn wsX7_owes wsX7_fresh := goodIn_r _ [17, 18, 19, 20, 21, 22, 23, 24, 25, 26, 27, 28, 29, 30, 31, 32, 33, 34, 35, 36, 37, 38, 39, 40, 41, 42, 43, 44, 45, 46, 47, 48, 49, 50, 51, 52, 53, 54, 55, 56, 57, 58, 59, 60, 61, 62, 63, 64, 65, 66, 67, 68, 69, 70, 71, 72, 73, 74, 75, 76, 77, 78, 79, 80, 81, 82, 83, 84, 85, 86, 87, 88, 89, 90, 91, 92, 93, 94, 95, 96, 97, 98, 99, 100, 101, 102, 103, 104, 105, 6, 106, 107, 108, 109, 110, 111, 112, 113, 114, 115, 116, 117, 118, 119, 120, 121, 122, 123, 124, 125, 126, 127, 128, 129, 151, 152, 153, 154, 155, 156, 157, 158, 159, 160, 167, 168, 169, 170, 171, 172, 173, 174, 175, 176, 177, 178, 179, 180, 161, 162, 163, 164, 165, 166, 181, 182, 183, 184] (by decide +kernel) (by decide +kernel)
set_option maxRecDepth 20000 in
theorem gX7_owes_X7_fresh : GoodIn wsX7_owes (wsV RX7 143 RX7 yX7_fresh wsX7_fresh) := goodIn_app (goodIn_of _ (by decide +kernel)) ggX7_owes_X7_fresh
set_option maxRecDepth 20000 in
theorem ggX7_owes_X1_owedInAllBy : GoodIn wsX7_owes wsX1_owedInAllBy := goodIn_r _ [134, 135, 136, 137, 36, 37, 38, 39, 40, 138, 139, 140, 133, 141, 142, 51, 52, 53, 54, 55, 143, 144, 145, 22, 146, 75, 76, 77, 78, 65, 122, 123, 124, 125, 95, 96, 60, 105, 6, 106, 126, 127, 128, 129, 34, 147, 148, 149, 150, 185, 186, 187, 188, 161, 162, 163, 164, 165, 166, 181, 182, 183, 184, 167, 168, 169, 170, 171, 172, 173, 174, 175, 176, 177, 178, 179, 180] (by decide +kernel) (by decide +kernel)
set_option maxRecDepth 20000 in
theorem gX7_owes_X1_owedInAllBy : GoodIn wsX7_owes (wsV RX7 217 RX1 yX1_owedInAllBy wsX1_owedInAllBy) := goodIn_app (goodIn_of _ (by decide +kernel)) ggX7_owes_X1_owedInAllBy
theorem dX7_owes_0 : decode cX7_owes 0 = .ok (.aload_n 0, 1) := by decide +kernel
theorem dX7_owes_1 : decode cX7_owes 1 = .ok (.iload_n 1, 1) := by decide +kernel
theorem dX7_owes_2 : decode cX7_owes 2 = .ok (.invokevirtual 137, 3) := by decide +kernel
theorem dX7_owes_5 : decode cX7_owes 5 = .ok (.ifCond .ne 11, 3) := by decide +kernel
theorem dX7_owes_8 : decode cX7_owes 8 = .ok (.aload_n 0, 1) := by decide +kernel
theorem dX7_owes_9 : decode cX7_owes 9 = .ok (.ldc 71, 2) := by decide +kernel
theorem dX7_owes_11 : decode cX7_owes 11 = .ok (.invokevirtual 72, 3) := by decide +kernel
theorem dX7_owes_14 : decode cX7_owes 14 = .ok (.i2l, 1) := by decide +kernel
theorem dX7_owes_15 : decode cX7_owes 15 = .ok (.lreturn, 1) := by decide +kernel
theorem dX7_owes_16 : decode cX7_owes 16 = .ok (.aload_n 0, 1) := by decide +kernel
theorem dX7_owes_17 : decode cX7_owes 17 = .ok (.invokevirtual 143, 3) := by decide +kernel
theorem dX7_owes_20 : decode cX7_owes 20 = .ok (.pop, 1) := by decide +kernel
theorem dX7_owes_21 : decode cX7_owes 21 = .ok (.aload_n 0, 1) := by decide +kernel
theorem dX7_owes_22 : decode cX7_owes 22 = .ok (.getfield 36, 3) := by decide +kernel
theorem dX7_owes_25 : decode cX7_owes 25 = .ok (.iload_n 1, 1) := by decide +kernel
theorem dX7_owes_26 : decode cX7_owes 26 = .ok (.invokevirtual 217, 3) := by decide +kernel
theorem dX7_owes_29 : decode cX7_owes 29 = .ok (.lreturn, 1) := by decide +kernel
set_option maxRecDepth 20000 in
theorem ggX7_owesTo_X7_areUnlike : GoodIn wsX7_owesTo wsX7_areUnlike := goodIn_r _ [9, 10, 11, 12, 8, 13, 14, 165, 166, 167, 168, 169, 170, 171, 172, 173, 174, 175, 176, 177, 178, 179, 180] (by decide +kernel) (by decide +kernel)
set_option maxRecDepth 20000 in
theorem gX7_owesTo_X7_areUnlike : GoodIn wsX7_owesTo (wsV RX7 92 RX7 yX7_areUnlike wsX7_areUnlike) := goodIn_app (goodIn_of _ (by decide +kernel)) ggX7_owesTo_X7_areUnlike
set_option maxRecDepth 20000 in
theorem ggX7_owesTo_X7_found : GoodIn wsX7_owesTo wsX7_found := goodIn_r _ [18, 1, 19, 165, 166, 167, 168, 169, 170, 171, 172, 173, 174] (by decide +kernel) (by decide +kernel)
set_option maxRecDepth 20000 in
theorem gX7_owesTo_X7_found : GoodIn wsX7_owesTo (wsV RX7 72 RX7 yX7_found wsX7_found) := goodIn_app (goodIn_of _ (by decide +kernel)) ggX7_owesTo_X7_found
set_option maxRecDepth 20000 in
theorem ggX7_owesTo_X7_fresh : GoodIn wsX7_owesTo wsX7_fresh := goodIn_r _ [23, 4, 24, 25, 26, 27, 28, 29, 30, 31, 32, 33, 34, 35, 36, 37, 38, 39, 40, 41, 42, 43, 44, 45, 46, 47, 48, 49, 50, 51, 52, 53, 54, 55, 56, 57, 58, 59, 60, 61, 62, 63, 64, 65, 66, 67, 68, 69, 70, 71, 72, 73, 74, 75, 76, 77, 78, 79, 80, 81, 82, 83, 84, 85, 86, 87, 88, 89, 90, 91, 92, 93, 94, 95, 96, 97, 98, 99, 100, 101, 102, 103, 104, 105, 106, 107, 108, 109, 110, 8, 111, 112, 113, 114, 115, 116, 117, 118, 119, 120, 121, 122, 123, 124, 125, 126, 127, 128, 129, 130, 131, 132, 133, 134, 165, 166, 167, 168, 169, 170, 171, 172, 173, 174, 181, 182, 183, 184, 185, 186, 187, 188, 189, 190, 191, 192, 193, 194, 175, 176, 177, 178, 179, 180, 195, 196, 197, 198] (by decide +kernel) (by decide +kernel)
set_option maxRecDepth 20000 in
theorem gX7_owesTo_X7_fresh : GoodIn wsX7_owesTo (wsV RX7 143 RX7 yX7_fresh wsX7_fresh) := goodIn_app (goodIn_of _ (by decide +kernel)) ggX7_owesTo_X7_fresh
set_option maxRecDepth 20000 in
theorem ggX7_owesTo_X2_someHolds : GoodIn wsX7_owesTo wsX2_someHolds := goodIn_r _ [138, 36, 181, 182, 183, 184, 185, 186, 187, 188, 189, 190, 191, 192, 193, 194] (by decide +kernel) (by decide +kernel)
set_option maxRecDepth 20000 in
theorem gX7_owesTo_X2_someHolds : GoodIn wsX7_owesTo (wsV RX7 155 RX2 yX2_someHolds wsX2_someHolds) := goodIn_app (goodIn_of _ (by decide +kernel)) ggX7_owesTo_X2_someHolds
set_option maxRecDepth 20000 in
theorem ggX7_owesTo_X2_likeliestNight : GoodIn wsX7_owesTo wsX2_likeliestNight := goodIn_r _ [142, 36, 181, 182, 183, 184, 185, 186, 187, 188, 189, 190, 191, 192, 193, 194] (by decide +kernel) (by decide +kernel)
set_option maxRecDepth 20000 in
theorem gX7_owesTo_X2_likeliestNight : GoodIn wsX7_owesTo (wsV RX7 159 RX2 yX2_likeliestNight wsX2_likeliestNight) := goodIn_app (goodIn_of _ (by decide +kernel)) ggX7_owesTo_X2_likeliestNight
set_option maxRecDepth 20000 in
theorem ggX7_owesTo_X1_owedInNight : GoodIn wsX7_owesTo wsX1_owedInNight := goodIn_r _ [147, 148, 149, 41, 42, 43, 44, 45, 150, 151, 152, 146, 153, 154, 155, 156, 157, 158, 159, 56, 57, 58, 59, 60, 160, 128, 129, 27, 130, 100, 101, 65, 110, 8, 111, 161, 162, 163, 164, 199, 200, 201, 202, 175, 176, 177, 178, 179, 180, 195, 196, 197, 198, 181, 182, 183, 184, 185, 186, 187, 188, 189, 190, 191, 192, 193, 194] (by decide +kernel) (by decide +kernel)
set_option maxRecDepth 20000 in
theorem gX7_owesTo_X1_owedInNight : GoodIn wsX7_owesTo (wsV RX7 221 RX1 yX1_owedInNight wsX1_owedInNight) := goodIn_app (goodIn_of _ (by decide +kernel)) ggX7_owesTo_X1_owedInNight
theorem dX7_owesTo_0 : decode cX7_owesTo 0 = .ok (.aload_n 0, 1) := by decide +kernel
theorem dX7_owesTo_1 : decode cX7_owesTo 1 = .ok (.iload_n 1, 1) := by decide +kernel
theorem dX7_owesTo_2 : decode cX7_owesTo 2 = .ok (.iload_n 2, 1) := by decide +kernel
theorem dX7_owesTo_3 : decode cX7_owesTo 3 = .ok (.invokevirtual 92, 3) := by decide +kernel
theorem dX7_owesTo_6 : decode cX7_owesTo 6 = .ok (.ifCond .ne 10, 3) := by decide +kernel
theorem dX7_owesTo_9 : decode cX7_owesTo 9 = .ok (.aload_n 0, 1) := by decide +kernel
theorem dX7_owesTo_10 : decode cX7_owesTo 10 = .ok (.ldc 71, 2) := by decide +kernel
theorem dX7_owesTo_12 : decode cX7_owesTo 12 = .ok (.invokevirtual 72, 3) := by decide +kernel
theorem dX7_owesTo_15 : decode cX7_owesTo 15 = .ok (.ireturn, 1) := by decide +kernel
theorem dX7_owesTo_16 : decode cX7_owesTo 16 = .ok (.aload_n 0, 1) := by decide +kernel
theorem dX7_owesTo_17 : decode cX7_owesTo 17 = .ok (.invokevirtual 143, 3) := by decide +kernel
theorem dX7_owesTo_20 : decode cX7_owesTo 20 = .ok (.invokevirtual 155, 3) := by decide +kernel
theorem dX7_owesTo_23 : decode cX7_owesTo 23 = .ok (.ifCond .ne 10, 3) := by decide +kernel
theorem dX7_owesTo_26 : decode cX7_owesTo 26 = .ok (.aload_n 0, 1) := by decide +kernel
theorem dX7_owesTo_27 : decode cX7_owesTo 27 = .ok (.ldc 158, 2) := by decide +kernel
theorem dX7_owesTo_29 : decode cX7_owesTo 29 = .ok (.invokevirtual 72, 3) := by decide +kernel
theorem dX7_owesTo_32 : decode cX7_owesTo 32 = .ok (.ireturn, 1) := by decide +kernel
theorem dX7_owesTo_33 : decode cX7_owesTo 33 = .ok (.aload_n 0, 1) := by decide +kernel
theorem dX7_owesTo_34 : decode cX7_owesTo 34 = .ok (.getfield 36, 3) := by decide +kernel
theorem dX7_owesTo_37 : decode cX7_owesTo 37 = .ok (.aload_n 0, 1) := by decide +kernel
theorem dX7_owesTo_38 : decode cX7_owesTo 38 = .ok (.getfield 27, 3) := by decide +kernel
theorem dX7_owesTo_41 : decode cX7_owesTo 41 = .ok (.invokevirtual 159, 3) := by decide +kernel
theorem dX7_owesTo_44 : decode cX7_owesTo 44 = .ok (.iload_n 1, 1) := by decide +kernel
theorem dX7_owesTo_45 : decode cX7_owesTo 45 = .ok (.iload_n 2, 1) := by decide +kernel
theorem dX7_owesTo_46 : decode cX7_owesTo 46 = .ok (.invokevirtual 221, 3) := by decide +kernel
theorem dX7_owesTo_49 : decode cX7_owesTo 49 = .ok (.ireturn, 1) := by decide +kernel
set_option maxRecDepth 20000 in
theorem ggX7_bound_X7_areUnlike : GoodIn wsX7_bound wsX7_areUnlike := goodIn_r _ [7, 8, 9, 10, 6, 11, 12, 172, 173, 174, 175, 176, 177, 178, 179, 180, 181, 182, 183, 184, 185, 186, 187] (by decide +kernel) (by decide +kernel)
set_option maxRecDepth 20000 in
theorem gX7_bound_X7_areUnlike : GoodIn wsX7_bound (wsV RX7 92 RX7 yX7_areUnlike wsX7_areUnlike) := goodIn_app (goodIn_of _ (by decide +kernel)) ggX7_bound_X7_areUnlike
set_option maxRecDepth 20000 in
theorem ggX7_bound_X7_found : GoodIn wsX7_bound wsX7_found := goodIn_r _ [16, 1, 17, 172, 173, 174, 175, 176, 177, 178, 179, 180, 181] (by decide +kernel) (by decide +kernel)
set_option maxRecDepth 20000 in
theorem gX7_bound_X7_found : GoodIn wsX7_bound (wsV RX7 72 RX7 yX7_found wsX7_found) := goodIn_app (goodIn_of _ (by decide +kernel)) ggX7_bound_X7_found
set_option maxRecDepth 20000 in
theorem ggX7_bound_X7_fresh : GoodIn wsX7_bound wsX7_fresh := goodIn_r _ [21, 22, 23, 24, 25, 26, 27, 28, 29, 30, 31, 32, 33, 34, 35, 36, 37, 38, 39, 40, 41, 42, 43, 44, 45, 46, 47, 48, 49, 50, 51, 52, 53, 54, 55, 56, 57, 58, 59, 60, 61, 62, 63, 64, 65, 66, 67, 68, 69, 70, 71, 72, 73, 74, 75, 76, 77, 78, 79, 80, 81, 82, 83, 84, 85, 86, 87, 88, 89, 90, 91, 92, 93, 94, 95, 96, 97, 98, 99, 100, 101, 102, 103, 104, 105, 106, 107, 108, 109, 6, 110, 111, 112, 113, 114, 115, 116, 117, 118, 119, 120, 121, 122, 123, 124, 125, 126, 127, 128, 129, 130, 131, 132, 133, 172, 173, 174, 175, 176, 177, 178, 179, 180, 181, 188, 189, 190, 191, 192, 193, 194, 195, 196, 197, 198, 199, 200, 201, 182, 183, 184, 185, 186, 187, 202, 203, 204, 205] (by decide +kernel) (by decide +kernel)
set_option maxRecDepth 20000 in
theorem gX7_bound_X7_fresh : GoodIn wsX7_bound (wsV RX7 143 RX7 yX7_fresh wsX7_fresh) := goodIn_app (goodIn_of _ (by decide +kernel)) ggX7_bound_X7_fresh
set_option maxRecDepth 20000 in
theorem ggX7_bound_X1_oddsOfBond : GoodIn wsX7_bound wsX1_oddsOfBond := goodIn_r _ [138, 139, 140, 80, 81, 26, 82, 69, 141, 142, 143, 144, 130, 131, 132, 133, 38, 79, 145, 146, 147, 137, 148, 149, 150, 40, 41, 42, 43, 44, 151, 152, 153, 154, 155, 156, 157, 158, 159, 55, 56, 57, 58, 59, 160, 6, 161, 162, 163, 164, 165, 166, 167, 168, 169, 170, 127, 128, 129, 99, 100, 64, 109, 110, 171, 206, 207, 208, 209, 188, 189, 190, 191, 192, 193, 194, 195, 196, 197, 198, 199, 200, 201, 182, 183, 184, 185, 186, 187, 202, 203, 204, 205] (by decide +kernel) (by decide +kernel)
set_option maxRecDepth 20000 in
theorem gX7_bound_X1_oddsOfBond : GoodIn wsX7_bound (wsV RX7 224 RX1 yX1_oddsOfBond wsX1_oddsOfBond) := goodIn_app (goodIn_of _ (by decide +kernel)) ggX7_bound_X1_oddsOfBond
theorem dX7_bound_0 : decode cX7_bound 0 = .ok (.aload_n 0, 1) := by decide +kernel
theorem dX7_bound_1 : decode cX7_bound 1 = .ok (.iload_n 1, 1) := by decide +kernel
theorem dX7_bound_2 : decode cX7_bound 2 = .ok (.iload_n 2, 1) := by decide +kernel
theorem dX7_bound_3 : decode cX7_bound 3 = .ok (.invokevirtual 92, 3) := by decide +kernel
theorem dX7_bound_6 : decode cX7_bound 6 = .ok (.ifCond .ne 11, 3) := by decide +kernel
theorem dX7_bound_9 : decode cX7_bound 9 = .ok (.aload_n 0, 1) := by decide +kernel
theorem dX7_bound_10 : decode cX7_bound 10 = .ok (.ldc 71, 2) := by decide +kernel
theorem dX7_bound_12 : decode cX7_bound 12 = .ok (.invokevirtual 72, 3) := by decide +kernel
theorem dX7_bound_15 : decode cX7_bound 15 = .ok (.i2l, 1) := by decide +kernel
theorem dX7_bound_16 : decode cX7_bound 16 = .ok (.lreturn, 1) := by decide +kernel
theorem dX7_bound_17 : decode cX7_bound 17 = .ok (.aload_n 0, 1) := by decide +kernel
theorem dX7_bound_18 : decode cX7_bound 18 = .ok (.invokevirtual 143, 3) := by decide +kernel
theorem dX7_bound_21 : decode cX7_bound 21 = .ok (.pop, 1) := by decide +kernel
theorem dX7_bound_22 : decode cX7_bound 22 = .ok (.aload_n 0, 1) := by decide +kernel
theorem dX7_bound_23 : decode cX7_bound 23 = .ok (.getfield 36, 3) := by decide +kernel
theorem dX7_bound_26 : decode cX7_bound 26 = .ok (.iload_n 1, 1) := by decide +kernel
theorem dX7_bound_27 : decode cX7_bound 27 = .ok (.iload_n 2, 1) := by decide +kernel
theorem dX7_bound_28 : decode cX7_bound 28 = .ok (.invokevirtual 224, 3) := by decide +kernel
theorem dX7_bound_31 : decode cX7_bound 31 = .ok (.lreturn, 1) := by decide +kernel
set_option maxRecDepth 20000 in
theorem ggX7_ask_X7_fresh : GoodIn wsX7_ask wsX7_fresh := goodIn_r _ [5, 6, 7, 8, 9, 10, 11, 12, 13, 14, 15, 16, 17, 18, 19, 20, 21, 22, 23, 24, 25, 26, 27, 28, 29, 30, 31, 32, 33, 34, 35, 36, 37, 38, 39, 40, 41, 42, 43, 44, 45, 46, 47, 48, 49, 50, 51, 52, 53, 54, 55, 56, 57, 58, 59, 60, 61, 62, 63, 64, 65, 66, 67, 68, 69, 70, 71, 72, 73, 74, 75, 76, 77, 78, 79, 80, 81, 82, 83, 84, 85, 86, 87, 88, 89, 90, 91, 92, 93, 4, 94, 95, 96, 97, 98, 99, 100, 101, 102, 103, 104, 105, 106, 107, 108, 109, 110, 111, 112, 113, 114, 115, 116, 117, 148, 149, 150, 151, 152, 153, 154, 155, 156, 157, 158, 159, 160, 161, 162, 163, 164, 165, 166, 167, 168, 169, 170, 171, 172, 173, 174, 175, 176, 177, 178, 179, 180, 181] (by decide +kernel) (by decide +kernel)
set_option maxRecDepth 20000 in
theorem gX7_ask_X7_fresh : GoodIn wsX7_ask (wsV RX7 143 RX7 yX7_fresh wsX7_fresh) := goodIn_app (goodIn_of _ (by decide +kernel)) ggX7_ask_X7_fresh
set_option maxRecDepth 20000 in
theorem ggX7_ask_X2_mostOpenDoubt : GoodIn wsX7_ask wsX2_mostOpenDoubt := goodIn_r _ [121, 53, 122, 123, 16, 124, 55, 125, 126, 127, 10, 128, 63, 64, 65, 66, 114, 115, 116, 117, 22, 129, 130, 131, 132, 19, 133, 134, 135, 136, 158, 159, 160, 161, 162, 163, 164, 165, 166, 167, 168, 169, 170, 171] (by decide +kernel) (by decide +kernel)
set_option maxRecDepth 20000 in
theorem gX7_ask_X2_mostOpenDoubt : GoodIn wsX7_ask (wsV RX7 227 RX2 yX2_mostOpenDoubt wsX2_mostOpenDoubt) := goodIn_app (goodIn_of _ (by decide +kernel)) ggX7_ask_X2_mostOpenDoubt
set_option maxRecDepth 20000 in
theorem ggX7_ask_X7_orNone : GoodIn wsX7_ask wsX7_orNone := goodIn_r _ [140, 141, 142, 143, 144, 4, 145, 146, 147, 148, 149, 150, 151, 152, 153, 154, 155, 156, 157] (by decide +kernel) (by decide +kernel)
set_option maxRecDepth 20000 in
theorem gX7_ask_X7_orNone : GoodIn wsX7_ask (wsV RX7 171 RX7 yX7_orNone wsX7_orNone) := goodIn_app (goodIn_of _ (by decide +kernel)) ggX7_ask_X7_orNone
theorem dX7_ask_0 : decode cX7_ask 0 = .ok (.aload_n 0, 1) := by decide +kernel
theorem dX7_ask_1 : decode cX7_ask 1 = .ok (.aload_n 0, 1) := by decide +kernel
theorem dX7_ask_2 : decode cX7_ask 2 = .ok (.invokevirtual 143, 3) := by decide +kernel
theorem dX7_ask_5 : decode cX7_ask 5 = .ok (.invokevirtual 227, 3) := by decide +kernel
theorem dX7_ask_8 : decode cX7_ask 8 = .ok (.invokevirtual 171, 3) := by decide +kernel
theorem dX7_ask_11 : decode cX7_ask 11 = .ok (.ireturn, 1) := by decide +kernel
set_option maxRecDepth 20000 in
theorem ggX7_witnesses_X7_fresh : GoodIn wsX7_witnesses wsX7_fresh := goodIn_r _ [7, 1, 8, 9, 10, 11, 12, 13, 14, 15, 16, 17, 18, 19, 20, 21, 22, 23, 24, 25, 26, 27, 28, 29, 30, 31, 32, 33, 34, 35, 36, 37, 38, 39, 40, 41, 42, 43, 44, 45, 46, 47, 48, 49, 50, 51, 52, 53, 54, 55, 56, 57, 58, 59, 60, 61, 62, 63, 64, 65, 66, 67, 68, 69, 70, 71, 72, 73, 74, 75, 76, 77, 78, 79, 80, 81, 82, 83, 84, 85, 86, 87, 88, 89, 90, 91, 92, 93, 94, 6, 95, 96, 97, 98, 99, 100, 101, 102, 103, 104, 105, 106, 107, 108, 109, 110, 111, 112, 113, 114, 115, 116, 117, 118, 165, 166, 167, 168, 169, 170, 171, 172, 173, 174, 175, 176, 177, 178, 179, 180, 181, 182, 183, 184, 185, 186, 187, 188, 189, 190, 191, 192, 193, 194, 195, 196, 197, 198] (by decide +kernel) (by decide +kernel)
set_option maxRecDepth 20000 in
theorem gX7_witnesses_X7_fresh : GoodIn wsX7_witnesses (wsV RX7 143 RX7 yX7_fresh wsX7_fresh) := goodIn_app (goodIn_of _ (by decide +kernel)) ggX7_witnesses_X7_fresh
set_option maxRecDepth 20000 in
theorem ggX7_witnesses_X1_fewestThatSettle : GoodIn wsX7_witnesses wsX1_fewestThatSettle := goodIn_r _ [123, 124, 125, 126, 127, 122, 128, 129, 130, 131, 132, 65, 66, 11, 67, 54, 133, 25, 26, 27, 28, 29, 134, 135, 136, 137, 138, 139, 140, 141, 142, 40, 41, 42, 43, 44, 143, 112, 113, 114, 84, 85, 49, 94, 6, 95, 144, 145, 146, 147, 115, 116, 117, 118, 23, 64, 148, 149, 150, 151, 152, 153, 154, 155, 156, 157, 158, 159, 160, 161, 162, 163, 199, 200, 201, 202, 189, 190, 191, 192, 193, 194, 175, 176, 177, 178, 179, 180, 181, 182, 183, 184, 185, 186, 187, 188, 195, 196, 197, 198] (by decide +kernel) (by decide +kernel)
set_option maxRecDepth 20000 in
theorem gX7_witnesses_X1_fewestThatSettle : GoodIn wsX7_witnesses (wsV RX7 230 RX1 yX1_fewestThatSettle wsX1_fewestThatSettle) := goodIn_app (goodIn_of _ (by decide +kernel)) ggX7_witnesses_X1_fewestThatSettle
set_option maxRecDepth 20000 in
theorem ggX7_witnesses_X2_bowsOfDoubts : GoodIn wsX7_witnesses wsX2_bowsOfDoubts := goodIn_r _ [93, 54, 56, 175, 176, 177, 178, 179, 180, 181, 182, 183, 184, 185, 186, 187, 188] (by decide +kernel) (by decide +kernel)
set_option maxRecDepth 20000 in
theorem gX7_witnesses_X2_bowsOfDoubts : GoodIn wsX7_witnesses (wsV RX7 233 RX2 yX2_bowsOfDoubts wsX2_bowsOfDoubts) := goodIn_app (goodIn_of _ (by decide +kernel)) ggX7_witnesses_X2_bowsOfDoubts
theorem dX7_witnesses_0 : decode cX7_witnesses 0 = .ok (.aload_n 0, 1) := by decide +kernel
theorem dX7_witnesses_1 : decode cX7_witnesses 1 = .ok (.invokevirtual 143, 3) := by decide +kernel
theorem dX7_witnesses_4 : decode cX7_witnesses 4 = .ok (.pop, 1) := by decide +kernel
theorem dX7_witnesses_5 : decode cX7_witnesses 5 = .ok (.aload_n 0, 1) := by decide +kernel
theorem dX7_witnesses_6 : decode cX7_witnesses 6 = .ok (.getfield 27, 3) := by decide +kernel
theorem dX7_witnesses_9 : decode cX7_witnesses 9 = .ok (.aload_n 0, 1) := by decide +kernel
theorem dX7_witnesses_10 : decode cX7_witnesses 10 = .ok (.getfield 36, 3) := by decide +kernel
theorem dX7_witnesses_13 : decode cX7_witnesses 13 = .ok (.invokevirtual 230, 3) := by decide +kernel
theorem dX7_witnesses_16 : decode cX7_witnesses 16 = .ok (.invokevirtual 233, 3) := by decide +kernel
theorem dX7_witnesses_19 : decode cX7_witnesses 19 = .ok (.ireturn, 1) := by decide +kernel
set_option maxRecDepth 20000 in
theorem ggX7_unsure_X7_fresh : GoodIn wsX7_unsure wsX7_fresh := goodIn_r _ [7, 8, 9, 10, 11, 12, 13, 14, 15, 16, 17, 18, 19, 20, 21, 22, 23, 24, 25, 26, 27, 28, 29, 30, 31, 32, 33, 34, 35, 36, 37, 38, 39, 40, 41, 42, 43, 44, 45, 46, 47, 48, 49, 50, 51, 52, 53, 54, 55, 56, 57, 58, 59, 60, 61, 62, 63, 64, 65, 66, 67, 68, 69, 70, 71, 72, 73, 74, 75, 76, 77, 78, 79, 80, 81, 82, 83, 84, 85, 86, 87, 88, 89, 90, 91, 92, 93, 94, 95, 6, 96, 97, 98, 99, 100, 101, 102, 103, 104, 105, 106, 107, 108, 109, 110, 111, 112, 113, 114, 115, 116, 117, 118, 119, 144, 145, 146, 147, 148, 149, 150, 151, 152, 153, 160, 161, 162, 163, 164, 165, 166, 167, 168, 169, 170, 171, 172, 173, 154, 155, 156, 157, 158, 159, 174, 175, 176, 177] (by decide +kernel) (by decide +kernel)
set_option maxRecDepth 20000 in
theorem gX7_unsure_X7_fresh : GoodIn wsX7_unsure (wsV RX7 143 RX7 yX7_fresh wsX7_fresh) := goodIn_app (goodIn_of _ (by decide +kernel)) ggX7_unsure_X7_fresh
set_option maxRecDepth 20000 in
theorem ggX7_unsure_X4_size : GoodIn wsX7_unsure wsX4_size := goodIn_r _ [29, 30, 174, 175, 176, 177] (by decide +kernel) (by decide +kernel)
set_option maxRecDepth 20000 in
theorem gX7_unsure_X4_size : GoodIn wsX7_unsure (wsV RX7 236 RX4 yX4_size wsX4_size) := goodIn_app (goodIn_of _ (by decide +kernel)) ggX7_unsure_X4_size
set_option maxRecDepth 20000 in
theorem ggX7_unsure_X1_doersOf : GoodIn wsX7_unsure wsX1_doersOf := goodIn_r _ [125, 126, 127, 128, 129, 124, 130, 131, 132, 41, 42, 28, 43, 30, 44, 45, 133, 134, 135, 12, 136, 65, 66, 67, 68, 55, 137, 138, 139, 140, 116, 117, 118, 119, 24, 112, 113, 114, 115, 85, 86, 50, 95, 6, 96, 178, 179, 180, 181, 154, 155, 156, 157, 158, 159, 174, 175, 176, 177, 160, 161, 162, 163, 164, 165, 166, 167, 168, 169, 170, 171, 172, 173] (by decide +kernel) (by decide +kernel)
set_option maxRecDepth 20000 in
theorem gX7_unsure_X1_doersOf : GoodIn wsX7_unsure (wsV RX7 207 RX1 yX1_doersOf wsX1_doersOf) := goodIn_app (goodIn_of _ (by decide +kernel)) ggX7_unsure_X1_doersOf
set_option maxRecDepth 20000 in
theorem ggX7_unsure_X7_onlyOneOf : GoodIn wsX7_unsure wsX7_onlyOneOf := goodIn_r _ [143] (by decide +kernel) (by decide +kernel)
set_option maxRecDepth 20000 in
theorem gX7_unsure_X7_onlyOneOf : GoodIn wsX7_unsure (va_wsS RX7 168 yX7_onlyOneOf wsX7_onlyOneOf) := goodIn_app (goodIn_of _ (by decide +kernel)) ggX7_unsure_X7_onlyOneOf
theorem dX7_unsure_0 : decode cX7_unsure 0 = .ok (.aload_n 0, 1) := by decide +kernel
theorem dX7_unsure_1 : decode cX7_unsure 1 = .ok (.invokevirtual 143, 3) := by decide +kernel
theorem dX7_unsure_4 : decode cX7_unsure 4 = .ok (.pop, 1) := by decide +kernel
theorem dX7_unsure_5 : decode cX7_unsure 5 = .ok (.iconst 0, 1) := by decide +kernel
theorem dX7_unsure_6 : decode cX7_unsure 6 = .ok (.istore_n 1, 1) := by decide +kernel
theorem dX7_unsure_7 : decode cX7_unsure 7 = .ok (.iconst 0, 1) := by decide +kernel
theorem dX7_unsure_8 : decode cX7_unsure 8 = .ok (.istore_n 2, 1) := by decide +kernel
theorem dX7_unsure_9 : decode cX7_unsure 9 = .ok (.iload_n 2, 1) := by decide +kernel
theorem dX7_unsure_10 : decode cX7_unsure 10 = .ok (.aload_n 0, 1) := by decide +kernel
theorem dX7_unsure_11 : decode cX7_unsure 11 = .ok (.getfield 10, 3) := by decide +kernel
theorem dX7_unsure_14 : decode cX7_unsure 14 = .ok (.getfield 190, 3) := by decide +kernel
theorem dX7_unsure_17 : decode cX7_unsure 17 = .ok (.invokevirtual 236, 3) := by decide +kernel
theorem dX7_unsure_20 : decode cX7_unsure 20 = .ok (.if_icmp .ge 30, 3) := by decide +kernel
theorem dX7_unsure_23 : decode cX7_unsure 23 = .ok (.aload_n 0, 1) := by decide +kernel
theorem dX7_unsure_24 : decode cX7_unsure 24 = .ok (.getfield 36, 3) := by decide +kernel
theorem dX7_unsure_27 : decode cX7_unsure 27 = .ok (.iload_n 2, 1) := by decide +kernel
theorem dX7_unsure_28 : decode cX7_unsure 28 = .ok (.invokevirtual 207, 3) := by decide +kernel
theorem dX7_unsure_31 : decode cX7_unsure 31 = .ok (.invokestatic 168, 3) := by decide +kernel
theorem dX7_unsure_34 : decode cX7_unsure 34 = .ok (.iconst (-1), 1) := by decide +kernel
theorem dX7_unsure_35 : decode cX7_unsure 35 = .ok (.if_icmp .ne 9, 3) := by decide +kernel
theorem dX7_unsure_38 : decode cX7_unsure 38 = .ok (.iload_n 1, 1) := by decide +kernel
theorem dX7_unsure_39 : decode cX7_unsure 39 = .ok (.iconst 1, 1) := by decide +kernel
theorem dX7_unsure_40 : decode cX7_unsure 40 = .ok (.iload_n 2, 1) := by decide +kernel
theorem dX7_unsure_41 : decode cX7_unsure 41 = .ok (.ishl, 1) := by decide +kernel
theorem dX7_unsure_42 : decode cX7_unsure 42 = .ok (.ior, 1) := by decide +kernel
theorem dX7_unsure_43 : decode cX7_unsure 43 = .ok (.istore_n 1, 1) := by decide +kernel
theorem dX7_unsure_44 : decode cX7_unsure 44 = .ok (.iinc 2 1, 3) := by decide +kernel
theorem dX7_unsure_47 : decode cX7_unsure 47 = .ok (.goto (-38), 3) := by decide +kernel
theorem dX7_unsure_50 : decode cX7_unsure 50 = .ok (.iload_n 1, 1) := by decide +kernel
theorem dX7_unsure_51 : decode cX7_unsure 51 = .ok (.ireturn, 1) := by decide +kernel
set_option maxRecDepth 20000 in
theorem ggX7_home_X7_fresh : GoodIn wsX7_home wsX7_fresh := goodIn_r _ [6, 7, 8, 9, 10, 11, 12, 13, 14, 15, 16, 17, 18, 19, 20, 21, 22, 23, 24, 25, 26, 27, 28, 29, 30, 31, 32, 33, 34, 35, 36, 37, 38, 39, 40, 41, 42, 43, 44, 45, 46, 47, 48, 49, 50, 51, 52, 53, 54, 55, 56, 57, 58, 59, 60, 61, 62, 63, 64, 65, 66, 67, 68, 69, 70, 71, 72, 73, 74, 75, 76, 77, 78, 79, 80, 81, 82, 83, 84, 85, 86, 87, 88, 89, 90, 91, 92, 93, 94, 5, 95, 96, 97, 98, 99, 100, 101, 102, 103, 104, 105, 106, 107, 108, 109, 110, 111, 112, 113, 114, 115, 116, 117, 118, 147, 148, 149, 150, 151, 152, 153, 154, 155, 156, 157, 158, 159, 160, 161, 162, 163, 164, 165, 166, 167, 168, 169, 170, 171, 172, 173, 174, 175, 176, 177, 178, 179, 180] (by decide +kernel) (by decide +kernel)
set_option maxRecDepth 20000 in
theorem gX7_home_X7_fresh : GoodIn wsX7_home (wsV RX7 143 RX7 yX7_fresh wsX7_fresh) := goodIn_app (goodIn_of _ (by decide +kernel)) ggX7_home_X7_fresh
set_option maxRecDepth 20000 in
theorem ggX7_home_X2_someHolds : GoodIn wsX7_home wsX2_someHolds := goodIn_r _ [122, 20, 157, 158, 159, 160, 161, 162, 163, 164, 165, 166, 167, 168, 169, 170] (by decide +kernel) (by decide +kernel)
set_option maxRecDepth 20000 in
theorem gX7_home_X2_someHolds : GoodIn wsX7_home (wsV RX7 155 RX2 yX2_someHolds wsX2_someHolds) := goodIn_app (goodIn_of _ (by decide +kernel)) ggX7_home_X2_someHolds
set_option maxRecDepth 20000 in
theorem ggX7_home_X7_found : GoodIn wsX7_home wsX7_found := goodIn_r _ [126, 127, 128, 147, 148, 149, 150, 151, 152, 153, 154, 155, 156] (by decide +kernel) (by decide +kernel)
set_option maxRecDepth 20000 in
theorem gX7_home_X7_found : GoodIn wsX7_home (wsV RX7 72 RX7 yX7_found wsX7_found) := goodIn_app (goodIn_of _ (by decide +kernel)) ggX7_home_X7_found
set_option maxRecDepth 20000 in
theorem ggX7_home_X7_bowHomeward : GoodIn wsX7_home wsX7_bowHomeward := goodIn_r _ [132, 133, 134, 135, 136, 5, 137, 7, 138, 139, 140, 11, 141, 20, 142, 112, 113, 114, 84, 85, 49, 143, 144, 145, 102, 94, 95, 146, 100, 101, 147, 148, 149, 150, 151, 152, 153, 154, 155, 156, 171, 172, 173, 174, 175, 176, 157, 158, 159, 160, 161, 162, 163, 164, 165, 166, 167, 168, 169, 170] (by decide +kernel) (by decide +kernel)
set_option maxRecDepth 20000 in
theorem gX7_home_X7_bowHomeward : GoodIn wsX7_home (wsV RX7 239 RX7 yX7_bowHomeward wsX7_bowHomeward) := goodIn_app (goodIn_of _ (by decide +kernel)) ggX7_home_X7_bowHomeward
theorem dX7_home_0 : decode cX7_home 0 = .ok (.aload_n 0, 1) := by decide +kernel
theorem dX7_home_1 : decode cX7_home 1 = .ok (.invokevirtual 143, 3) := by decide +kernel
theorem dX7_home_4 : decode cX7_home 4 = .ok (.invokevirtual 155, 3) := by decide +kernel
theorem dX7_home_7 : decode cX7_home 7 = .ok (.ifCond .ne 10, 3) := by decide +kernel
theorem dX7_home_10 : decode cX7_home 10 = .ok (.aload_n 0, 1) := by decide +kernel
theorem dX7_home_11 : decode cX7_home 11 = .ok (.ldc 158, 2) := by decide +kernel
theorem dX7_home_13 : decode cX7_home 13 = .ok (.invokevirtual 72, 3) := by decide +kernel
theorem dX7_home_16 : decode cX7_home 16 = .ok (.ireturn, 1) := by decide +kernel
theorem dX7_home_17 : decode cX7_home 17 = .ok (.iconst 0, 1) := by decide +kernel
theorem dX7_home_18 : decode cX7_home 18 = .ok (.istore_n 1, 1) := by decide +kernel
theorem dX7_home_19 : decode cX7_home 19 = .ok (.iload_n 1, 1) := by decide +kernel
theorem dX7_home_20 : decode cX7_home 20 = .ok (.bipush 8, 2) := by decide +kernel
theorem dX7_home_22 : decode cX7_home 22 = .ok (.if_icmp .ge 18, 3) := by decide +kernel
theorem dX7_home_25 : decode cX7_home 25 = .ok (.aload_n 0, 1) := by decide +kernel
theorem dX7_home_26 : decode cX7_home 26 = .ok (.iload_n 1, 1) := by decide +kernel
theorem dX7_home_27 : decode cX7_home 27 = .ok (.invokevirtual 239, 3) := by decide +kernel
theorem dX7_home_30 : decode cX7_home 30 = .ok (.iconst (-1), 1) := by decide +kernel
theorem dX7_home_31 : decode cX7_home 31 = .ok (.if_icmp .eq 9, 3) := by decide +kernel
theorem dX7_home_34 : decode cX7_home 34 = .ok (.iinc 1 1, 3) := by decide +kernel
theorem dX7_home_37 : decode cX7_home 37 = .ok (.goto (-18), 3) := by decide +kernel
theorem dX7_home_40 : decode cX7_home 40 = .ok (.iload_n 1, 1) := by decide +kernel
theorem dX7_home_41 : decode cX7_home 41 = .ok (.ireturn, 1) := by decide +kernel
set_option maxRecDepth 20000 in
theorem ggX7_homeBow_X7_found : GoodIn wsX7_homeBow wsX7_found := goodIn_r _ [7, 1, 8, 151, 152, 153, 154, 155, 156, 157, 158, 159, 160] (by decide +kernel) (by decide +kernel)
set_option maxRecDepth 20000 in
theorem gX7_homeBow_X7_found : GoodIn wsX7_homeBow (wsV RX7 72 RX7 yX7_found wsX7_found) := goodIn_app (goodIn_of _ (by decide +kernel)) ggX7_homeBow_X7_found
set_option maxRecDepth 20000 in
theorem ggX7_homeBow_X7_fresh : GoodIn wsX7_homeBow wsX7_fresh := goodIn_r _ [12, 13, 14, 15, 16, 17, 18, 19, 20, 21, 22, 23, 24, 25, 26, 27, 28, 29, 30, 31, 32, 33, 34, 35, 36, 37, 38, 39, 40, 41, 42, 43, 44, 45, 46, 47, 48, 49, 50, 51, 52, 53, 54, 55, 56, 57, 58, 59, 60, 61, 62, 63, 64, 65, 66, 67, 68, 69, 70, 71, 72, 73, 74, 75, 76, 77, 78, 79, 80, 81, 82, 83, 84, 85, 86, 87, 88, 89, 90, 91, 92, 93, 94, 95, 96, 97, 98, 99, 100, 6, 101, 102, 103, 104, 105, 106, 107, 108, 109, 110, 111, 112, 113, 114, 115, 116, 117, 118, 119, 120, 121, 122, 123, 124, 151, 152, 153, 154, 155, 156, 157, 158, 159, 160, 161, 162, 163, 164, 165, 166, 167, 168, 169, 170, 171, 172, 173, 174, 175, 176, 177, 178, 179, 180, 181, 182, 183, 184] (by decide +kernel) (by decide +kernel)
set_option maxRecDepth 20000 in
theorem gX7_homeBow_X7_fresh : GoodIn wsX7_homeBow (wsV RX7 143 RX7 yX7_fresh wsX7_fresh) := goodIn_app (goodIn_of _ (by decide +kernel)) ggX7_homeBow_X7_fresh
set_option maxRecDepth 20000 in
theorem ggX7_homeBow_X2_someHolds : GoodIn wsX7_homeBow wsX2_someHolds := goodIn_r _ [128, 26, 161, 162, 163, 164, 165, 166, 167, 168, 169, 170, 171, 172, 173, 174] (by decide +kernel) (by decide +kernel)
set_option maxRecDepth 20000 in
theorem gX7_homeBow_X2_someHolds : GoodIn wsX7_homeBow (wsV RX7 155 RX2 yX2_someHolds wsX2_someHolds) := goodIn_app (goodIn_of _ (by decide +kernel)) ggX7_homeBow_X2_someHolds
set_option maxRecDepth 20000 in
theorem ggX7_homeBow_X7_bowHomeward : GoodIn wsX7_homeBow wsX7_bowHomeward := goodIn_r _ [132, 133, 134, 135, 136, 6, 137, 13, 138, 139, 140, 17, 141, 26, 142, 118, 119, 120, 90, 91, 55, 143, 144, 145, 108, 100, 101, 146, 106, 107, 151, 152, 153, 154, 155, 156, 157, 158, 159, 160, 175, 176, 177, 178, 179, 180, 161, 162, 163, 164, 165, 166, 167, 168, 169, 170, 171, 172, 173, 174] (by decide +kernel) (by decide +kernel)
set_option maxRecDepth 20000 in
theorem gX7_homeBow_X7_bowHomeward : GoodIn wsX7_homeBow (wsV RX7 239 RX7 yX7_bowHomeward wsX7_bowHomeward) := goodIn_app (goodIn_of _ (by decide +kernel)) ggX7_homeBow_X7_bowHomeward
set_option maxRecDepth 20000 in
theorem ggX7_homeBow_X7_orNone : GoodIn wsX7_homeBow wsX7_orNone := goodIn_r _ [150, 2, 3, 4, 5, 6, 7, 1, 8, 151, 152, 153, 154, 155, 156, 157, 158, 159, 160] (by decide +kernel) (by decide +kernel)
set_option maxRecDepth 20000 in
theorem gX7_homeBow_X7_orNone : GoodIn wsX7_homeBow (wsV RX7 171 RX7 yX7_orNone wsX7_orNone) := goodIn_app (goodIn_of _ (by decide +kernel)) ggX7_homeBow_X7_orNone
theorem dX7_homeBow_0 : decode cX7_homeBow 0 = .ok (.iload_n 1, 1) := by decide +kernel
theorem dX7_homeBow_1 : decode cX7_homeBow 1 = .ok (.ifCond .ge 10, 3) := by decide +kernel
theorem dX7_homeBow_4 : decode cX7_homeBow 4 = .ok (.aload_n 0, 1) := by decide +kernel
theorem dX7_homeBow_5 : decode cX7_homeBow 5 = .ok (.ldc 71, 2) := by decide +kernel
theorem dX7_homeBow_7 : decode cX7_homeBow 7 = .ok (.invokevirtual 72, 3) := by decide +kernel
theorem dX7_homeBow_10 : decode cX7_homeBow 10 = .ok (.ireturn, 1) := by decide +kernel
theorem dX7_homeBow_11 : decode cX7_homeBow 11 = .ok (.aload_n 0, 1) := by decide +kernel
theorem dX7_homeBow_12 : decode cX7_homeBow 12 = .ok (.invokevirtual 143, 3) := by decide +kernel
theorem dX7_homeBow_15 : decode cX7_homeBow 15 = .ok (.invokevirtual 155, 3) := by decide +kernel
theorem dX7_homeBow_18 : decode cX7_homeBow 18 = .ok (.ifCond .ne 10, 3) := by decide +kernel
theorem dX7_homeBow_21 : decode cX7_homeBow 21 = .ok (.aload_n 0, 1) := by decide +kernel
theorem dX7_homeBow_22 : decode cX7_homeBow 22 = .ok (.ldc 158, 2) := by decide +kernel
theorem dX7_homeBow_24 : decode cX7_homeBow 24 = .ok (.invokevirtual 72, 3) := by decide +kernel
theorem dX7_homeBow_27 : decode cX7_homeBow 27 = .ok (.ireturn, 1) := by decide +kernel
theorem dX7_homeBow_28 : decode cX7_homeBow 28 = .ok (.aload_n 0, 1) := by decide +kernel
theorem dX7_homeBow_29 : decode cX7_homeBow 29 = .ok (.aload_n 0, 1) := by decide +kernel
theorem dX7_homeBow_30 : decode cX7_homeBow 30 = .ok (.iload_n 1, 1) := by decide +kernel
theorem dX7_homeBow_31 : decode cX7_homeBow 31 = .ok (.invokevirtual 239, 3) := by decide +kernel
theorem dX7_homeBow_34 : decode cX7_homeBow 34 = .ok (.invokevirtual 171, 3) := by decide +kernel
theorem dX7_homeBow_37 : decode cX7_homeBow 37 = .ok (.ireturn, 1) := by decide +kernel
set_option maxRecDepth 20000 in
theorem ggX7_atHome_X7_isHour : GoodIn wsX7_atHome wsX7_isHour := goodIn_r _ [7] (by decide +kernel) (by decide +kernel)
set_option maxRecDepth 20000 in
theorem gX7_atHome_X7_isHour : GoodIn wsX7_atHome (va_wsS RX7 88 yX7_isHour wsX7_isHour) := goodIn_app (goodIn_of _ (by decide +kernel)) ggX7_atHome_X7_isHour
set_option maxRecDepth 20000 in
theorem ggX7_atHome_X7_found : GoodIn wsX7_atHome wsX7_found := goodIn_r _ [11, 1, 12, 142, 143, 144, 145, 146, 147, 148, 149, 150, 151] (by decide +kernel) (by decide +kernel)
set_option maxRecDepth 20000 in
theorem gX7_atHome_X7_found : GoodIn wsX7_atHome (wsV RX7 72 RX7 yX7_found wsX7_found) := goodIn_app (goodIn_of _ (by decide +kernel)) ggX7_atHome_X7_found
set_option maxRecDepth 20000 in
theorem ggX7_atHome_X7_fresh : GoodIn wsX7_atHome wsX7_fresh := goodIn_r _ [16, 17, 18, 19, 20, 21, 22, 23, 24, 25, 26, 27, 28, 29, 30, 31, 32, 33, 34, 35, 36, 37, 38, 39, 40, 41, 42, 43, 44, 45, 46, 47, 48, 49, 50, 51, 52, 53, 54, 55, 56, 57, 58, 59, 60, 61, 62, 63, 64, 65, 66, 67, 68, 69, 70, 71, 72, 73, 74, 75, 76, 77, 78, 79, 80, 81, 82, 83, 84, 85, 86, 87, 88, 89, 90, 91, 92, 93, 94, 95, 96, 97, 98, 99, 100, 101, 102, 103, 104, 6, 105, 106, 107, 108, 109, 110, 111, 112, 113, 114, 115, 116, 117, 118, 119, 120, 121, 122, 123, 124, 125, 126, 127, 128, 142, 143, 144, 145, 146, 147, 148, 149, 150, 151, 158, 159, 160, 161, 162, 163, 164, 165, 166, 167, 168, 169, 170, 171, 152, 153, 154, 155, 156, 157, 172, 173, 174, 175] (by decide +kernel) (by decide +kernel)
set_option maxRecDepth 20000 in
theorem gX7_atHome_X7_fresh : GoodIn wsX7_atHome (wsV RX7 143 RX7 yX7_fresh wsX7_fresh) := goodIn_app (goodIn_of _ (by decide +kernel)) ggX7_atHome_X7_fresh
set_option maxRecDepth 20000 in
theorem ggX7_atHome_X2_someHolds : GoodIn wsX7_atHome wsX2_someHolds := goodIn_r _ [132, 30, 158, 159, 160, 161, 162, 163, 164, 165, 166, 167, 168, 169, 170, 171] (by decide +kernel) (by decide +kernel)
set_option maxRecDepth 20000 in
theorem gX7_atHome_X2_someHolds : GoodIn wsX7_atHome (wsV RX7 155 RX2 yX2_someHolds wsX2_someHolds) := goodIn_app (goodIn_of _ (by decide +kernel)) ggX7_atHome_X2_someHolds
set_option maxRecDepth 20000 in
theorem ggX7_atHome_X7_likeliestRow : GoodIn wsX7_atHome wsX7_likeliestRow := goodIn_r _ [136, 17, 137, 138, 139, 21, 140, 30, 141, 122, 123, 124, 94, 95, 59, 142, 143, 144, 145, 146, 147, 148, 149, 150, 151, 158, 159, 160, 161, 162, 163, 164, 165, 166, 167, 168, 169, 170, 171] (by decide +kernel) (by decide +kernel)
set_option maxRecDepth 20000 in
theorem gX7_atHome_X7_likeliestRow : GoodIn wsX7_atHome (wsV RX7 242 RX7 yX7_likeliestRow wsX7_likeliestRow) := goodIn_app (goodIn_of _ (by decide +kernel)) ggX7_atHome_X7_likeliestRow
set_option maxRecDepth 20000 in
theorem ggX7_atHome_X7_wearer : GoodIn wsX7_atHome wsX7_wearer := goodIn_r _ [105] (by decide +kernel) (by decide +kernel)
set_option maxRecDepth 20000 in
theorem gX7_atHome_X7_wearer : GoodIn wsX7_atHome (va_wsS RX7 245 yX7_wearer wsX7_wearer) := goodIn_app (goodIn_of _ (by decide +kernel)) ggX7_atHome_X7_wearer
theorem dX7_atHome_0 : decode cX7_atHome 0 = .ok (.iload_n 1, 1) := by decide +kernel
theorem dX7_atHome_1 : decode cX7_atHome 1 = .ok (.invokestatic 88, 3) := by decide +kernel
theorem dX7_atHome_4 : decode cX7_atHome 4 = .ok (.ifCond .ne 10, 3) := by decide +kernel
theorem dX7_atHome_7 : decode cX7_atHome 7 = .ok (.aload_n 0, 1) := by decide +kernel
theorem dX7_atHome_8 : decode cX7_atHome 8 = .ok (.ldc 71, 2) := by decide +kernel
theorem dX7_atHome_10 : decode cX7_atHome 10 = .ok (.invokevirtual 72, 3) := by decide +kernel
theorem dX7_atHome_13 : decode cX7_atHome 13 = .ok (.ireturn, 1) := by decide +kernel
theorem dX7_atHome_14 : decode cX7_atHome 14 = .ok (.aload_n 0, 1) := by decide +kernel
theorem dX7_atHome_15 : decode cX7_atHome 15 = .ok (.invokevirtual 143, 3) := by decide +kernel
theorem dX7_atHome_18 : decode cX7_atHome 18 = .ok (.invokevirtual 155, 3) := by decide +kernel
theorem dX7_atHome_21 : decode cX7_atHome 21 = .ok (.ifCond .ne 10, 3) := by decide +kernel
theorem dX7_atHome_24 : decode cX7_atHome 24 = .ok (.aload_n 0, 1) := by decide +kernel
theorem dX7_atHome_25 : decode cX7_atHome 25 = .ok (.ldc 158, 2) := by decide +kernel
theorem dX7_atHome_27 : decode cX7_atHome 27 = .ok (.invokevirtual 72, 3) := by decide +kernel
theorem dX7_atHome_30 : decode cX7_atHome 30 = .ok (.ireturn, 1) := by decide +kernel
theorem dX7_atHome_31 : decode cX7_atHome 31 = .ok (.aload_n 0, 1) := by decide +kernel
theorem dX7_atHome_32 : decode cX7_atHome 32 = .ok (.iload_n 1, 1) := by decide +kernel
theorem dX7_atHome_33 : decode cX7_atHome 33 = .ok (.invokevirtual 242, 3) := by decide +kernel
theorem dX7_atHome_36 : decode cX7_atHome 36 = .ok (.istore_n 2, 1) := by decide +kernel
theorem dX7_atHome_37 : decode cX7_atHome 37 = .ok (.iconst 0, 1) := by decide +kernel
theorem dX7_atHome_38 : decode cX7_atHome 38 = .ok (.istore_n 3, 1) := by decide +kernel
theorem dX7_atHome_39 : decode cX7_atHome 39 = .ok (.iconst 0, 1) := by decide +kernel
theorem dX7_atHome_40 : decode cX7_atHome 40 = .ok (.istore 4, 2) := by decide +kernel
theorem dX7_atHome_42 : decode cX7_atHome 42 = .ok (.iload 4, 2) := by decide +kernel
theorem dX7_atHome_44 : decode cX7_atHome 44 = .ok (.aload_n 0, 1) := by decide +kernel
theorem dX7_atHome_45 : decode cX7_atHome 45 = .ok (.getfield 10, 3) := by decide +kernel
theorem dX7_atHome_48 : decode cX7_atHome 48 = .ok (.getfield 81, 3) := by decide +kernel
theorem dX7_atHome_51 : decode cX7_atHome 51 = .ok (.if_icmp .ge 27, 3) := by decide +kernel
theorem dX7_atHome_54 : decode cX7_atHome 54 = .ok (.iload_n 2, 1) := by decide +kernel
theorem dX7_atHome_55 : decode cX7_atHome 55 = .ok (.iload 4, 2) := by decide +kernel
theorem dX7_atHome_57 : decode cX7_atHome 57 = .ok (.invokestatic 245, 3) := by decide +kernel
theorem dX7_atHome_60 : decode cX7_atHome 60 = .ok (.iload 4, 2) := by decide +kernel
theorem dX7_atHome_62 : decode cX7_atHome 62 = .ok (.if_icmp .ne 10, 3) := by decide +kernel
theorem dX7_atHome_65 : decode cX7_atHome 65 = .ok (.iload_n 3, 1) := by decide +kernel
theorem dX7_atHome_66 : decode cX7_atHome 66 = .ok (.iconst 1, 1) := by decide +kernel
theorem dX7_atHome_67 : decode cX7_atHome 67 = .ok (.iload 4, 2) := by decide +kernel
theorem dX7_atHome_69 : decode cX7_atHome 69 = .ok (.ishl, 1) := by decide +kernel
theorem dX7_atHome_70 : decode cX7_atHome 70 = .ok (.ior, 1) := by decide +kernel
theorem dX7_atHome_71 : decode cX7_atHome 71 = .ok (.istore_n 3, 1) := by decide +kernel
theorem dX7_atHome_72 : decode cX7_atHome 72 = .ok (.iinc 4 1, 3) := by decide +kernel
theorem dX7_atHome_75 : decode cX7_atHome 75 = .ok (.goto (-33), 3) := by decide +kernel
theorem dX7_atHome_78 : decode cX7_atHome 78 = .ok (.iload_n 3, 1) := by decide +kernel
theorem dX7_atHome_79 : decode cX7_atHome 79 = .ok (.ireturn, 1) := by decide +kernel
set_option maxRecDepth 20000 in
theorem ggX7_since_X7_isPerson : GoodIn wsX7_since wsX7_isPerson := goodIn_r _ [7, 8, 143, 144, 145, 146, 147, 148, 149, 150, 151, 152, 153, 154, 155, 156, 157, 158] (by decide +kernel) (by decide +kernel)
set_option maxRecDepth 20000 in
theorem gX7_since_X7_isPerson : GoodIn wsX7_since (wsV RX7 137 RX7 yX7_isPerson wsX7_isPerson) := goodIn_app (goodIn_of _ (by decide +kernel)) ggX7_since_X7_isPerson
set_option maxRecDepth 20000 in
theorem ggX7_since_X7_found : GoodIn wsX7_since wsX7_found := goodIn_r _ [12, 1, 13, 143, 144, 145, 146, 147, 148, 149, 150, 151, 152] (by decide +kernel) (by decide +kernel)
set_option maxRecDepth 20000 in
theorem gX7_since_X7_found : GoodIn wsX7_since (wsV RX7 72 RX7 yX7_found wsX7_found) := goodIn_app (goodIn_of _ (by decide +kernel)) ggX7_since_X7_found
set_option maxRecDepth 20000 in
theorem ggX7_since_X7_fresh : GoodIn wsX7_since wsX7_fresh := goodIn_r _ [17, 18, 19, 20, 21, 22, 23, 24, 25, 26, 27, 28, 29, 30, 31, 32, 33, 34, 35, 36, 37, 38, 39, 40, 41, 42, 43, 44, 45, 46, 47, 48, 49, 50, 51, 52, 53, 54, 55, 56, 57, 58, 59, 60, 61, 62, 63, 64, 65, 66, 67, 68, 69, 70, 71, 72, 73, 74, 75, 76, 77, 78, 79, 80, 81, 82, 83, 84, 85, 86, 87, 88, 89, 90, 91, 92, 93, 94, 95, 96, 97, 98, 99, 100, 101, 102, 103, 104, 105, 6, 106, 107, 108, 109, 110, 111, 112, 113, 114, 115, 116, 117, 118, 119, 120, 121, 122, 123, 124, 125, 126, 127, 128, 129, 143, 144, 145, 146, 147, 148, 149, 150, 151, 152, 159, 160, 161, 162, 163, 164, 165, 166, 167, 168, 169, 170, 171, 172, 153, 154, 155, 156, 157, 158, 173, 174, 175, 176] (by decide +kernel) (by decide +kernel)
set_option maxRecDepth 20000 in
theorem gX7_since_X7_fresh : GoodIn wsX7_since (wsV RX7 143 RX7 yX7_fresh wsX7_fresh) := goodIn_app (goodIn_of _ (by decide +kernel)) ggX7_since_X7_fresh
set_option maxRecDepth 20000 in
theorem ggX7_since_X2_someHolds : GoodIn wsX7_since wsX2_someHolds := goodIn_r _ [133, 31, 159, 160, 161, 162, 163, 164, 165, 166, 167, 168, 169, 170, 171, 172] (by decide +kernel) (by decide +kernel)
set_option maxRecDepth 20000 in
theorem gX7_since_X2_someHolds : GoodIn wsX7_since (wsV RX7 155 RX2 yX2_someHolds wsX2_someHolds) := goodIn_app (goodIn_of _ (by decide +kernel)) ggX7_since_X2_someHolds
set_option maxRecDepth 20000 in
theorem ggX7_since_X7_likeliestRow : GoodIn wsX7_since wsX7_likeliestRow := goodIn_r _ [137, 18, 138, 139, 140, 22, 141, 31, 142, 123, 124, 125, 95, 96, 60, 143, 144, 145, 146, 147, 148, 149, 150, 151, 152, 159, 160, 161, 162, 163, 164, 165, 166, 167, 168, 169, 170, 171, 172] (by decide +kernel) (by decide +kernel)
set_option maxRecDepth 20000 in
theorem gX7_since_X7_likeliestRow : GoodIn wsX7_since (wsV RX7 242 RX7 yX7_likeliestRow wsX7_likeliestRow) := goodIn_app (goodIn_of _ (by decide +kernel)) ggX7_since_X7_likeliestRow
set_option maxRecDepth 20000 in
theorem ggX7_since_X7_wearer : GoodIn wsX7_since wsX7_wearer := goodIn_r _ [106] (by decide +kernel) (by decide +kernel)
set_option maxRecDepth 20000 in
theorem gX7_since_X7_wearer : GoodIn wsX7_since (va_wsS RX7 245 yX7_wearer wsX7_wearer) := goodIn_app (goodIn_of _ (by decide +kernel)) ggX7_since_X7_wearer
theorem dX7_since_0 : decode cX7_since 0 = .ok (.aload_n 0, 1) := by decide +kernel
theorem dX7_since_1 : decode cX7_since 1 = .ok (.iload_n 1, 1) := by decide +kernel
theorem dX7_since_2 : decode cX7_since 2 = .ok (.invokevirtual 137, 3) := by decide +kernel
theorem dX7_since_5 : decode cX7_since 5 = .ok (.ifCond .ne 10, 3) := by decide +kernel
theorem dX7_since_8 : decode cX7_since 8 = .ok (.aload_n 0, 1) := by decide +kernel
theorem dX7_since_9 : decode cX7_since 9 = .ok (.ldc 71, 2) := by decide +kernel
theorem dX7_since_11 : decode cX7_since 11 = .ok (.invokevirtual 72, 3) := by decide +kernel
theorem dX7_since_14 : decode cX7_since 14 = .ok (.ireturn, 1) := by decide +kernel
theorem dX7_since_15 : decode cX7_since 15 = .ok (.aload_n 0, 1) := by decide +kernel
theorem dX7_since_16 : decode cX7_since 16 = .ok (.invokevirtual 143, 3) := by decide +kernel
theorem dX7_since_19 : decode cX7_since 19 = .ok (.invokevirtual 155, 3) := by decide +kernel
theorem dX7_since_22 : decode cX7_since 22 = .ok (.ifCond .ne 10, 3) := by decide +kernel
theorem dX7_since_25 : decode cX7_since 25 = .ok (.aload_n 0, 1) := by decide +kernel
theorem dX7_since_26 : decode cX7_since 26 = .ok (.ldc 158, 2) := by decide +kernel
theorem dX7_since_28 : decode cX7_since 28 = .ok (.invokevirtual 72, 3) := by decide +kernel
theorem dX7_since_31 : decode cX7_since 31 = .ok (.ireturn, 1) := by decide +kernel
theorem dX7_since_32 : decode cX7_since 32 = .ok (.bipush 100, 2) := by decide +kernel
theorem dX7_since_34 : decode cX7_since 34 = .ok (.istore_n 2, 1) := by decide +kernel
theorem dX7_since_35 : decode cX7_since 35 = .ok (.iload_n 2, 1) := by decide +kernel
theorem dX7_since_36 : decode cX7_since 36 = .ok (.ifCond .le 24, 3) := by decide +kernel
theorem dX7_since_39 : decode cX7_since 39 = .ok (.aload_n 0, 1) := by decide +kernel
theorem dX7_since_40 : decode cX7_since 40 = .ok (.iload_n 2, 1) := by decide +kernel
theorem dX7_since_41 : decode cX7_since 41 = .ok (.iconst 1, 1) := by decide +kernel
theorem dX7_since_42 : decode cX7_since 42 = .ok (.isub, 1) := by decide +kernel
theorem dX7_since_43 : decode cX7_since 43 = .ok (.invokevirtual 242, 3) := by decide +kernel
theorem dX7_since_46 : decode cX7_since 46 = .ok (.iload_n 1, 1) := by decide +kernel
theorem dX7_since_47 : decode cX7_since 47 = .ok (.invokestatic 245, 3) := by decide +kernel
theorem dX7_since_50 : decode cX7_since 50 = .ok (.iload_n 1, 1) := by decide +kernel
theorem dX7_since_51 : decode cX7_since 51 = .ok (.if_icmp .ne 9, 3) := by decide +kernel
theorem dX7_since_54 : decode cX7_since 54 = .ok (.iinc 2 (-1), 3) := by decide +kernel
theorem dX7_since_57 : decode cX7_since 57 = .ok (.goto (-22), 3) := by decide +kernel
theorem dX7_since_60 : decode cX7_since 60 = .ok (.iload_n 2, 1) := by decide +kernel
theorem dX7_since_61 : decode cX7_since 61 = .ok (.bipush 100, 2) := by decide +kernel
theorem dX7_since_63 : decode cX7_since 63 = .ok (.if_icmp .ne 12, 3) := by decide +kernel
theorem dX7_since_66 : decode cX7_since 66 = .ok (.aload_n 0, 1) := by decide +kernel
theorem dX7_since_67 : decode cX7_since 67 = .ok (.ldc 158, 2) := by decide +kernel
theorem dX7_since_69 : decode cX7_since 69 = .ok (.invokevirtual 72, 3) := by decide +kernel
theorem dX7_since_72 : decode cX7_since 72 = .ok (.goto 4, 3) := by decide +kernel
theorem dX7_since_75 : decode cX7_since 75 = .ok (.iload_n 2, 1) := by decide +kernel
theorem dX7_since_76 : decode cX7_since 76 = .ok (.ireturn, 1) := by decide +kernel
set_option maxRecDepth 20000 in
theorem ggX7_feed_X7_found : GoodIn wsX7_feed wsX7_found := goodIn_r _ [8, 1, 9, 21, 22, 23, 24, 25, 26, 27, 28, 29, 30] (by decide +kernel) (by decide +kernel)
set_option maxRecDepth 20000 in
theorem gX7_feed_X7_found : GoodIn wsX7_feed (wsV RX7 72 RX7 yX7_found wsX7_found) := goodIn_app (goodIn_of _ (by decide +kernel)) ggX7_feed_X7_found
set_option maxRecDepth 20000 in
theorem ggX7_feed_X6_length : GoodIn wsX7_feed wsX6_length := goodIn_r _ [14, 15, 31, 32] (by decide +kernel) (by decide +kernel)
set_option maxRecDepth 20000 in
theorem gX7_feed_X6_length : GoodIn wsX7_feed (wsV RX7 248 RX6 yX6_length wsX6_length) := goodIn_app (goodIn_of _ (by decide +kernel)) ggX7_feed_X6_length
set_option maxRecDepth 20000 in
theorem ggX7_feed_X6_add : GoodIn wsX7_feed wsX6_add := goodIn_r _ [19, 15, 20, 31, 32] (by decide +kernel) (by decide +kernel)
set_option maxRecDepth 20000 in
theorem gX7_feed_X6_add : GoodIn wsX7_feed (wsV RX7 251 RX6 yX6_add wsX6_add) := goodIn_app (goodIn_of _ (by decide +kernel)) ggX7_feed_X6_add
theorem dX7_feed_0 : decode cX7_feed 0 = .ok (.iload_n 2, 1) := by decide +kernel
theorem dX7_feed_1 : decode cX7_feed 1 = .ok (.iconst 1, 1) := by decide +kernel
theorem dX7_feed_2 : decode cX7_feed 2 = .ok (.if_icmp .lt 8, 3) := by decide +kernel
theorem dX7_feed_5 : decode cX7_feed 5 = .ok (.iload_n 2, 1) := by decide +kernel
theorem dX7_feed_6 : decode cX7_feed 6 = .ok (.iconst 4, 1) := by decide +kernel
theorem dX7_feed_7 : decode cX7_feed 7 = .ok (.if_icmp .le 10, 3) := by decide +kernel
theorem dX7_feed_10 : decode cX7_feed 10 = .ok (.aload_n 0, 1) := by decide +kernel
theorem dX7_feed_11 : decode cX7_feed 11 = .ok (.ldc 71, 2) := by decide +kernel
theorem dX7_feed_13 : decode cX7_feed 13 = .ok (.invokevirtual 72, 3) := by decide +kernel
theorem dX7_feed_16 : decode cX7_feed 16 = .ok (.ireturn, 1) := by decide +kernel
theorem dX7_feed_17 : decode cX7_feed 17 = .ok (.aload_n 0, 1) := by decide +kernel
theorem dX7_feed_18 : decode cX7_feed 18 = .ok (.getfield 43, 3) := by decide +kernel
theorem dX7_feed_21 : decode cX7_feed 21 = .ok (.invokevirtual 248, 3) := by decide +kernel
theorem dX7_feed_24 : decode cX7_feed 24 = .ok (.iload_n 2, 1) := by decide +kernel
theorem dX7_feed_25 : decode cX7_feed 25 = .ok (.iadd, 1) := by decide +kernel
theorem dX7_feed_26 : decode cX7_feed 26 = .ok (.bipush 120, 2) := by decide +kernel
theorem dX7_feed_28 : decode cX7_feed 28 = .ok (.if_icmp .le 10, 3) := by decide +kernel
theorem dX7_feed_31 : decode cX7_feed 31 = .ok (.aload_n 0, 1) := by decide +kernel
theorem dX7_feed_32 : decode cX7_feed 32 = .ok (.ldc 111, 2) := by decide +kernel
theorem dX7_feed_34 : decode cX7_feed 34 = .ok (.invokevirtual 72, 3) := by decide +kernel
theorem dX7_feed_37 : decode cX7_feed 37 = .ok (.ireturn, 1) := by decide +kernel
theorem dX7_feed_38 : decode cX7_feed 38 = .ok (.iload_n 2, 1) := by decide +kernel
theorem dX7_feed_39 : decode cX7_feed 39 = .ok (.iconst 1, 1) := by decide +kernel
theorem dX7_feed_40 : decode cX7_feed 40 = .ok (.isub, 1) := by decide +kernel
theorem dX7_feed_41 : decode cX7_feed 41 = .ok (.istore_n 3, 1) := by decide +kernel
theorem dX7_feed_42 : decode cX7_feed 42 = .ok (.iload_n 3, 1) := by decide +kernel
theorem dX7_feed_43 : decode cX7_feed 43 = .ok (.ifCond .lt 26, 3) := by decide +kernel
theorem dX7_feed_46 : decode cX7_feed 46 = .ok (.aload_n 0, 1) := by decide +kernel
theorem dX7_feed_47 : decode cX7_feed 47 = .ok (.getfield 43, 3) := by decide +kernel
theorem dX7_feed_50 : decode cX7_feed 50 = .ok (.iload_n 1, 1) := by decide +kernel
theorem dX7_feed_51 : decode cX7_feed 51 = .ok (.bipush 8, 2) := by decide +kernel
theorem dX7_feed_53 : decode cX7_feed 53 = .ok (.iload_n 3, 1) := by decide +kernel
theorem dX7_feed_54 : decode cX7_feed 54 = .ok (.imul, 1) := by decide +kernel
theorem dX7_feed_55 : decode cX7_feed 55 = .ok (.iushr, 1) := by decide +kernel
theorem dX7_feed_56 : decode cX7_feed 56 = .ok (.sipush 255, 3) := by decide +kernel
theorem dX7_feed_59 : decode cX7_feed 59 = .ok (.iand, 1) := by decide +kernel
theorem dX7_feed_60 : decode cX7_feed 60 = .ok (.invokevirtual 251, 3) := by decide +kernel
theorem dX7_feed_63 : decode cX7_feed 63 = .ok (.iinc 3 (-1), 3) := by decide +kernel
theorem dX7_feed_66 : decode cX7_feed 66 = .ok (.goto (-24), 3) := by decide +kernel
theorem dX7_feed_69 : decode cX7_feed 69 = .ok (.aload_n 0, 1) := by decide +kernel
theorem dX7_feed_70 : decode cX7_feed 70 = .ok (.getfield 43, 3) := by decide +kernel
theorem dX7_feed_73 : decode cX7_feed 73 = .ok (.invokevirtual 248, 3) := by decide +kernel
theorem dX7_feed_76 : decode cX7_feed 76 = .ok (.ireturn, 1) := by decide +kernel
set_option maxRecDepth 20000 in
theorem ggX7_wipe_X6_clear : GoodIn wsX7_wipe wsX6_clear := goodIn_r _ [6, 7, 18, 19] (by decide +kernel) (by decide +kernel)
set_option maxRecDepth 20000 in
theorem gX7_wipe_X6_clear : GoodIn wsX7_wipe (wsV RX7 254 RX6 yX6_clear wsX6_clear) := goodIn_app (goodIn_of _ (by decide +kernel)) ggX7_wipe_X6_clear
theorem dX7_wipe_0 : decode cX7_wipe 0 = .ok (.aload_n 0, 1) := by decide +kernel
theorem dX7_wipe_1 : decode cX7_wipe 1 = .ok (.getfield 43, 3) := by decide +kernel
theorem dX7_wipe_4 : decode cX7_wipe 4 = .ok (.invokevirtual 254, 3) := by decide +kernel
theorem dX7_wipe_7 : decode cX7_wipe 7 = .ok (.ireturn, 1) := by decide +kernel
set_option maxRecDepth 20000 in
theorem ggX7_carnival_X0_become : GoodIn wsX7_carnival wsX0_become := goodIn_r _ [10, 11, 12, 13, 14, 15, 16, 17, 18, 19, 20, 21, 22, 23, 24, 25, 26, 27, 28, 29, 30, 31, 32, 211, 212, 213, 214, 215, 216, 217, 218, 219, 220] (by decide +kernel) (by decide +kernel)
set_option maxRecDepth 20000 in
theorem gX7_carnival_X0_become : GoodIn wsX7_carnival (wsV RX7 257 RX0 yX0_become wsX0_become) := goodIn_app (goodIn_of _ (by decide +kernel)) ggX7_carnival_X0_become
set_option maxRecDepth 20000 in
theorem ggX7_carnival_X3_items : GoodIn wsX7_carnival wsX3_items := goodIn_r _ [37, 38, 39, 40, 41, 42, 43, 36, 44, 45, 46, 47, 25, 26, 27, 48, 49, 50, 51, 52, 53, 54, 55, 56, 57, 58, 59, 60, 61, 62, 63, 64, 65, 66, 67, 68, 69, 70, 71, 72, 73, 74, 75, 76, 77, 78, 79, 80, 81, 82, 83, 84, 85, 86, 87, 88, 89, 90, 91, 92, 93, 94, 95, 96, 97, 98, 99, 100, 101, 102, 103, 104, 105, 106, 107, 108, 109, 110, 111, 112, 113, 114, 115, 116, 117, 118, 119, 120, 121, 122, 123, 124, 125, 126, 20, 127, 22, 23, 128, 129, 130, 131, 132, 133, 134, 135, 136, 137, 138, 9, 139, 140, 141, 142, 143, 11, 144, 145, 146, 147, 148, 149, 150, 151, 152, 28, 153, 154, 155, 156, 157, 158, 159, 160, 161, 162, 163, 164, 165, 166, 167, 168, 169, 170, 171, 172, 173, 174, 175, 176, 177, 15, 16, 178, 179, 180, 181, 182, 183, 184, 185, 186, 187, 188, 13, 189, 190, 221, 222, 223, 224, 225, 226, 227, 228, 211, 212, 213, 214, 215, 216, 217, 218, 219, 220] (by decide +kernel) (by decide +kernel)
set_option maxRecDepth 20000 in
theorem gX7_carnival_X3_items : GoodIn wsX7_carnival (wsV RX7 260 RX3 yX3_items wsX3_items) := goodIn_app (goodIn_of _ (by decide +kernel)) ggX7_carnival_X3_items
set_option maxRecDepth 20000 in
theorem ggX7_carnival_X6_clear : GoodIn wsX7_carnival wsX6_clear := goodIn_r _ [194, 53, 227, 228] (by decide +kernel) (by decide +kernel)
set_option maxRecDepth 20000 in
theorem gX7_carnival_X6_clear : GoodIn wsX7_carnival (wsV RX7 254 RX6 yX6_clear wsX6_clear) := goodIn_app (goodIn_of _ (by decide +kernel)) ggX7_carnival_X6_clear
set_option maxRecDepth 20000 in
theorem ggX7_carnival_X2_forget : GoodIn wsX7_carnival wsX2_forget := goodIn_r _ [199, 200, 229, 230, 231, 232, 233, 234, 235, 236, 237, 238, 239, 240, 241, 242] (by decide +kernel) (by decide +kernel)
set_option maxRecDepth 20000 in
theorem gX7_carnival_X2_forget : GoodIn wsX7_carnival (wsV RX7 85 RX2 yX2_forget wsX2_forget) := goodIn_app (goodIn_of _ (by decide +kernel)) ggX7_carnival_X2_forget
theorem dX7_carnival_0 : decode cX7_carnival 0 = .ok (.aload_n 0, 1) := by decide +kernel
theorem dX7_carnival_1 : decode cX7_carnival 1 = .ok (.getfield 19, 3) := by decide +kernel
theorem dX7_carnival_4 : decode cX7_carnival 4 = .ok (.aload_n 0, 1) := by decide +kernel
theorem dX7_carnival_5 : decode cX7_carnival 5 = .ok (.getfield 10, 3) := by decide +kernel
theorem dX7_carnival_8 : decode cX7_carnival 8 = .ok (.invokevirtual 257, 3) := by decide +kernel
theorem dX7_carnival_11 : decode cX7_carnival 11 = .ok (.aload_n 0, 1) := by decide +kernel
theorem dX7_carnival_12 : decode cX7_carnival 12 = .ok (.getfield 52, 3) := by decide +kernel
theorem dX7_carnival_15 : decode cX7_carnival 15 = .ok (.invokevirtual 260, 3) := by decide +kernel
theorem dX7_carnival_18 : decode cX7_carnival 18 = .ok (.istore_n 1, 1) := by decide +kernel
theorem dX7_carnival_19 : decode cX7_carnival 19 = .ok (.aload_n 0, 1) := by decide +kernel
theorem dX7_carnival_20 : decode cX7_carnival 20 = .ok (.getfield 43, 3) := by decide +kernel
theorem dX7_carnival_23 : decode cX7_carnival 23 = .ok (.invokevirtual 254, 3) := by decide +kernel
theorem dX7_carnival_26 : decode cX7_carnival 26 = .ok (.pop, 1) := by decide +kernel
theorem dX7_carnival_27 : decode cX7_carnival 27 = .ok (.iload_n 1, 1) := by decide +kernel
theorem dX7_carnival_28 : decode cX7_carnival 28 = .ok (.ifCond .le 21, 3) := by decide +kernel
theorem dX7_carnival_31 : decode cX7_carnival 31 = .ok (.aload_n 0, 1) := by decide +kernel
theorem dX7_carnival_32 : decode cX7_carnival 32 = .ok (.getfield 10, 3) := by decide +kernel
theorem dX7_carnival_35 : decode cX7_carnival 35 = .ok (.aload_n 0, 1) := by decide +kernel
theorem dX7_carnival_36 : decode cX7_carnival 36 = .ok (.getfield 19, 3) := by decide +kernel
theorem dX7_carnival_39 : decode cX7_carnival 39 = .ok (.invokevirtual 257, 3) := by decide +kernel
theorem dX7_carnival_42 : decode cX7_carnival 42 = .ok (.aload_n 0, 1) := by decide +kernel
theorem dX7_carnival_43 : decode cX7_carnival 43 = .ok (.getfield 27, 3) := by decide +kernel
theorem dX7_carnival_46 : decode cX7_carnival 46 = .ok (.invokevirtual 85, 3) := by decide +kernel
theorem dX7_carnival_49 : decode cX7_carnival 49 = .ok (.iload_n 1, 1) := by decide +kernel
theorem dX7_carnival_50 : decode cX7_carnival 50 = .ok (.ireturn, 1) := by decide +kernel
set_option maxRecDepth 20000 in
theorem ggX7_sheet_X7_sheetAt : GoodIn wsX7_sheet wsX7_sheetAt := goodIn_r _ [7, 8, 33, 34, 35, 36, 37, 38, 39, 40, 41, 42] (by decide +kernel) (by decide +kernel)
set_option maxRecDepth 20000 in
theorem gX7_sheet_X7_sheetAt : GoodIn wsX7_sheet (wsV RX7 263 RX7 yX7_sheetAt wsX7_sheetAt) := goodIn_app (goodIn_of _ (by decide +kernel)) ggX7_sheet_X7_sheetAt
set_option maxRecDepth 20000 in
theorem ggX7_sheet_X7_found : GoodIn wsX7_sheet wsX7_found := goodIn_r _ [12, 1, 13, 33, 34, 35, 36, 37, 38, 39, 40, 41, 42] (by decide +kernel) (by decide +kernel)
set_option maxRecDepth 20000 in
theorem gX7_sheet_X7_found : GoodIn wsX7_sheet (wsV RX7 72 RX7 yX7_found wsX7_found) := goodIn_app (goodIn_of _ (by decide +kernel)) ggX7_sheet_X7_found
set_option maxRecDepth 20000 in
theorem ggX7_sheet_X5_begin : GoodIn wsX7_sheet wsX5_begin := goodIn_r _ [18, 19, 20, 21, 22, 23, 24, 25, 26, 27, 28, 43, 44, 45] (by decide +kernel) (by decide +kernel)
set_option maxRecDepth 20000 in
theorem gX7_sheet_X5_begin : GoodIn wsX7_sheet (wsV RX7 268 RX5 yX5_begin wsX5_begin) := goodIn_app (goodIn_of _ (by decide +kernel)) ggX7_sheet_X5_begin
set_option maxRecDepth 20000 in
theorem ggX7_sheet_X5_length : GoodIn wsX7_sheet wsX5_length := goodIn_r _ [32, 27, 43, 44, 45] (by decide +kernel) (by decide +kernel)
set_option maxRecDepth 20000 in
theorem gX7_sheet_X5_length : GoodIn wsX7_sheet (wsV RX7 272 RX5 yX5_length wsX5_length) := goodIn_app (goodIn_of _ (by decide +kernel)) ggX7_sheet_X5_length
theorem dX7_sheet_0 : decode cX7_sheet 0 = .ok (.aload_n 0, 1) := by decide +kernel
theorem dX7_sheet_1 : decode cX7_sheet 1 = .ok (.iload_n 1, 1) := by decide +kernel
theorem dX7_sheet_2 : decode cX7_sheet 2 = .ok (.invokevirtual 263, 3) := by decide +kernel
theorem dX7_sheet_5 : decode cX7_sheet 5 = .ok (.astore 4, 2) := by decide +kernel
theorem dX7_sheet_7 : decode cX7_sheet 7 = .ok (.aload 4, 2) := by decide +kernel
theorem dX7_sheet_9 : decode cX7_sheet 9 = .ok (.ifnull 25, 3) := by decide +kernel
theorem dX7_sheet_12 : decode cX7_sheet 12 = .ok (.iload_n 2, 1) := by decide +kernel
theorem dX7_sheet_13 : decode cX7_sheet 13 = .ok (.ifCond .eq 28, 3) := by decide +kernel
theorem dX7_sheet_16 : decode cX7_sheet 16 = .ok (.iload_n 2, 1) := by decide +kernel
theorem dX7_sheet_17 : decode cX7_sheet 17 = .ok (.bipush 8, 2) := by decide +kernel
theorem dX7_sheet_19 : decode cX7_sheet 19 = .ok (.if_icmp .eq 22, 3) := by decide +kernel
theorem dX7_sheet_22 : decode cX7_sheet 22 = .ok (.iload_n 2, 1) := by decide +kernel
theorem dX7_sheet_23 : decode cX7_sheet 23 = .ok (.bipush 16, 2) := by decide +kernel
theorem dX7_sheet_25 : decode cX7_sheet 25 = .ok (.if_icmp .eq 16, 3) := by decide +kernel
theorem dX7_sheet_28 : decode cX7_sheet 28 = .ok (.iload_n 2, 1) := by decide +kernel
theorem dX7_sheet_29 : decode cX7_sheet 29 = .ok (.bipush 64, 2) := by decide +kernel
theorem dX7_sheet_31 : decode cX7_sheet 31 = .ok (.if_icmp .eq 10, 3) := by decide +kernel
theorem dX7_sheet_34 : decode cX7_sheet 34 = .ok (.aload_n 0, 1) := by decide +kernel
theorem dX7_sheet_35 : decode cX7_sheet 35 = .ok (.ldc 71, 2) := by decide +kernel
theorem dX7_sheet_37 : decode cX7_sheet 37 = .ok (.invokevirtual 72, 3) := by decide +kernel
theorem dX7_sheet_40 : decode cX7_sheet 40 = .ok (.ireturn, 1) := by decide +kernel
theorem dX7_sheet_41 : decode cX7_sheet 41 = .ok (.iload_n 3, 1) := by decide +kernel
theorem dX7_sheet_42 : decode cX7_sheet 42 = .ok (.ifCond .ge 11, 3) := by decide +kernel
theorem dX7_sheet_45 : decode cX7_sheet 45 = .ok (.aload_n 0, 1) := by decide +kernel
theorem dX7_sheet_46 : decode cX7_sheet 46 = .ok (.ldc_w 267, 3) := by decide +kernel
theorem dX7_sheet_49 : decode cX7_sheet 49 = .ok (.invokevirtual 72, 3) := by decide +kernel
theorem dX7_sheet_52 : decode cX7_sheet 52 = .ok (.ireturn, 1) := by decide +kernel
theorem dX7_sheet_53 : decode cX7_sheet 53 = .ok (.iload_n 3, 1) := by decide +kernel
theorem dX7_sheet_54 : decode cX7_sheet 54 = .ok (.bipush 40, 2) := by decide +kernel
theorem dX7_sheet_56 : decode cX7_sheet 56 = .ok (.if_icmp .le 10, 3) := by decide +kernel
theorem dX7_sheet_59 : decode cX7_sheet 59 = .ok (.aload_n 0, 1) := by decide +kernel
theorem dX7_sheet_60 : decode cX7_sheet 60 = .ok (.ldc 71, 2) := by decide +kernel
theorem dX7_sheet_62 : decode cX7_sheet 62 = .ok (.invokevirtual 72, 3) := by decide +kernel
theorem dX7_sheet_65 : decode cX7_sheet 65 = .ok (.ireturn, 1) := by decide +kernel
theorem dX7_sheet_66 : decode cX7_sheet 66 = .ok (.aload 4, 2) := by decide +kernel
theorem dX7_sheet_68 : decode cX7_sheet 68 = .ok (.iload_n 2, 1) := by decide +kernel
theorem dX7_sheet_69 : decode cX7_sheet 69 = .ok (.iload_n 3, 1) := by decide +kernel
theorem dX7_sheet_70 : decode cX7_sheet 70 = .ok (.invokevirtual 268, 3) := by decide +kernel
theorem dX7_sheet_73 : decode cX7_sheet 73 = .ok (.aload 4, 2) := by decide +kernel
theorem dX7_sheet_75 : decode cX7_sheet 75 = .ok (.invokevirtual 272, 3) := by decide +kernel
theorem dX7_sheet_78 : decode cX7_sheet 78 = .ok (.ireturn, 1) := by decide +kernel
set_option maxRecDepth 20000 in
theorem ggX7_write_X7_sheetAt : GoodIn wsX7_write wsX7_sheetAt := goodIn_r _ [7, 8, 35, 36, 37, 38, 39, 40, 41, 42, 43, 44] (by decide +kernel) (by decide +kernel)
set_option maxRecDepth 20000 in
theorem gX7_write_X7_sheetAt : GoodIn wsX7_write (wsV RX7 263 RX7 yX7_sheetAt wsX7_sheetAt) := goodIn_app (goodIn_of _ (by decide +kernel)) ggX7_write_X7_sheetAt
set_option maxRecDepth 20000 in
theorem ggX7_write_X7_found : GoodIn wsX7_write wsX7_found := goodIn_r _ [12, 1, 13, 35, 36, 37, 38, 39, 40, 41, 42, 43, 44] (by decide +kernel) (by decide +kernel)
set_option maxRecDepth 20000 in
theorem gX7_write_X7_found : GoodIn wsX7_write (wsV RX7 72 RX7 yX7_found wsX7_found) := goodIn_app (goodIn_of _ (by decide +kernel)) ggX7_write_X7_found
set_option maxRecDepth 20000 in
theorem ggX7_write_X5_isMissing : GoodIn wsX7_write wsX5_isMissing := goodIn_r _ [18, 19, 45, 46, 47] (by decide +kernel) (by decide +kernel)
set_option maxRecDepth 20000 in
theorem gX7_write_X5_isMissing : GoodIn wsX7_write (wsV RX7 273 RX5 yX5_isMissing wsX5_isMissing) := goodIn_app (goodIn_of _ (by decide +kernel)) ggX7_write_X5_isMissing
set_option maxRecDepth 20000 in
theorem ggX7_write_X5_has : GoodIn wsX7_write wsX5_has := goodIn_r _ [23, 24, 45, 46, 47] (by decide +kernel) (by decide +kernel)
set_option maxRecDepth 20000 in
theorem gX7_write_X5_has : GoodIn wsX7_write (wsV RX7 277 RX5 yX5_has wsX5_has) := goodIn_app (goodIn_of _ (by decide +kernel)) ggX7_write_X5_has
set_option maxRecDepth 20000 in
theorem ggX7_write_X5_put : GoodIn wsX7_write wsX5_put := goodIn_r _ [28, 29, 30, 21, 22, 17, 23, 24, 31, 32, 33, 34, 19, 45, 46, 47] (by decide +kernel) (by decide +kernel)
set_option maxRecDepth 20000 in
theorem gX7_write_X5_put : GoodIn wsX7_write (wsV RX7 278 RX5 yX5_put wsX5_put) := goodIn_app (goodIn_of _ (by decide +kernel)) ggX7_write_X5_put
theorem dX7_write_0 : decode cX7_write 0 = .ok (.aload_n 0, 1) := by decide +kernel
theorem dX7_write_1 : decode cX7_write 1 = .ok (.iload_n 1, 1) := by decide +kernel
theorem dX7_write_2 : decode cX7_write 2 = .ok (.invokevirtual 263, 3) := by decide +kernel
theorem dX7_write_5 : decode cX7_write 5 = .ok (.astore 5, 2) := by decide +kernel
theorem dX7_write_7 : decode cX7_write 7 = .ok (.aload 5, 2) := by decide +kernel
theorem dX7_write_9 : decode cX7_write 9 = .ok (.ifnonnull 11, 3) := by decide +kernel
theorem dX7_write_12 : decode cX7_write 12 = .ok (.aload_n 0, 1) := by decide +kernel
theorem dX7_write_13 : decode cX7_write 13 = .ok (.ldc 71, 2) := by decide +kernel
theorem dX7_write_15 : decode cX7_write 15 = .ok (.invokevirtual 72, 3) := by decide +kernel
theorem dX7_write_18 : decode cX7_write 18 = .ok (.i2l, 1) := by decide +kernel
theorem dX7_write_19 : decode cX7_write 19 = .ok (.lreturn, 1) := by decide +kernel
theorem dX7_write_20 : decode cX7_write 20 = .ok (.aload 5, 2) := by decide +kernel
theorem dX7_write_22 : decode cX7_write 22 = .ok (.invokevirtual 273, 3) := by decide +kernel
theorem dX7_write_25 : decode cX7_write 25 = .ok (.ifCond .eq 12, 3) := by decide +kernel
theorem dX7_write_28 : decode cX7_write 28 = .ok (.aload_n 0, 1) := by decide +kernel
theorem dX7_write_29 : decode cX7_write 29 = .ok (.ldc_w 276, 3) := by decide +kernel
theorem dX7_write_32 : decode cX7_write 32 = .ok (.invokevirtual 72, 3) := by decide +kernel
theorem dX7_write_35 : decode cX7_write 35 = .ok (.i2l, 1) := by decide +kernel
theorem dX7_write_36 : decode cX7_write 36 = .ok (.lreturn, 1) := by decide +kernel
theorem dX7_write_37 : decode cX7_write 37 = .ok (.aload 5, 2) := by decide +kernel
theorem dX7_write_39 : decode cX7_write 39 = .ok (.iload_n 2, 1) := by decide +kernel
theorem dX7_write_40 : decode cX7_write 40 = .ok (.invokevirtual 277, 3) := by decide +kernel
theorem dX7_write_43 : decode cX7_write 43 = .ok (.ifCond .ne 11, 3) := by decide +kernel
theorem dX7_write_46 : decode cX7_write 46 = .ok (.aload_n 0, 1) := by decide +kernel
theorem dX7_write_47 : decode cX7_write 47 = .ok (.ldc 71, 2) := by decide +kernel
theorem dX7_write_49 : decode cX7_write 49 = .ok (.invokevirtual 72, 3) := by decide +kernel
theorem dX7_write_52 : decode cX7_write 52 = .ok (.i2l, 1) := by decide +kernel
theorem dX7_write_53 : decode cX7_write 53 = .ok (.lreturn, 1) := by decide +kernel
theorem dX7_write_54 : decode cX7_write 54 = .ok (.aload 5, 2) := by decide +kernel
theorem dX7_write_56 : decode cX7_write 56 = .ok (.iload_n 2, 1) := by decide +kernel
theorem dX7_write_57 : decode cX7_write 57 = .ok (.lload_n 3, 1) := by decide +kernel
theorem dX7_write_58 : decode cX7_write 58 = .ok (.invokevirtual 278, 3) := by decide +kernel
theorem dX7_write_61 : decode cX7_write 61 = .ok (.lreturn, 1) := by decide +kernel
set_option maxRecDepth 20000 in
theorem ggX7_copy_X7_sheetAt : GoodIn wsX7_copy wsX7_sheetAt := goodIn_r _ [8, 9, 40, 41, 42, 43, 44, 45, 46, 47, 48, 49] (by decide +kernel) (by decide +kernel)
set_option maxRecDepth 20000 in
theorem gX7_copy_X7_sheetAt : GoodIn wsX7_copy (wsV RX7 263 RX7 yX7_sheetAt wsX7_sheetAt) := goodIn_app (goodIn_of _ (by decide +kernel)) ggX7_copy_X7_sheetAt
set_option maxRecDepth 20000 in
theorem ggX7_copy_X7_found : GoodIn wsX7_copy wsX7_found := goodIn_r _ [13, 1, 14, 40, 41, 42, 43, 44, 45, 46, 47, 48, 49] (by decide +kernel) (by decide +kernel)
set_option maxRecDepth 20000 in
theorem gX7_copy_X7_found : GoodIn wsX7_copy (wsV RX7 72 RX7 yX7_found wsX7_found) := goodIn_app (goodIn_of _ (by decide +kernel)) ggX7_copy_X7_found
set_option maxRecDepth 20000 in
theorem ggX7_copy_X5_isMissing : GoodIn wsX7_copy wsX5_isMissing := goodIn_r _ [19, 20, 50, 51, 52] (by decide +kernel) (by decide +kernel)
set_option maxRecDepth 20000 in
theorem gX7_copy_X5_isMissing : GoodIn wsX7_copy (wsV RX7 273 RX5 yX5_isMissing wsX5_isMissing) := goodIn_app (goodIn_of _ (by decide +kernel)) ggX7_copy_X5_isMissing
set_option maxRecDepth 20000 in
theorem ggX7_copy_X5_bits : GoodIn wsX7_copy wsX5_bits := goodIn_r _ [24, 20, 50, 51, 52] (by decide +kernel) (by decide +kernel)
set_option maxRecDepth 20000 in
theorem gX7_copy_X5_bits : GoodIn wsX7_copy (wsV RX7 281 RX5 yX5_bits wsX5_bits) := goodIn_app (goodIn_of _ (by decide +kernel)) ggX7_copy_X5_bits
set_option maxRecDepth 20000 in
theorem ggX7_copy_X5_hasRun : GoodIn wsX7_copy wsX5_hasRun := goodIn_r _ [28, 29, 50, 51, 52] (by decide +kernel) (by decide +kernel)
set_option maxRecDepth 20000 in
theorem gX7_copy_X5_hasRun : GoodIn wsX7_copy (wsV RX7 284 RX5 yX5_hasRun wsX5_hasRun) := goodIn_app (goodIn_of _ (by decide +kernel)) ggX7_copy_X5_hasRun
set_option maxRecDepth 20000 in
theorem ggX7_copy_X5_takeRun : GoodIn wsX7_copy wsX5_takeRun := goodIn_r _ [33, 34, 35, 36, 37, 38, 39, 26, 27, 18, 28, 29, 50, 51, 52] (by decide +kernel) (by decide +kernel)
set_option maxRecDepth 20000 in
theorem gX7_copy_X5_takeRun : GoodIn wsX7_copy (wsV RX7 287 RX5 yX5_takeRun wsX5_takeRun) := goodIn_app (goodIn_of _ (by decide +kernel)) ggX7_copy_X5_takeRun
theorem dX7_copy_0 : decode cX7_copy 0 = .ok (.aload_n 0, 1) := by decide +kernel
theorem dX7_copy_1 : decode cX7_copy 1 = .ok (.iload_n 1, 1) := by decide +kernel
theorem dX7_copy_2 : decode cX7_copy 2 = .ok (.invokevirtual 263, 3) := by decide +kernel
theorem dX7_copy_5 : decode cX7_copy 5 = .ok (.astore 6, 2) := by decide +kernel
theorem dX7_copy_7 : decode cX7_copy 7 = .ok (.aload_n 0, 1) := by decide +kernel
theorem dX7_copy_8 : decode cX7_copy 8 = .ok (.iload_n 3, 1) := by decide +kernel
theorem dX7_copy_9 : decode cX7_copy 9 = .ok (.invokevirtual 263, 3) := by decide +kernel
theorem dX7_copy_12 : decode cX7_copy 12 = .ok (.astore 7, 2) := by decide +kernel
theorem dX7_copy_14 : decode cX7_copy 14 = .ok (.aload 6, 2) := by decide +kernel
theorem dX7_copy_16 : decode cX7_copy 16 = .ok (.ifnull 8, 3) := by decide +kernel
theorem dX7_copy_19 : decode cX7_copy 19 = .ok (.aload 7, 2) := by decide +kernel
theorem dX7_copy_21 : decode cX7_copy 21 = .ok (.ifnonnull 10, 3) := by decide +kernel
theorem dX7_copy_24 : decode cX7_copy 24 = .ok (.aload_n 0, 1) := by decide +kernel
theorem dX7_copy_25 : decode cX7_copy 25 = .ok (.ldc 71, 2) := by decide +kernel
theorem dX7_copy_27 : decode cX7_copy 27 = .ok (.invokevirtual 72, 3) := by decide +kernel
theorem dX7_copy_30 : decode cX7_copy 30 = .ok (.ireturn, 1) := by decide +kernel
theorem dX7_copy_31 : decode cX7_copy 31 = .ok (.aload 6, 2) := by decide +kernel
theorem dX7_copy_33 : decode cX7_copy 33 = .ok (.invokevirtual 273, 3) := by decide +kernel
theorem dX7_copy_36 : decode cX7_copy 36 = .ok (.ifCond .ne 11, 3) := by decide +kernel
theorem dX7_copy_39 : decode cX7_copy 39 = .ok (.aload 7, 2) := by decide +kernel
theorem dX7_copy_41 : decode cX7_copy 41 = .ok (.invokevirtual 273, 3) := by decide +kernel
theorem dX7_copy_44 : decode cX7_copy 44 = .ok (.ifCond .eq 11, 3) := by decide +kernel
theorem dX7_copy_47 : decode cX7_copy 47 = .ok (.aload_n 0, 1) := by decide +kernel
theorem dX7_copy_48 : decode cX7_copy 48 = .ok (.ldc_w 276, 3) := by decide +kernel
theorem dX7_copy_51 : decode cX7_copy 51 = .ok (.invokevirtual 72, 3) := by decide +kernel
theorem dX7_copy_54 : decode cX7_copy 54 = .ok (.ireturn, 1) := by decide +kernel
theorem dX7_copy_55 : decode cX7_copy 55 = .ok (.aload 6, 2) := by decide +kernel
theorem dX7_copy_57 : decode cX7_copy 57 = .ok (.invokevirtual 281, 3) := by decide +kernel
theorem dX7_copy_60 : decode cX7_copy 60 = .ok (.aload 7, 2) := by decide +kernel
theorem dX7_copy_62 : decode cX7_copy 62 = .ok (.invokevirtual 281, 3) := by decide +kernel
theorem dX7_copy_65 : decode cX7_copy 65 = .ok (.if_icmp .eq 10, 3) := by decide +kernel
theorem dX7_copy_68 : decode cX7_copy 68 = .ok (.aload_n 0, 1) := by decide +kernel
theorem dX7_copy_69 : decode cX7_copy 69 = .ok (.ldc 206, 2) := by decide +kernel
theorem dX7_copy_71 : decode cX7_copy 71 = .ok (.invokevirtual 72, 3) := by decide +kernel
theorem dX7_copy_74 : decode cX7_copy 74 = .ok (.ireturn, 1) := by decide +kernel
theorem dX7_copy_75 : decode cX7_copy 75 = .ok (.aload 6, 2) := by decide +kernel
theorem dX7_copy_77 : decode cX7_copy 77 = .ok (.iload_n 2, 1) := by decide +kernel
theorem dX7_copy_78 : decode cX7_copy 78 = .ok (.iload 5, 2) := by decide +kernel
theorem dX7_copy_80 : decode cX7_copy 80 = .ok (.invokevirtual 284, 3) := by decide +kernel
theorem dX7_copy_83 : decode cX7_copy 83 = .ok (.ifCond .eq 15, 3) := by decide +kernel
theorem dX7_copy_86 : decode cX7_copy 86 = .ok (.aload 7, 2) := by decide +kernel
theorem dX7_copy_88 : decode cX7_copy 88 = .ok (.iload 4, 2) := by decide +kernel
theorem dX7_copy_90 : decode cX7_copy 90 = .ok (.iload 5, 2) := by decide +kernel
theorem dX7_copy_92 : decode cX7_copy 92 = .ok (.invokevirtual 284, 3) := by decide +kernel
theorem dX7_copy_95 : decode cX7_copy 95 = .ok (.ifCond .ne 10, 3) := by decide +kernel
theorem dX7_copy_98 : decode cX7_copy 98 = .ok (.aload_n 0, 1) := by decide +kernel
theorem dX7_copy_99 : decode cX7_copy 99 = .ok (.ldc 71, 2) := by decide +kernel
theorem dX7_copy_101 : decode cX7_copy 101 = .ok (.invokevirtual 72, 3) := by decide +kernel
theorem dX7_copy_104 : decode cX7_copy 104 = .ok (.ireturn, 1) := by decide +kernel
theorem dX7_copy_105 : decode cX7_copy 105 = .ok (.aload 7, 2) := by decide +kernel
theorem dX7_copy_107 : decode cX7_copy 107 = .ok (.aload 6, 2) := by decide +kernel
theorem dX7_copy_109 : decode cX7_copy 109 = .ok (.iload_n 2, 1) := by decide +kernel
theorem dX7_copy_110 : decode cX7_copy 110 = .ok (.iload 4, 2) := by decide +kernel
theorem dX7_copy_112 : decode cX7_copy 112 = .ok (.iload 5, 2) := by decide +kernel
theorem dX7_copy_114 : decode cX7_copy 114 = .ok (.invokevirtual 287, 3) := by decide +kernel
theorem dX7_copy_117 : decode cX7_copy 117 = .ok (.iload 5, 2) := by decide +kernel
theorem dX7_copy_119 : decode cX7_copy 119 = .ok (.ireturn, 1) := by decide +kernel
set_option maxRecDepth 20000 in
theorem ggX7_lays_X7_sheetAt : GoodIn wsX7_lays wsX7_sheetAt := goodIn_r _ [14, 15, 82, 83, 84, 85, 86, 87, 88, 89, 90, 91] (by decide +kernel) (by decide +kernel)
set_option maxRecDepth 20000 in
theorem gX7_lays_X7_sheetAt : GoodIn wsX7_lays (wsV RX7 263 RX7 yX7_sheetAt wsX7_sheetAt) := goodIn_app (goodIn_of _ (by decide +kernel)) ggX7_lays_X7_sheetAt
set_option maxRecDepth 20000 in
theorem ggX7_lays_X7_found : GoodIn wsX7_lays wsX7_found := goodIn_r _ [19, 1, 20, 82, 83, 84, 85, 86, 87, 88, 89, 90, 91] (by decide +kernel) (by decide +kernel)
set_option maxRecDepth 20000 in
theorem gX7_lays_X7_found : GoodIn wsX7_lays (wsV RX7 72 RX7 yX7_found wsX7_found) := goodIn_app (goodIn_of _ (by decide +kernel)) ggX7_lays_X7_found
set_option maxRecDepth 20000 in
theorem ggX7_lays_X5_isMissing : GoodIn wsX7_lays wsX5_isMissing := goodIn_r _ [25, 26, 98, 99, 100] (by decide +kernel) (by decide +kernel)
set_option maxRecDepth 20000 in
theorem gX7_lays_X5_isMissing : GoodIn wsX7_lays (wsV RX7 273 RX5 yX5_isMissing wsX5_isMissing) := goodIn_app (goodIn_of _ (by decide +kernel)) ggX7_lays_X5_isMissing
set_option maxRecDepth 20000 in
theorem ggX7_lays_X2_forget : GoodIn wsX7_lays wsX2_forget := goodIn_r _ [31, 32, 101, 102, 103, 104, 105, 106, 107, 108, 109, 110, 111, 112, 113, 114] (by decide +kernel) (by decide +kernel)
set_option maxRecDepth 20000 in
theorem gX7_lays_X2_forget : GoodIn wsX7_lays (wsV RX7 85 RX2 yX2_forget wsX2_forget) := goodIn_app (goodIn_of _ (by decide +kernel)) ggX7_lays_X2_forget
set_option maxRecDepth 20000 in
theorem ggX7_lays_X5_length : GoodIn wsX7_lays wsX5_length := goodIn_r _ [36, 37, 98, 99, 100] (by decide +kernel) (by decide +kernel)
set_option maxRecDepth 20000 in
theorem gX7_lays_X5_length : GoodIn wsX7_lays (wsV RX7 272 RX5 yX5_length wsX5_length) := goodIn_app (goodIn_of _ (by decide +kernel)) ggX7_lays_X5_length
set_option maxRecDepth 20000 in
theorem ggX7_lays_X4_size : GoodIn wsX7_lays wsX4_size := goodIn_r _ [42, 43, 115, 116, 117, 118] (by decide +kernel) (by decide +kernel)
set_option maxRecDepth 20000 in
theorem gX7_lays_X4_size : GoodIn wsX7_lays (wsV RX7 236 RX4 yX4_size wsX4_size) := goodIn_app (goodIn_of _ (by decide +kernel)) ggX7_lays_X4_size
set_option maxRecDepth 20000 in
theorem ggX7_lays_X5_number : GoodIn wsX7_lays wsX5_number := goodIn_r _ [47, 48, 49, 50, 51, 24, 52, 37, 98, 99, 100] (by decide +kernel) (by decide +kernel)
set_option maxRecDepth 20000 in
theorem gX7_lays_X5_number : GoodIn wsX7_lays (wsV RX7 296 RX5 yX5_number wsX5_number) := goodIn_app (goodIn_of _ (by decide +kernel)) ggX7_lays_X5_number
set_option maxRecDepth 20000 in
theorem ggX7_lays_X0_mayHaveTenths : GoodIn wsX7_lays wsX0_mayHaveTenths := goodIn_r _ [57, 58, 59, 60, 56, 61, 62, 63, 64, 65, 41, 66, 43, 67, 68, 69, 70, 71, 72, 73, 74, 75, 76, 77, 39, 40, 42, 92, 93, 94, 95, 96, 97, 115, 116, 117, 118] (by decide +kernel) (by decide +kernel)
set_option maxRecDepth 20000 in
theorem gX7_lays_X0_mayHaveTenths : GoodIn wsX7_lays (wsV RX7 123 RX0 yX0_mayHaveTenths wsX0_mayHaveTenths) := goodIn_app (goodIn_of _ (by decide +kernel)) ggX7_lays_X0_mayHaveTenths
set_option maxRecDepth 20000 in
theorem ggX7_lays_X4_put : GoodIn wsX7_lays wsX4_put := goodIn_r _ [81, 43, 67, 68, 115, 116, 117, 118] (by decide +kernel) (by decide +kernel)
set_option maxRecDepth 20000 in
theorem gX7_lays_X4_put : GoodIn wsX7_lays (wsV RX7 126 RX4 yX4_put wsX4_put) := goodIn_app (goodIn_of _ (by decide +kernel)) ggX7_lays_X4_put
theorem dX7_lays_0 : decode cX7_lays 0 = .ok (.aload_n 0, 1) := by decide +kernel
theorem dX7_lays_1 : decode cX7_lays 1 = .ok (.iload_n 1, 1) := by decide +kernel
theorem dX7_lays_2 : decode cX7_lays 2 = .ok (.invokevirtual 263, 3) := by decide +kernel
theorem dX7_lays_5 : decode cX7_lays 5 = .ok (.astore_n 2, 1) := by decide +kernel
theorem dX7_lays_6 : decode cX7_lays 6 = .ok (.aload_n 2, 1) := by decide +kernel
theorem dX7_lays_7 : decode cX7_lays 7 = .ok (.ifnonnull 10, 3) := by decide +kernel
theorem dX7_lays_10 : decode cX7_lays 10 = .ok (.aload_n 0, 1) := by decide +kernel
theorem dX7_lays_11 : decode cX7_lays 11 = .ok (.ldc 71, 2) := by decide +kernel
theorem dX7_lays_13 : decode cX7_lays 13 = .ok (.invokevirtual 72, 3) := by decide +kernel
theorem dX7_lays_16 : decode cX7_lays 16 = .ok (.ireturn, 1) := by decide +kernel
theorem dX7_lays_17 : decode cX7_lays 17 = .ok (.aload_n 2, 1) := by decide +kernel
theorem dX7_lays_18 : decode cX7_lays 18 = .ok (.invokevirtual 273, 3) := by decide +kernel
theorem dX7_lays_21 : decode cX7_lays 21 = .ok (.ifCond .eq 11, 3) := by decide +kernel
theorem dX7_lays_24 : decode cX7_lays 24 = .ok (.aload_n 0, 1) := by decide +kernel
theorem dX7_lays_25 : decode cX7_lays 25 = .ok (.ldc_w 276, 3) := by decide +kernel
theorem dX7_lays_28 : decode cX7_lays 28 = .ok (.invokevirtual 72, 3) := by decide +kernel
theorem dX7_lays_31 : decode cX7_lays 31 = .ok (.ireturn, 1) := by decide +kernel
theorem dX7_lays_32 : decode cX7_lays 32 = .ok (.aload_n 0, 1) := by decide +kernel
theorem dX7_lays_33 : decode cX7_lays 33 = .ok (.getfield 27, 3) := by decide +kernel
theorem dX7_lays_36 : decode cX7_lays 36 = .ok (.invokevirtual 85, 3) := by decide +kernel
theorem dX7_lays_39 : decode cX7_lays 39 = .ok (.iconst 0, 1) := by decide +kernel
theorem dX7_lays_40 : decode cX7_lays 40 = .ok (.istore_n 3, 1) := by decide +kernel
theorem dX7_lays_41 : decode cX7_lays 41 = .ok (.aload_n 2, 1) := by decide +kernel
theorem dX7_lays_42 : decode cX7_lays 42 = .ok (.invokevirtual 272, 3) := by decide +kernel
theorem dX7_lays_45 : decode cX7_lays 45 = .ok (.aload_n 0, 1) := by decide +kernel
theorem dX7_lays_46 : decode cX7_lays 46 = .ok (.getfield 10, 3) := by decide +kernel
theorem dX7_lays_49 : decode cX7_lays 49 = .ok (.getfield 99, 3) := by decide +kernel
theorem dX7_lays_52 : decode cX7_lays 52 = .ok (.invokevirtual 236, 3) := by decide +kernel
theorem dX7_lays_55 : decode cX7_lays 55 = .ok (.invokestatic 291, 3) := by decide +kernel
theorem dX7_lays_58 : decode cX7_lays 58 = .ok (.istore 4, 2) := by decide +kernel
theorem dX7_lays_60 : decode cX7_lays 60 = .ok (.iconst 0, 1) := by decide +kernel
theorem dX7_lays_61 : decode cX7_lays 61 = .ok (.istore 5, 2) := by decide +kernel
theorem dX7_lays_63 : decode cX7_lays 63 = .ok (.iload 5, 2) := by decide +kernel
theorem dX7_lays_65 : decode cX7_lays 65 = .ok (.iload 4, 2) := by decide +kernel
theorem dX7_lays_67 : decode cX7_lays 67 = .ok (.if_icmp .ge 68, 3) := by decide +kernel
theorem dX7_lays_70 : decode cX7_lays 70 = .ok (.aload_n 2, 1) := by decide +kernel
theorem dX7_lays_71 : decode cX7_lays 71 = .ok (.iload 5, 2) := by decide +kernel
theorem dX7_lays_73 : decode cX7_lays 73 = .ok (.invokevirtual 296, 3) := by decide +kernel
theorem dX7_lays_76 : decode cX7_lays 76 = .ok (.lstore 6, 2) := by decide +kernel
theorem dX7_lays_78 : decode cX7_lays 78 = .ok (.lload 6, 2) := by decide +kernel
theorem dX7_lays_80 : decode cX7_lays 80 = .ok (.lconst 0, 1) := by decide +kernel
theorem dX7_lays_81 : decode cX7_lays 81 = .ok (.lcmp, 1) := by decide +kernel
theorem dX7_lays_82 : decode cX7_lays 82 = .ok (.ifCond .lt 47, 3) := by decide +kernel
theorem dX7_lays_85 : decode cX7_lays 85 = .ok (.lload 6, 2) := by decide +kernel
theorem dX7_lays_87 : decode cX7_lays 87 = .ok (.ldc2_w 299, 3) := by decide +kernel
theorem dX7_lays_90 : decode cX7_lays 90 = .ok (.lcmp, 1) := by decide +kernel
theorem dX7_lays_91 : decode cX7_lays 91 = .ok (.ifCond .gt 38, 3) := by decide +kernel
theorem dX7_lays_94 : decode cX7_lays 94 = .ok (.aload_n 0, 1) := by decide +kernel
theorem dX7_lays_95 : decode cX7_lays 95 = .ok (.getfield 10, 3) := by decide +kernel
theorem dX7_lays_98 : decode cX7_lays 98 = .ok (.iload 5, 2) := by decide +kernel
theorem dX7_lays_100 : decode cX7_lays 100 = .ok (.lload 6, 2) := by decide +kernel
theorem dX7_lays_102 : decode cX7_lays 102 = .ok (.l2i, 1) := by decide +kernel
theorem dX7_lays_103 : decode cX7_lays 103 = .ok (.invokevirtual 123, 3) := by decide +kernel
theorem dX7_lays_106 : decode cX7_lays 106 = .ok (.ifCond .eq 23, 3) := by decide +kernel
theorem dX7_lays_109 : decode cX7_lays 109 = .ok (.aload_n 0, 1) := by decide +kernel
theorem dX7_lays_110 : decode cX7_lays 110 = .ok (.getfield 10, 3) := by decide +kernel
theorem dX7_lays_113 : decode cX7_lays 113 = .ok (.getfield 99, 3) := by decide +kernel
theorem dX7_lays_116 : decode cX7_lays 116 = .ok (.iload 5, 2) := by decide +kernel
theorem dX7_lays_118 : decode cX7_lays 118 = .ok (.iconst 3, 1) := by decide +kernel
theorem dX7_lays_119 : decode cX7_lays 119 = .ok (.lload 6, 2) := by decide +kernel
theorem dX7_lays_121 : decode cX7_lays 121 = .ok (.l2i, 1) := by decide +kernel
theorem dX7_lays_122 : decode cX7_lays 122 = .ok (.invokevirtual 126, 3) := by decide +kernel
theorem dX7_lays_125 : decode cX7_lays 125 = .ok (.pop, 1) := by decide +kernel
theorem dX7_lays_126 : decode cX7_lays 126 = .ok (.iinc 3 1, 3) := by decide +kernel
theorem dX7_lays_129 : decode cX7_lays 129 = .ok (.iinc 5 1, 3) := by decide +kernel
theorem dX7_lays_132 : decode cX7_lays 132 = .ok (.goto (-69), 3) := by decide +kernel
theorem dX7_lays_135 : decode cX7_lays 135 = .ok (.iload_n 3, 1) := by decide +kernel
theorem dX7_lays_136 : decode cX7_lays 136 = .ok (.ireturn, 1) := by decide +kernel
set_option maxRecDepth 20000 in
theorem ggX7_ledger_X7_findingOfSheetAndHour : GoodIn wsX7_ledger wsX7_findingOfSheetAndHour := goodIn_r _ [11, 12, 13, 14, 15, 16, 10, 17, 18, 19, 20, 21, 22, 23, 24, 25, 26, 27, 177, 178, 179, 180, 181, 182, 183, 184, 185, 186, 193, 194, 195] (by decide +kernel) (by decide +kernel)
set_option maxRecDepth 20000 in
theorem gX7_ledger_X7_findingOfSheetAndHour : GoodIn wsX7_ledger (wsV RX7 301 RX7 yX7_findingOfSheetAndHour wsX7_findingOfSheetAndHour) := goodIn_app (goodIn_of _ (by decide +kernel)) ggX7_ledger_X7_findingOfSheetAndHour
set_option maxRecDepth 20000 in
theorem ggX7_ledger_X7_found : GoodIn wsX7_ledger wsX7_found := goodIn_r _ [31, 12, 32, 177, 178, 179, 180, 181, 182, 183, 184, 185, 186] (by decide +kernel) (by decide +kernel)
set_option maxRecDepth 20000 in
theorem gX7_ledger_X7_found : GoodIn wsX7_ledger (wsV RX7 72 RX7 yX7_found wsX7_found) := goodIn_app (goodIn_of _ (by decide +kernel)) ggX7_ledger_X7_found
set_option maxRecDepth 20000 in
theorem ggX7_ledger_X7_sheetAt : GoodIn wsX7_ledger wsX7_sheetAt := goodIn_r _ [17, 18, 177, 178, 179, 180, 181, 182, 183, 184, 185, 186] (by decide +kernel) (by decide +kernel)
set_option maxRecDepth 20000 in
theorem gX7_ledger_X7_sheetAt : GoodIn wsX7_ledger (wsV RX7 263 RX7 yX7_sheetAt wsX7_sheetAt) := goodIn_app (goodIn_of _ (by decide +kernel)) ggX7_ledger_X7_sheetAt
set_option maxRecDepth 20000 in
theorem ggX7_ledger_X7_fresh : GoodIn wsX7_ledger wsX7_fresh := goodIn_r _ [36, 37, 38, 39, 40, 41, 42, 43, 44, 45, 4, 5, 6, 46, 47, 48, 49, 50, 51, 52, 53, 54, 55, 56, 57, 58, 59, 60, 61, 62, 63, 64, 65, 66, 67, 68, 69, 70, 71, 72, 73, 74, 75, 76, 77, 78, 79, 80, 81, 82, 83, 84, 85, 86, 87, 88, 89, 90, 91, 92, 93, 94, 95, 96, 97, 98, 99, 100, 101, 102, 103, 104, 105, 106, 107, 108, 109, 110, 111, 112, 113, 114, 115, 116, 117, 118, 119, 120, 121, 10, 122, 123, 124, 125, 126, 127, 128, 129, 130, 131, 132, 133, 134, 135, 136, 137, 138, 139, 140, 141, 142, 143, 144, 145, 177, 178, 179, 180, 181, 182, 183, 184, 185, 186, 196, 197, 198, 199, 200, 201, 202, 203, 204, 205, 206, 207, 208, 209, 187, 188, 189, 190, 191, 192, 210, 211, 212, 213] (by decide +kernel) (by decide +kernel)
set_option maxRecDepth 20000 in
theorem gX7_ledger_X7_fresh : GoodIn wsX7_ledger (wsV RX7 143 RX7 yX7_fresh wsX7_fresh) := goodIn_app (goodIn_of _ (by decide +kernel)) ggX7_ledger_X7_fresh
set_option maxRecDepth 20000 in
theorem ggX7_ledger_X2_someHolds : GoodIn wsX7_ledger wsX2_someHolds := goodIn_r _ [149, 47, 196, 197, 198, 199, 200, 201, 202, 203, 204, 205, 206, 207, 208, 209] (by decide +kernel) (by decide +kernel)
set_option maxRecDepth 20000 in
theorem gX7_ledger_X2_someHolds : GoodIn wsX7_ledger (wsV RX7 155 RX2 yX2_someHolds wsX2_someHolds) := goodIn_app (goodIn_of _ (by decide +kernel)) ggX7_ledger_X2_someHolds
set_option maxRecDepth 20000 in
theorem ggX7_ledger_X7_likeliestRow : GoodIn wsX7_ledger wsX7_likeliestRow := goodIn_r _ [153, 37, 154, 155, 156, 41, 157, 47, 158, 139, 140, 141, 111, 112, 76, 177, 178, 179, 180, 181, 182, 183, 184, 185, 186, 196, 197, 198, 199, 200, 201, 202, 203, 204, 205, 206, 207, 208, 209] (by decide +kernel) (by decide +kernel)
set_option maxRecDepth 20000 in
theorem gX7_ledger_X7_likeliestRow : GoodIn wsX7_ledger (wsV RX7 242 RX7 yX7_likeliestRow wsX7_likeliestRow) := goodIn_app (goodIn_of _ (by decide +kernel)) ggX7_ledger_X7_likeliestRow
set_option maxRecDepth 20000 in
theorem ggX7_ledger_X5_length : GoodIn wsX7_ledger wsX5_length := goodIn_r _ [162, 163, 193, 194, 195] (by decide +kernel) (by decide +kernel)
set_option maxRecDepth 20000 in
theorem gX7_ledger_X5_length : GoodIn wsX7_ledger (wsV RX7 272 RX5 yX5_length wsX5_length) := goodIn_app (goodIn_of _ (by decide +kernel)) ggX7_ledger_X5_length
set_option maxRecDepth 20000 in
theorem ggX7_ledger_X7_wearer : GoodIn wsX7_ledger wsX7_wearer := goodIn_r _ [122] (by decide +kernel) (by decide +kernel)
set_option maxRecDepth 20000 in
theorem gX7_ledger_X7_wearer : GoodIn wsX7_ledger (va_wsS RX7 245 yX7_wearer wsX7_wearer) := goodIn_app (goodIn_of _ (by decide +kernel)) ggX7_ledger_X7_wearer
set_option maxRecDepth 20000 in
theorem ggX7_ledger_X5_put : GoodIn wsX7_ledger wsX5_put := goodIn_r _ [167, 168, 169, 170, 171, 22, 172, 163, 173, 174, 175, 176, 24, 193, 194, 195] (by decide +kernel) (by decide +kernel)
set_option maxRecDepth 20000 in
theorem gX7_ledger_X5_put : GoodIn wsX7_ledger (wsV RX7 278 RX5 yX5_put wsX5_put) := goodIn_app (goodIn_of _ (by decide +kernel)) ggX7_ledger_X5_put
theorem dX7_ledger_0 : decode cX7_ledger 0 = .ok (.aload_n 0, 1) := by decide +kernel
theorem dX7_ledger_1 : decode cX7_ledger 1 = .ok (.iload_n 1, 1) := by decide +kernel
theorem dX7_ledger_2 : decode cX7_ledger 2 = .ok (.iload_n 2, 1) := by decide +kernel
theorem dX7_ledger_3 : decode cX7_ledger 3 = .ok (.invokevirtual 301, 3) := by decide +kernel
theorem dX7_ledger_6 : decode cX7_ledger 6 = .ok (.istore_n 3, 1) := by decide +kernel
theorem dX7_ledger_7 : decode cX7_ledger 7 = .ok (.iload_n 3, 1) := by decide +kernel
theorem dX7_ledger_8 : decode cX7_ledger 8 = .ok (.ifCond .eq 9, 3) := by decide +kernel
theorem dX7_ledger_11 : decode cX7_ledger 11 = .ok (.aload_n 0, 1) := by decide +kernel
theorem dX7_ledger_12 : decode cX7_ledger 12 = .ok (.iload_n 3, 1) := by decide +kernel
theorem dX7_ledger_13 : decode cX7_ledger 13 = .ok (.invokevirtual 72, 3) := by decide +kernel
theorem dX7_ledger_16 : decode cX7_ledger 16 = .ok (.ireturn, 1) := by decide +kernel
theorem dX7_ledger_17 : decode cX7_ledger 17 = .ok (.aload_n 0, 1) := by decide +kernel
theorem dX7_ledger_18 : decode cX7_ledger 18 = .ok (.iload_n 1, 1) := by decide +kernel
theorem dX7_ledger_19 : decode cX7_ledger 19 = .ok (.invokevirtual 263, 3) := by decide +kernel
theorem dX7_ledger_22 : decode cX7_ledger 22 = .ok (.astore 4, 2) := by decide +kernel
theorem dX7_ledger_24 : decode cX7_ledger 24 = .ok (.aload 4, 2) := by decide +kernel
theorem dX7_ledger_26 : decode cX7_ledger 26 = .ok (.ifnull 13, 3) := by decide +kernel
theorem dX7_ledger_29 : decode cX7_ledger 29 = .ok (.aload_n 0, 1) := by decide +kernel
theorem dX7_ledger_30 : decode cX7_ledger 30 = .ok (.invokevirtual 143, 3) := by decide +kernel
theorem dX7_ledger_33 : decode cX7_ledger 33 = .ok (.invokevirtual 155, 3) := by decide +kernel
theorem dX7_ledger_36 : decode cX7_ledger 36 = .ok (.ifCond .ne 10, 3) := by decide +kernel
theorem dX7_ledger_39 : decode cX7_ledger 39 = .ok (.aload_n 0, 1) := by decide +kernel
theorem dX7_ledger_40 : decode cX7_ledger 40 = .ok (.ldc 158, 2) := by decide +kernel
theorem dX7_ledger_42 : decode cX7_ledger 42 = .ok (.invokevirtual 72, 3) := by decide +kernel
theorem dX7_ledger_45 : decode cX7_ledger 45 = .ok (.ireturn, 1) := by decide +kernel
theorem dX7_ledger_46 : decode cX7_ledger 46 = .ok (.aload_n 0, 1) := by decide +kernel
theorem dX7_ledger_47 : decode cX7_ledger 47 = .ok (.iload_n 2, 1) := by decide +kernel
theorem dX7_ledger_48 : decode cX7_ledger 48 = .ok (.invokevirtual 242, 3) := by decide +kernel
theorem dX7_ledger_51 : decode cX7_ledger 51 = .ok (.istore 5, 2) := by decide +kernel
theorem dX7_ledger_53 : decode cX7_ledger 53 = .ok (.aload 4, 2) := by decide +kernel
theorem dX7_ledger_55 : decode cX7_ledger 55 = .ok (.invokevirtual 272, 3) := by decide +kernel
theorem dX7_ledger_58 : decode cX7_ledger 58 = .ok (.aload_n 0, 1) := by decide +kernel
theorem dX7_ledger_59 : decode cX7_ledger 59 = .ok (.getfield 10, 3) := by decide +kernel
theorem dX7_ledger_62 : decode cX7_ledger 62 = .ok (.getfield 81, 3) := by decide +kernel
theorem dX7_ledger_65 : decode cX7_ledger 65 = .ok (.invokestatic 291, 3) := by decide +kernel
theorem dX7_ledger_68 : decode cX7_ledger 68 = .ok (.istore 6, 2) := by decide +kernel
theorem dX7_ledger_70 : decode cX7_ledger 70 = .ok (.iconst 0, 1) := by decide +kernel
theorem dX7_ledger_71 : decode cX7_ledger 71 = .ok (.istore 7, 2) := by decide +kernel
theorem dX7_ledger_73 : decode cX7_ledger 73 = .ok (.iload 7, 2) := by decide +kernel
theorem dX7_ledger_75 : decode cX7_ledger 75 = .ok (.iload 6, 2) := by decide +kernel
theorem dX7_ledger_77 : decode cX7_ledger 77 = .ok (.if_icmp .ge 25, 3) := by decide +kernel
theorem dX7_ledger_80 : decode cX7_ledger 80 = .ok (.aload 4, 2) := by decide +kernel
theorem dX7_ledger_82 : decode cX7_ledger 82 = .ok (.iload 7, 2) := by decide +kernel
theorem dX7_ledger_84 : decode cX7_ledger 84 = .ok (.iload 5, 2) := by decide +kernel
theorem dX7_ledger_86 : decode cX7_ledger 86 = .ok (.iload 7, 2) := by decide +kernel
theorem dX7_ledger_88 : decode cX7_ledger 88 = .ok (.invokestatic 245, 3) := by decide +kernel
theorem dX7_ledger_91 : decode cX7_ledger 91 = .ok (.i2l, 1) := by decide +kernel
theorem dX7_ledger_92 : decode cX7_ledger 92 = .ok (.invokevirtual 278, 3) := by decide +kernel
theorem dX7_ledger_95 : decode cX7_ledger 95 = .ok (.pop2, 1) := by decide +kernel
theorem dX7_ledger_96 : decode cX7_ledger 96 = .ok (.iinc 7 1, 3) := by decide +kernel
theorem dX7_ledger_99 : decode cX7_ledger 99 = .ok (.goto (-26), 3) := by decide +kernel
theorem dX7_ledger_102 : decode cX7_ledger 102 = .ok (.iload 6, 2) := by decide +kernel
theorem dX7_ledger_104 : decode cX7_ledger 104 = .ok (.ireturn, 1) := by decide +kernel
set_option maxRecDepth 20000 in
theorem ggX7_read_X7_findingOfSheetAndHour : GoodIn wsX7_read wsX7_findingOfSheetAndHour := goodIn_r _ [5, 6, 7, 8, 9, 10, 4, 11, 12, 13, 14, 15, 16, 17, 18, 19, 20, 21, 154, 155, 156, 157, 158, 159, 160, 161, 162, 163, 164, 165, 166] (by decide +kernel) (by decide +kernel)
set_option maxRecDepth 20000 in
theorem gX7_read_X7_findingOfSheetAndHour : GoodIn wsX7_read (wsV RX7 301 RX7 yX7_findingOfSheetAndHour wsX7_findingOfSheetAndHour) := goodIn_app (goodIn_of _ (by decide +kernel)) ggX7_read_X7_findingOfSheetAndHour
set_option maxRecDepth 20000 in
theorem ggX7_read_X7_found : GoodIn wsX7_read wsX7_found := goodIn_r _ [25, 6, 26, 154, 155, 156, 157, 158, 159, 160, 161, 162, 163] (by decide +kernel) (by decide +kernel)
set_option maxRecDepth 20000 in
theorem gX7_read_X7_found : GoodIn wsX7_read (wsV RX7 72 RX7 yX7_found wsX7_found) := goodIn_app (goodIn_of _ (by decide +kernel)) ggX7_read_X7_found
set_option maxRecDepth 20000 in
theorem ggX7_read_X7_fresh : GoodIn wsX7_read wsX7_fresh := goodIn_r _ [30, 31, 32, 33, 34, 35, 36, 37, 38, 39, 40, 41, 42, 43, 44, 45, 46, 47, 48, 49, 50, 51, 52, 53, 54, 55, 56, 57, 58, 59, 60, 61, 62, 63, 64, 65, 66, 67, 68, 69, 70, 71, 72, 73, 74, 75, 76, 77, 78, 79, 80, 81, 82, 83, 84, 85, 86, 87, 88, 89, 90, 91, 92, 93, 94, 95, 96, 97, 98, 99, 100, 101, 102, 103, 104, 105, 106, 107, 108, 109, 110, 111, 112, 113, 114, 115, 116, 117, 118, 4, 119, 120, 121, 122, 123, 124, 125, 126, 127, 128, 129, 130, 131, 132, 133, 134, 135, 136, 137, 138, 139, 140, 141, 142, 154, 155, 156, 157, 158, 159, 160, 161, 162, 163, 167, 168, 169, 170, 171, 172, 173, 174, 175, 176, 177, 178, 179, 180, 181, 182, 183, 184, 185, 186, 187, 188, 189, 190] (by decide +kernel) (by decide +kernel)
set_option maxRecDepth 20000 in
theorem gX7_read_X7_fresh : GoodIn wsX7_read (wsV RX7 143 RX7 yX7_fresh wsX7_fresh) := goodIn_app (goodIn_of _ (by decide +kernel)) ggX7_read_X7_fresh
set_option maxRecDepth 20000 in
theorem ggX7_read_X7_sheetAt : GoodIn wsX7_read wsX7_sheetAt := goodIn_r _ [11, 12, 154, 155, 156, 157, 158, 159, 160, 161, 162, 163] (by decide +kernel) (by decide +kernel)
set_option maxRecDepth 20000 in
theorem gX7_read_X7_sheetAt : GoodIn wsX7_read (wsV RX7 263 RX7 yX7_sheetAt wsX7_sheetAt) := goodIn_app (goodIn_of _ (by decide +kernel)) ggX7_read_X7_sheetAt
set_option maxRecDepth 20000 in
theorem ggX7_read_X2_oddsOfSheet : GoodIn wsX7_read wsX2_oddsOfSheet := goodIn_r _ [146, 38, 88, 89, 90, 35, 91, 78, 135, 136, 137, 138, 108, 109, 73, 147, 148, 149, 16, 150, 151, 152, 40, 41, 42, 153, 118, 4, 119, 139, 140, 141, 142, 47, 167, 168, 169, 170, 171, 172, 173, 174, 175, 176, 177, 178, 179, 180, 181, 182, 183, 184, 185, 186, 164, 165, 166] (by decide +kernel) (by decide +kernel)
set_option maxRecDepth 20000 in
theorem gX7_read_X2_oddsOfSheet : GoodIn wsX7_read (wsV RX7 304 RX2 yX2_oddsOfSheet wsX2_oddsOfSheet) := goodIn_app (goodIn_of _ (by decide +kernel)) ggX7_read_X2_oddsOfSheet
theorem dX7_read_0 : decode cX7_read 0 = .ok (.aload_n 0, 1) := by decide +kernel
theorem dX7_read_1 : decode cX7_read 1 = .ok (.iload_n 1, 1) := by decide +kernel
theorem dX7_read_2 : decode cX7_read 2 = .ok (.iload_n 2, 1) := by decide +kernel
theorem dX7_read_3 : decode cX7_read 3 = .ok (.invokevirtual 301, 3) := by decide +kernel
theorem dX7_read_6 : decode cX7_read 6 = .ok (.istore_n 3, 1) := by decide +kernel
theorem dX7_read_7 : decode cX7_read 7 = .ok (.iload_n 3, 1) := by decide +kernel
theorem dX7_read_8 : decode cX7_read 8 = .ok (.ifCond .eq 10, 3) := by decide +kernel
theorem dX7_read_11 : decode cX7_read 11 = .ok (.aload_n 0, 1) := by decide +kernel
theorem dX7_read_12 : decode cX7_read 12 = .ok (.iload_n 3, 1) := by decide +kernel
theorem dX7_read_13 : decode cX7_read 13 = .ok (.invokevirtual 72, 3) := by decide +kernel
theorem dX7_read_16 : decode cX7_read 16 = .ok (.i2l, 1) := by decide +kernel
theorem dX7_read_17 : decode cX7_read 17 = .ok (.lreturn, 1) := by decide +kernel
theorem dX7_read_18 : decode cX7_read 18 = .ok (.aload_n 0, 1) := by decide +kernel
theorem dX7_read_19 : decode cX7_read 19 = .ok (.invokevirtual 143, 3) := by decide +kernel
theorem dX7_read_22 : decode cX7_read 22 = .ok (.aload_n 0, 1) := by decide +kernel
theorem dX7_read_23 : decode cX7_read 23 = .ok (.iload_n 1, 1) := by decide +kernel
theorem dX7_read_24 : decode cX7_read 24 = .ok (.invokevirtual 263, 3) := by decide +kernel
theorem dX7_read_27 : decode cX7_read 27 = .ok (.iload_n 2, 1) := by decide +kernel
theorem dX7_read_28 : decode cX7_read 28 = .ok (.invokevirtual 304, 3) := by decide +kernel
theorem dX7_read_31 : decode cX7_read 31 = .ok (.lreturn, 1) := by decide +kernel
set_option maxRecDepth 20000 in
theorem ggX7_image_X0_become : GoodIn wsX7_image wsX0_become := goodIn_r _ [8, 9, 10, 11, 12, 13, 14, 15, 16, 17, 18, 19, 20, 21, 22, 23, 24, 25, 26, 27, 28, 29, 30, 41, 42, 43, 44, 45, 46, 47, 48, 49, 50] (by decide +kernel) (by decide +kernel)
set_option maxRecDepth 20000 in
theorem gX7_image_X0_become : GoodIn wsX7_image (wsV RX7 257 RX0 yX0_become wsX0_become) := goodIn_app (goodIn_of _ (by decide +kernel)) ggX7_image_X0_become
theorem dX7_image_0 : decode cX7_image 0 = .ok (.aload_n 0, 1) := by decide +kernel
theorem dX7_image_1 : decode cX7_image 1 = .ok (.getfield 16, 3) := by decide +kernel
theorem dX7_image_4 : decode cX7_image 4 = .ok (.aload_n 0, 1) := by decide +kernel
theorem dX7_image_5 : decode cX7_image 5 = .ok (.getfield 10, 3) := by decide +kernel
theorem dX7_image_8 : decode cX7_image 8 = .ok (.invokevirtual 257, 3) := by decide +kernel
theorem dX7_image_11 : decode cX7_image 11 = .ok (.aload_n 0, 1) := by decide +kernel
theorem dX7_image_12 : decode cX7_image 12 = .ok (.iconst 1, 1) := by decide +kernel
theorem dX7_image_13 : decode cX7_image 13 = .ok (.putfield 66, 3) := by decide +kernel
theorem dX7_image_16 : decode cX7_image 16 = .ok (.iconst 1, 1) := by decide +kernel
theorem dX7_image_17 : decode cX7_image 17 = .ok (.ireturn, 1) := by decide +kernel
set_option maxRecDepth 20000 in
theorem ggX7_undo_X7_found : GoodIn wsX7_undo wsX7_found := goodIn_r _ [10, 11, 12, 50, 51, 52, 53, 54, 55, 56, 57, 58, 59] (by decide +kernel) (by decide +kernel)
set_option maxRecDepth 20000 in
theorem gX7_undo_X7_found : GoodIn wsX7_undo (wsV RX7 72 RX7 yX7_found wsX7_found) := goodIn_app (goodIn_of _ (by decide +kernel)) ggX7_undo_X7_found
set_option maxRecDepth 20000 in
theorem ggX7_undo_X0_become : GoodIn wsX7_undo wsX0_become := goodIn_r _ [17, 18, 19, 20, 21, 22, 23, 24, 25, 26, 27, 28, 29, 30, 31, 32, 33, 34, 35, 36, 37, 38, 39, 60, 61, 62, 63, 64, 65, 66, 67, 68, 69] (by decide +kernel) (by decide +kernel)
set_option maxRecDepth 20000 in
theorem gX7_undo_X0_become : GoodIn wsX7_undo (wsV RX7 257 RX0 yX0_become wsX0_become) := goodIn_app (goodIn_of _ (by decide +kernel)) ggX7_undo_X0_become
set_option maxRecDepth 20000 in
theorem ggX7_undo_X2_forget : GoodIn wsX7_undo wsX2_forget := goodIn_r _ [44, 45, 70, 71, 72, 73, 74, 75, 76, 77, 78, 79, 80, 81, 82, 83] (by decide +kernel) (by decide +kernel)
set_option maxRecDepth 20000 in
theorem gX7_undo_X2_forget : GoodIn wsX7_undo (wsV RX7 85 RX2 yX2_forget wsX2_forget) := goodIn_app (goodIn_of _ (by decide +kernel)) ggX7_undo_X2_forget
set_option maxRecDepth 20000 in
theorem ggX7_undo_X4_size : GoodIn wsX7_undo wsX4_size := goodIn_r _ [49, 29, 66, 67, 68, 69] (by decide +kernel) (by decide +kernel)
set_option maxRecDepth 20000 in
theorem gX7_undo_X4_size : GoodIn wsX7_undo (wsV RX7 236 RX4 yX4_size wsX4_size) := goodIn_app (goodIn_of _ (by decide +kernel)) ggX7_undo_X4_size
theorem dX7_undo_0 : decode cX7_undo 0 = .ok (.aload_n 0, 1) := by decide +kernel
theorem dX7_undo_1 : decode cX7_undo 1 = .ok (.getfield 66, 3) := by decide +kernel
theorem dX7_undo_4 : decode cX7_undo 4 = .ok (.ifCond .ne 10, 3) := by decide +kernel
theorem dX7_undo_7 : decode cX7_undo 7 = .ok (.aload_n 0, 1) := by decide +kernel
theorem dX7_undo_8 : decode cX7_undo 8 = .ok (.ldc 158, 2) := by decide +kernel
theorem dX7_undo_10 : decode cX7_undo 10 = .ok (.invokevirtual 72, 3) := by decide +kernel
theorem dX7_undo_13 : decode cX7_undo 13 = .ok (.ireturn, 1) := by decide +kernel
theorem dX7_undo_14 : decode cX7_undo 14 = .ok (.aload_n 0, 1) := by decide +kernel
theorem dX7_undo_15 : decode cX7_undo 15 = .ok (.getfield 10, 3) := by decide +kernel
theorem dX7_undo_18 : decode cX7_undo 18 = .ok (.aload_n 0, 1) := by decide +kernel
theorem dX7_undo_19 : decode cX7_undo 19 = .ok (.getfield 16, 3) := by decide +kernel
theorem dX7_undo_22 : decode cX7_undo 22 = .ok (.invokevirtual 257, 3) := by decide +kernel
theorem dX7_undo_25 : decode cX7_undo 25 = .ok (.aload_n 0, 1) := by decide +kernel
theorem dX7_undo_26 : decode cX7_undo 26 = .ok (.getfield 27, 3) := by decide +kernel
theorem dX7_undo_29 : decode cX7_undo 29 = .ok (.invokevirtual 85, 3) := by decide +kernel
theorem dX7_undo_32 : decode cX7_undo 32 = .ok (.aload_n 0, 1) := by decide +kernel
theorem dX7_undo_33 : decode cX7_undo 33 = .ok (.getfield 10, 3) := by decide +kernel
theorem dX7_undo_36 : decode cX7_undo 36 = .ok (.getfield 99, 3) := by decide +kernel
theorem dX7_undo_39 : decode cX7_undo 39 = .ok (.invokevirtual 236, 3) := by decide +kernel
theorem dX7_undo_42 : decode cX7_undo 42 = .ok (.ireturn, 1) := by decide +kernel
theorem dX7_tear_0 : decode cX7_tear 0 = .ok (.aload_n 0, 1) := by decide +kernel
theorem dX7_tear_1 : decode cX7_tear 1 = .ok (.getfield 66, 3) := by decide +kernel
theorem dX7_tear_4 : decode cX7_tear 4 = .ok (.ifCond .eq 7, 3) := by decide +kernel
theorem dX7_tear_7 : decode cX7_tear 7 = .ok (.iconst 1, 1) := by decide +kernel
theorem dX7_tear_8 : decode cX7_tear 8 = .ok (.goto 4, 3) := by decide +kernel
theorem dX7_tear_11 : decode cX7_tear 11 = .ok (.iconst 0, 1) := by decide +kernel
theorem dX7_tear_12 : decode cX7_tear 12 = .ok (.istore_n 1, 1) := by decide +kernel
theorem dX7_tear_13 : decode cX7_tear 13 = .ok (.aload_n 0, 1) := by decide +kernel
theorem dX7_tear_14 : decode cX7_tear 14 = .ok (.iconst 0, 1) := by decide +kernel
theorem dX7_tear_15 : decode cX7_tear 15 = .ok (.putfield 66, 3) := by decide +kernel
theorem dX7_tear_18 : decode cX7_tear 18 = .ok (.iload_n 1, 1) := by decide +kernel
theorem dX7_tear_19 : decode cX7_tear 19 = .ok (.ireturn, 1) := by decide +kernel
set_option maxRecDepth 20000 in
theorem ggX7_count_X4_size : GoodIn wsX7_count wsX4_size := goodIn_r _ [8, 9, 51, 52, 53, 54] (by decide +kernel) (by decide +kernel)
set_option maxRecDepth 20000 in
theorem gX7_count_X4_size : GoodIn wsX7_count (wsV RX7 236 RX4 yX4_size wsX4_size) := goodIn_app (goodIn_of _ (by decide +kernel)) ggX7_count_X4_size
set_option maxRecDepth 20000 in
theorem ggX7_count_X0_doubted : GoodIn wsX7_count wsX0_doubted := goodIn_r _ [14, 15, 16, 5, 6, 7, 8, 9, 17, 18, 19, 20, 21, 22, 45, 46, 47, 48, 49, 50, 51, 52, 53, 54] (by decide +kernel) (by decide +kernel)
set_option maxRecDepth 20000 in
theorem gX7_count_X0_doubted : GoodIn wsX7_count (wsV RX7 308 RX0 yX0_doubted wsX0_doubted) := goodIn_app (goodIn_of _ (by decide +kernel)) ggX7_count_X0_doubted
set_option maxRecDepth 20000 in
theorem ggX7_count_X6_length : GoodIn wsX7_count wsX6_length := goodIn_r _ [27, 28, 55, 56] (by decide +kernel) (by decide +kernel)
set_option maxRecDepth 20000 in
theorem gX7_count_X6_length : GoodIn wsX7_count (wsV RX7 248 RX6 yX6_length wsX6_length) := goodIn_app (goodIn_of _ (by decide +kernel)) ggX7_count_X6_length
set_option maxRecDepth 20000 in
theorem ggX7_count_X7_found : GoodIn wsX7_count wsX7_found := goodIn_r _ [33, 3, 34, 35, 36, 37, 38, 39, 40, 41, 42, 43, 44] (by decide +kernel) (by decide +kernel)
set_option maxRecDepth 20000 in
theorem gX7_count_X7_found : GoodIn wsX7_count (wsV RX7 72 RX7 yX7_found wsX7_found) := goodIn_app (goodIn_of _ (by decide +kernel)) ggX7_count_X7_found
theorem dX7_count_0 : decode cX7_count 0 = .ok (.iload_n 1, 1) := by decide +kernel
theorem dX7_count_1 : decode cX7_count 1 = .ok (.tableswitch 96 0 5 #[39, 47, 58, 66, 77, 88], 39) := by decide +kernel
theorem dX7_count_40 : decode cX7_count 40 = .ok (.aload_n 0, 1) := by decide +kernel
theorem dX7_count_41 : decode cX7_count 41 = .ok (.getfield 10, 3) := by decide +kernel
theorem dX7_count_44 : decode cX7_count 44 = .ok (.getfield 81, 3) := by decide +kernel
theorem dX7_count_47 : decode cX7_count 47 = .ok (.ireturn, 1) := by decide +kernel
theorem dX7_count_48 : decode cX7_count 48 = .ok (.aload_n 0, 1) := by decide +kernel
theorem dX7_count_49 : decode cX7_count 49 = .ok (.getfield 10, 3) := by decide +kernel
theorem dX7_count_52 : decode cX7_count 52 = .ok (.getfield 99, 3) := by decide +kernel
theorem dX7_count_55 : decode cX7_count 55 = .ok (.invokevirtual 236, 3) := by decide +kernel
theorem dX7_count_58 : decode cX7_count 58 = .ok (.ireturn, 1) := by decide +kernel
theorem dX7_count_59 : decode cX7_count 59 = .ok (.aload_n 0, 1) := by decide +kernel
theorem dX7_count_60 : decode cX7_count 60 = .ok (.getfield 10, 3) := by decide +kernel
theorem dX7_count_63 : decode cX7_count 63 = .ok (.invokevirtual 308, 3) := by decide +kernel
theorem dX7_count_66 : decode cX7_count 66 = .ok (.ireturn, 1) := by decide +kernel
theorem dX7_count_67 : decode cX7_count 67 = .ok (.aload_n 0, 1) := by decide +kernel
theorem dX7_count_68 : decode cX7_count 68 = .ok (.getfield 10, 3) := by decide +kernel
theorem dX7_count_71 : decode cX7_count 71 = .ok (.getfield 190, 3) := by decide +kernel
theorem dX7_count_74 : decode cX7_count 74 = .ok (.invokevirtual 236, 3) := by decide +kernel
theorem dX7_count_77 : decode cX7_count 77 = .ok (.ireturn, 1) := by decide +kernel
theorem dX7_count_78 : decode cX7_count 78 = .ok (.aload_n 0, 1) := by decide +kernel
theorem dX7_count_79 : decode cX7_count 79 = .ok (.getfield 10, 3) := by decide +kernel
theorem dX7_count_82 : decode cX7_count 82 = .ok (.getfield 140, 3) := by decide +kernel
theorem dX7_count_85 : decode cX7_count 85 = .ok (.invokevirtual 236, 3) := by decide +kernel
theorem dX7_count_88 : decode cX7_count 88 = .ok (.ireturn, 1) := by decide +kernel
theorem dX7_count_89 : decode cX7_count 89 = .ok (.aload_n 0, 1) := by decide +kernel
theorem dX7_count_90 : decode cX7_count 90 = .ok (.getfield 43, 3) := by decide +kernel
theorem dX7_count_93 : decode cX7_count 93 = .ok (.invokevirtual 248, 3) := by decide +kernel
theorem dX7_count_96 : decode cX7_count 96 = .ok (.ireturn, 1) := by decide +kernel
theorem dX7_count_97 : decode cX7_count 97 = .ok (.aload_n 0, 1) := by decide +kernel
theorem dX7_count_98 : decode cX7_count 98 = .ok (.ldc 71, 2) := by decide +kernel
theorem dX7_count_100 : decode cX7_count 100 = .ok (.invokevirtual 72, 3) := by decide +kernel
theorem dX7_count_103 : decode cX7_count 103 = .ok (.ireturn, 1) := by decide +kernel
set_option maxRecDepth 20000 in
theorem ggX7_status_X7_found : GoodIn wsX7_status wsX7_found := goodIn_r _ [7, 1, 2, 8, 9, 10, 11, 12, 13, 14, 15, 16, 17] (by decide +kernel) (by decide +kernel)
set_option maxRecDepth 20000 in
theorem gX7_status_X7_found : GoodIn wsX7_status (wsV RX7 72 RX7 yX7_found wsX7_found) := goodIn_app (goodIn_of _ (by decide +kernel)) ggX7_status_X7_found
theorem dX7_status_0 : decode cX7_status 0 = .ok (.iload_n 1, 1) := by decide +kernel
theorem dX7_status_1 : decode cX7_status 1 = .ok (.iconst (-1), 1) := by decide +kernel
theorem dX7_status_2 : decode cX7_status 2 = .ok (.if_icmp .lt 9, 3) := by decide +kernel
theorem dX7_status_5 : decode cX7_status 5 = .ok (.iload_n 1, 1) := by decide +kernel
theorem dX7_status_6 : decode cX7_status 6 = .ok (.bipush 7, 2) := by decide +kernel
theorem dX7_status_8 : decode cX7_status 8 = .ok (.if_icmp .lt 10, 3) := by decide +kernel
theorem dX7_status_11 : decode cX7_status 11 = .ok (.aload_n 0, 1) := by decide +kernel
theorem dX7_status_12 : decode cX7_status 12 = .ok (.ldc 71, 2) := by decide +kernel
theorem dX7_status_14 : decode cX7_status 14 = .ok (.invokevirtual 72, 3) := by decide +kernel
theorem dX7_status_17 : decode cX7_status 17 = .ok (.ireturn, 1) := by decide +kernel
theorem dX7_status_18 : decode cX7_status 18 = .ok (.iconst 0, 1) := by decide +kernel
theorem dX7_status_19 : decode cX7_status 19 = .ok (.istore_n 2, 1) := by decide +kernel
theorem dX7_status_20 : decode cX7_status 20 = .ok (.iconst 0, 1) := by decide +kernel
theorem dX7_status_21 : decode cX7_status 21 = .ok (.istore_n 3, 1) := by decide +kernel
theorem dX7_status_22 : decode cX7_status 22 = .ok (.iload_n 3, 1) := by decide +kernel
theorem dX7_status_23 : decode cX7_status 23 = .ok (.bipush 7, 2) := by decide +kernel
theorem dX7_status_25 : decode cX7_status 25 = .ok (.if_icmp .ge 28, 3) := by decide +kernel
theorem dX7_status_28 : decode cX7_status 28 = .ok (.iload_n 1, 1) := by decide +kernel
theorem dX7_status_29 : decode cX7_status 29 = .ok (.iconst (-1), 1) := by decide +kernel
theorem dX7_status_30 : decode cX7_status 30 = .ok (.if_icmp .eq 8, 3) := by decide +kernel
theorem dX7_status_33 : decode cX7_status 33 = .ok (.iload_n 1, 1) := by decide +kernel
theorem dX7_status_34 : decode cX7_status 34 = .ok (.iload_n 3, 1) := by decide +kernel
theorem dX7_status_35 : decode cX7_status 35 = .ok (.if_icmp .ne 12, 3) := by decide +kernel
theorem dX7_status_38 : decode cX7_status 38 = .ok (.iload_n 2, 1) := by decide +kernel
theorem dX7_status_39 : decode cX7_status 39 = .ok (.aload_n 0, 1) := by decide +kernel
theorem dX7_status_40 : decode cX7_status 40 = .ok (.getfield 62, 3) := by decide +kernel
theorem dX7_status_43 : decode cX7_status 43 = .ok (.iload_n 3, 1) := by decide +kernel
theorem dX7_status_44 : decode cX7_status 44 = .ok (.iaload, 1) := by decide +kernel
theorem dX7_status_45 : decode cX7_status 45 = .ok (.iadd, 1) := by decide +kernel
theorem dX7_status_46 : decode cX7_status 46 = .ok (.istore_n 2, 1) := by decide +kernel
theorem dX7_status_47 : decode cX7_status 47 = .ok (.iinc 3 1, 3) := by decide +kernel
theorem dX7_status_50 : decode cX7_status 50 = .ok (.goto (-28), 3) := by decide +kernel
theorem dX7_status_53 : decode cX7_status 53 = .ok (.iload_n 2, 1) := by decide +kernel
theorem dX7_status_54 : decode cX7_status 54 = .ok (.ireturn, 1) := by decide +kernel
theorem dX7_found_0 : decode cX7_found 0 = .ok (.ldc 71, 2) := by decide +kernel
theorem dX7_found_2 : decode cX7_found 2 = .ok (.iload_n 1, 1) := by decide +kernel
theorem dX7_found_3 : decode cX7_found 3 = .ok (.isub, 1) := by decide +kernel
theorem dX7_found_4 : decode cX7_found 4 = .ok (.istore_n 2, 1) := by decide +kernel
theorem dX7_found_5 : decode cX7_found 5 = .ok (.iload_n 2, 1) := by decide +kernel
theorem dX7_found_6 : decode cX7_found 6 = .ok (.ifCond .lt 19, 3) := by decide +kernel
theorem dX7_found_9 : decode cX7_found 9 = .ok (.iload_n 2, 1) := by decide +kernel
theorem dX7_found_10 : decode cX7_found 10 = .ok (.bipush 7, 2) := by decide +kernel
theorem dX7_found_12 : decode cX7_found 12 = .ok (.if_icmp .ge 13, 3) := by decide +kernel
theorem dX7_found_15 : decode cX7_found 15 = .ok (.aload_n 0, 1) := by decide +kernel
theorem dX7_found_16 : decode cX7_found 16 = .ok (.getfield 62, 3) := by decide +kernel
theorem dX7_found_19 : decode cX7_found 19 = .ok (.iload_n 2, 1) := by decide +kernel
theorem dX7_found_20 : decode cX7_found 20 = .ok (.dup2, 1) := by decide +kernel
theorem dX7_found_21 : decode cX7_found 21 = .ok (.iaload, 1) := by decide +kernel
theorem dX7_found_22 : decode cX7_found 22 = .ok (.iconst 1, 1) := by decide +kernel
theorem dX7_found_23 : decode cX7_found 23 = .ok (.iadd, 1) := by decide +kernel
theorem dX7_found_24 : decode cX7_found 24 = .ok (.iastore, 1) := by decide +kernel
theorem dX7_found_25 : decode cX7_found 25 = .ok (.iload_n 1, 1) := by decide +kernel
theorem dX7_found_26 : decode cX7_found 26 = .ok (.ireturn, 1) := by decide +kernel
set_option maxRecDepth 20000 in
theorem ggX7_orNone_X7_found : GoodIn wsX7_orNone wsX7_found := goodIn_r _ [6, 7, 8, 9, 10, 11, 12, 13, 14, 15, 16, 17, 18] (by decide +kernel) (by decide +kernel)
set_option maxRecDepth 20000 in
theorem gX7_orNone_X7_found : GoodIn wsX7_orNone (wsV RX7 72 RX7 yX7_found wsX7_found) := goodIn_app (goodIn_of _ (by decide +kernel)) ggX7_orNone_X7_found
theorem dX7_orNone_0 : decode cX7_orNone 0 = .ok (.iload_n 1, 1) := by decide +kernel
theorem dX7_orNone_1 : decode cX7_orNone 1 = .ok (.iconst (-1), 1) := by decide +kernel
theorem dX7_orNone_2 : decode cX7_orNone 2 = .ok (.if_icmp .ne 12, 3) := by decide +kernel
theorem dX7_orNone_5 : decode cX7_orNone 5 = .ok (.aload_n 0, 1) := by decide +kernel
theorem dX7_orNone_6 : decode cX7_orNone 6 = .ok (.ldc 158, 2) := by decide +kernel
theorem dX7_orNone_8 : decode cX7_orNone 8 = .ok (.invokevirtual 72, 3) := by decide +kernel
theorem dX7_orNone_11 : decode cX7_orNone 11 = .ok (.goto 4, 3) := by decide +kernel
theorem dX7_orNone_14 : decode cX7_orNone 14 = .ok (.iload_n 1, 1) := by decide +kernel
theorem dX7_orNone_15 : decode cX7_orNone 15 = .ok (.ireturn, 1) := by decide +kernel
set_option maxRecDepth 20000 in
theorem ggX7_fresh_X2_lookAnew : GoodIn wsX7_fresh wsX2_lookAnew := goodIn_r _ [6, 7, 8, 9, 10, 11, 12, 13, 14, 15, 16, 17, 18, 19, 20, 21, 22, 23, 24, 25, 26, 5, 27, 28, 29, 30, 31, 32, 33, 34, 35, 36, 37, 38, 39, 40, 41, 42, 43, 44, 45, 46, 47, 48, 49, 50, 51, 52, 53, 54, 55, 56, 57, 58, 59, 60, 61, 62, 63, 64, 65, 66, 67, 68, 69, 70, 71, 72, 73, 74, 75, 76, 77, 78, 79, 80, 81, 82, 83, 84, 85, 86, 87, 88, 89, 90, 91, 92, 93, 94, 95, 96, 97, 98, 99, 100, 101, 102, 103, 104, 105, 106, 107, 108, 109, 110, 111, 112, 113, 124, 125, 126, 127, 128, 129, 130, 131, 132, 133, 134, 135, 136, 137, 138, 139, 140, 141, 142, 143, 144, 145, 146, 147] (by decide +kernel) (by decide +kernel)
set_option maxRecDepth 20000 in
theorem gX7_fresh_X2_lookAnew : GoodIn wsX7_fresh (wsV RX7 311 RX2 yX2_lookAnew wsX2_lookAnew) := goodIn_app (goodIn_of _ (by decide +kernel)) ggX7_fresh_X2_lookAnew
theorem dX7_fresh_0 : decode cX7_fresh 0 = .ok (.aload_n 0, 1) := by decide +kernel
theorem dX7_fresh_1 : decode cX7_fresh 1 = .ok (.getfield 27, 3) := by decide +kernel
theorem dX7_fresh_4 : decode cX7_fresh 4 = .ok (.invokevirtual 311, 3) := by decide +kernel
theorem dX7_fresh_7 : decode cX7_fresh 7 = .ok (.aload_n 0, 1) := by decide +kernel
theorem dX7_fresh_8 : decode cX7_fresh 8 = .ok (.getfield 27, 3) := by decide +kernel
theorem dX7_fresh_11 : decode cX7_fresh 11 = .ok (.areturn, 1) := by decide +kernel
theorem dX7_isPerson_0 : decode cX7_isPerson 0 = .ok (.iload_n 1, 1) := by decide +kernel
theorem dX7_isPerson_1 : decode cX7_isPerson 1 = .ok (.ifCond .lt 18, 3) := by decide +kernel
theorem dX7_isPerson_4 : decode cX7_isPerson 4 = .ok (.iload_n 1, 1) := by decide +kernel
theorem dX7_isPerson_5 : decode cX7_isPerson 5 = .ok (.aload_n 0, 1) := by decide +kernel
theorem dX7_isPerson_6 : decode cX7_isPerson 6 = .ok (.getfield 10, 3) := by decide +kernel
theorem dX7_isPerson_9 : decode cX7_isPerson 9 = .ok (.getfield 81, 3) := by decide +kernel
theorem dX7_isPerson_12 : decode cX7_isPerson 12 = .ok (.if_icmp .ge 7, 3) := by decide +kernel
theorem dX7_isPerson_15 : decode cX7_isPerson 15 = .ok (.iconst 1, 1) := by decide +kernel
theorem dX7_isPerson_16 : decode cX7_isPerson 16 = .ok (.goto 4, 3) := by decide +kernel
theorem dX7_isPerson_19 : decode cX7_isPerson 19 = .ok (.iconst 0, 1) := by decide +kernel
theorem dX7_isPerson_20 : decode cX7_isPerson 20 = .ok (.ireturn, 1) := by decide +kernel
set_option maxRecDepth 20000 in
theorem ggX7_areUnlike_X7_isPerson : GoodIn wsX7_areUnlike wsX7_isPerson := goodIn_r _ [5, 6, 7, 8, 9, 10, 11, 12, 13, 14, 15, 16, 17, 18, 19, 20, 21, 22] (by decide +kernel) (by decide +kernel)
set_option maxRecDepth 20000 in
theorem gX7_areUnlike_X7_isPerson : GoodIn wsX7_areUnlike (wsV RX7 137 RX7 yX7_isPerson wsX7_isPerson) := goodIn_app (goodIn_of _ (by decide +kernel)) ggX7_areUnlike_X7_isPerson
theorem dX7_areUnlike_0 : decode cX7_areUnlike 0 = .ok (.aload_n 0, 1) := by decide +kernel
theorem dX7_areUnlike_1 : decode cX7_areUnlike 1 = .ok (.iload_n 1, 1) := by decide +kernel
theorem dX7_areUnlike_2 : decode cX7_areUnlike 2 = .ok (.invokevirtual 137, 3) := by decide +kernel
theorem dX7_areUnlike_5 : decode cX7_areUnlike 5 = .ok (.ifCond .eq 20, 3) := by decide +kernel
theorem dX7_areUnlike_8 : decode cX7_areUnlike 8 = .ok (.aload_n 0, 1) := by decide +kernel
theorem dX7_areUnlike_9 : decode cX7_areUnlike 9 = .ok (.iload_n 2, 1) := by decide +kernel
theorem dX7_areUnlike_10 : decode cX7_areUnlike 10 = .ok (.invokevirtual 137, 3) := by decide +kernel
theorem dX7_areUnlike_13 : decode cX7_areUnlike 13 = .ok (.ifCond .eq 12, 3) := by decide +kernel
theorem dX7_areUnlike_16 : decode cX7_areUnlike 16 = .ok (.iload_n 1, 1) := by decide +kernel
theorem dX7_areUnlike_17 : decode cX7_areUnlike 17 = .ok (.iload_n 2, 1) := by decide +kernel
theorem dX7_areUnlike_18 : decode cX7_areUnlike 18 = .ok (.if_icmp .eq 7, 3) := by decide +kernel
theorem dX7_areUnlike_21 : decode cX7_areUnlike 21 = .ok (.iconst 1, 1) := by decide +kernel
theorem dX7_areUnlike_22 : decode cX7_areUnlike 22 = .ok (.goto 4, 3) := by decide +kernel
theorem dX7_areUnlike_25 : decode cX7_areUnlike 25 = .ok (.iconst 0, 1) := by decide +kernel
theorem dX7_areUnlike_26 : decode cX7_areUnlike 26 = .ok (.ireturn, 1) := by decide +kernel
theorem dX7_sheetAt_0 : decode cX7_sheetAt 0 = .ok (.iload_n 1, 1) := by decide +kernel
theorem dX7_sheetAt_1 : decode cX7_sheetAt 1 = .ok (.ifCond .lt 17, 3) := by decide +kernel
theorem dX7_sheetAt_4 : decode cX7_sheetAt 4 = .ok (.iload_n 1, 1) := by decide +kernel
theorem dX7_sheetAt_5 : decode cX7_sheetAt 5 = .ok (.iconst 4, 1) := by decide +kernel
theorem dX7_sheetAt_6 : decode cX7_sheetAt 6 = .ok (.if_icmp .ge 12, 3) := by decide +kernel
theorem dX7_sheetAt_9 : decode cX7_sheetAt 9 = .ok (.aload_n 0, 1) := by decide +kernel
theorem dX7_sheetAt_10 : decode cX7_sheetAt 10 = .ok (.getfield 58, 3) := by decide +kernel
theorem dX7_sheetAt_13 : decode cX7_sheetAt 13 = .ok (.iload_n 1, 1) := by decide +kernel
theorem dX7_sheetAt_14 : decode cX7_sheetAt 14 = .ok (.aaload, 1) := by decide +kernel
theorem dX7_sheetAt_15 : decode cX7_sheetAt 15 = .ok (.goto 4, 3) := by decide +kernel
theorem dX7_sheetAt_18 : decode cX7_sheetAt 18 = .ok (.aconst_null, 1) := by decide +kernel
theorem dX7_sheetAt_19 : decode cX7_sheetAt 19 = .ok (.areturn, 1) := by decide +kernel
set_option maxRecDepth 20000 in
theorem ggX7_findingOfSheetAndHour_X7_sheetAt : GoodIn wsX7_findingOfSheetAndHour wsX7_sheetAt := goodIn_r _ [7, 8, 18, 19, 20, 21, 22, 23, 24, 25, 26, 27] (by decide +kernel) (by decide +kernel)
set_option maxRecDepth 20000 in
theorem gX7_findingOfSheetAndHour_X7_sheetAt : GoodIn wsX7_findingOfSheetAndHour (wsV RX7 263 RX7 yX7_sheetAt wsX7_sheetAt) := goodIn_app (goodIn_of _ (by decide +kernel)) ggX7_findingOfSheetAndHour_X7_sheetAt
set_option maxRecDepth 20000 in
theorem ggX7_findingOfSheetAndHour_X5_isMissing : GoodIn wsX7_findingOfSheetAndHour wsX5_isMissing := goodIn_r _ [13, 14, 28, 29, 30] (by decide +kernel) (by decide +kernel)
set_option maxRecDepth 20000 in
theorem gX7_findingOfSheetAndHour_X5_isMissing : GoodIn wsX7_findingOfSheetAndHour (wsV RX7 273 RX5 yX5_isMissing wsX5_isMissing) := goodIn_app (goodIn_of _ (by decide +kernel)) ggX7_findingOfSheetAndHour_X5_isMissing
set_option maxRecDepth 20000 in
theorem ggX7_findingOfSheetAndHour_X7_isHour : GoodIn wsX7_findingOfSheetAndHour wsX7_isHour := goodIn_r _ [17] (by decide +kernel) (by decide +kernel)
set_option maxRecDepth 20000 in
theorem gX7_findingOfSheetAndHour_X7_isHour : GoodIn wsX7_findingOfSheetAndHour (va_wsS RX7 88 yX7_isHour wsX7_isHour) := goodIn_app (goodIn_of _ (by decide +kernel)) ggX7_findingOfSheetAndHour_X7_isHour
theorem dX7_findingOfSheetAndHour_0 : decode cX7_findingOfSheetAndHour 0 = .ok (.aload_n 0, 1) := by decide +kernel
theorem dX7_findingOfSheetAndHour_1 : decode cX7_findingOfSheetAndHour 1 = .ok (.iload_n 1, 1) := by decide +kernel
theorem dX7_findingOfSheetAndHour_2 : decode cX7_findingOfSheetAndHour 2 = .ok (.invokevirtual 263, 3) := by decide +kernel
theorem dX7_findingOfSheetAndHour_5 : decode cX7_findingOfSheetAndHour 5 = .ok (.astore_n 3, 1) := by decide +kernel
theorem dX7_findingOfSheetAndHour_6 : decode cX7_findingOfSheetAndHour 6 = .ok (.aload_n 3, 1) := by decide +kernel
theorem dX7_findingOfSheetAndHour_7 : decode cX7_findingOfSheetAndHour 7 = .ok (.ifnonnull 6, 3) := by decide +kernel
theorem dX7_findingOfSheetAndHour_10 : decode cX7_findingOfSheetAndHour 10 = .ok (.ldc 71, 2) := by decide +kernel
theorem dX7_findingOfSheetAndHour_12 : decode cX7_findingOfSheetAndHour 12 = .ok (.ireturn, 1) := by decide +kernel
theorem dX7_findingOfSheetAndHour_13 : decode cX7_findingOfSheetAndHour 13 = .ok (.aload_n 3, 1) := by decide +kernel
theorem dX7_findingOfSheetAndHour_14 : decode cX7_findingOfSheetAndHour 14 = .ok (.invokevirtual 273, 3) := by decide +kernel
theorem dX7_findingOfSheetAndHour_17 : decode cX7_findingOfSheetAndHour 17 = .ok (.ifCond .eq 7, 3) := by decide +kernel
theorem dX7_findingOfSheetAndHour_20 : decode cX7_findingOfSheetAndHour 20 = .ok (.ldc_w 276, 3) := by decide +kernel
theorem dX7_findingOfSheetAndHour_23 : decode cX7_findingOfSheetAndHour 23 = .ok (.ireturn, 1) := by decide +kernel
theorem dX7_findingOfSheetAndHour_24 : decode cX7_findingOfSheetAndHour 24 = .ok (.iload_n 2, 1) := by decide +kernel
theorem dX7_findingOfSheetAndHour_25 : decode cX7_findingOfSheetAndHour 25 = .ok (.invokestatic 88, 3) := by decide +kernel
theorem dX7_findingOfSheetAndHour_28 : decode cX7_findingOfSheetAndHour 28 = .ok (.ifCond .eq 7, 3) := by decide +kernel
theorem dX7_findingOfSheetAndHour_31 : decode cX7_findingOfSheetAndHour 31 = .ok (.iconst 0, 1) := by decide +kernel
theorem dX7_findingOfSheetAndHour_32 : decode cX7_findingOfSheetAndHour 32 = .ok (.goto 5, 3) := by decide +kernel
theorem dX7_findingOfSheetAndHour_35 : decode cX7_findingOfSheetAndHour 35 = .ok (.ldc 71, 2) := by decide +kernel
theorem dX7_findingOfSheetAndHour_37 : decode cX7_findingOfSheetAndHour 37 = .ok (.ireturn, 1) := by decide +kernel
set_option maxRecDepth 20000 in
theorem ggX7_likeliestRow_X2_likeliestNight : GoodIn wsX7_likeliestRow wsX2_likeliestNight := goodIn_r _ [6, 7, 25, 26, 27, 28, 29, 30, 31, 32, 33, 34, 35, 36, 37, 38] (by decide +kernel) (by decide +kernel)
set_option maxRecDepth 20000 in
theorem gX7_likeliestRow_X2_likeliestNight : GoodIn wsX7_likeliestRow (wsV RX7 159 RX2 yX2_likeliestNight wsX2_likeliestNight) := goodIn_app (goodIn_of _ (by decide +kernel)) ggX7_likeliestRow_X2_likeliestNight
set_option maxRecDepth 20000 in
theorem ggX7_likeliestRow_X2_row : GoodIn wsX7_likeliestRow wsX2_row := goodIn_r _ [11, 12, 13, 14, 25, 26, 27, 28, 29, 30, 31, 32, 33, 34, 35, 36, 37, 38] (by decide +kernel) (by decide +kernel)
set_option maxRecDepth 20000 in
theorem gX7_likeliestRow_X2_row : GoodIn wsX7_likeliestRow (wsV RX7 314 RX2 yX2_row wsX2_row) := goodIn_app (goodIn_of _ (by decide +kernel)) ggX7_likeliestRow_X2_row
theorem dX7_likeliestRow_0 : decode cX7_likeliestRow 0 = .ok (.aload_n 0, 1) := by decide +kernel
theorem dX7_likeliestRow_1 : decode cX7_likeliestRow 1 = .ok (.getfield 27, 3) := by decide +kernel
theorem dX7_likeliestRow_4 : decode cX7_likeliestRow 4 = .ok (.aload_n 0, 1) := by decide +kernel
theorem dX7_likeliestRow_5 : decode cX7_likeliestRow 5 = .ok (.getfield 27, 3) := by decide +kernel
theorem dX7_likeliestRow_8 : decode cX7_likeliestRow 8 = .ok (.invokevirtual 159, 3) := by decide +kernel
theorem dX7_likeliestRow_11 : decode cX7_likeliestRow 11 = .ok (.iload_n 1, 1) := by decide +kernel
theorem dX7_likeliestRow_12 : decode cX7_likeliestRow 12 = .ok (.invokevirtual 314, 3) := by decide +kernel
theorem dX7_likeliestRow_15 : decode cX7_likeliestRow 15 = .ok (.ireturn, 1) := by decide +kernel
set_option maxRecDepth 20000 in
theorem ggX7_bowHomeward_X7_likeliestRow : GoodIn wsX7_bowHomeward wsX7_likeliestRow := goodIn_r _ [6, 7, 8, 9, 10, 11, 12, 13, 14, 15, 16, 17, 18, 19, 20, 30, 31, 32, 33, 34, 35, 36, 37, 38, 39, 46, 47, 48, 49, 50, 51, 52, 53, 54, 55, 56, 57, 58, 59] (by decide +kernel) (by decide +kernel)
set_option maxRecDepth 20000 in
theorem gX7_bowHomeward_X7_likeliestRow : GoodIn wsX7_bowHomeward (wsV RX7 242 RX7 yX7_likeliestRow wsX7_likeliestRow) := goodIn_app (goodIn_of _ (by decide +kernel)) ggX7_bowHomeward_X7_likeliestRow
set_option maxRecDepth 20000 in
theorem ggX7_bowHomeward_X7_maskOf : GoodIn wsX7_bowHomeward wsX7_maskOf := goodIn_r _ [23, 24, 25, 5, 26] (by decide +kernel) (by decide +kernel)
set_option maxRecDepth 20000 in
theorem gX7_bowHomeward_X7_maskOf : GoodIn wsX7_bowHomeward (va_wsS RX7 317 yX7_maskOf wsX7_maskOf) := goodIn_app (goodIn_of _ (by decide +kernel)) ggX7_bowHomeward_X7_maskOf
set_option maxRecDepth 20000 in
theorem ggX7_bowHomeward_X7_changed : GoodIn wsX7_bowHomeward wsX7_changed := goodIn_r _ [29, 24, 25, 5, 26] (by decide +kernel) (by decide +kernel)
set_option maxRecDepth 20000 in
theorem gX7_bowHomeward_X7_changed : GoodIn wsX7_bowHomeward (va_wsS RX7 320 yX7_changed wsX7_changed) := goodIn_app (goodIn_of _ (by decide +kernel)) ggX7_bowHomeward_X7_changed
theorem dX7_bowHomeward_0 : decode cX7_bowHomeward 0 = .ok (.aload_n 0, 1) := by decide +kernel
theorem dX7_bowHomeward_1 : decode cX7_bowHomeward 1 = .ok (.bipush 99, 2) := by decide +kernel
theorem dX7_bowHomeward_3 : decode cX7_bowHomeward 3 = .ok (.invokevirtual 242, 3) := by decide +kernel
theorem dX7_bowHomeward_6 : decode cX7_bowHomeward 6 = .ok (.istore_n 2, 1) := by decide +kernel
theorem dX7_bowHomeward_7 : decode cX7_bowHomeward 7 = .ok (.iconst 0, 1) := by decide +kernel
theorem dX7_bowHomeward_8 : decode cX7_bowHomeward 8 = .ok (.istore_n 3, 1) := by decide +kernel
theorem dX7_bowHomeward_9 : decode cX7_bowHomeward 9 = .ok (.iconst 0, 1) := by decide +kernel
theorem dX7_bowHomeward_10 : decode cX7_bowHomeward 10 = .ok (.istore 4, 2) := by decide +kernel
theorem dX7_bowHomeward_12 : decode cX7_bowHomeward 12 = .ok (.iload 4, 2) := by decide +kernel
theorem dX7_bowHomeward_14 : decode cX7_bowHomeward 14 = .ok (.aload_n 0, 1) := by decide +kernel
theorem dX7_bowHomeward_15 : decode cX7_bowHomeward 15 = .ok (.getfield 10, 3) := by decide +kernel
theorem dX7_bowHomeward_18 : decode cX7_bowHomeward 18 = .ok (.getfield 81, 3) := by decide +kernel
theorem dX7_bowHomeward_21 : decode cX7_bowHomeward 21 = .ok (.if_icmp .ge 50, 3) := by decide +kernel
theorem dX7_bowHomeward_24 : decode cX7_bowHomeward 24 = .ok (.iload_n 2, 1) := by decide +kernel
theorem dX7_bowHomeward_25 : decode cX7_bowHomeward 25 = .ok (.iload 4, 2) := by decide +kernel
theorem dX7_bowHomeward_27 : decode cX7_bowHomeward 27 = .ok (.invokestatic 317, 3) := by decide +kernel
theorem dX7_bowHomeward_30 : decode cX7_bowHomeward 30 = .ok (.istore 5, 2) := by decide +kernel
theorem dX7_bowHomeward_32 : decode cX7_bowHomeward 32 = .ok (.iload 5, 2) := by decide +kernel
theorem dX7_bowHomeward_34 : decode cX7_bowHomeward 34 = .ok (.iload 4, 2) := by decide +kernel
theorem dX7_bowHomeward_36 : decode cX7_bowHomeward 36 = .ok (.if_icmp .eq 29, 3) := by decide +kernel
theorem dX7_bowHomeward_39 : decode cX7_bowHomeward 39 = .ok (.iload_n 3, 1) := by decide +kernel
theorem dX7_bowHomeward_40 : decode cX7_bowHomeward 40 = .ok (.iload_n 1, 1) := by decide +kernel
theorem dX7_bowHomeward_41 : decode cX7_bowHomeward 41 = .ok (.if_icmp .ne 12, 3) := by decide +kernel
theorem dX7_bowHomeward_44 : decode cX7_bowHomeward 44 = .ok (.bipush 10, 2) := by decide +kernel
theorem dX7_bowHomeward_46 : decode cX7_bowHomeward 46 = .ok (.iload 4, 2) := by decide +kernel
theorem dX7_bowHomeward_48 : decode cX7_bowHomeward 48 = .ok (.imul, 1) := by decide +kernel
theorem dX7_bowHomeward_49 : decode cX7_bowHomeward 49 = .ok (.iload 5, 2) := by decide +kernel
theorem dX7_bowHomeward_51 : decode cX7_bowHomeward 51 = .ok (.iadd, 1) := by decide +kernel
theorem dX7_bowHomeward_52 : decode cX7_bowHomeward 52 = .ok (.ireturn, 1) := by decide +kernel
theorem dX7_bowHomeward_53 : decode cX7_bowHomeward 53 = .ok (.iload_n 2, 1) := by decide +kernel
theorem dX7_bowHomeward_54 : decode cX7_bowHomeward 54 = .ok (.iload 4, 2) := by decide +kernel
theorem dX7_bowHomeward_56 : decode cX7_bowHomeward 56 = .ok (.iload 5, 2) := by decide +kernel
theorem dX7_bowHomeward_58 : decode cX7_bowHomeward 58 = .ok (.invokestatic 320, 3) := by decide +kernel
theorem dX7_bowHomeward_61 : decode cX7_bowHomeward 61 = .ok (.istore_n 2, 1) := by decide +kernel
theorem dX7_bowHomeward_62 : decode cX7_bowHomeward 62 = .ok (.iinc 3 1, 3) := by decide +kernel
theorem dX7_bowHomeward_65 : decode cX7_bowHomeward 65 = .ok (.iinc 4 1, 3) := by decide +kernel
theorem dX7_bowHomeward_68 : decode cX7_bowHomeward 68 = .ok (.goto (-56), 3) := by decide +kernel
theorem dX7_bowHomeward_71 : decode cX7_bowHomeward 71 = .ok (.iconst (-1), 1) := by decide +kernel
theorem dX7_bowHomeward_72 : decode cX7_bowHomeward 72 = .ok (.ireturn, 1) := by decide +kernel
theorem dX7_isHour_0 : decode cX7_isHour 0 = .ok (.iload_n 0, 1) := by decide +kernel
theorem dX7_isHour_1 : decode cX7_isHour 1 = .ok (.ifCond .lt 13, 3) := by decide +kernel
theorem dX7_isHour_4 : decode cX7_isHour 4 = .ok (.iload_n 0, 1) := by decide +kernel
theorem dX7_isHour_5 : decode cX7_isHour 5 = .ok (.bipush 100, 2) := by decide +kernel
theorem dX7_isHour_7 : decode cX7_isHour 7 = .ok (.if_icmp .ge 7, 3) := by decide +kernel
theorem dX7_isHour_10 : decode cX7_isHour 10 = .ok (.iconst 1, 1) := by decide +kernel
theorem dX7_isHour_11 : decode cX7_isHour 11 = .ok (.goto 4, 3) := by decide +kernel
theorem dX7_isHour_14 : decode cX7_isHour 14 = .ok (.iconst 0, 1) := by decide +kernel
theorem dX7_isHour_15 : decode cX7_isHour 15 = .ok (.ireturn, 1) := by decide +kernel
theorem dX7_areTenths_0 : decode cX7_areTenths 0 = .ok (.iload_n 0, 1) := by decide +kernel
theorem dX7_areTenths_1 : decode cX7_areTenths 1 = .ok (.ifCond .lt 13, 3) := by decide +kernel
theorem dX7_areTenths_4 : decode cX7_areTenths 4 = .ok (.iload_n 0, 1) := by decide +kernel
theorem dX7_areTenths_5 : decode cX7_areTenths 5 = .ok (.bipush 10, 2) := by decide +kernel
theorem dX7_areTenths_7 : decode cX7_areTenths 7 = .ok (.if_icmp .gt 7, 3) := by decide +kernel
theorem dX7_areTenths_10 : decode cX7_areTenths 10 = .ok (.iconst 1, 1) := by decide +kernel
theorem dX7_areTenths_11 : decode cX7_areTenths 11 = .ok (.goto 4, 3) := by decide +kernel
theorem dX7_areTenths_14 : decode cX7_areTenths 14 = .ok (.iconst 0, 1) := by decide +kernel
theorem dX7_areTenths_15 : decode cX7_areTenths 15 = .ok (.ireturn, 1) := by decide +kernel
theorem dX7_isKind_0 : decode cX7_isKind 0 = .ok (.iload_n 0, 1) := by decide +kernel
theorem dX7_isKind_1 : decode cX7_isKind 1 = .ok (.ifCond .lt 13, 3) := by decide +kernel
theorem dX7_isKind_4 : decode cX7_isKind 4 = .ok (.iload_n 0, 1) := by decide +kernel
theorem dX7_isKind_5 : decode cX7_isKind 5 = .ok (.bipush 6, 2) := by decide +kernel
theorem dX7_isKind_7 : decode cX7_isKind 7 = .ok (.if_icmp .ge 7, 3) := by decide +kernel
theorem dX7_isKind_10 : decode cX7_isKind 10 = .ok (.iconst 1, 1) := by decide +kernel
theorem dX7_isKind_11 : decode cX7_isKind 11 = .ok (.goto 4, 3) := by decide +kernel
theorem dX7_isKind_14 : decode cX7_isKind 14 = .ok (.iconst 0, 1) := by decide +kernel
theorem dX7_isKind_15 : decode cX7_isKind 15 = .ok (.ireturn, 1) := by decide +kernel
set_option maxRecDepth 20000 in
theorem ggX7_isOfKind_X7_isKind : GoodIn wsX7_isOfKind wsX7_isKind := goodIn_r _ [5] (by decide +kernel) (by decide +kernel)
set_option maxRecDepth 20000 in
theorem gX7_isOfKind_X7_isKind : GoodIn wsX7_isOfKind (va_wsS RX7 187 yX7_isKind wsX7_isKind) := goodIn_app (goodIn_of _ (by decide +kernel)) ggX7_isOfKind_X7_isKind
theorem dX7_isOfKind_0 : decode cX7_isOfKind 0 = .ok (.iload_n 0, 1) := by decide +kernel
theorem dX7_isOfKind_1 : decode cX7_isOfKind 1 = .ok (.istore_n 2, 1) := by decide +kernel
theorem dX7_isOfKind_2 : decode cX7_isOfKind 2 = .ok (.iconst 0, 1) := by decide +kernel
theorem dX7_isOfKind_3 : decode cX7_isOfKind 3 = .ok (.istore_n 3, 1) := by decide +kernel
theorem dX7_isOfKind_4 : decode cX7_isOfKind 4 = .ok (.iload_n 3, 1) := by decide +kernel
theorem dX7_isOfKind_5 : decode cX7_isOfKind 5 = .ok (.bipush 6, 2) := by decide +kernel
theorem dX7_isOfKind_7 : decode cX7_isOfKind 7 = .ok (.if_icmp .ge 29, 3) := by decide +kernel
theorem dX7_isOfKind_10 : decode cX7_isOfKind 10 = .ok (.iload_n 2, 1) := by decide +kernel
theorem dX7_isOfKind_11 : decode cX7_isOfKind 11 = .ok (.invokestatic 187, 3) := by decide +kernel
theorem dX7_isOfKind_14 : decode cX7_isOfKind 14 = .ok (.ifCond .eq 22, 3) := by decide +kernel
theorem dX7_isOfKind_17 : decode cX7_isOfKind 17 = .ok (.iload_n 2, 1) := by decide +kernel
theorem dX7_isOfKind_18 : decode cX7_isOfKind 18 = .ok (.iload_n 1, 1) := by decide +kernel
theorem dX7_isOfKind_19 : decode cX7_isOfKind 19 = .ok (.if_icmp .ne 5, 3) := by decide +kernel
theorem dX7_isOfKind_22 : decode cX7_isOfKind 22 = .ok (.iconst 1, 1) := by decide +kernel
theorem dX7_isOfKind_23 : decode cX7_isOfKind 23 = .ok (.ireturn, 1) := by decide +kernel
theorem dX7_isOfKind_24 : decode cX7_isOfKind 24 = .ok (.getstatic 323, 3) := by decide +kernel
theorem dX7_isOfKind_27 : decode cX7_isOfKind 27 = .ok (.iload_n 2, 1) := by decide +kernel
theorem dX7_isOfKind_28 : decode cX7_isOfKind 28 = .ok (.iaload, 1) := by decide +kernel
theorem dX7_isOfKind_29 : decode cX7_isOfKind 29 = .ok (.istore_n 2, 1) := by decide +kernel
theorem dX7_isOfKind_30 : decode cX7_isOfKind 30 = .ok (.iinc 3 1, 3) := by decide +kernel
theorem dX7_isOfKind_33 : decode cX7_isOfKind 33 = .ok (.goto (-29), 3) := by decide +kernel
theorem dX7_isOfKind_36 : decode cX7_isOfKind 36 = .ok (.iconst 0, 1) := by decide +kernel
theorem dX7_isOfKind_37 : decode cX7_isOfKind 37 = .ok (.ireturn, 1) := by decide +kernel
theorem dX7_onlyOneOf_0 : decode cX7_onlyOneOf 0 = .ok (.iconst 0, 1) := by decide +kernel
theorem dX7_onlyOneOf_1 : decode cX7_onlyOneOf 1 = .ok (.istore_n 1, 1) := by decide +kernel
theorem dX7_onlyOneOf_2 : decode cX7_onlyOneOf 2 = .ok (.iload_n 1, 1) := by decide +kernel
theorem dX7_onlyOneOf_3 : decode cX7_onlyOneOf 3 = .ok (.bipush 8, 2) := by decide +kernel
theorem dX7_onlyOneOf_5 : decode cX7_onlyOneOf 5 = .ok (.if_icmp .ge 18, 3) := by decide +kernel
theorem dX7_onlyOneOf_8 : decode cX7_onlyOneOf 8 = .ok (.iload_n 0, 1) := by decide +kernel
theorem dX7_onlyOneOf_9 : decode cX7_onlyOneOf 9 = .ok (.iconst 1, 1) := by decide +kernel
theorem dX7_onlyOneOf_10 : decode cX7_onlyOneOf 10 = .ok (.iload_n 1, 1) := by decide +kernel
theorem dX7_onlyOneOf_11 : decode cX7_onlyOneOf 11 = .ok (.ishl, 1) := by decide +kernel
theorem dX7_onlyOneOf_12 : decode cX7_onlyOneOf 12 = .ok (.if_icmp .ne 5, 3) := by decide +kernel
theorem dX7_onlyOneOf_15 : decode cX7_onlyOneOf 15 = .ok (.iload_n 1, 1) := by decide +kernel
theorem dX7_onlyOneOf_16 : decode cX7_onlyOneOf 16 = .ok (.ireturn, 1) := by decide +kernel
theorem dX7_onlyOneOf_17 : decode cX7_onlyOneOf 17 = .ok (.iinc 1 1, 3) := by decide +kernel
theorem dX7_onlyOneOf_20 : decode cX7_onlyOneOf 20 = .ok (.goto (-18), 3) := by decide +kernel
theorem dX7_onlyOneOf_23 : decode cX7_onlyOneOf 23 = .ok (.iconst (-1), 1) := by decide +kernel
theorem dX7_onlyOneOf_24 : decode cX7_onlyOneOf 24 = .ok (.ireturn, 1) := by decide +kernel
theorem dX7_wearer_0 : decode cX7_wearer 0 = .ok (.iload_n 0, 1) := by decide +kernel
theorem dX7_wearer_1 : decode cX7_wearer 1 = .ok (.iconst 3, 1) := by decide +kernel
theorem dX7_wearer_2 : decode cX7_wearer 2 = .ok (.iload_n 1, 1) := by decide +kernel
theorem dX7_wearer_3 : decode cX7_wearer 3 = .ok (.imul, 1) := by decide +kernel
theorem dX7_wearer_4 : decode cX7_wearer 4 = .ok (.ishr, 1) := by decide +kernel
theorem dX7_wearer_5 : decode cX7_wearer 5 = .ok (.bipush 7, 2) := by decide +kernel
theorem dX7_wearer_7 : decode cX7_wearer 7 = .ok (.iand, 1) := by decide +kernel
theorem dX7_wearer_8 : decode cX7_wearer 8 = .ok (.ireturn, 1) := by decide +kernel
set_option maxRecDepth 20000 in
theorem ggX7_maskOf_X7_wearer : GoodIn wsX7_maskOf wsX7_wearer := goodIn_r _ [4] (by decide +kernel) (by decide +kernel)
set_option maxRecDepth 20000 in
theorem gX7_maskOf_X7_wearer : GoodIn wsX7_maskOf (va_wsS RX7 245 yX7_wearer wsX7_wearer) := goodIn_app (goodIn_of _ (by decide +kernel)) ggX7_maskOf_X7_wearer
theorem dX7_maskOf_0 : decode cX7_maskOf 0 = .ok (.iconst 0, 1) := by decide +kernel
theorem dX7_maskOf_1 : decode cX7_maskOf 1 = .ok (.istore_n 2, 1) := by decide +kernel
theorem dX7_maskOf_2 : decode cX7_maskOf 2 = .ok (.iload_n 2, 1) := by decide +kernel
theorem dX7_maskOf_3 : decode cX7_maskOf 3 = .ok (.bipush 8, 2) := by decide +kernel
theorem dX7_maskOf_5 : decode cX7_maskOf 5 = .ok (.if_icmp .ge 20, 3) := by decide +kernel
theorem dX7_maskOf_8 : decode cX7_maskOf 8 = .ok (.iload_n 0, 1) := by decide +kernel
theorem dX7_maskOf_9 : decode cX7_maskOf 9 = .ok (.iload_n 2, 1) := by decide +kernel
theorem dX7_maskOf_10 : decode cX7_maskOf 10 = .ok (.invokestatic 245, 3) := by decide +kernel
theorem dX7_maskOf_13 : decode cX7_maskOf 13 = .ok (.iload_n 1, 1) := by decide +kernel
theorem dX7_maskOf_14 : decode cX7_maskOf 14 = .ok (.if_icmp .ne 5, 3) := by decide +kernel
theorem dX7_maskOf_17 : decode cX7_maskOf 17 = .ok (.iload_n 2, 1) := by decide +kernel
theorem dX7_maskOf_18 : decode cX7_maskOf 18 = .ok (.ireturn, 1) := by decide +kernel
theorem dX7_maskOf_19 : decode cX7_maskOf 19 = .ok (.iinc 2 1, 3) := by decide +kernel
theorem dX7_maskOf_22 : decode cX7_maskOf 22 = .ok (.goto (-20), 3) := by decide +kernel
theorem dX7_maskOf_25 : decode cX7_maskOf 25 = .ok (.iconst (-1), 1) := by decide +kernel
theorem dX7_maskOf_26 : decode cX7_maskOf 26 = .ok (.ireturn, 1) := by decide +kernel
set_option maxRecDepth 20000 in
theorem ggX7_changed_X7_wearer : GoodIn wsX7_changed wsX7_wearer := goodIn_r _ [4] (by decide +kernel) (by decide +kernel)
set_option maxRecDepth 20000 in
theorem gX7_changed_X7_wearer : GoodIn wsX7_changed (va_wsS RX7 245 yX7_wearer wsX7_wearer) := goodIn_app (goodIn_of _ (by decide +kernel)) ggX7_changed_X7_wearer
theorem dX7_changed_0 : decode cX7_changed 0 = .ok (.iload_n 0, 1) := by decide +kernel
theorem dX7_changed_1 : decode cX7_changed 1 = .ok (.iload_n 1, 1) := by decide +kernel
theorem dX7_changed_2 : decode cX7_changed 2 = .ok (.invokestatic 245, 3) := by decide +kernel
theorem dX7_changed_5 : decode cX7_changed 5 = .ok (.iload_n 0, 1) := by decide +kernel
theorem dX7_changed_6 : decode cX7_changed 6 = .ok (.iload_n 2, 1) := by decide +kernel
theorem dX7_changed_7 : decode cX7_changed 7 = .ok (.invokestatic 245, 3) := by decide +kernel
theorem dX7_changed_10 : decode cX7_changed 10 = .ok (.ixor, 1) := by decide +kernel
theorem dX7_changed_11 : decode cX7_changed 11 = .ok (.istore_n 3, 1) := by decide +kernel
theorem dX7_changed_12 : decode cX7_changed 12 = .ok (.iload_n 0, 1) := by decide +kernel
theorem dX7_changed_13 : decode cX7_changed 13 = .ok (.iload_n 3, 1) := by decide +kernel
theorem dX7_changed_14 : decode cX7_changed 14 = .ok (.iconst 3, 1) := by decide +kernel
theorem dX7_changed_15 : decode cX7_changed 15 = .ok (.iload_n 1, 1) := by decide +kernel
theorem dX7_changed_16 : decode cX7_changed 16 = .ok (.imul, 1) := by decide +kernel
theorem dX7_changed_17 : decode cX7_changed 17 = .ok (.ishl, 1) := by decide +kernel
theorem dX7_changed_18 : decode cX7_changed 18 = .ok (.ixor, 1) := by decide +kernel
theorem dX7_changed_19 : decode cX7_changed 19 = .ok (.iload_n 3, 1) := by decide +kernel
theorem dX7_changed_20 : decode cX7_changed 20 = .ok (.iconst 3, 1) := by decide +kernel
theorem dX7_changed_21 : decode cX7_changed 21 = .ok (.iload_n 2, 1) := by decide +kernel
theorem dX7_changed_22 : decode cX7_changed 22 = .ok (.imul, 1) := by decide +kernel
theorem dX7_changed_23 : decode cX7_changed 23 = .ok (.ishl, 1) := by decide +kernel
theorem dX7_changed_24 : decode cX7_changed 24 = .ok (.ixor, 1) := by decide +kernel
theorem dX7_changed_25 : decode cX7_changed 25 = .ok (.ireturn, 1) := by decide +kernel
