theorem dX3_init_0 : decode cX3_init 0 = .ok (.aload_n 0, 1) := by decide +kernel
theorem dX3_init_1 : decode cX3_init 1 = .ok (.invokespecial 3, 3) := by decide +kernel
theorem dX3_init_4 : decode cX3_init 4 = .ok (.aload_n 0, 1) := by decide +kernel
theorem dX3_init_5 : decode cX3_init 5 = .ok (.iconst 0, 1) := by decide +kernel
theorem dX3_init_6 : decode cX3_init 6 = .ok (.putfield 11, 3) := by decide +kernel
theorem dX3_init_9 : decode cX3_init 9 = .ok (.aload_n 0, 1) := by decide +kernel
theorem dX3_init_10 : decode cX3_init 10 = .ok (.iconst 0, 1) := by decide +kernel
theorem dX3_init_11 : decode cX3_init 11 = .ok (.putfield 15, 3) := by decide +kernel
theorem dX3_init_14 : decode cX3_init 14 = .ok (.aload_n 0, 1) := by decide +kernel
theorem dX3_init_15 : decode cX3_init 15 = .ok (.iconst 0, 1) := by decide +kernel
theorem dX3_init_16 : decode cX3_init 16 = .ok (.putfield 18, 3) := by decide +kernel
theorem dX3_init_19 : decode cX3_init 19 = .ok (.aload_n 0, 1) := by decide +kernel
theorem dX3_init_20 : decode cX3_init 20 = .ok (.iconst 0, 1) := by decide +kernel
theorem dX3_init_21 : decode cX3_init 21 = .ok (.putfield 21, 3) := by decide +kernel
theorem dX3_init_24 : decode cX3_init 24 = .ok (.aload_n 0, 1) := by decide +kernel
theorem dX3_init_25 : decode cX3_init 25 = .ok (.aload_n 1, 1) := by decide +kernel
theorem dX3_init_26 : decode cX3_init 26 = .ok (.putfield 24, 3) := by decide +kernel
theorem dX3_init_29 : decode cX3_init 29 = .ok (.aload_n 0, 1) := by decide +kernel
theorem dX3_init_30 : decode cX3_init 30 = .ok (.aload_n 2, 1) := by decide +kernel
theorem dX3_init_31 : decode cX3_init 31 = .ok (.putfield 28, 3) := by decide +kernel
theorem dX3_init_34 : decode cX3_init 34 = .ok (.return_, 1) := by decide +kernel
set_option maxRecDepth 20000 in
theorem ggX3_items_X3_step : GoodIn wsX3_items wsX3_step := goodIn_r _ [8, 1, 3, 9, 2, 10, 11, 12, 13, 14, 15, 16, 17, 18, 19, 20, 21, 22, 23, 24, 25, 26, 27, 7, 28, 167, 168, 169, 170, 171, 172, 173, 174] (by decide +kernel) (by decide +kernel)
set_option maxRecDepth 20000 in
theorem gX3_items_X3_step : GoodIn wsX3_items (wsV RX3 32 RX3 yX3_step wsX3_step) := goodIn_app (goodIn_of _ (by decide +kernel)) ggX3_items_X3_step
set_option maxRecDepth 20000 in
theorem ggX3_items_X3_item : GoodIn wsX3_items wsX3_item := goodIn_r _ [32, 33, 34, 35, 7, 36, 2, 1, 3, 9, 37, 38, 39, 40, 41, 42, 43, 44, 45, 46, 47, 48, 21, 22, 23, 18, 24, 20, 25, 49, 50, 51, 52, 53, 54, 55, 56, 57, 58, 59, 60, 61, 62, 63, 64, 65, 66, 67, 68, 69, 70, 71, 72, 73, 74, 75, 76, 77, 78, 79, 80, 81, 82, 83, 84, 85, 86, 87, 88, 89, 90, 91, 92, 93, 94, 95, 96, 97, 4, 5, 6, 8, 10, 11, 12, 13, 14, 15, 16, 17, 19, 26, 27, 28, 98, 99, 100, 101, 102, 103, 104, 105, 106, 107, 108, 109, 110, 111, 112, 113, 114, 115, 116, 117, 118, 119, 120, 121, 122, 123, 124, 125, 126, 127, 128, 129, 130, 131, 132, 133, 134, 135, 136, 137, 138, 139, 140, 141, 142, 143, 144, 145, 146, 147, 148, 149, 150, 151, 152, 153, 154, 155, 156, 157, 158, 159, 160, 161, 162, 163, 164, 165, 166, 167, 168, 169, 170, 171, 172, 173, 174, 175, 176, 177, 178, 179, 180, 181, 182, 183, 184] (by decide +kernel) (by decide +kernel)
set_option maxRecDepth 20000 in
theorem gX3_items_X3_item : GoodIn wsX3_items (wsV RX3 35 RX3 yX3_item wsX3_item) := goodIn_app (goodIn_of _ (by decide +kernel)) ggX3_items_X3_item
theorem dX3_items_0 : decode cX3_items 0 = .ok (.aload_n 0, 1) := by decide +kernel
theorem dX3_items_1 : decode cX3_items 1 = .ok (.iconst 0, 1) := by decide +kernel
theorem dX3_items_2 : decode cX3_items 2 = .ok (.putfield 18, 3) := by decide +kernel
theorem dX3_items_5 : decode cX3_items 5 = .ok (.aload_n 0, 1) := by decide +kernel
theorem dX3_items_6 : decode cX3_items 6 = .ok (.invokevirtual 32, 3) := by decide +kernel
theorem dX3_items_9 : decode cX3_items 9 = .ok (.iconst 1, 1) := by decide +kernel
theorem dX3_items_10 : decode cX3_items 10 = .ok (.istore_n 1, 1) := by decide +kernel
theorem dX3_items_11 : decode cX3_items 11 = .ok (.iload_n 1, 1) := by decide +kernel
theorem dX3_items_12 : decode cX3_items 12 = .ok (.bipush 120, 2) := by decide +kernel
theorem dX3_items_14 : decode cX3_items 14 = .ok (.if_icmp .gt 44, 3) := by decide +kernel
theorem dX3_items_17 : decode cX3_items 17 = .ok (.aload_n 0, 1) := by decide +kernel
theorem dX3_items_18 : decode cX3_items 18 = .ok (.invokevirtual 35, 3) := by decide +kernel
theorem dX3_items_21 : decode cX3_items 21 = .ok (.ifCond .eq 37, 3) := by decide +kernel
theorem dX3_items_24 : decode cX3_items 24 = .ok (.aload_n 0, 1) := by decide +kernel
theorem dX3_items_25 : decode cX3_items 25 = .ok (.getfield 11, 3) := by decide +kernel
theorem dX3_items_28 : decode cX3_items 28 = .ok (.ifCond .ne 5, 3) := by decide +kernel
theorem dX3_items_31 : decode cX3_items 31 = .ok (.iload_n 1, 1) := by decide +kernel
theorem dX3_items_32 : decode cX3_items 32 = .ok (.ireturn, 1) := by decide +kernel
theorem dX3_items_33 : decode cX3_items 33 = .ok (.aload_n 0, 1) := by decide +kernel
theorem dX3_items_34 : decode cX3_items 34 = .ok (.getfield 11, 3) := by decide +kernel
theorem dX3_items_37 : decode cX3_items 37 = .ok (.iconst 3, 1) := by decide +kernel
theorem dX3_items_38 : decode cX3_items 38 = .ok (.if_icmp .eq 10, 3) := by decide +kernel
theorem dX3_items_41 : decode cX3_items 41 = .ok (.iconst (-1), 1) := by decide +kernel
theorem dX3_items_42 : decode cX3_items 42 = .ok (.aload_n 0, 1) := by decide +kernel
theorem dX3_items_43 : decode cX3_items 43 = .ok (.getfield 15, 3) := by decide +kernel
theorem dX3_items_46 : decode cX3_items 46 = .ok (.isub, 1) := by decide +kernel
theorem dX3_items_47 : decode cX3_items 47 = .ok (.ireturn, 1) := by decide +kernel
theorem dX3_items_48 : decode cX3_items 48 = .ok (.aload_n 0, 1) := by decide +kernel
theorem dX3_items_49 : decode cX3_items 49 = .ok (.invokevirtual 32, 3) := by decide +kernel
theorem dX3_items_52 : decode cX3_items 52 = .ok (.iinc 1 1, 3) := by decide +kernel
theorem dX3_items_55 : decode cX3_items 55 = .ok (.goto (-44), 3) := by decide +kernel
theorem dX3_items_58 : decode cX3_items 58 = .ok (.iconst (-1), 1) := by decide +kernel
theorem dX3_items_59 : decode cX3_items 59 = .ok (.aload_n 0, 1) := by decide +kernel
theorem dX3_items_60 : decode cX3_items 60 = .ok (.getfield 15, 3) := by decide +kernel
theorem dX3_items_63 : decode cX3_items 63 = .ok (.isub, 1) := by decide +kernel
theorem dX3_items_64 : decode cX3_items 64 = .ok (.ireturn, 1) := by decide +kernel
set_option maxRecDepth 20000 in
theorem ggX3_item_X3_isWord : GoodIn wsX3_item wsX3_isWord := goodIn_r _ [5, 6, 7, 8, 9, 10, 11, 12, 13, 14, 15, 16, 17, 18, 19, 20, 21, 22, 23, 24, 25, 26, 27, 28, 29, 30, 31, 32, 33, 34, 35, 36, 37, 38, 39, 40, 41, 42, 43, 44, 45, 46, 47, 48, 49, 50, 51, 52, 53, 54, 55, 56, 57, 58, 59, 60, 61, 62, 63, 64, 65, 163, 164, 165, 166, 167, 168, 169, 170] (by decide +kernel) (by decide +kernel)
set_option maxRecDepth 20000 in
theorem gX3_item_X3_isWord : GoodIn wsX3_item (wsV RX3 41 RX3 yX3_isWord wsX3_isWord) := goodIn_app (goodIn_of _ (by decide +kernel)) ggX3_item_X3_isWord
set_option maxRecDepth 20000 in
theorem ggX3_item_X3_bowItem : GoodIn wsX3_item wsX3_bowItem := goodIn_r _ [69, 70, 71, 72, 73, 74, 75, 76, 77, 78, 79, 80, 4, 81, 7, 8, 9, 6, 82, 83, 84, 85, 86, 87, 88, 89, 25, 90, 27, 22, 23, 24, 26, 28, 91, 92, 93, 94, 95, 96, 97, 98, 99, 100, 101, 1, 2, 3, 5, 10, 11, 12, 13, 14, 15, 16, 17, 18, 19, 20, 21, 29, 30, 31, 32, 33, 34, 35, 36, 37, 38, 39, 40, 41, 42, 43, 44, 45, 46, 47, 48, 49, 50, 51, 52, 53, 54, 55, 56, 57, 58, 59, 60, 61, 62, 63, 64, 65, 102, 103, 104, 105, 106, 107, 108, 109, 110, 111, 112, 113, 114, 115, 116, 117, 118, 119, 120, 121, 122, 123, 124, 125, 126, 127, 128, 129, 130, 163, 164, 165, 166, 167, 168, 171, 172, 173, 174, 175, 176, 177, 178, 179, 180, 169, 170] (by decide +kernel) (by decide +kernel)
set_option maxRecDepth 20000 in
theorem gX3_item_X3_bowItem : GoodIn wsX3_item (wsV RX3 45 RX3 yX3_bowItem wsX3_bowItem) := goodIn_app (goodIn_of _ (by decide +kernel)) ggX3_item_X3_bowItem
set_option maxRecDepth 20000 in
theorem ggX3_item_X3_sayingItem : GoodIn wsX3_item wsX3_sayingItem := goodIn_r _ [134, 70, 71, 72, 73, 74, 75, 76, 77, 78, 79, 80, 4, 81, 7, 8, 9, 6, 82, 83, 84, 85, 86, 87, 88, 89, 25, 90, 27, 22, 23, 24, 26, 28, 91, 92, 93, 94, 95, 96, 97, 135, 136, 137, 138, 1, 2, 3, 5, 10, 11, 12, 13, 14, 15, 16, 17, 18, 19, 20, 21, 29, 30, 31, 32, 33, 34, 35, 36, 37, 38, 39, 40, 41, 42, 43, 44, 45, 46, 47, 48, 49, 50, 51, 52, 53, 54, 55, 56, 57, 58, 59, 60, 61, 62, 63, 64, 65, 122, 123, 124, 125, 126, 127, 128, 129, 130, 120, 121, 163, 164, 165, 166, 167, 168, 171, 172, 173, 174, 175, 176, 177, 178, 179, 180, 169, 170] (by decide +kernel) (by decide +kernel)
set_option maxRecDepth 20000 in
theorem gX3_item_X3_sayingItem : GoodIn wsX3_item (wsV RX3 50 RX3 yX3_sayingItem wsX3_sayingItem) := goodIn_app (goodIn_of _ (by decide +kernel)) ggX3_item_X3_sayingItem
set_option maxRecDepth 20000 in
theorem ggX3_item_X3_switchItem : GoodIn wsX3_item wsX3_switchItem := goodIn_r _ [142, 70, 78, 79, 80, 4, 81, 7, 8, 9, 6, 82, 83, 84, 85, 86, 87, 88, 89, 25, 90, 27, 22, 23, 24, 26, 28, 91, 92, 93, 135, 136, 137, 138, 1, 2, 3, 5, 10, 11, 12, 13, 14, 15, 16, 17, 18, 19, 20, 21, 29, 30, 31, 32, 33, 34, 35, 36, 37, 38, 39, 40, 41, 42, 43, 44, 45, 46, 47, 48, 49, 50, 51, 52, 53, 54, 55, 56, 57, 58, 59, 60, 61, 62, 63, 64, 65, 143, 144, 145, 105, 146, 147, 148, 163, 164, 165, 166, 167, 168, 169, 170, 171, 172, 173, 174, 175, 176] (by decide +kernel) (by decide +kernel)
set_option maxRecDepth 20000 in
theorem gX3_item_X3_switchItem : GoodIn wsX3_item (wsV RX3 55 RX3 yX3_switchItem wsX3_switchItem) := goodIn_app (goodIn_of _ (by decide +kernel)) ggX3_item_X3_switchItem
set_option maxRecDepth 20000 in
theorem ggX3_item_X3_nameOf : GoodIn wsX3_item wsX3_nameOf := goodIn_r _ [151] (by decide +kernel) (by decide +kernel)
set_option maxRecDepth 20000 in
theorem gX3_item_X3_nameOf : GoodIn wsX3_item (va_wsS RX3 61 yX3_nameOf wsX3_nameOf) := goodIn_app (goodIn_of _ (by decide +kernel)) ggX3_item_X3_nameOf
set_option maxRecDepth 20000 in
theorem ggX3_item_X3_deedItem : GoodIn wsX3_item wsX3_deedItem := goodIn_r _ [155, 70, 71, 72, 73, 74, 75, 76, 77, 78, 79, 80, 4, 81, 7, 8, 9, 6, 82, 83, 84, 85, 86, 87, 88, 89, 25, 90, 27, 22, 23, 24, 26, 28, 91, 92, 93, 94, 95, 96, 97, 1, 2, 3, 5, 10, 11, 12, 13, 14, 15, 16, 17, 18, 19, 20, 21, 29, 30, 31, 32, 33, 34, 35, 36, 37, 38, 39, 40, 41, 42, 43, 44, 45, 46, 47, 48, 49, 50, 51, 52, 53, 54, 55, 56, 57, 58, 59, 60, 61, 62, 63, 64, 65, 98, 99, 100, 101, 156, 157, 158, 105, 159, 160, 161, 123, 124, 125, 126, 127, 128, 129, 130, 120, 121, 162, 163, 164, 165, 166, 167, 168, 171, 172, 173, 174, 175, 176, 177, 178, 179, 180, 169, 170] (by decide +kernel) (by decide +kernel)
set_option maxRecDepth 20000 in
theorem gX3_item_X3_deedItem : GoodIn wsX3_item (wsV RX3 65 RX3 yX3_deedItem wsX3_deedItem) := goodIn_app (goodIn_of _ (by decide +kernel)) ggX3_item_X3_deedItem
theorem dX3_item_0 : decode cX3_item 0 = .ok (.aload_n 0, 1) := by decide +kernel
theorem dX3_item_1 : decode cX3_item 1 = .ok (.ldc 39, 2) := by decide +kernel
theorem dX3_item_3 : decode cX3_item 3 = .ok (.invokevirtual 41, 3) := by decide +kernel
theorem dX3_item_6 : decode cX3_item 6 = .ok (.ifCond .eq 8, 3) := by decide +kernel
theorem dX3_item_9 : decode cX3_item 9 = .ok (.aload_n 0, 1) := by decide +kernel
theorem dX3_item_10 : decode cX3_item 10 = .ok (.invokevirtual 45, 3) := by decide +kernel
theorem dX3_item_13 : decode cX3_item 13 = .ok (.ireturn, 1) := by decide +kernel
theorem dX3_item_14 : decode cX3_item 14 = .ok (.aload_n 0, 1) := by decide +kernel
theorem dX3_item_15 : decode cX3_item 15 = .ok (.ldc 48, 2) := by decide +kernel
theorem dX3_item_17 : decode cX3_item 17 = .ok (.invokevirtual 41, 3) := by decide +kernel
theorem dX3_item_20 : decode cX3_item 20 = .ok (.ifCond .eq 8, 3) := by decide +kernel
theorem dX3_item_23 : decode cX3_item 23 = .ok (.aload_n 0, 1) := by decide +kernel
theorem dX3_item_24 : decode cX3_item 24 = .ok (.invokevirtual 50, 3) := by decide +kernel
theorem dX3_item_27 : decode cX3_item 27 = .ok (.ireturn, 1) := by decide +kernel
theorem dX3_item_28 : decode cX3_item 28 = .ok (.aload_n 0, 1) := by decide +kernel
theorem dX3_item_29 : decode cX3_item 29 = .ok (.ldc 53, 2) := by decide +kernel
theorem dX3_item_31 : decode cX3_item 31 = .ok (.invokevirtual 41, 3) := by decide +kernel
theorem dX3_item_34 : decode cX3_item 34 = .ok (.ifCond .eq 9, 3) := by decide +kernel
theorem dX3_item_37 : decode cX3_item 37 = .ok (.aload_n 0, 1) := by decide +kernel
theorem dX3_item_38 : decode cX3_item 38 = .ok (.iconst 0, 1) := by decide +kernel
theorem dX3_item_39 : decode cX3_item 39 = .ok (.invokevirtual 55, 3) := by decide +kernel
theorem dX3_item_42 : decode cX3_item 42 = .ok (.ireturn, 1) := by decide +kernel
theorem dX3_item_43 : decode cX3_item 43 = .ok (.aload_n 0, 1) := by decide +kernel
theorem dX3_item_44 : decode cX3_item 44 = .ok (.ldc 59, 2) := by decide +kernel
theorem dX3_item_46 : decode cX3_item 46 = .ok (.invokevirtual 41, 3) := by decide +kernel
theorem dX3_item_49 : decode cX3_item 49 = .ok (.ifCond .eq 9, 3) := by decide +kernel
theorem dX3_item_52 : decode cX3_item 52 = .ok (.aload_n 0, 1) := by decide +kernel
theorem dX3_item_53 : decode cX3_item 53 = .ok (.iconst 1, 1) := by decide +kernel
theorem dX3_item_54 : decode cX3_item 54 = .ok (.invokevirtual 55, 3) := by decide +kernel
theorem dX3_item_57 : decode cX3_item 57 = .ok (.ireturn, 1) := by decide +kernel
theorem dX3_item_58 : decode cX3_item 58 = .ok (.iconst 0, 1) := by decide +kernel
theorem dX3_item_59 : decode cX3_item 59 = .ok (.istore_n 1, 1) := by decide +kernel
theorem dX3_item_60 : decode cX3_item 60 = .ok (.iload_n 1, 1) := by decide +kernel
theorem dX3_item_61 : decode cX3_item 61 = .ok (.bipush 6, 2) := by decide +kernel
theorem dX3_item_63 : decode cX3_item 63 = .ok (.if_icmp .ge 26, 3) := by decide +kernel
theorem dX3_item_66 : decode cX3_item 66 = .ok (.aload_n 0, 1) := by decide +kernel
theorem dX3_item_67 : decode cX3_item 67 = .ok (.iload_n 1, 1) := by decide +kernel
theorem dX3_item_68 : decode cX3_item 68 = .ok (.invokestatic 61, 3) := by decide +kernel
theorem dX3_item_71 : decode cX3_item 71 = .ok (.invokevirtual 41, 3) := by decide +kernel
theorem dX3_item_74 : decode cX3_item 74 = .ok (.ifCond .eq 9, 3) := by decide +kernel
theorem dX3_item_77 : decode cX3_item 77 = .ok (.aload_n 0, 1) := by decide +kernel
theorem dX3_item_78 : decode cX3_item 78 = .ok (.iload_n 1, 1) := by decide +kernel
theorem dX3_item_79 : decode cX3_item 79 = .ok (.invokevirtual 65, 3) := by decide +kernel
theorem dX3_item_82 : decode cX3_item 82 = .ok (.ireturn, 1) := by decide +kernel
theorem dX3_item_83 : decode cX3_item 83 = .ok (.iinc 1 1, 3) := by decide +kernel
theorem dX3_item_86 : decode cX3_item 86 = .ok (.goto (-26), 3) := by decide +kernel
theorem dX3_item_89 : decode cX3_item 89 = .ok (.iconst 0, 1) := by decide +kernel
theorem dX3_item_90 : decode cX3_item 90 = .ok (.ireturn, 1) := by decide +kernel
set_option maxRecDepth 20000 in
theorem ggX3_bowItem_X4_isFull : GoodIn wsX3_bowItem wsX4_isFull := goodIn_r _ [6, 7, 8, 139, 140, 141, 142] (by decide +kernel) (by decide +kernel)
set_option maxRecDepth 20000 in
theorem gX3_bowItem_X4_isFull : GoodIn wsX3_bowItem (wsV RX3 74 RX4 yX4_isFull wsX4_isFull) := goodIn_app (goodIn_of _ (by decide +kernel)) ggX3_bowItem_X4_isFull
set_option maxRecDepth 20000 in
theorem ggX3_bowItem_X3_step : GoodIn wsX3_bowItem wsX3_step := goodIn_r _ [13, 14, 15, 16, 17, 18, 19, 20, 21, 22, 23, 24, 25, 26, 27, 28, 29, 30, 31, 32, 33, 34, 35, 12, 36, 127, 128, 129, 130, 131, 132, 143, 144] (by decide +kernel) (by decide +kernel)
set_option maxRecDepth 20000 in
theorem gX3_bowItem_X3_step : GoodIn wsX3_bowItem (wsV RX3 32 RX3 yX3_step wsX3_step) := goodIn_app (goodIn_of _ (by decide +kernel)) ggX3_bowItem_X3_step
set_option maxRecDepth 20000 in
theorem ggX3_bowItem_X3_number : GoodIn wsX3_bowItem wsX3_number := goodIn_r _ [40, 17, 18, 9, 10, 11, 12, 13, 14, 15, 16, 19, 20, 21, 22, 23, 24, 25, 26, 27, 28, 29, 30, 31, 32, 33, 34, 35, 36, 127, 128, 129, 130, 131, 132, 143, 144] (by decide +kernel) (by decide +kernel)
set_option maxRecDepth 20000 in
theorem gX3_bowItem_X3_number : GoodIn wsX3_bowItem (wsV RX3 79 RX3 yX3_number wsX3_number) := goodIn_app (goodIn_of _ (by decide +kernel)) ggX3_bowItem_X3_number
set_option maxRecDepth 20000 in
theorem ggX3_bowItem_X3_isNumber : GoodIn wsX3_bowItem wsX3_isNumber := goodIn_r _ [44, 17, 18, 127, 128, 129, 130, 131, 132] (by decide +kernel) (by decide +kernel)
set_option maxRecDepth 20000 in
theorem gX3_bowItem_X3_isNumber : GoodIn wsX3_bowItem (wsV RX3 86 RX3 yX3_isNumber wsX3_isNumber) := goodIn_app (goodIn_of _ (by decide +kernel)) ggX3_bowItem_X3_isNumber
set_option maxRecDepth 20000 in
theorem ggX3_bowItem_X3_isWord : GoodIn wsX3_bowItem wsX3_isWord := goodIn_r _ [48, 17, 14, 15, 16, 49, 50, 51, 52, 53, 54, 55, 56, 57, 58, 59, 60, 29, 30, 31, 26, 32, 28, 33, 61, 62, 63, 64, 65, 66, 67, 68, 69, 70, 71, 72, 73, 74, 75, 76, 77, 78, 79, 80, 81, 82, 83, 84, 85, 86, 87, 88, 89, 90, 91, 92, 93, 94, 95, 96, 97, 127, 128, 129, 130, 131, 132, 143, 144] (by decide +kernel) (by decide +kernel)
set_option maxRecDepth 20000 in
theorem gX3_bowItem_X3_isWord : GoodIn wsX3_bowItem (wsV RX3 41 RX3 yX3_isWord wsX3_isWord) := goodIn_app (goodIn_of _ (by decide +kernel)) ggX3_bowItem_X3_isWord
set_option maxRecDepth 20000 in
theorem ggX3_bowItem_X0_hasRoomForDoubt : GoodIn wsX3_bowItem wsX0_hasRoomForDoubt := goodIn_r _ [102, 103, 104, 105, 101, 106, 107, 108, 109, 110, 5, 111, 7, 112, 113, 114, 115, 116, 117, 133, 134, 135, 136, 137, 138, 139, 140, 141, 142] (by decide +kernel) (by decide +kernel)
set_option maxRecDepth 20000 in
theorem gX3_bowItem_X0_hasRoomForDoubt : GoodIn wsX3_bowItem (wsV RX3 91 RX0 yX0_hasRoomForDoubt wsX0_hasRoomForDoubt) := goodIn_app (goodIn_of _ (by decide +kernel)) ggX3_bowItem_X0_hasRoomForDoubt
set_option maxRecDepth 20000 in
theorem ggX3_bowItem_X4_add : GoodIn wsX3_bowItem wsX4_add := goodIn_r _ [121, 7, 122, 3, 4, 5, 6, 8, 123, 124, 125, 126, 116, 117, 139, 140, 141, 142] (by decide +kernel) (by decide +kernel)
set_option maxRecDepth 20000 in
theorem gX3_bowItem_X4_add : GoodIn wsX3_bowItem (wsV RX3 94 RX4 yX4_add wsX4_add) := goodIn_app (goodIn_of _ (by decide +kernel)) ggX3_bowItem_X4_add
theorem dX3_bowItem_0 : decode cX3_bowItem 0 = .ok (.aload_n 0, 1) := by decide +kernel
theorem dX3_bowItem_1 : decode cX3_bowItem 1 = .ok (.getfield 28, 3) := by decide +kernel
theorem dX3_bowItem_4 : decode cX3_bowItem 4 = .ok (.getfield 68, 3) := by decide +kernel
theorem dX3_bowItem_7 : decode cX3_bowItem 7 = .ok (.invokevirtual 74, 3) := by decide +kernel
theorem dX3_bowItem_10 : decode cX3_bowItem 10 = .ok (.ifCond .eq 5, 3) := by decide +kernel
theorem dX3_bowItem_13 : decode cX3_bowItem 13 = .ok (.iconst 0, 1) := by decide +kernel
theorem dX3_bowItem_14 : decode cX3_bowItem 14 = .ok (.ireturn, 1) := by decide +kernel
theorem dX3_bowItem_15 : decode cX3_bowItem 15 = .ok (.aload_n 0, 1) := by decide +kernel
theorem dX3_bowItem_16 : decode cX3_bowItem 16 = .ok (.invokevirtual 32, 3) := by decide +kernel
theorem dX3_bowItem_19 : decode cX3_bowItem 19 = .ok (.aload_n 0, 1) := by decide +kernel
theorem dX3_bowItem_20 : decode cX3_bowItem 20 = .ok (.bipush 100, 2) := by decide +kernel
theorem dX3_bowItem_22 : decode cX3_bowItem 22 = .ok (.invokevirtual 79, 3) := by decide +kernel
theorem dX3_bowItem_25 : decode cX3_bowItem 25 = .ok (.istore_n 1, 1) := by decide +kernel
theorem dX3_bowItem_26 : decode cX3_bowItem 26 = .ok (.iload_n 1, 1) := by decide +kernel
theorem dX3_bowItem_27 : decode cX3_bowItem 27 = .ok (.iconst (-1), 1) := by decide +kernel
theorem dX3_bowItem_28 : decode cX3_bowItem 28 = .ok (.if_icmp .ne 7, 3) := by decide +kernel
theorem dX3_bowItem_31 : decode cX3_bowItem 31 = .ok (.iconst (-1), 1) := by decide +kernel
theorem dX3_bowItem_32 : decode cX3_bowItem 32 = .ok (.goto 14, 3) := by decide +kernel
theorem dX3_bowItem_35 : decode cX3_bowItem 35 = .ok (.aload_n 0, 1) := by decide +kernel
theorem dX3_bowItem_36 : decode cX3_bowItem 36 = .ok (.aload_n 0, 1) := by decide +kernel
theorem dX3_bowItem_37 : decode cX3_bowItem 37 = .ok (.getfield 28, 3) := by decide +kernel
theorem dX3_bowItem_40 : decode cX3_bowItem 40 = .ok (.getfield 83, 3) := by decide +kernel
theorem dX3_bowItem_43 : decode cX3_bowItem 43 = .ok (.invokevirtual 79, 3) := by decide +kernel
theorem dX3_bowItem_46 : decode cX3_bowItem 46 = .ok (.istore_n 2, 1) := by decide +kernel
theorem dX3_bowItem_47 : decode cX3_bowItem 47 = .ok (.iload_n 2, 1) := by decide +kernel
theorem dX3_bowItem_48 : decode cX3_bowItem 48 = .ok (.iconst (-1), 1) := by decide +kernel
theorem dX3_bowItem_49 : decode cX3_bowItem 49 = .ok (.if_icmp .eq 11, 3) := by decide +kernel
theorem dX3_bowItem_52 : decode cX3_bowItem 52 = .ok (.aload_n 0, 1) := by decide +kernel
theorem dX3_bowItem_53 : decode cX3_bowItem 53 = .ok (.iload_n 2, 1) := by decide +kernel
theorem dX3_bowItem_54 : decode cX3_bowItem 54 = .ok (.invokevirtual 86, 3) := by decide +kernel
theorem dX3_bowItem_57 : decode cX3_bowItem 57 = .ok (.ifCond .eq 7, 3) := by decide +kernel
theorem dX3_bowItem_60 : decode cX3_bowItem 60 = .ok (.iconst (-1), 1) := by decide +kernel
theorem dX3_bowItem_61 : decode cX3_bowItem 61 = .ok (.goto 14, 3) := by decide +kernel
theorem dX3_bowItem_64 : decode cX3_bowItem 64 = .ok (.aload_n 0, 1) := by decide +kernel
theorem dX3_bowItem_65 : decode cX3_bowItem 65 = .ok (.aload_n 0, 1) := by decide +kernel
theorem dX3_bowItem_66 : decode cX3_bowItem 66 = .ok (.getfield 28, 3) := by decide +kernel
theorem dX3_bowItem_69 : decode cX3_bowItem 69 = .ok (.getfield 83, 3) := by decide +kernel
theorem dX3_bowItem_72 : decode cX3_bowItem 72 = .ok (.invokevirtual 79, 3) := by decide +kernel
theorem dX3_bowItem_75 : decode cX3_bowItem 75 = .ok (.istore_n 3, 1) := by decide +kernel
theorem dX3_bowItem_76 : decode cX3_bowItem 76 = .ok (.iload_n 3, 1) := by decide +kernel
theorem dX3_bowItem_77 : decode cX3_bowItem 77 = .ok (.iconst (-1), 1) := by decide +kernel
theorem dX3_bowItem_78 : decode cX3_bowItem 78 = .ok (.if_icmp .ne 5, 3) := by decide +kernel
theorem dX3_bowItem_81 : decode cX3_bowItem 81 = .ok (.iconst 0, 1) := by decide +kernel
theorem dX3_bowItem_82 : decode cX3_bowItem 82 = .ok (.ireturn, 1) := by decide +kernel
theorem dX3_bowItem_83 : decode cX3_bowItem 83 = .ok (.bipush 10, 2) := by decide +kernel
theorem dX3_bowItem_85 : decode cX3_bowItem 85 = .ok (.istore 4, 2) := by decide +kernel
theorem dX3_bowItem_87 : decode cX3_bowItem 87 = .ok (.aload_n 0, 1) := by decide +kernel
theorem dX3_bowItem_88 : decode cX3_bowItem 88 = .ok (.ldc 89, 2) := by decide +kernel
theorem dX3_bowItem_90 : decode cX3_bowItem 90 = .ok (.invokevirtual 41, 3) := by decide +kernel
theorem dX3_bowItem_93 : decode cX3_bowItem 93 = .ok (.ifCond .eq 27, 3) := by decide +kernel
theorem dX3_bowItem_96 : decode cX3_bowItem 96 = .ok (.aload_n 0, 1) := by decide +kernel
theorem dX3_bowItem_97 : decode cX3_bowItem 97 = .ok (.getfield 28, 3) := by decide +kernel
theorem dX3_bowItem_100 : decode cX3_bowItem 100 = .ok (.invokevirtual 91, 3) := by decide +kernel
theorem dX3_bowItem_103 : decode cX3_bowItem 103 = .ok (.ifCond .ne 5, 3) := by decide +kernel
theorem dX3_bowItem_106 : decode cX3_bowItem 106 = .ok (.iconst 0, 1) := by decide +kernel
theorem dX3_bowItem_107 : decode cX3_bowItem 107 = .ok (.ireturn, 1) := by decide +kernel
theorem dX3_bowItem_108 : decode cX3_bowItem 108 = .ok (.aload_n 0, 1) := by decide +kernel
theorem dX3_bowItem_109 : decode cX3_bowItem 109 = .ok (.invokevirtual 32, 3) := by decide +kernel
theorem dX3_bowItem_112 : decode cX3_bowItem 112 = .ok (.aload_n 0, 1) := by decide +kernel
theorem dX3_bowItem_113 : decode cX3_bowItem 113 = .ok (.bipush 10, 2) := by decide +kernel
theorem dX3_bowItem_115 : decode cX3_bowItem 115 = .ok (.invokevirtual 79, 3) := by decide +kernel
theorem dX3_bowItem_118 : decode cX3_bowItem 118 = .ok (.istore 4, 2) := by decide +kernel
theorem dX3_bowItem_120 : decode cX3_bowItem 120 = .ok (.iload 4, 2) := by decide +kernel
theorem dX3_bowItem_122 : decode cX3_bowItem 122 = .ok (.iconst (-1), 1) := by decide +kernel
theorem dX3_bowItem_123 : decode cX3_bowItem 123 = .ok (.if_icmp .eq 26, 3) := by decide +kernel
theorem dX3_bowItem_126 : decode cX3_bowItem 126 = .ok (.aload_n 0, 1) := by decide +kernel
theorem dX3_bowItem_127 : decode cX3_bowItem 127 = .ok (.getfield 28, 3) := by decide +kernel
theorem dX3_bowItem_130 : decode cX3_bowItem 130 = .ok (.getfield 68, 3) := by decide +kernel
theorem dX3_bowItem_133 : decode cX3_bowItem 133 = .ok (.iload_n 1, 1) := by decide +kernel
theorem dX3_bowItem_134 : decode cX3_bowItem 134 = .ok (.iload_n 2, 1) := by decide +kernel
theorem dX3_bowItem_135 : decode cX3_bowItem 135 = .ok (.iload_n 3, 1) := by decide +kernel
theorem dX3_bowItem_136 : decode cX3_bowItem 136 = .ok (.iload 4, 2) := by decide +kernel
theorem dX3_bowItem_138 : decode cX3_bowItem 138 = .ok (.invokevirtual 94, 3) := by decide +kernel
theorem dX3_bowItem_141 : decode cX3_bowItem 141 = .ok (.iconst (-1), 1) := by decide +kernel
theorem dX3_bowItem_142 : decode cX3_bowItem 142 = .ok (.if_icmp .eq 7, 3) := by decide +kernel
theorem dX3_bowItem_145 : decode cX3_bowItem 145 = .ok (.iconst 1, 1) := by decide +kernel
theorem dX3_bowItem_146 : decode cX3_bowItem 146 = .ok (.goto 4, 3) := by decide +kernel
theorem dX3_bowItem_149 : decode cX3_bowItem 149 = .ok (.iconst 0, 1) := by decide +kernel
theorem dX3_bowItem_150 : decode cX3_bowItem 150 = .ok (.ireturn, 1) := by decide +kernel
set_option maxRecDepth 20000 in
theorem ggX3_sayingItem_X4_isFull : GoodIn wsX3_sayingItem wsX4_isFull := goodIn_r _ [6, 7, 8, 121, 122, 123, 124] (by decide +kernel) (by decide +kernel)
set_option maxRecDepth 20000 in
theorem gX3_sayingItem_X4_isFull : GoodIn wsX3_sayingItem (wsV RX3 74 RX4 yX4_isFull wsX4_isFull) := goodIn_app (goodIn_of _ (by decide +kernel)) ggX3_sayingItem_X4_isFull
set_option maxRecDepth 20000 in
theorem ggX3_sayingItem_X3_step : GoodIn wsX3_sayingItem wsX3_step := goodIn_r _ [13, 14, 15, 16, 17, 18, 19, 20, 21, 22, 23, 24, 25, 26, 27, 28, 29, 30, 31, 32, 33, 34, 35, 12, 36, 109, 110, 111, 112, 113, 114, 125, 126] (by decide +kernel) (by decide +kernel)
set_option maxRecDepth 20000 in
theorem gX3_sayingItem_X3_step : GoodIn wsX3_sayingItem (wsV RX3 32 RX3 yX3_step wsX3_step) := goodIn_app (goodIn_of _ (by decide +kernel)) ggX3_sayingItem_X3_step
set_option maxRecDepth 20000 in
theorem ggX3_sayingItem_X3_number : GoodIn wsX3_sayingItem wsX3_number := goodIn_r _ [40, 17, 18, 9, 10, 11, 12, 13, 14, 15, 16, 19, 20, 21, 22, 23, 24, 25, 26, 27, 28, 29, 30, 31, 32, 33, 34, 35, 36, 109, 110, 111, 112, 113, 114, 125, 126] (by decide +kernel) (by decide +kernel)
set_option maxRecDepth 20000 in
theorem gX3_sayingItem_X3_number : GoodIn wsX3_sayingItem (wsV RX3 79 RX3 yX3_number wsX3_number) := goodIn_app (goodIn_of _ (by decide +kernel)) ggX3_sayingItem_X3_number
set_option maxRecDepth 20000 in
theorem ggX3_sayingItem_X3_oneOf : GoodIn wsX3_sayingItem wsX3_oneOf := goodIn_r _ [44, 45, 46, 47, 12, 48, 17, 14, 15, 16, 49, 50, 51, 52, 53, 54, 55, 56, 57, 58, 59, 60, 29, 30, 31, 26, 32, 28, 33, 61, 62, 63, 64, 65, 66, 67, 68, 69, 70, 71, 72, 73, 74, 75, 76, 77, 78, 79, 80, 81, 82, 83, 84, 85, 86, 87, 88, 89, 90, 91, 92, 93, 94, 95, 96, 97, 9, 10, 11, 13, 18, 19, 20, 21, 22, 23, 24, 25, 27, 34, 35, 36, 109, 110, 111, 112, 113, 114, 125, 126] (by decide +kernel) (by decide +kernel)
set_option maxRecDepth 20000 in
theorem gX3_sayingItem_X3_oneOf : GoodIn wsX3_sayingItem (wsV RX3 105 RX3 yX3_oneOf wsX3_oneOf) := goodIn_app (goodIn_of _ (by decide +kernel)) ggX3_sayingItem_X3_oneOf
set_option maxRecDepth 20000 in
theorem ggX3_sayingItem_X4_add : GoodIn wsX3_sayingItem wsX4_add := goodIn_r _ [101, 7, 102, 3, 4, 5, 6, 8, 103, 104, 105, 106, 107, 108, 121, 122, 123, 124] (by decide +kernel) (by decide +kernel)
set_option maxRecDepth 20000 in
theorem gX3_sayingItem_X4_add : GoodIn wsX3_sayingItem (wsV RX3 94 RX4 yX4_add wsX4_add) := goodIn_app (goodIn_of _ (by decide +kernel)) ggX3_sayingItem_X4_add
theorem dX3_sayingItem_0 : decode cX3_sayingItem 0 = .ok (.aload_n 0, 1) := by decide +kernel
theorem dX3_sayingItem_1 : decode cX3_sayingItem 1 = .ok (.getfield 28, 3) := by decide +kernel
theorem dX3_sayingItem_4 : decode cX3_sayingItem 4 = .ok (.getfield 98, 3) := by decide +kernel
theorem dX3_sayingItem_7 : decode cX3_sayingItem 7 = .ok (.invokevirtual 74, 3) := by decide +kernel
theorem dX3_sayingItem_10 : decode cX3_sayingItem 10 = .ok (.ifCond .eq 5, 3) := by decide +kernel
theorem dX3_sayingItem_13 : decode cX3_sayingItem 13 = .ok (.iconst 0, 1) := by decide +kernel
theorem dX3_sayingItem_14 : decode cX3_sayingItem 14 = .ok (.ireturn, 1) := by decide +kernel
theorem dX3_sayingItem_15 : decode cX3_sayingItem 15 = .ok (.aload_n 0, 1) := by decide +kernel
theorem dX3_sayingItem_16 : decode cX3_sayingItem 16 = .ok (.invokevirtual 32, 3) := by decide +kernel
theorem dX3_sayingItem_19 : decode cX3_sayingItem 19 = .ok (.aload_n 0, 1) := by decide +kernel
theorem dX3_sayingItem_20 : decode cX3_sayingItem 20 = .ok (.bipush 100, 2) := by decide +kernel
theorem dX3_sayingItem_22 : decode cX3_sayingItem 22 = .ok (.invokevirtual 79, 3) := by decide +kernel
theorem dX3_sayingItem_25 : decode cX3_sayingItem 25 = .ok (.istore_n 1, 1) := by decide +kernel
theorem dX3_sayingItem_26 : decode cX3_sayingItem 26 = .ok (.iload_n 1, 1) := by decide +kernel
theorem dX3_sayingItem_27 : decode cX3_sayingItem 27 = .ok (.iconst (-1), 1) := by decide +kernel
theorem dX3_sayingItem_28 : decode cX3_sayingItem 28 = .ok (.if_icmp .ne 7, 3) := by decide +kernel
theorem dX3_sayingItem_31 : decode cX3_sayingItem 31 = .ok (.iconst (-1), 1) := by decide +kernel
theorem dX3_sayingItem_32 : decode cX3_sayingItem 32 = .ok (.goto 14, 3) := by decide +kernel
theorem dX3_sayingItem_35 : decode cX3_sayingItem 35 = .ok (.aload_n 0, 1) := by decide +kernel
theorem dX3_sayingItem_36 : decode cX3_sayingItem 36 = .ok (.aload_n 0, 1) := by decide +kernel
theorem dX3_sayingItem_37 : decode cX3_sayingItem 37 = .ok (.getfield 28, 3) := by decide +kernel
theorem dX3_sayingItem_40 : decode cX3_sayingItem 40 = .ok (.getfield 83, 3) := by decide +kernel
theorem dX3_sayingItem_43 : decode cX3_sayingItem 43 = .ok (.invokevirtual 79, 3) := by decide +kernel
theorem dX3_sayingItem_46 : decode cX3_sayingItem 46 = .ok (.istore_n 2, 1) := by decide +kernel
theorem dX3_sayingItem_47 : decode cX3_sayingItem 47 = .ok (.iload_n 2, 1) := by decide +kernel
theorem dX3_sayingItem_48 : decode cX3_sayingItem 48 = .ok (.iconst (-1), 1) := by decide +kernel
theorem dX3_sayingItem_49 : decode cX3_sayingItem 49 = .ok (.if_icmp .ne 7, 3) := by decide +kernel
theorem dX3_sayingItem_52 : decode cX3_sayingItem 52 = .ok (.iconst (-1), 1) := by decide +kernel
theorem dX3_sayingItem_53 : decode cX3_sayingItem 53 = .ok (.goto 11, 3) := by decide +kernel
theorem dX3_sayingItem_56 : decode cX3_sayingItem 56 = .ok (.aload_n 0, 1) := by decide +kernel
theorem dX3_sayingItem_57 : decode cX3_sayingItem 57 = .ok (.ldc 101, 2) := by decide +kernel
theorem dX3_sayingItem_59 : decode cX3_sayingItem 59 = .ok (.ldc 103, 2) := by decide +kernel
theorem dX3_sayingItem_61 : decode cX3_sayingItem 61 = .ok (.invokevirtual 105, 3) := by decide +kernel
theorem dX3_sayingItem_64 : decode cX3_sayingItem 64 = .ok (.istore_n 3, 1) := by decide +kernel
theorem dX3_sayingItem_65 : decode cX3_sayingItem 65 = .ok (.iload_n 3, 1) := by decide +kernel
theorem dX3_sayingItem_66 : decode cX3_sayingItem 66 = .ok (.iconst (-1), 1) := by decide +kernel
theorem dX3_sayingItem_67 : decode cX3_sayingItem 67 = .ok (.if_icmp .ne 7, 3) := by decide +kernel
theorem dX3_sayingItem_70 : decode cX3_sayingItem 70 = .ok (.iconst (-1), 1) := by decide +kernel
theorem dX3_sayingItem_71 : decode cX3_sayingItem 71 = .ok (.goto 14, 3) := by decide +kernel
theorem dX3_sayingItem_74 : decode cX3_sayingItem 74 = .ok (.aload_n 0, 1) := by decide +kernel
theorem dX3_sayingItem_75 : decode cX3_sayingItem 75 = .ok (.aload_n 0, 1) := by decide +kernel
theorem dX3_sayingItem_76 : decode cX3_sayingItem 76 = .ok (.getfield 28, 3) := by decide +kernel
theorem dX3_sayingItem_79 : decode cX3_sayingItem 79 = .ok (.getfield 83, 3) := by decide +kernel
theorem dX3_sayingItem_82 : decode cX3_sayingItem 82 = .ok (.invokevirtual 79, 3) := by decide +kernel
theorem dX3_sayingItem_85 : decode cX3_sayingItem 85 = .ok (.istore 4, 2) := by decide +kernel
theorem dX3_sayingItem_87 : decode cX3_sayingItem 87 = .ok (.iload 4, 2) := by decide +kernel
theorem dX3_sayingItem_89 : decode cX3_sayingItem 89 = .ok (.iconst (-1), 1) := by decide +kernel
theorem dX3_sayingItem_90 : decode cX3_sayingItem 90 = .ok (.if_icmp .eq 26, 3) := by decide +kernel
theorem dX3_sayingItem_93 : decode cX3_sayingItem 93 = .ok (.aload_n 0, 1) := by decide +kernel
theorem dX3_sayingItem_94 : decode cX3_sayingItem 94 = .ok (.getfield 28, 3) := by decide +kernel
theorem dX3_sayingItem_97 : decode cX3_sayingItem 97 = .ok (.getfield 98, 3) := by decide +kernel
theorem dX3_sayingItem_100 : decode cX3_sayingItem 100 = .ok (.iload_n 1, 1) := by decide +kernel
theorem dX3_sayingItem_101 : decode cX3_sayingItem 101 = .ok (.iload_n 2, 1) := by decide +kernel
theorem dX3_sayingItem_102 : decode cX3_sayingItem 102 = .ok (.iload 4, 2) := by decide +kernel
theorem dX3_sayingItem_104 : decode cX3_sayingItem 104 = .ok (.iload_n 3, 1) := by decide +kernel
theorem dX3_sayingItem_105 : decode cX3_sayingItem 105 = .ok (.invokevirtual 94, 3) := by decide +kernel
theorem dX3_sayingItem_108 : decode cX3_sayingItem 108 = .ok (.iconst (-1), 1) := by decide +kernel
theorem dX3_sayingItem_109 : decode cX3_sayingItem 109 = .ok (.if_icmp .eq 7, 3) := by decide +kernel
theorem dX3_sayingItem_112 : decode cX3_sayingItem 112 = .ok (.iconst 1, 1) := by decide +kernel
theorem dX3_sayingItem_113 : decode cX3_sayingItem 113 = .ok (.goto 4, 3) := by decide +kernel
theorem dX3_sayingItem_116 : decode cX3_sayingItem 116 = .ok (.iconst 0, 1) := by decide +kernel
theorem dX3_sayingItem_117 : decode cX3_sayingItem 117 = .ok (.ireturn, 1) := by decide +kernel
set_option maxRecDepth 20000 in
theorem ggX3_deedItem_X4_isFull : GoodIn wsX3_deedItem wsX4_isFull := goodIn_r _ [6, 7, 8, 128, 129, 130, 131] (by decide +kernel) (by decide +kernel)
set_option maxRecDepth 20000 in
theorem gX3_deedItem_X4_isFull : GoodIn wsX3_deedItem (wsV RX3 74 RX4 yX4_isFull wsX4_isFull) := goodIn_app (goodIn_of _ (by decide +kernel)) ggX3_deedItem_X4_isFull
set_option maxRecDepth 20000 in
theorem ggX3_deedItem_X3_step : GoodIn wsX3_deedItem wsX3_step := goodIn_r _ [13, 14, 15, 16, 17, 18, 19, 20, 21, 22, 23, 24, 25, 26, 27, 28, 29, 30, 31, 32, 33, 34, 35, 12, 36, 116, 117, 118, 119, 120, 121, 132, 133] (by decide +kernel) (by decide +kernel)
set_option maxRecDepth 20000 in
theorem gX3_deedItem_X3_step : GoodIn wsX3_deedItem (wsV RX3 32 RX3 yX3_step wsX3_step) := goodIn_app (goodIn_of _ (by decide +kernel)) ggX3_deedItem_X3_step
set_option maxRecDepth 20000 in
theorem ggX3_deedItem_X3_number : GoodIn wsX3_deedItem wsX3_number := goodIn_r _ [40, 17, 18, 9, 10, 11, 12, 13, 14, 15, 16, 19, 20, 21, 22, 23, 24, 25, 26, 27, 28, 29, 30, 31, 32, 33, 34, 35, 36, 116, 117, 118, 119, 120, 121, 132, 133] (by decide +kernel) (by decide +kernel)
set_option maxRecDepth 20000 in
theorem gX3_deedItem_X3_number : GoodIn wsX3_deedItem (wsV RX3 79 RX3 yX3_number wsX3_number) := goodIn_app (goodIn_of _ (by decide +kernel)) ggX3_deedItem_X3_number
set_option maxRecDepth 20000 in
theorem ggX3_deedItem_X3_isWord : GoodIn wsX3_deedItem wsX3_isWord := goodIn_r _ [44, 17, 14, 15, 16, 45, 46, 47, 48, 49, 50, 51, 52, 53, 54, 55, 56, 29, 30, 31, 26, 32, 28, 33, 57, 58, 59, 60, 61, 62, 63, 64, 65, 66, 67, 68, 69, 70, 71, 72, 73, 74, 75, 76, 77, 78, 79, 80, 81, 82, 83, 84, 85, 86, 87, 88, 89, 90, 91, 92, 93, 116, 117, 118, 119, 120, 121, 132, 133] (by decide +kernel) (by decide +kernel)
set_option maxRecDepth 20000 in
theorem gX3_deedItem_X3_isWord : GoodIn wsX3_deedItem (wsV RX3 41 RX3 yX3_isWord wsX3_isWord) := goodIn_app (goodIn_of _ (by decide +kernel)) ggX3_deedItem_X3_isWord
set_option maxRecDepth 20000 in
theorem ggX3_deedItem_X3_isNumber : GoodIn wsX3_deedItem wsX3_isNumber := goodIn_r _ [97, 17, 18, 116, 117, 118, 119, 120, 121] (by decide +kernel) (by decide +kernel)
set_option maxRecDepth 20000 in
theorem gX3_deedItem_X3_isNumber : GoodIn wsX3_deedItem (wsV RX3 86 RX3 yX3_isNumber wsX3_isNumber) := goodIn_app (goodIn_of _ (by decide +kernel)) ggX3_deedItem_X3_isNumber
set_option maxRecDepth 20000 in
theorem ggX3_deedItem_X0_addDeed : GoodIn wsX3_deedItem wsX0_addDeed := goodIn_r _ [102, 103, 104, 105, 106, 5, 107, 7, 108, 3, 4, 6, 8, 109, 110, 111, 112, 113, 114, 115, 122, 123, 124, 125, 126, 127, 128, 129, 130, 131] (by decide +kernel) (by decide +kernel)
set_option maxRecDepth 20000 in
theorem gX3_deedItem_X0_addDeed : GoodIn wsX3_deedItem (wsV RX3 116 RX0 yX0_addDeed wsX0_addDeed) := goodIn_app (goodIn_of _ (by decide +kernel)) ggX3_deedItem_X0_addDeed
theorem dX3_deedItem_0 : decode cX3_deedItem 0 = .ok (.aload_n 0, 1) := by decide +kernel
theorem dX3_deedItem_1 : decode cX3_deedItem 1 = .ok (.getfield 28, 3) := by decide +kernel
theorem dX3_deedItem_4 : decode cX3_deedItem 4 = .ok (.getfield 109, 3) := by decide +kernel
theorem dX3_deedItem_7 : decode cX3_deedItem 7 = .ok (.invokevirtual 74, 3) := by decide +kernel
theorem dX3_deedItem_10 : decode cX3_deedItem 10 = .ok (.ifCond .eq 5, 3) := by decide +kernel
theorem dX3_deedItem_13 : decode cX3_deedItem 13 = .ok (.iconst 0, 1) := by decide +kernel
theorem dX3_deedItem_14 : decode cX3_deedItem 14 = .ok (.ireturn, 1) := by decide +kernel
theorem dX3_deedItem_15 : decode cX3_deedItem 15 = .ok (.aload_n 0, 1) := by decide +kernel
theorem dX3_deedItem_16 : decode cX3_deedItem 16 = .ok (.invokevirtual 32, 3) := by decide +kernel
theorem dX3_deedItem_19 : decode cX3_deedItem 19 = .ok (.aload_n 0, 1) := by decide +kernel
theorem dX3_deedItem_20 : decode cX3_deedItem 20 = .ok (.bipush 100, 2) := by decide +kernel
theorem dX3_deedItem_22 : decode cX3_deedItem 22 = .ok (.invokevirtual 79, 3) := by decide +kernel
theorem dX3_deedItem_25 : decode cX3_deedItem 25 = .ok (.istore_n 2, 1) := by decide +kernel
theorem dX3_deedItem_26 : decode cX3_deedItem 26 = .ok (.iload_n 2, 1) := by decide +kernel
theorem dX3_deedItem_27 : decode cX3_deedItem 27 = .ok (.iconst (-1), 1) := by decide +kernel
theorem dX3_deedItem_28 : decode cX3_deedItem 28 = .ok (.if_icmp .ne 7, 3) := by decide +kernel
theorem dX3_deedItem_31 : decode cX3_deedItem 31 = .ok (.iconst (-1), 1) := by decide +kernel
theorem dX3_deedItem_32 : decode cX3_deedItem 32 = .ok (.goto 14, 3) := by decide +kernel
theorem dX3_deedItem_35 : decode cX3_deedItem 35 = .ok (.aload_n 0, 1) := by decide +kernel
theorem dX3_deedItem_36 : decode cX3_deedItem 36 = .ok (.aload_n 0, 1) := by decide +kernel
theorem dX3_deedItem_37 : decode cX3_deedItem 37 = .ok (.getfield 28, 3) := by decide +kernel
theorem dX3_deedItem_40 : decode cX3_deedItem 40 = .ok (.getfield 83, 3) := by decide +kernel
theorem dX3_deedItem_43 : decode cX3_deedItem 43 = .ok (.invokevirtual 79, 3) := by decide +kernel
theorem dX3_deedItem_46 : decode cX3_deedItem 46 = .ok (.istore_n 3, 1) := by decide +kernel
theorem dX3_deedItem_47 : decode cX3_deedItem 47 = .ok (.iload_n 3, 1) := by decide +kernel
theorem dX3_deedItem_48 : decode cX3_deedItem 48 = .ok (.iconst (-1), 1) := by decide +kernel
theorem dX3_deedItem_49 : decode cX3_deedItem 49 = .ok (.if_icmp .eq 12, 3) := by decide +kernel
theorem dX3_deedItem_52 : decode cX3_deedItem 52 = .ok (.aload_n 0, 1) := by decide +kernel
theorem dX3_deedItem_53 : decode cX3_deedItem 53 = .ok (.ldc 112, 2) := by decide +kernel
theorem dX3_deedItem_55 : decode cX3_deedItem 55 = .ok (.invokevirtual 41, 3) := by decide +kernel
theorem dX3_deedItem_58 : decode cX3_deedItem 58 = .ok (.ifCond .ne 5, 3) := by decide +kernel
theorem dX3_deedItem_61 : decode cX3_deedItem 61 = .ok (.iconst 0, 1) := by decide +kernel
theorem dX3_deedItem_62 : decode cX3_deedItem 62 = .ok (.ireturn, 1) := by decide +kernel
theorem dX3_deedItem_63 : decode cX3_deedItem 63 = .ok (.aload_n 0, 1) := by decide +kernel
theorem dX3_deedItem_64 : decode cX3_deedItem 64 = .ok (.invokevirtual 32, 3) := by decide +kernel
theorem dX3_deedItem_67 : decode cX3_deedItem 67 = .ok (.aload_n 0, 1) := by decide +kernel
theorem dX3_deedItem_68 : decode cX3_deedItem 68 = .ok (.iload_n 3, 1) := by decide +kernel
theorem dX3_deedItem_69 : decode cX3_deedItem 69 = .ok (.invokevirtual 86, 3) := by decide +kernel
theorem dX3_deedItem_72 : decode cX3_deedItem 72 = .ok (.ifCond .eq 7, 3) := by decide +kernel
theorem dX3_deedItem_75 : decode cX3_deedItem 75 = .ok (.iconst (-1), 1) := by decide +kernel
theorem dX3_deedItem_76 : decode cX3_deedItem 76 = .ok (.goto 14, 3) := by decide +kernel
theorem dX3_deedItem_79 : decode cX3_deedItem 79 = .ok (.aload_n 0, 1) := by decide +kernel
theorem dX3_deedItem_80 : decode cX3_deedItem 80 = .ok (.aload_n 0, 1) := by decide +kernel
theorem dX3_deedItem_81 : decode cX3_deedItem 81 = .ok (.getfield 28, 3) := by decide +kernel
theorem dX3_deedItem_84 : decode cX3_deedItem 84 = .ok (.getfield 83, 3) := by decide +kernel
theorem dX3_deedItem_87 : decode cX3_deedItem 87 = .ok (.invokevirtual 79, 3) := by decide +kernel
theorem dX3_deedItem_90 : decode cX3_deedItem 90 = .ok (.istore 4, 2) := by decide +kernel
theorem dX3_deedItem_92 : decode cX3_deedItem 92 = .ok (.iload 4, 2) := by decide +kernel
theorem dX3_deedItem_94 : decode cX3_deedItem 94 = .ok (.iconst (-1), 1) := by decide +kernel
theorem dX3_deedItem_95 : decode cX3_deedItem 95 = .ok (.if_icmp .ne 5, 3) := by decide +kernel
theorem dX3_deedItem_98 : decode cX3_deedItem 98 = .ok (.iconst 0, 1) := by decide +kernel
theorem dX3_deedItem_99 : decode cX3_deedItem 99 = .ok (.ireturn, 1) := by decide +kernel
theorem dX3_deedItem_100 : decode cX3_deedItem 100 = .ok (.bipush 10, 2) := by decide +kernel
theorem dX3_deedItem_102 : decode cX3_deedItem 102 = .ok (.istore 5, 2) := by decide +kernel
theorem dX3_deedItem_104 : decode cX3_deedItem 104 = .ok (.aload_n 0, 1) := by decide +kernel
theorem dX3_deedItem_105 : decode cX3_deedItem 105 = .ok (.ldc 114, 2) := by decide +kernel
theorem dX3_deedItem_107 : decode cX3_deedItem 107 = .ok (.invokevirtual 41, 3) := by decide +kernel
theorem dX3_deedItem_110 : decode cX3_deedItem 110 = .ok (.ifCond .eq 16, 3) := by decide +kernel
theorem dX3_deedItem_113 : decode cX3_deedItem 113 = .ok (.aload_n 0, 1) := by decide +kernel
theorem dX3_deedItem_114 : decode cX3_deedItem 114 = .ok (.invokevirtual 32, 3) := by decide +kernel
theorem dX3_deedItem_117 : decode cX3_deedItem 117 = .ok (.aload_n 0, 1) := by decide +kernel
theorem dX3_deedItem_118 : decode cX3_deedItem 118 = .ok (.sipush 1000, 3) := by decide +kernel
theorem dX3_deedItem_121 : decode cX3_deedItem 121 = .ok (.invokevirtual 79, 3) := by decide +kernel
theorem dX3_deedItem_124 : decode cX3_deedItem 124 = .ok (.istore 5, 2) := by decide +kernel
theorem dX3_deedItem_126 : decode cX3_deedItem 126 = .ok (.iload 5, 2) := by decide +kernel
theorem dX3_deedItem_128 : decode cX3_deedItem 128 = .ok (.iconst (-1), 1) := by decide +kernel
theorem dX3_deedItem_129 : decode cX3_deedItem 129 = .ok (.if_icmp .eq 25, 3) := by decide +kernel
theorem dX3_deedItem_132 : decode cX3_deedItem 132 = .ok (.aload_n 0, 1) := by decide +kernel
theorem dX3_deedItem_133 : decode cX3_deedItem 133 = .ok (.getfield 28, 3) := by decide +kernel
theorem dX3_deedItem_136 : decode cX3_deedItem 136 = .ok (.iload_n 1, 1) := by decide +kernel
theorem dX3_deedItem_137 : decode cX3_deedItem 137 = .ok (.iload_n 2, 1) := by decide +kernel
theorem dX3_deedItem_138 : decode cX3_deedItem 138 = .ok (.iload_n 3, 1) := by decide +kernel
theorem dX3_deedItem_139 : decode cX3_deedItem 139 = .ok (.iload 4, 2) := by decide +kernel
theorem dX3_deedItem_141 : decode cX3_deedItem 141 = .ok (.iload 5, 2) := by decide +kernel
theorem dX3_deedItem_143 : decode cX3_deedItem 143 = .ok (.invokevirtual 116, 3) := by decide +kernel
theorem dX3_deedItem_146 : decode cX3_deedItem 146 = .ok (.iconst (-1), 1) := by decide +kernel
theorem dX3_deedItem_147 : decode cX3_deedItem 147 = .ok (.if_icmp .eq 7, 3) := by decide +kernel
theorem dX3_deedItem_150 : decode cX3_deedItem 150 = .ok (.iconst 1, 1) := by decide +kernel
theorem dX3_deedItem_151 : decode cX3_deedItem 151 = .ok (.goto 4, 3) := by decide +kernel
theorem dX3_deedItem_154 : decode cX3_deedItem 154 = .ok (.iconst 0, 1) := by decide +kernel
theorem dX3_deedItem_155 : decode cX3_deedItem 155 = .ok (.ireturn, 1) := by decide +kernel
set_option maxRecDepth 20000 in
theorem ggX3_switchItem_X3_step : GoodIn wsX3_switchItem wsX3_step := goodIn_r _ [6, 7, 8, 9, 10, 11, 12, 13, 14, 15, 16, 17, 18, 19, 20, 21, 22, 23, 24, 25, 26, 27, 28, 5, 29, 94, 95, 96, 97, 98, 99, 100, 101] (by decide +kernel) (by decide +kernel)
set_option maxRecDepth 20000 in
theorem gX3_switchItem_X3_step : GoodIn wsX3_switchItem (wsV RX3 32 RX3 yX3_step wsX3_step) := goodIn_app (goodIn_of _ (by decide +kernel)) ggX3_switchItem_X3_step
set_option maxRecDepth 20000 in
theorem ggX3_switchItem_X3_oneOf : GoodIn wsX3_switchItem wsX3_oneOf := goodIn_r _ [33, 34, 35, 36, 5, 37, 10, 7, 8, 9, 38, 39, 40, 41, 42, 43, 44, 45, 46, 47, 48, 49, 22, 23, 24, 19, 25, 21, 26, 50, 51, 52, 53, 54, 55, 56, 57, 58, 59, 60, 61, 62, 63, 64, 65, 66, 67, 68, 69, 70, 71, 72, 73, 74, 75, 76, 77, 78, 79, 80, 81, 82, 83, 84, 85, 86, 2, 3, 4, 6, 11, 12, 13, 14, 15, 16, 17, 18, 20, 27, 28, 29, 94, 95, 96, 97, 98, 99, 100, 101] (by decide +kernel) (by decide +kernel)
set_option maxRecDepth 20000 in
theorem gX3_switchItem_X3_oneOf : GoodIn wsX3_switchItem (wsV RX3 105 RX3 yX3_oneOf wsX3_oneOf) := goodIn_app (goodIn_of _ (by decide +kernel)) ggX3_switchItem_X3_oneOf
set_option maxRecDepth 20000 in
theorem ggX3_switchItem_X0_switchTo : GoodIn wsX3_switchItem wsX0_switchTo := goodIn_r _ [91, 92, 93, 102, 103, 104, 105, 106, 107] (by decide +kernel) (by decide +kernel)
set_option maxRecDepth 20000 in
theorem gX3_switchItem_X0_switchTo : GoodIn wsX3_switchItem (wsV RX3 124 RX0 yX0_switchTo wsX0_switchTo) := goodIn_app (goodIn_of _ (by decide +kernel)) ggX3_switchItem_X0_switchTo
theorem dX3_switchItem_0 : decode cX3_switchItem 0 = .ok (.aload_n 0, 1) := by decide +kernel
theorem dX3_switchItem_1 : decode cX3_switchItem 1 = .ok (.invokevirtual 32, 3) := by decide +kernel
theorem dX3_switchItem_4 : decode cX3_switchItem 4 = .ok (.aload_n 0, 1) := by decide +kernel
theorem dX3_switchItem_5 : decode cX3_switchItem 5 = .ok (.ldc 120, 2) := by decide +kernel
theorem dX3_switchItem_7 : decode cX3_switchItem 7 = .ok (.ldc 122, 2) := by decide +kernel
theorem dX3_switchItem_9 : decode cX3_switchItem 9 = .ok (.invokevirtual 105, 3) := by decide +kernel
theorem dX3_switchItem_12 : decode cX3_switchItem 12 = .ok (.istore_n 2, 1) := by decide +kernel
theorem dX3_switchItem_13 : decode cX3_switchItem 13 = .ok (.iload_n 2, 1) := by decide +kernel
theorem dX3_switchItem_14 : decode cX3_switchItem 14 = .ok (.iconst (-1), 1) := by decide +kernel
theorem dX3_switchItem_15 : decode cX3_switchItem 15 = .ok (.if_icmp .ne 5, 3) := by decide +kernel
theorem dX3_switchItem_18 : decode cX3_switchItem 18 = .ok (.iconst 0, 1) := by decide +kernel
theorem dX3_switchItem_19 : decode cX3_switchItem 19 = .ok (.ireturn, 1) := by decide +kernel
theorem dX3_switchItem_20 : decode cX3_switchItem 20 = .ok (.aload_n 0, 1) := by decide +kernel
theorem dX3_switchItem_21 : decode cX3_switchItem 21 = .ok (.getfield 28, 3) := by decide +kernel
theorem dX3_switchItem_24 : decode cX3_switchItem 24 = .ok (.iload_n 1, 1) := by decide +kernel
theorem dX3_switchItem_25 : decode cX3_switchItem 25 = .ok (.iload_n 2, 1) := by decide +kernel
theorem dX3_switchItem_26 : decode cX3_switchItem 26 = .ok (.iconst 1, 1) := by decide +kernel
theorem dX3_switchItem_27 : decode cX3_switchItem 27 = .ok (.if_icmp .ne 7, 3) := by decide +kernel
theorem dX3_switchItem_30 : decode cX3_switchItem 30 = .ok (.iconst 1, 1) := by decide +kernel
theorem dX3_switchItem_31 : decode cX3_switchItem 31 = .ok (.goto 4, 3) := by decide +kernel
theorem dX3_switchItem_34 : decode cX3_switchItem 34 = .ok (.iconst 0, 1) := by decide +kernel
theorem dX3_switchItem_35 : decode cX3_switchItem 35 = .ok (.invokevirtual 124, 3) := by decide +kernel
theorem dX3_switchItem_38 : decode cX3_switchItem 38 = .ok (.iconst 1, 1) := by decide +kernel
theorem dX3_switchItem_39 : decode cX3_switchItem 39 = .ok (.ireturn, 1) := by decide +kernel
set_option maxRecDepth 20000 in
theorem ggX3_number_X3_step : GoodIn wsX3_number wsX3_step := goodIn_r _ [7, 8, 9, 10, 1, 2, 11, 12, 13, 14, 15, 16, 17, 18, 19, 20, 21, 22, 23, 24, 25, 26, 27, 6, 28, 29, 30, 31, 32, 33, 34, 35, 36] (by decide +kernel) (by decide +kernel)
set_option maxRecDepth 20000 in
theorem gX3_number_X3_step : GoodIn wsX3_number (wsV RX3 32 RX3 yX3_step wsX3_step) := goodIn_app (goodIn_of _ (by decide +kernel)) ggX3_number_X3_step
theorem dX3_number_0 : decode cX3_number 0 = .ok (.aload_n 0, 1) := by decide +kernel
theorem dX3_number_1 : decode cX3_number 1 = .ok (.getfield 11, 3) := by decide +kernel
theorem dX3_number_4 : decode cX3_number 4 = .ok (.iconst 2, 1) := by decide +kernel
theorem dX3_number_5 : decode cX3_number 5 = .ok (.if_icmp .ne 11, 3) := by decide +kernel
theorem dX3_number_8 : decode cX3_number 8 = .ok (.aload_n 0, 1) := by decide +kernel
theorem dX3_number_9 : decode cX3_number 9 = .ok (.getfield 21, 3) := by decide +kernel
theorem dX3_number_12 : decode cX3_number 12 = .ok (.iload_n 1, 1) := by decide +kernel
theorem dX3_number_13 : decode cX3_number 13 = .ok (.if_icmp .lt 5, 3) := by decide +kernel
theorem dX3_number_16 : decode cX3_number 16 = .ok (.iconst (-1), 1) := by decide +kernel
theorem dX3_number_17 : decode cX3_number 17 = .ok (.ireturn, 1) := by decide +kernel
theorem dX3_number_18 : decode cX3_number 18 = .ok (.aload_n 0, 1) := by decide +kernel
theorem dX3_number_19 : decode cX3_number 19 = .ok (.getfield 21, 3) := by decide +kernel
theorem dX3_number_22 : decode cX3_number 22 = .ok (.istore_n 2, 1) := by decide +kernel
theorem dX3_number_23 : decode cX3_number 23 = .ok (.aload_n 0, 1) := by decide +kernel
theorem dX3_number_24 : decode cX3_number 24 = .ok (.invokevirtual 32, 3) := by decide +kernel
theorem dX3_number_27 : decode cX3_number 27 = .ok (.iload_n 2, 1) := by decide +kernel
theorem dX3_number_28 : decode cX3_number 28 = .ok (.ireturn, 1) := by decide +kernel
theorem dX3_isNumber_0 : decode cX3_isNumber 0 = .ok (.aload_n 0, 1) := by decide +kernel
theorem dX3_isNumber_1 : decode cX3_isNumber 1 = .ok (.getfield 11, 3) := by decide +kernel
theorem dX3_isNumber_4 : decode cX3_isNumber 4 = .ok (.iconst 2, 1) := by decide +kernel
theorem dX3_isNumber_5 : decode cX3_isNumber 5 = .ok (.if_icmp .ne 15, 3) := by decide +kernel
theorem dX3_isNumber_8 : decode cX3_isNumber 8 = .ok (.aload_n 0, 1) := by decide +kernel
theorem dX3_isNumber_9 : decode cX3_isNumber 9 = .ok (.getfield 21, 3) := by decide +kernel
theorem dX3_isNumber_12 : decode cX3_isNumber 12 = .ok (.iload_n 1, 1) := by decide +kernel
theorem dX3_isNumber_13 : decode cX3_isNumber 13 = .ok (.if_icmp .ne 7, 3) := by decide +kernel
theorem dX3_isNumber_16 : decode cX3_isNumber 16 = .ok (.iconst 1, 1) := by decide +kernel
theorem dX3_isNumber_17 : decode cX3_isNumber 17 = .ok (.goto 4, 3) := by decide +kernel
theorem dX3_isNumber_20 : decode cX3_isNumber 20 = .ok (.iconst 0, 1) := by decide +kernel
theorem dX3_isNumber_21 : decode cX3_isNumber 21 = .ok (.ireturn, 1) := by decide +kernel
set_option maxRecDepth 20000 in
theorem ggX3_oneOf_X3_isWord : GoodIn wsX3_oneOf wsX3_isWord := goodIn_r _ [5, 6, 7, 8, 9, 10, 11, 12, 13, 14, 15, 16, 17, 18, 19, 20, 21, 22, 23, 24, 25, 26, 27, 28, 29, 30, 31, 32, 33, 34, 35, 36, 37, 38, 39, 40, 41, 42, 43, 44, 45, 46, 47, 48, 49, 50, 51, 52, 53, 54, 55, 56, 57, 58, 59, 60, 61, 62, 63, 64, 65, 82, 83, 84, 85, 86, 87, 88, 89] (by decide +kernel) (by decide +kernel)
set_option maxRecDepth 20000 in
theorem gX3_oneOf_X3_isWord : GoodIn wsX3_oneOf (wsV RX3 41 RX3 yX3_isWord wsX3_isWord) := goodIn_app (goodIn_of _ (by decide +kernel)) ggX3_oneOf_X3_isWord
set_option maxRecDepth 20000 in
theorem ggX3_oneOf_X3_step : GoodIn wsX3_oneOf wsX3_step := goodIn_r _ [69, 7, 8, 9, 6, 70, 71, 72, 73, 74, 75, 76, 77, 25, 78, 27, 22, 23, 24, 26, 28, 79, 80, 4, 81, 82, 83, 84, 85, 86, 87, 88, 89] (by decide +kernel) (by decide +kernel)
set_option maxRecDepth 20000 in
theorem gX3_oneOf_X3_step : GoodIn wsX3_oneOf (wsV RX3 32 RX3 yX3_step wsX3_step) := goodIn_app (goodIn_of _ (by decide +kernel)) ggX3_oneOf_X3_step
theorem dX3_oneOf_0 : decode cX3_oneOf 0 = .ok (.aload_n 0, 1) := by decide +kernel
theorem dX3_oneOf_1 : decode cX3_oneOf 1 = .ok (.aload_n 1, 1) := by decide +kernel
theorem dX3_oneOf_2 : decode cX3_oneOf 2 = .ok (.invokevirtual 41, 3) := by decide +kernel
theorem dX3_oneOf_5 : decode cX3_oneOf 5 = .ok (.ifCond .eq 7, 3) := by decide +kernel
theorem dX3_oneOf_8 : decode cX3_oneOf 8 = .ok (.iconst 0, 1) := by decide +kernel
theorem dX3_oneOf_9 : decode cX3_oneOf 9 = .ok (.goto 16, 3) := by decide +kernel
theorem dX3_oneOf_12 : decode cX3_oneOf 12 = .ok (.aload_n 0, 1) := by decide +kernel
theorem dX3_oneOf_13 : decode cX3_oneOf 13 = .ok (.aload_n 2, 1) := by decide +kernel
theorem dX3_oneOf_14 : decode cX3_oneOf 14 = .ok (.invokevirtual 41, 3) := by decide +kernel
theorem dX3_oneOf_17 : decode cX3_oneOf 17 = .ok (.ifCond .eq 7, 3) := by decide +kernel
theorem dX3_oneOf_20 : decode cX3_oneOf 20 = .ok (.iconst 1, 1) := by decide +kernel
theorem dX3_oneOf_21 : decode cX3_oneOf 21 = .ok (.goto 4, 3) := by decide +kernel
theorem dX3_oneOf_24 : decode cX3_oneOf 24 = .ok (.iconst (-1), 1) := by decide +kernel
theorem dX3_oneOf_25 : decode cX3_oneOf 25 = .ok (.istore_n 3, 1) := by decide +kernel
theorem dX3_oneOf_26 : decode cX3_oneOf 26 = .ok (.iload_n 3, 1) := by decide +kernel
theorem dX3_oneOf_27 : decode cX3_oneOf 27 = .ok (.iconst (-1), 1) := by decide +kernel
theorem dX3_oneOf_28 : decode cX3_oneOf 28 = .ok (.if_icmp .eq 7, 3) := by decide +kernel
theorem dX3_oneOf_31 : decode cX3_oneOf 31 = .ok (.aload_n 0, 1) := by decide +kernel
theorem dX3_oneOf_32 : decode cX3_oneOf 32 = .ok (.invokevirtual 32, 3) := by decide +kernel
theorem dX3_oneOf_35 : decode cX3_oneOf 35 = .ok (.iload_n 3, 1) := by decide +kernel
theorem dX3_oneOf_36 : decode cX3_oneOf 36 = .ok (.ireturn, 1) := by decide +kernel
set_option maxRecDepth 20000 in
theorem ggX3_isWord_J0_length_8abf5 : GoodIn wsX3_isWord wsJ0_length_8abf5 := goodIn_r _ [9, 10, 11, 12, 13, 8, 14, 15, 16] (by decide +kernel) (by decide +kernel)
set_option maxRecDepth 20000 in
theorem gX3_isWord_J0_length_8abf5 : GoodIn wsX3_isWord (wsV RX3 128 RJ0 yJ0_length_8abf5 wsJ0_length_8abf5) := goodIn_app (goodIn_of _ (by decide +kernel)) ggX3_isWord_J0_length_8abf5
set_option maxRecDepth 20000 in
theorem ggX3_isWord_X6_at : GoodIn wsX3_isWord wsX6_at := goodIn_r _ [21, 22, 23, 67, 68] (by decide +kernel) (by decide +kernel)
set_option maxRecDepth 20000 in
theorem gX3_isWord_X6_at : GoodIn wsX3_isWord (wsV RX3 134 RX6 yX6_at wsX6_at) := goodIn_app (goodIn_of _ (by decide +kernel)) ggX3_isWord_X6_at
set_option maxRecDepth 20000 in
theorem ggX3_isWord_J0_charAt_5068e : GoodIn wsX3_isWord wsJ0_charAt_5068e := goodIn_r _ [27, 10, 28, 29, 30, 8, 31, 15, 16, 32, 33, 34, 35, 36, 37, 38, 39, 40, 41, 42, 43, 44, 45, 46, 47, 48, 49, 50, 51, 52, 53, 54, 55, 56, 57, 58, 59, 60] (by decide +kernel) (by decide +kernel)
set_option maxRecDepth 20000 in
theorem gX3_isWord_J0_charAt_5068e : GoodIn wsX3_isWord (wsV RX3 139 RJ0 yJ0_charAt_5068e wsJ0_charAt_5068e) := goodIn_app (goodIn_of _ (by decide +kernel)) ggX3_isWord_J0_charAt_5068e
theorem dX3_isWord_0 : decode cX3_isWord 0 = .ok (.aload_n 0, 1) := by decide +kernel
theorem dX3_isWord_1 : decode cX3_isWord 1 = .ok (.getfield 11, 3) := by decide +kernel
theorem dX3_isWord_4 : decode cX3_isWord 4 = .ok (.iconst 1, 1) := by decide +kernel
theorem dX3_isWord_5 : decode cX3_isWord 5 = .ok (.if_icmp .ne 19, 3) := by decide +kernel
theorem dX3_isWord_8 : decode cX3_isWord 8 = .ok (.aload_n 0, 1) := by decide +kernel
theorem dX3_isWord_9 : decode cX3_isWord 9 = .ok (.getfield 18, 3) := by decide +kernel
theorem dX3_isWord_12 : decode cX3_isWord 12 = .ok (.aload_n 0, 1) := by decide +kernel
theorem dX3_isWord_13 : decode cX3_isWord 13 = .ok (.getfield 15, 3) := by decide +kernel
theorem dX3_isWord_16 : decode cX3_isWord 16 = .ok (.isub, 1) := by decide +kernel
theorem dX3_isWord_17 : decode cX3_isWord 17 = .ok (.aload_n 1, 1) := by decide +kernel
theorem dX3_isWord_18 : decode cX3_isWord 18 = .ok (.invokevirtual 128, 3) := by decide +kernel
theorem dX3_isWord_21 : decode cX3_isWord 21 = .ok (.if_icmp .eq 5, 3) := by decide +kernel
theorem dX3_isWord_24 : decode cX3_isWord 24 = .ok (.iconst 0, 1) := by decide +kernel
theorem dX3_isWord_25 : decode cX3_isWord 25 = .ok (.ireturn, 1) := by decide +kernel
theorem dX3_isWord_26 : decode cX3_isWord 26 = .ok (.iconst 0, 1) := by decide +kernel
theorem dX3_isWord_27 : decode cX3_isWord 27 = .ok (.istore_n 2, 1) := by decide +kernel
theorem dX3_isWord_28 : decode cX3_isWord 28 = .ok (.iload_n 2, 1) := by decide +kernel
theorem dX3_isWord_29 : decode cX3_isWord 29 = .ok (.aload_n 1, 1) := by decide +kernel
theorem dX3_isWord_30 : decode cX3_isWord 30 = .ok (.invokevirtual 128, 3) := by decide +kernel
theorem dX3_isWord_33 : decode cX3_isWord 33 = .ok (.if_icmp .ge 32, 3) := by decide +kernel
theorem dX3_isWord_36 : decode cX3_isWord 36 = .ok (.aload_n 0, 1) := by decide +kernel
theorem dX3_isWord_37 : decode cX3_isWord 37 = .ok (.getfield 24, 3) := by decide +kernel
theorem dX3_isWord_40 : decode cX3_isWord 40 = .ok (.aload_n 0, 1) := by decide +kernel
theorem dX3_isWord_41 : decode cX3_isWord 41 = .ok (.getfield 15, 3) := by decide +kernel
theorem dX3_isWord_44 : decode cX3_isWord 44 = .ok (.iload_n 2, 1) := by decide +kernel
theorem dX3_isWord_45 : decode cX3_isWord 45 = .ok (.iadd, 1) := by decide +kernel
theorem dX3_isWord_46 : decode cX3_isWord 46 = .ok (.invokevirtual 134, 3) := by decide +kernel
theorem dX3_isWord_49 : decode cX3_isWord 49 = .ok (.aload_n 1, 1) := by decide +kernel
theorem dX3_isWord_50 : decode cX3_isWord 50 = .ok (.iload_n 2, 1) := by decide +kernel
theorem dX3_isWord_51 : decode cX3_isWord 51 = .ok (.invokevirtual 139, 3) := by decide +kernel
theorem dX3_isWord_54 : decode cX3_isWord 54 = .ok (.if_icmp .eq 5, 3) := by decide +kernel
theorem dX3_isWord_57 : decode cX3_isWord 57 = .ok (.iconst 0, 1) := by decide +kernel
theorem dX3_isWord_58 : decode cX3_isWord 58 = .ok (.ireturn, 1) := by decide +kernel
theorem dX3_isWord_59 : decode cX3_isWord 59 = .ok (.iinc 2 1, 3) := by decide +kernel
theorem dX3_isWord_62 : decode cX3_isWord 62 = .ok (.goto (-34), 3) := by decide +kernel
theorem dX3_isWord_65 : decode cX3_isWord 65 = .ok (.iconst 1, 1) := by decide +kernel
theorem dX3_isWord_66 : decode cX3_isWord 66 = .ok (.ireturn, 1) := by decide +kernel
set_option maxRecDepth 20000 in
theorem ggX3_step_X6_length : GoodIn wsX3_step wsX6_length := goodIn_r _ [14, 15, 31, 32] (by decide +kernel) (by decide +kernel)
set_option maxRecDepth 20000 in
theorem gX3_step_X6_length : GoodIn wsX3_step (wsV RX3 143 RX6 yX6_length wsX6_length) := goodIn_app (goodIn_of _ (by decide +kernel)) ggX3_step_X6_length
set_option maxRecDepth 20000 in
theorem ggX3_step_X6_at : GoodIn wsX3_step wsX6_at := goodIn_r _ [19, 15, 20, 31, 32] (by decide +kernel) (by decide +kernel)
set_option maxRecDepth 20000 in
theorem gX3_step_X6_at : GoodIn wsX3_step (wsV RX3 134 RX6 yX6_at wsX6_at) := goodIn_app (goodIn_of _ (by decide +kernel)) ggX3_step_X6_at
set_option maxRecDepth 20000 in
theorem ggX3_step_X3_tokenOf : GoodIn wsX3_step wsX3_tokenOf := goodIn_r _ [24] (by decide +kernel) (by decide +kernel)
set_option maxRecDepth 20000 in
theorem gX3_step_X3_tokenOf : GoodIn wsX3_step (va_wsS RX3 144 yX3_tokenOf wsX3_tokenOf) := goodIn_app (goodIn_of _ (by decide +kernel)) ggX3_step_X3_tokenOf
theorem dX3_step_0 : decode cX3_step 0 = .ok (.aload_n 0, 1) := by decide +kernel
theorem dX3_step_1 : decode cX3_step 1 = .ok (.aload_n 0, 1) := by decide +kernel
theorem dX3_step_2 : decode cX3_step 2 = .ok (.getfield 18, 3) := by decide +kernel
theorem dX3_step_5 : decode cX3_step 5 = .ok (.putfield 15, 3) := by decide +kernel
theorem dX3_step_8 : decode cX3_step 8 = .ok (.aload_n 0, 1) := by decide +kernel
theorem dX3_step_9 : decode cX3_step 9 = .ok (.getfield 15, 3) := by decide +kernel
theorem dX3_step_12 : decode cX3_step 12 = .ok (.aload_n 0, 1) := by decide +kernel
theorem dX3_step_13 : decode cX3_step 13 = .ok (.getfield 24, 3) := by decide +kernel
theorem dX3_step_16 : decode cX3_step 16 = .ok (.invokevirtual 143, 3) := by decide +kernel
theorem dX3_step_19 : decode cX3_step 19 = .ok (.if_icmp .ge 32, 3) := by decide +kernel
theorem dX3_step_22 : decode cX3_step 22 = .ok (.aload_n 0, 1) := by decide +kernel
theorem dX3_step_23 : decode cX3_step 23 = .ok (.getfield 24, 3) := by decide +kernel
theorem dX3_step_26 : decode cX3_step 26 = .ok (.aload_n 0, 1) := by decide +kernel
theorem dX3_step_27 : decode cX3_step 27 = .ok (.getfield 15, 3) := by decide +kernel
theorem dX3_step_30 : decode cX3_step 30 = .ok (.invokevirtual 134, 3) := by decide +kernel
theorem dX3_step_33 : decode cX3_step 33 = .ok (.bipush 32, 2) := by decide +kernel
theorem dX3_step_35 : decode cX3_step 35 = .ok (.if_icmp .ne 16, 3) := by decide +kernel
theorem dX3_step_38 : decode cX3_step 38 = .ok (.aload_n 0, 1) := by decide +kernel
theorem dX3_step_39 : decode cX3_step 39 = .ok (.dup, 1) := by decide +kernel
theorem dX3_step_40 : decode cX3_step 40 = .ok (.getfield 15, 3) := by decide +kernel
theorem dX3_step_43 : decode cX3_step 43 = .ok (.iconst 1, 1) := by decide +kernel
theorem dX3_step_44 : decode cX3_step 44 = .ok (.iadd, 1) := by decide +kernel
theorem dX3_step_45 : decode cX3_step 45 = .ok (.putfield 15, 3) := by decide +kernel
theorem dX3_step_48 : decode cX3_step 48 = .ok (.goto (-40), 3) := by decide +kernel
theorem dX3_step_51 : decode cX3_step 51 = .ok (.aload_n 0, 1) := by decide +kernel
theorem dX3_step_52 : decode cX3_step 52 = .ok (.aload_n 0, 1) := by decide +kernel
theorem dX3_step_53 : decode cX3_step 53 = .ok (.getfield 24, 3) := by decide +kernel
theorem dX3_step_56 : decode cX3_step 56 = .ok (.aload_n 0, 1) := by decide +kernel
theorem dX3_step_57 : decode cX3_step 57 = .ok (.getfield 15, 3) := by decide +kernel
theorem dX3_step_60 : decode cX3_step 60 = .ok (.invokevirtual 134, 3) := by decide +kernel
theorem dX3_step_63 : decode cX3_step 63 = .ok (.invokestatic 144, 3) := by decide +kernel
theorem dX3_step_66 : decode cX3_step 66 = .ok (.putfield 11, 3) := by decide +kernel
theorem dX3_step_69 : decode cX3_step 69 = .ok (.aload_n 0, 1) := by decide +kernel
theorem dX3_step_70 : decode cX3_step 70 = .ok (.getfield 11, 3) := by decide +kernel
theorem dX3_step_73 : decode cX3_step 73 = .ok (.iconst 1, 1) := by decide +kernel
theorem dX3_step_74 : decode cX3_step 74 = .ok (.if_icmp .eq 11, 3) := by decide +kernel
theorem dX3_step_77 : decode cX3_step 77 = .ok (.aload_n 0, 1) := by decide +kernel
theorem dX3_step_78 : decode cX3_step 78 = .ok (.getfield 11, 3) := by decide +kernel
theorem dX3_step_81 : decode cX3_step 81 = .ok (.iconst 2, 1) := by decide +kernel
theorem dX3_step_82 : decode cX3_step 82 = .ok (.if_icmp .ne 7, 3) := by decide +kernel
theorem dX3_step_85 : decode cX3_step 85 = .ok (.iconst 1, 1) := by decide +kernel
theorem dX3_step_86 : decode cX3_step 86 = .ok (.goto 4, 3) := by decide +kernel
theorem dX3_step_89 : decode cX3_step 89 = .ok (.iconst 0, 1) := by decide +kernel
theorem dX3_step_90 : decode cX3_step 90 = .ok (.istore_n 1, 1) := by decide +kernel
theorem dX3_step_91 : decode cX3_step 91 = .ok (.aload_n 0, 1) := by decide +kernel
theorem dX3_step_92 : decode cX3_step 92 = .ok (.iconst 0, 1) := by decide +kernel
theorem dX3_step_93 : decode cX3_step 93 = .ok (.putfield 21, 3) := by decide +kernel
theorem dX3_step_96 : decode cX3_step 96 = .ok (.aload_n 0, 1) := by decide +kernel
theorem dX3_step_97 : decode cX3_step 97 = .ok (.aload_n 0, 1) := by decide +kernel
theorem dX3_step_98 : decode cX3_step 98 = .ok (.getfield 15, 3) := by decide +kernel
theorem dX3_step_101 : decode cX3_step 101 = .ok (.putfield 18, 3) := by decide +kernel
theorem dX3_step_104 : decode cX3_step 104 = .ok (.aload_n 0, 1) := by decide +kernel
theorem dX3_step_105 : decode cX3_step 105 = .ok (.getfield 18, 3) := by decide +kernel
theorem dX3_step_108 : decode cX3_step 108 = .ok (.aload_n 0, 1) := by decide +kernel
theorem dX3_step_109 : decode cX3_step 109 = .ok (.getfield 24, 3) := by decide +kernel
theorem dX3_step_112 : decode cX3_step 112 = .ok (.invokevirtual 143, 3) := by decide +kernel
theorem dX3_step_115 : decode cX3_step 115 = .ok (.if_icmp .ge 84, 3) := by decide +kernel
theorem dX3_step_118 : decode cX3_step 118 = .ok (.aload_n 0, 1) := by decide +kernel
theorem dX3_step_119 : decode cX3_step 119 = .ok (.getfield 18, 3) := by decide +kernel
theorem dX3_step_122 : decode cX3_step 122 = .ok (.aload_n 0, 1) := by decide +kernel
theorem dX3_step_123 : decode cX3_step 123 = .ok (.getfield 15, 3) := by decide +kernel
theorem dX3_step_126 : decode cX3_step 126 = .ok (.if_icmp .eq 28, 3) := by decide +kernel
theorem dX3_step_129 : decode cX3_step 129 = .ok (.iload_n 1, 1) := by decide +kernel
theorem dX3_step_130 : decode cX3_step 130 = .ok (.ifCond .eq 69, 3) := by decide +kernel
theorem dX3_step_133 : decode cX3_step 133 = .ok (.aload_n 0, 1) := by decide +kernel
theorem dX3_step_134 : decode cX3_step 134 = .ok (.getfield 24, 3) := by decide +kernel
theorem dX3_step_137 : decode cX3_step 137 = .ok (.aload_n 0, 1) := by decide +kernel
theorem dX3_step_138 : decode cX3_step 138 = .ok (.getfield 18, 3) := by decide +kernel
theorem dX3_step_141 : decode cX3_step 141 = .ok (.invokevirtual 134, 3) := by decide +kernel
theorem dX3_step_144 : decode cX3_step 144 = .ok (.invokestatic 144, 3) := by decide +kernel
theorem dX3_step_147 : decode cX3_step 147 = .ok (.aload_n 0, 1) := by decide +kernel
theorem dX3_step_148 : decode cX3_step 148 = .ok (.getfield 11, 3) := by decide +kernel
theorem dX3_step_151 : decode cX3_step 151 = .ok (.if_icmp .ne 48, 3) := by decide +kernel
theorem dX3_step_154 : decode cX3_step 154 = .ok (.aload_n 0, 1) := by decide +kernel
theorem dX3_step_155 : decode cX3_step 155 = .ok (.sipush 1000, 3) := by decide +kernel
theorem dX3_step_158 : decode cX3_step 158 = .ok (.bipush 10, 2) := by decide +kernel
theorem dX3_step_160 : decode cX3_step 160 = .ok (.aload_n 0, 1) := by decide +kernel
theorem dX3_step_161 : decode cX3_step 161 = .ok (.getfield 21, 3) := by decide +kernel
theorem dX3_step_164 : decode cX3_step 164 = .ok (.imul, 1) := by decide +kernel
theorem dX3_step_165 : decode cX3_step 165 = .ok (.aload_n 0, 1) := by decide +kernel
theorem dX3_step_166 : decode cX3_step 166 = .ok (.getfield 24, 3) := by decide +kernel
theorem dX3_step_169 : decode cX3_step 169 = .ok (.aload_n 0, 1) := by decide +kernel
theorem dX3_step_170 : decode cX3_step 170 = .ok (.getfield 18, 3) := by decide +kernel
theorem dX3_step_173 : decode cX3_step 173 = .ok (.invokevirtual 134, 3) := by decide +kernel
theorem dX3_step_176 : decode cX3_step 176 = .ok (.iadd, 1) := by decide +kernel
theorem dX3_step_177 : decode cX3_step 177 = .ok (.bipush 48, 2) := by decide +kernel
theorem dX3_step_179 : decode cX3_step 179 = .ok (.isub, 1) := by decide +kernel
theorem dX3_step_180 : decode cX3_step 180 = .ok (.invokestatic 147, 3) := by decide +kernel
theorem dX3_step_183 : decode cX3_step 183 = .ok (.putfield 21, 3) := by decide +kernel
theorem dX3_step_186 : decode cX3_step 186 = .ok (.aload_n 0, 1) := by decide +kernel
theorem dX3_step_187 : decode cX3_step 187 = .ok (.dup, 1) := by decide +kernel
theorem dX3_step_188 : decode cX3_step 188 = .ok (.getfield 18, 3) := by decide +kernel
theorem dX3_step_191 : decode cX3_step 191 = .ok (.iconst 1, 1) := by decide +kernel
theorem dX3_step_192 : decode cX3_step 192 = .ok (.iadd, 1) := by decide +kernel
theorem dX3_step_193 : decode cX3_step 193 = .ok (.putfield 18, 3) := by decide +kernel
theorem dX3_step_196 : decode cX3_step 196 = .ok (.goto (-92), 3) := by decide +kernel
theorem dX3_step_199 : decode cX3_step 199 = .ok (.return_, 1) := by decide +kernel
theorem dX3_tokenOf_0 : decode cX3_tokenOf 0 = .ok (.iload_n 0, 1) := by decide +kernel
theorem dX3_tokenOf_1 : decode cX3_tokenOf 1 = .ok (.iconst (-1), 1) := by decide +kernel
theorem dX3_tokenOf_2 : decode cX3_tokenOf 2 = .ok (.if_icmp .ne 5, 3) := by decide +kernel
theorem dX3_tokenOf_5 : decode cX3_tokenOf 5 = .ok (.iconst 0, 1) := by decide +kernel
theorem dX3_tokenOf_6 : decode cX3_tokenOf 6 = .ok (.ireturn, 1) := by decide +kernel
theorem dX3_tokenOf_7 : decode cX3_tokenOf 7 = .ok (.iload_n 0, 1) := by decide +kernel
theorem dX3_tokenOf_8 : decode cX3_tokenOf 8 = .ok (.bipush 97, 2) := by decide +kernel
theorem dX3_tokenOf_10 : decode cX3_tokenOf 10 = .ok (.if_icmp .lt 11, 3) := by decide +kernel
theorem dX3_tokenOf_13 : decode cX3_tokenOf 13 = .ok (.iload_n 0, 1) := by decide +kernel
theorem dX3_tokenOf_14 : decode cX3_tokenOf 14 = .ok (.bipush 122, 2) := by decide +kernel
theorem dX3_tokenOf_16 : decode cX3_tokenOf 16 = .ok (.if_icmp .gt 5, 3) := by decide +kernel
theorem dX3_tokenOf_19 : decode cX3_tokenOf 19 = .ok (.iconst 1, 1) := by decide +kernel
theorem dX3_tokenOf_20 : decode cX3_tokenOf 20 = .ok (.ireturn, 1) := by decide +kernel
theorem dX3_tokenOf_21 : decode cX3_tokenOf 21 = .ok (.iload_n 0, 1) := by decide +kernel
theorem dX3_tokenOf_22 : decode cX3_tokenOf 22 = .ok (.bipush 48, 2) := by decide +kernel
theorem dX3_tokenOf_24 : decode cX3_tokenOf 24 = .ok (.if_icmp .lt 11, 3) := by decide +kernel
theorem dX3_tokenOf_27 : decode cX3_tokenOf 27 = .ok (.iload_n 0, 1) := by decide +kernel
theorem dX3_tokenOf_28 : decode cX3_tokenOf 28 = .ok (.bipush 57, 2) := by decide +kernel
theorem dX3_tokenOf_30 : decode cX3_tokenOf 30 = .ok (.if_icmp .gt 5, 3) := by decide +kernel
theorem dX3_tokenOf_33 : decode cX3_tokenOf 33 = .ok (.iconst 2, 1) := by decide +kernel
theorem dX3_tokenOf_34 : decode cX3_tokenOf 34 = .ok (.ireturn, 1) := by decide +kernel
theorem dX3_tokenOf_35 : decode cX3_tokenOf 35 = .ok (.iload_n 0, 1) := by decide +kernel
theorem dX3_tokenOf_36 : decode cX3_tokenOf 36 = .ok (.bipush 59, 2) := by decide +kernel
theorem dX3_tokenOf_38 : decode cX3_tokenOf 38 = .ok (.if_icmp .ne 7, 3) := by decide +kernel
theorem dX3_tokenOf_41 : decode cX3_tokenOf 41 = .ok (.iconst 3, 1) := by decide +kernel
theorem dX3_tokenOf_42 : decode cX3_tokenOf 42 = .ok (.goto 4, 3) := by decide +kernel
theorem dX3_tokenOf_45 : decode cX3_tokenOf 45 = .ok (.iconst 4, 1) := by decide +kernel
theorem dX3_tokenOf_46 : decode cX3_tokenOf 46 = .ok (.ireturn, 1) := by decide +kernel
theorem dX3_nameOf_0 : decode cX3_nameOf 0 = .ok (.iload_n 0, 1) := by decide +kernel
theorem dX3_nameOf_1 : decode cX3_nameOf 1 = .ok (.tableswitch 50 1 5 #[35, 38, 41, 44, 47], 35) := by decide +kernel
theorem dX3_nameOf_36 : decode cX3_nameOf 36 = .ok (.ldc 153, 2) := by decide +kernel
theorem dX3_nameOf_38 : decode cX3_nameOf 38 = .ok (.areturn, 1) := by decide +kernel
theorem dX3_nameOf_39 : decode cX3_nameOf 39 = .ok (.ldc 155, 2) := by decide +kernel
theorem dX3_nameOf_41 : decode cX3_nameOf 41 = .ok (.areturn, 1) := by decide +kernel
theorem dX3_nameOf_42 : decode cX3_nameOf 42 = .ok (.ldc 157, 2) := by decide +kernel
theorem dX3_nameOf_44 : decode cX3_nameOf 44 = .ok (.areturn, 1) := by decide +kernel
theorem dX3_nameOf_45 : decode cX3_nameOf 45 = .ok (.ldc 159, 2) := by decide +kernel
theorem dX3_nameOf_47 : decode cX3_nameOf 47 = .ok (.areturn, 1) := by decide +kernel
theorem dX3_nameOf_48 : decode cX3_nameOf 48 = .ok (.ldc 161, 2) := by decide +kernel
theorem dX3_nameOf_50 : decode cX3_nameOf 50 = .ok (.areturn, 1) := by decide +kernel
theorem dX3_nameOf_51 : decode cX3_nameOf 51 = .ok (.ldc 163, 2) := by decide +kernel
theorem dX3_nameOf_53 : decode cX3_nameOf 53 = .ok (.areturn, 1) := by decide +kernel
