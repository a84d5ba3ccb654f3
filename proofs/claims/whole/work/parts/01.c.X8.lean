theorem dX8_init_0 : decode cX8_init 0 = .ok (.aload_n 0, 1) := by decide +kernel
theorem dX8_init_1 : decode cX8_init 1 = .ok (.invokespecial 1, 3) := by decide +kernel
theorem dX8_init_4 : decode cX8_init 4 = .ok (.aload_n 0, 1) := by decide +kernel
theorem dX8_init_5 : decode cX8_init 5 = .ok (.sipush 186, 3) := by decide +kernel
theorem dX8_init_8 : decode cX8_init 8 = .ok (.newarray .int, 2) := by decide +kernel
theorem dX8_init_10 : decode cX8_init 10 = .ok (.putfield 9, 3) := by decide +kernel
theorem dX8_init_13 : decode cX8_init 13 = .ok (.aload_n 0, 1) := by decide +kernel
theorem dX8_init_14 : decode cX8_init 14 = .ok (.sipush 186, 3) := by decide +kernel
theorem dX8_init_17 : decode cX8_init 17 = .ok (.newarray .int, 2) := by decide +kernel
theorem dX8_init_19 : decode cX8_init 19 = .ok (.putfield 13, 3) := by decide +kernel
theorem dX8_init_22 : decode cX8_init 22 = .ok (.aload_n 0, 1) := by decide +kernel
theorem dX8_init_23 : decode cX8_init 23 = .ok (.bipush 8, 2) := by decide +kernel
theorem dX8_init_25 : decode cX8_init 25 = .ok (.newarray .int, 2) := by decide +kernel
theorem dX8_init_27 : decode cX8_init 27 = .ok (.putfield 16, 3) := by decide +kernel
theorem dX8_init_30 : decode cX8_init 30 = .ok (.aload_n 0, 1) := by decide +kernel
theorem dX8_init_31 : decode cX8_init 31 = .ok (.bipush 20, 2) := by decide +kernel
theorem dX8_init_33 : decode cX8_init 33 = .ok (.newarray .int, 2) := by decide +kernel
theorem dX8_init_35 : decode cX8_init 35 = .ok (.putfield 19, 3) := by decide +kernel
theorem dX8_init_38 : decode cX8_init 38 = .ok (.aload_n 0, 1) := by decide +kernel
theorem dX8_init_39 : decode cX8_init 39 = .ok (.bipush 6, 2) := by decide +kernel
theorem dX8_init_41 : decode cX8_init 41 = .ok (.newarray .int, 2) := by decide +kernel
theorem dX8_init_43 : decode cX8_init 43 = .ok (.putfield 22, 3) := by decide +kernel
theorem dX8_init_46 : decode cX8_init 46 = .ok (.aload_n 0, 1) := by decide +kernel
theorem dX8_init_47 : decode cX8_init 47 = .ok (.bipush 64, 2) := by decide +kernel
theorem dX8_init_49 : decode cX8_init 49 = .ok (.newarray .long, 2) := by decide +kernel
theorem dX8_init_51 : decode cX8_init 51 = .ok (.putfield 25, 3) := by decide +kernel
theorem dX8_init_54 : decode cX8_init 54 = .ok (.aload_n 0, 1) := by decide +kernel
theorem dX8_init_55 : decode cX8_init 55 = .ok (.bipush 8, 2) := by decide +kernel
theorem dX8_init_57 : decode cX8_init 57 = .ok (.newarray .int, 2) := by decide +kernel
theorem dX8_init_59 : decode cX8_init 59 = .ok (.putfield 29, 3) := by decide +kernel
theorem dX8_init_62 : decode cX8_init 62 = .ok (.aload_n 0, 1) := by decide +kernel
theorem dX8_init_63 : decode cX8_init 63 = .ok (.bipush 12, 2) := by decide +kernel
theorem dX8_init_65 : decode cX8_init 65 = .ok (.newarray .int, 2) := by decide +kernel
theorem dX8_init_67 : decode cX8_init 67 = .ok (.putfield 32, 3) := by decide +kernel
theorem dX8_init_70 : decode cX8_init 70 = .ok (.aload_n 0, 1) := by decide +kernel
theorem dX8_init_71 : decode cX8_init 71 = .ok (.bipush 12, 2) := by decide +kernel
theorem dX8_init_73 : decode cX8_init 73 = .ok (.newarray .int, 2) := by decide +kernel
theorem dX8_init_75 : decode cX8_init 75 = .ok (.putfield 35, 3) := by decide +kernel
theorem dX8_init_78 : decode cX8_init 78 = .ok (.aload_n 0, 1) := by decide +kernel
theorem dX8_init_79 : decode cX8_init 79 = .ok (.bipush 64, 2) := by decide +kernel
theorem dX8_init_81 : decode cX8_init 81 = .ok (.newarray .long, 2) := by decide +kernel
theorem dX8_init_83 : decode cX8_init 83 = .ok (.putfield 38, 3) := by decide +kernel
theorem dX8_init_86 : decode cX8_init 86 = .ok (.aload_n 0, 1) := by decide +kernel
theorem dX8_init_87 : decode cX8_init 87 = .ok (.bipush 120, 2) := by decide +kernel
theorem dX8_init_89 : decode cX8_init 89 = .ok (.newarray .int, 2) := by decide +kernel
theorem dX8_init_91 : decode cX8_init 91 = .ok (.putfield 41, 3) := by decide +kernel
theorem dX8_init_94 : decode cX8_init 94 = .ok (.aload_n 0, 1) := by decide +kernel
theorem dX8_init_95 : decode cX8_init 95 = .ok (.bipush 6, 2) := by decide +kernel
theorem dX8_init_97 : decode cX8_init 97 = .ok (.anewarray 44, 3) := by decide +kernel
theorem dX8_init_100 : decode cX8_init 100 = .ok (.dup, 1) := by decide +kernel
theorem dX8_init_101 : decode cX8_init 101 = .ok (.iconst 0, 1) := by decide +kernel
theorem dX8_init_102 : decode cX8_init 102 = .ok (.ldc 46, 2) := by decide +kernel
theorem dX8_init_104 : decode cX8_init 104 = .ok (.aastore, 1) := by decide +kernel
theorem dX8_init_105 : decode cX8_init 105 = .ok (.dup, 1) := by decide +kernel
theorem dX8_init_106 : decode cX8_init 106 = .ok (.iconst 1, 1) := by decide +kernel
theorem dX8_init_107 : decode cX8_init 107 = .ok (.ldc 48, 2) := by decide +kernel
theorem dX8_init_109 : decode cX8_init 109 = .ok (.aastore, 1) := by decide +kernel
theorem dX8_init_110 : decode cX8_init 110 = .ok (.dup, 1) := by decide +kernel
theorem dX8_init_111 : decode cX8_init 111 = .ok (.iconst 2, 1) := by decide +kernel
theorem dX8_init_112 : decode cX8_init 112 = .ok (.ldc 50, 2) := by decide +kernel
theorem dX8_init_114 : decode cX8_init 114 = .ok (.aastore, 1) := by decide +kernel
theorem dX8_init_115 : decode cX8_init 115 = .ok (.dup, 1) := by decide +kernel
theorem dX8_init_116 : decode cX8_init 116 = .ok (.iconst 3, 1) := by decide +kernel
theorem dX8_init_117 : decode cX8_init 117 = .ok (.ldc 52, 2) := by decide +kernel
theorem dX8_init_119 : decode cX8_init 119 = .ok (.aastore, 1) := by decide +kernel
theorem dX8_init_120 : decode cX8_init 120 = .ok (.dup, 1) := by decide +kernel
theorem dX8_init_121 : decode cX8_init 121 = .ok (.iconst 4, 1) := by decide +kernel
theorem dX8_init_122 : decode cX8_init 122 = .ok (.ldc 54, 2) := by decide +kernel
theorem dX8_init_124 : decode cX8_init 124 = .ok (.aastore, 1) := by decide +kernel
theorem dX8_init_125 : decode cX8_init 125 = .ok (.dup, 1) := by decide +kernel
theorem dX8_init_126 : decode cX8_init 126 = .ok (.iconst 5, 1) := by decide +kernel
theorem dX8_init_127 : decode cX8_init 127 = .ok (.ldc 56, 2) := by decide +kernel
theorem dX8_init_129 : decode cX8_init 129 = .ok (.aastore, 1) := by decide +kernel
theorem dX8_init_130 : decode cX8_init 130 = .ok (.putfield 58, 3) := by decide +kernel
theorem dX8_init_133 : decode cX8_init 133 = .ok (.aload_n 0, 1) := by decide +kernel
theorem dX8_init_134 : decode cX8_init 134 = .ok (.sipush 720, 3) := by decide +kernel
theorem dX8_init_137 : decode cX8_init 137 = .ok (.newarray .int, 2) := by decide +kernel
theorem dX8_init_139 : decode cX8_init 139 = .ok (.putfield 62, 3) := by decide +kernel
theorem dX8_init_142 : decode cX8_init 142 = .ok (.aload_n 0, 1) := by decide +kernel
theorem dX8_init_143 : decode cX8_init 143 = .ok (.iconst 4, 1) := by decide +kernel
theorem dX8_init_144 : decode cX8_init 144 = .ok (.newarray .int, 2) := by decide +kernel
theorem dX8_init_146 : decode cX8_init 146 = .ok (.putfield 65, 3) := by decide +kernel
theorem dX8_init_149 : decode cX8_init 149 = .ok (.aload_n 0, 1) := by decide +kernel
theorem dX8_init_150 : decode cX8_init 150 = .ok (.iconst 4, 1) := by decide +kernel
theorem dX8_init_151 : decode cX8_init 151 = .ok (.newarray .int, 2) := by decide +kernel
theorem dX8_init_153 : decode cX8_init 153 = .ok (.putfield 68, 3) := by decide +kernel
theorem dX8_init_156 : decode cX8_init 156 = .ok (.aload_n 0, 1) := by decide +kernel
theorem dX8_init_157 : decode cX8_init 157 = .ok (.sipush 160, 3) := by decide +kernel
theorem dX8_init_160 : decode cX8_init 160 = .ok (.newarray .long, 2) := by decide +kernel
theorem dX8_init_162 : decode cX8_init 162 = .ok (.putfield 71, 3) := by decide +kernel
theorem dX8_init_165 : decode cX8_init 165 = .ok (.aload_n 0, 1) := by decide +kernel
theorem dX8_init_166 : decode cX8_init 166 = .ok (.bipush 40, 2) := by decide +kernel
theorem dX8_init_168 : decode cX8_init 168 = .ok (.newarray .long, 2) := by decide +kernel
theorem dX8_init_170 : decode cX8_init 170 = .ok (.putfield 74, 3) := by decide +kernel
theorem dX8_init_173 : decode cX8_init 173 = .ok (.aload_n 0, 1) := by decide +kernel
theorem dX8_init_174 : decode cX8_init 174 = .ok (.getfield 9, 3) := by decide +kernel
theorem dX8_init_177 : decode cX8_init 177 = .ok (.iconst 0, 1) := by decide +kernel
theorem dX8_init_178 : decode cX8_init 178 = .ok (.iconst 4, 1) := by decide +kernel
theorem dX8_init_179 : decode cX8_init 179 = .ok (.iastore, 1) := by decide +kernel
theorem dX8_init_180 : decode cX8_init 180 = .ok (.return_, 1) := by decide +kernel
theorem dX8_finding_0 : decode cX8_finding 0 = .ok (.aload_n 0, 1) := by decide +kernel
theorem dX8_finding_1 : decode cX8_finding 1 = .ok (.getfield 16, 3) := by decide +kernel
theorem dX8_finding_4 : decode cX8_finding 4 = .ok (.ldc 77, 2) := by decide +kernel
theorem dX8_finding_6 : decode cX8_finding 6 = .ok (.iload_n 1, 1) := by decide +kernel
theorem dX8_finding_7 : decode cX8_finding 7 = .ok (.isub, 1) := by decide +kernel
theorem dX8_finding_8 : decode cX8_finding 8 = .ok (.iconst 1, 1) := by decide +kernel
theorem dX8_finding_9 : decode cX8_finding 9 = .ok (.iadd, 1) := by decide +kernel
theorem dX8_finding_10 : decode cX8_finding 10 = .ok (.dup2, 1) := by decide +kernel
theorem dX8_finding_11 : decode cX8_finding 11 = .ok (.iaload, 1) := by decide +kernel
theorem dX8_finding_12 : decode cX8_finding 12 = .ok (.iconst 1, 1) := by decide +kernel
theorem dX8_finding_13 : decode cX8_finding 13 = .ok (.iadd, 1) := by decide +kernel
theorem dX8_finding_14 : decode cX8_finding 14 = .ok (.iastore, 1) := by decide +kernel
theorem dX8_finding_15 : decode cX8_finding 15 = .ok (.aload_n 0, 1) := by decide +kernel
theorem dX8_finding_16 : decode cX8_finding 16 = .ok (.getfield 16, 3) := by decide +kernel
theorem dX8_finding_19 : decode cX8_finding 19 = .ok (.iconst 0, 1) := by decide +kernel
theorem dX8_finding_20 : decode cX8_finding 20 = .ok (.dup2, 1) := by decide +kernel
theorem dX8_finding_21 : decode cX8_finding 21 = .ok (.iaload, 1) := by decide +kernel
theorem dX8_finding_22 : decode cX8_finding 22 = .ok (.iconst 1, 1) := by decide +kernel
theorem dX8_finding_23 : decode cX8_finding 23 = .ok (.iadd, 1) := by decide +kernel
theorem dX8_finding_24 : decode cX8_finding 24 = .ok (.iastore, 1) := by decide +kernel
theorem dX8_finding_25 : decode cX8_finding 25 = .ok (.iload_n 1, 1) := by decide +kernel
theorem dX8_finding_26 : decode cX8_finding 26 = .ok (.ireturn, 1) := by decide +kernel
theorem dX8_within_0 : decode cX8_within 0 = .ok (.iload_n 0, 1) := by decide +kernel
theorem dX8_within_1 : decode cX8_within 1 = .ok (.iload_n 1, 1) := by decide +kernel
theorem dX8_within_2 : decode cX8_within 2 = .ok (.if_icmp .lt 12, 3) := by decide +kernel
theorem dX8_within_5 : decode cX8_within 5 = .ok (.iload_n 0, 1) := by decide +kernel
theorem dX8_within_6 : decode cX8_within 6 = .ok (.iload_n 2, 1) := by decide +kernel
theorem dX8_within_7 : decode cX8_within 7 = .ok (.if_icmp .gt 7, 3) := by decide +kernel
theorem dX8_within_10 : decode cX8_within 10 = .ok (.iconst 1, 1) := by decide +kernel
theorem dX8_within_11 : decode cX8_within 11 = .ok (.goto 4, 3) := by decide +kernel
theorem dX8_within_14 : decode cX8_within 14 = .ok (.iconst 0, 1) := by decide +kernel
theorem dX8_within_15 : decode cX8_within 15 = .ok (.ireturn, 1) := by decide +kernel
theorem dX8_become_0 : decode cX8_become 0 = .ok (.aload_n 0, 1) := by decide +kernel
theorem dX8_become_1 : decode cX8_become 1 = .ok (.getfield 9, 3) := by decide +kernel
theorem dX8_become_4 : decode cX8_become 4 = .ok (.iload_n 1, 1) := by decide +kernel
theorem dX8_become_5 : decode cX8_become 5 = .ok (.iaload, 1) := by decide +kernel
theorem dX8_become_6 : decode cX8_become 6 = .ok (.istore_n 3, 1) := by decide +kernel
theorem dX8_become_7 : decode cX8_become 7 = .ok (.aload_n 0, 1) := by decide +kernel
theorem dX8_become_8 : decode cX8_become 8 = .ok (.getfield 9, 3) := by decide +kernel
theorem dX8_become_11 : decode cX8_become 11 = .ok (.iload_n 1, 1) := by decide +kernel
theorem dX8_become_12 : decode cX8_become 12 = .ok (.iload_n 2, 1) := by decide +kernel
theorem dX8_become_13 : decode cX8_become 13 = .ok (.iastore, 1) := by decide +kernel
theorem dX8_become_14 : decode cX8_become 14 = .ok (.iload_n 3, 1) := by decide +kernel
theorem dX8_become_15 : decode cX8_become 15 = .ok (.ireturn, 1) := by decide +kernel
theorem dX8_copyRow_0 : decode cX8_copyRow 0 = .ok (.iconst 0, 1) := by decide +kernel
theorem dX8_copyRow_1 : decode cX8_copyRow 1 = .ok (.istore_n 2, 1) := by decide +kernel
theorem dX8_copyRow_2 : decode cX8_copyRow 2 = .ok (.iload_n 2, 1) := by decide +kernel
theorem dX8_copyRow_3 : decode cX8_copyRow 3 = .ok (.sipush 186, 3) := by decide +kernel
theorem dX8_copyRow_6 : decode cX8_copyRow 6 = .ok (.if_icmp .ge 15, 3) := by decide +kernel
theorem dX8_copyRow_9 : decode cX8_copyRow 9 = .ok (.aload_n 1, 1) := by decide +kernel
theorem dX8_copyRow_10 : decode cX8_copyRow 10 = .ok (.iload_n 2, 1) := by decide +kernel
theorem dX8_copyRow_11 : decode cX8_copyRow 11 = .ok (.aload_n 0, 1) := by decide +kernel
theorem dX8_copyRow_12 : decode cX8_copyRow 12 = .ok (.iload_n 2, 1) := by decide +kernel
theorem dX8_copyRow_13 : decode cX8_copyRow 13 = .ok (.iaload, 1) := by decide +kernel
theorem dX8_copyRow_14 : decode cX8_copyRow 14 = .ok (.iastore, 1) := by decide +kernel
theorem dX8_copyRow_15 : decode cX8_copyRow 15 = .ok (.iinc 2 1, 3) := by decide +kernel
theorem dX8_copyRow_18 : decode cX8_copyRow 18 = .ok (.goto (-16), 3) := by decide +kernel
theorem dX8_copyRow_21 : decode cX8_copyRow 21 = .ok (.return_, 1) := by decide +kernel
set_option maxRecDepth 20000 in
theorem ggX8_isOne_X8_within : GoodIn wsX8_isOne wsX8_within := goodIn_r _ [5] (by decide +kernel) (by decide +kernel)
set_option maxRecDepth 20000 in
theorem gX8_isOne_X8_within : GoodIn wsX8_isOne (va_wsS RX8 78 yX8_within wsX8_within) := goodIn_app (goodIn_of _ (by decide +kernel)) ggX8_isOne_X8_within
theorem dX8_isOne_0 : decode cX8_isOne 0 = .ok (.iload_n 1, 1) := by decide +kernel
theorem dX8_isOne_1 : decode cX8_isOne 1 = .ok (.iconst 0, 1) := by decide +kernel
theorem dX8_isOne_2 : decode cX8_isOne 2 = .ok (.aload_n 0, 1) := by decide +kernel
theorem dX8_isOne_3 : decode cX8_isOne 3 = .ok (.getfield 9, 3) := by decide +kernel
theorem dX8_isOne_6 : decode cX8_isOne 6 = .ok (.iconst 0, 1) := by decide +kernel
theorem dX8_isOne_7 : decode cX8_isOne 7 = .ok (.iaload, 1) := by decide +kernel
theorem dX8_isOne_8 : decode cX8_isOne 8 = .ok (.iconst 1, 1) := by decide +kernel
theorem dX8_isOne_9 : decode cX8_isOne 9 = .ok (.isub, 1) := by decide +kernel
theorem dX8_isOne_10 : decode cX8_isOne 10 = .ok (.invokestatic 78, 3) := by decide +kernel
theorem dX8_isOne_13 : decode cX8_isOne 13 = .ok (.ireturn, 1) := by decide +kernel
set_option maxRecDepth 20000 in
theorem ggX8_isHour_X8_within : GoodIn wsX8_isHour wsX8_within := goodIn_r _ [4] (by decide +kernel) (by decide +kernel)
set_option maxRecDepth 20000 in
theorem gX8_isHour_X8_within : GoodIn wsX8_isHour (va_wsS RX8 78 yX8_within wsX8_within) := goodIn_app (goodIn_of _ (by decide +kernel)) ggX8_isHour_X8_within
theorem dX8_isHour_0 : decode cX8_isHour 0 = .ok (.iload_n 0, 1) := by decide +kernel
theorem dX8_isHour_1 : decode cX8_isHour 1 = .ok (.iconst 0, 1) := by decide +kernel
theorem dX8_isHour_2 : decode cX8_isHour 2 = .ok (.bipush 99, 2) := by decide +kernel
theorem dX8_isHour_4 : decode cX8_isHour 4 = .ok (.invokestatic 78, 3) := by decide +kernel
theorem dX8_isHour_7 : decode cX8_isHour 7 = .ok (.ireturn, 1) := by decide +kernel
set_option maxRecDepth 20000 in
theorem ggX8_areTwo_X8_isOne : GoodIn wsX8_areTwo wsX8_isOne := goodIn_r _ [5, 6, 7, 8, 4, 9, 10, 11, 12, 13, 14, 15, 16, 17, 18, 19, 20, 21, 22, 23, 24, 25, 26, 27, 28, 29, 30, 31, 32, 33, 34, 35, 36, 37, 38, 39, 40, 41] (by decide +kernel) (by decide +kernel)
set_option maxRecDepth 20000 in
theorem gX8_areTwo_X8_isOne : GoodIn wsX8_areTwo (wsV RX8 82 RX8 yX8_isOne wsX8_isOne) := goodIn_app (goodIn_of _ (by decide +kernel)) ggX8_areTwo_X8_isOne
theorem dX8_areTwo_0 : decode cX8_areTwo 0 = .ok (.aload_n 0, 1) := by decide +kernel
theorem dX8_areTwo_1 : decode cX8_areTwo 1 = .ok (.iload_n 1, 1) := by decide +kernel
theorem dX8_areTwo_2 : decode cX8_areTwo 2 = .ok (.invokevirtual 82, 3) := by decide +kernel
theorem dX8_areTwo_5 : decode cX8_areTwo 5 = .ok (.ifCond .eq 20, 3) := by decide +kernel
theorem dX8_areTwo_8 : decode cX8_areTwo 8 = .ok (.aload_n 0, 1) := by decide +kernel
theorem dX8_areTwo_9 : decode cX8_areTwo 9 = .ok (.iload_n 2, 1) := by decide +kernel
theorem dX8_areTwo_10 : decode cX8_areTwo 10 = .ok (.invokevirtual 82, 3) := by decide +kernel
theorem dX8_areTwo_13 : decode cX8_areTwo 13 = .ok (.ifCond .eq 12, 3) := by decide +kernel
theorem dX8_areTwo_16 : decode cX8_areTwo 16 = .ok (.iload_n 1, 1) := by decide +kernel
theorem dX8_areTwo_17 : decode cX8_areTwo 17 = .ok (.iload_n 2, 1) := by decide +kernel
theorem dX8_areTwo_18 : decode cX8_areTwo 18 = .ok (.if_icmp .eq 7, 3) := by decide +kernel
theorem dX8_areTwo_21 : decode cX8_areTwo 21 = .ok (.iconst 1, 1) := by decide +kernel
theorem dX8_areTwo_22 : decode cX8_areTwo 22 = .ok (.goto 4, 3) := by decide +kernel
theorem dX8_areTwo_25 : decode cX8_areTwo 25 = .ok (.iconst 0, 1) := by decide +kernel
theorem dX8_areTwo_26 : decode cX8_areTwo 26 = .ok (.ireturn, 1) := by decide +kernel
set_option maxRecDepth 20000 in
theorem ggX8_people_X8_within : GoodIn wsX8_people wsX8_within := goodIn_r _ [7] (by decide +kernel) (by decide +kernel)
set_option maxRecDepth 20000 in
theorem gX8_people_X8_within : GoodIn wsX8_people (va_wsS RX8 78 yX8_within wsX8_within) := goodIn_app (goodIn_of _ (by decide +kernel)) ggX8_people_X8_within
set_option maxRecDepth 20000 in
theorem ggX8_people_X8_finding : GoodIn wsX8_people wsX8_finding := goodIn_r _ [11, 12, 1, 17, 18, 19, 20, 21, 22, 23, 24, 25, 26, 27, 28, 29, 30, 31, 32, 33, 34, 35, 36, 37, 38, 39, 40, 41, 42, 43, 44, 45, 46, 47, 48] (by decide +kernel) (by decide +kernel)
set_option maxRecDepth 20000 in
theorem gX8_people_X8_finding : GoodIn wsX8_people (wsV RX8 86 RX8 yX8_finding wsX8_finding) := goodIn_app (goodIn_of _ (by decide +kernel)) ggX8_people_X8_finding
set_option maxRecDepth 20000 in
theorem ggX8_people_X8_become : GoodIn wsX8_people wsX8_become := goodIn_r _ [16, 2, 17, 18, 19, 20, 21, 22, 23, 24, 25, 26, 27, 28, 29, 30, 31, 32, 33, 34, 35, 36, 37, 38, 39, 40, 41, 42, 43, 44, 45, 46, 47, 48] (by decide +kernel) (by decide +kernel)
set_option maxRecDepth 20000 in
theorem gX8_people_X8_become : GoodIn wsX8_people (wsV RX8 91 RX8 yX8_become wsX8_become) := goodIn_app (goodIn_of _ (by decide +kernel)) ggX8_people_X8_become
theorem dX8_people_0 : decode cX8_people 0 = .ok (.iload_n 1, 1) := by decide +kernel
theorem dX8_people_1 : decode cX8_people 1 = .ok (.iconst 2, 1) := by decide +kernel
theorem dX8_people_2 : decode cX8_people 2 = .ok (.bipush 8, 2) := by decide +kernel
theorem dX8_people_4 : decode cX8_people 4 = .ok (.invokestatic 78, 3) := by decide +kernel
theorem dX8_people_7 : decode cX8_people 7 = .ok (.ifCond .ne 10, 3) := by decide +kernel
theorem dX8_people_10 : decode cX8_people 10 = .ok (.aload_n 0, 1) := by decide +kernel
theorem dX8_people_11 : decode cX8_people 11 = .ok (.ldc 77, 2) := by decide +kernel
theorem dX8_people_13 : decode cX8_people 13 = .ok (.invokevirtual 86, 3) := by decide +kernel
theorem dX8_people_16 : decode cX8_people 16 = .ok (.ireturn, 1) := by decide +kernel
theorem dX8_people_17 : decode cX8_people 17 = .ok (.aload_n 0, 1) := by decide +kernel
theorem dX8_people_18 : decode cX8_people 18 = .ok (.getfield 9, 3) := by decide +kernel
theorem dX8_people_21 : decode cX8_people 21 = .ok (.iconst 3, 1) := by decide +kernel
theorem dX8_people_22 : decode cX8_people 22 = .ok (.iaload, 1) := by decide +kernel
theorem dX8_people_23 : decode cX8_people 23 = .ok (.aload_n 0, 1) := by decide +kernel
theorem dX8_people_24 : decode cX8_people 24 = .ok (.getfield 9, 3) := by decide +kernel
theorem dX8_people_27 : decode cX8_people 27 = .ok (.iconst 4, 1) := by decide +kernel
theorem dX8_people_28 : decode cX8_people 28 = .ok (.iaload, 1) := by decide +kernel
theorem dX8_people_29 : decode cX8_people 29 = .ok (.iadd, 1) := by decide +kernel
theorem dX8_people_30 : decode cX8_people 30 = .ok (.aload_n 0, 1) := by decide +kernel
theorem dX8_people_31 : decode cX8_people 31 = .ok (.getfield 9, 3) := by decide +kernel
theorem dX8_people_34 : decode cX8_people 34 = .ok (.iconst 5, 1) := by decide +kernel
theorem dX8_people_35 : decode cX8_people 35 = .ok (.iaload, 1) := by decide +kernel
theorem dX8_people_36 : decode cX8_people 36 = .ok (.iadd, 1) := by decide +kernel
theorem dX8_people_37 : decode cX8_people 37 = .ok (.ifCond .le 12, 3) := by decide +kernel
theorem dX8_people_40 : decode cX8_people 40 = .ok (.aload_n 0, 1) := by decide +kernel
theorem dX8_people_41 : decode cX8_people 41 = .ok (.ldc 90, 2) := by decide +kernel
theorem dX8_people_43 : decode cX8_people 43 = .ok (.invokevirtual 86, 3) := by decide +kernel
theorem dX8_people_46 : decode cX8_people 46 = .ok (.goto 9, 3) := by decide +kernel
theorem dX8_people_49 : decode cX8_people 49 = .ok (.aload_n 0, 1) := by decide +kernel
theorem dX8_people_50 : decode cX8_people 50 = .ok (.iconst 0, 1) := by decide +kernel
theorem dX8_people_51 : decode cX8_people 51 = .ok (.iload_n 1, 1) := by decide +kernel
theorem dX8_people_52 : decode cX8_people 52 = .ok (.invokevirtual 91, 3) := by decide +kernel
theorem dX8_people_55 : decode cX8_people 55 = .ok (.ireturn, 1) := by decide +kernel
theorem dX8_bowIs_0 : decode cX8_bowIs 0 = .ok (.aload_n 0, 1) := by decide +kernel
theorem dX8_bowIs_1 : decode cX8_bowIs 1 = .ok (.getfield 9, 3) := by decide +kernel
theorem dX8_bowIs_4 : decode cX8_bowIs 4 = .ok (.bipush 6, 2) := by decide +kernel
theorem dX8_bowIs_6 : decode cX8_bowIs 6 = .ok (.iconst 4, 1) := by decide +kernel
theorem dX8_bowIs_7 : decode cX8_bowIs 7 = .ok (.iload_n 1, 1) := by decide +kernel
theorem dX8_bowIs_8 : decode cX8_bowIs 8 = .ok (.imul, 1) := by decide +kernel
theorem dX8_bowIs_9 : decode cX8_bowIs 9 = .ok (.iadd, 1) := by decide +kernel
theorem dX8_bowIs_10 : decode cX8_bowIs 10 = .ok (.iload_n 2, 1) := by decide +kernel
theorem dX8_bowIs_11 : decode cX8_bowIs 11 = .ok (.iadd, 1) := by decide +kernel
theorem dX8_bowIs_12 : decode cX8_bowIs 12 = .ok (.iaload, 1) := by decide +kernel
theorem dX8_bowIs_13 : decode cX8_bowIs 13 = .ok (.ireturn, 1) := by decide +kernel
set_option maxRecDepth 20000 in
theorem ggX8_isBow_X8_within : GoodIn wsX8_isBow wsX8_within := goodIn_r _ [5] (by decide +kernel) (by decide +kernel)
set_option maxRecDepth 20000 in
theorem gX8_isBow_X8_within : GoodIn wsX8_isBow (va_wsS RX8 78 yX8_within wsX8_within) := goodIn_app (goodIn_of _ (by decide +kernel)) ggX8_isBow_X8_within
theorem dX8_isBow_0 : decode cX8_isBow 0 = .ok (.iload_n 1, 1) := by decide +kernel
theorem dX8_isBow_1 : decode cX8_isBow 1 = .ok (.iconst 0, 1) := by decide +kernel
theorem dX8_isBow_2 : decode cX8_isBow 2 = .ok (.aload_n 0, 1) := by decide +kernel
theorem dX8_isBow_3 : decode cX8_isBow 3 = .ok (.getfield 9, 3) := by decide +kernel
theorem dX8_isBow_6 : decode cX8_isBow 6 = .ok (.iconst 3, 1) := by decide +kernel
theorem dX8_isBow_7 : decode cX8_isBow 7 = .ok (.iaload, 1) := by decide +kernel
theorem dX8_isBow_8 : decode cX8_isBow 8 = .ok (.iconst 1, 1) := by decide +kernel
theorem dX8_isBow_9 : decode cX8_isBow 9 = .ok (.isub, 1) := by decide +kernel
theorem dX8_isBow_10 : decode cX8_isBow 10 = .ok (.invokestatic 78, 3) := by decide +kernel
theorem dX8_isBow_13 : decode cX8_isBow 13 = .ok (.ireturn, 1) := by decide +kernel
set_option maxRecDepth 20000 in
theorem ggX8_doubtedOnes_X8_bowIs : GoodIn wsX8_doubtedOnes wsX8_bowIs := goodIn_r _ [6, 1, 7, 8, 9, 10, 11, 12, 13, 14, 15, 16, 17, 18, 19, 20, 21, 22, 23, 24, 25, 26, 27, 28, 29, 30, 31, 32, 33, 34, 35, 36, 37, 38] (by decide +kernel) (by decide +kernel)
set_option maxRecDepth 20000 in
theorem gX8_doubtedOnes_X8_bowIs : GoodIn wsX8_doubtedOnes (wsV RX8 95 RX8 yX8_bowIs wsX8_bowIs) := goodIn_app (goodIn_of _ (by decide +kernel)) ggX8_doubtedOnes_X8_bowIs
theorem dX8_doubtedOnes_0 : decode cX8_doubtedOnes 0 = .ok (.iconst 0, 1) := by decide +kernel
theorem dX8_doubtedOnes_1 : decode cX8_doubtedOnes 1 = .ok (.istore_n 1, 1) := by decide +kernel
theorem dX8_doubtedOnes_2 : decode cX8_doubtedOnes 2 = .ok (.iconst 0, 1) := by decide +kernel
theorem dX8_doubtedOnes_3 : decode cX8_doubtedOnes 3 = .ok (.istore_n 2, 1) := by decide +kernel
theorem dX8_doubtedOnes_4 : decode cX8_doubtedOnes 4 = .ok (.iload_n 2, 1) := by decide +kernel
theorem dX8_doubtedOnes_5 : decode cX8_doubtedOnes 5 = .ok (.aload_n 0, 1) := by decide +kernel
theorem dX8_doubtedOnes_6 : decode cX8_doubtedOnes 6 = .ok (.getfield 9, 3) := by decide +kernel
theorem dX8_doubtedOnes_9 : decode cX8_doubtedOnes 9 = .ok (.iconst 3, 1) := by decide +kernel
theorem dX8_doubtedOnes_10 : decode cX8_doubtedOnes 10 = .ok (.iaload, 1) := by decide +kernel
theorem dX8_doubtedOnes_11 : decode cX8_doubtedOnes 11 = .ok (.if_icmp .ge 28, 3) := by decide +kernel
theorem dX8_doubtedOnes_14 : decode cX8_doubtedOnes 14 = .ok (.iload_n 1, 1) := by decide +kernel
theorem dX8_doubtedOnes_15 : decode cX8_doubtedOnes 15 = .ok (.aload_n 0, 1) := by decide +kernel
theorem dX8_doubtedOnes_16 : decode cX8_doubtedOnes 16 = .ok (.iload_n 2, 1) := by decide +kernel
theorem dX8_doubtedOnes_17 : decode cX8_doubtedOnes 17 = .ok (.iconst 3, 1) := by decide +kernel
theorem dX8_doubtedOnes_18 : decode cX8_doubtedOnes 18 = .ok (.invokevirtual 95, 3) := by decide +kernel
theorem dX8_doubtedOnes_21 : decode cX8_doubtedOnes 21 = .ok (.bipush 10, 2) := by decide +kernel
theorem dX8_doubtedOnes_23 : decode cX8_doubtedOnes 23 = .ok (.if_icmp .ge 7, 3) := by decide +kernel
theorem dX8_doubtedOnes_26 : decode cX8_doubtedOnes 26 = .ok (.iconst 1, 1) := by decide +kernel
theorem dX8_doubtedOnes_27 : decode cX8_doubtedOnes 27 = .ok (.goto 4, 3) := by decide +kernel
theorem dX8_doubtedOnes_30 : decode cX8_doubtedOnes 30 = .ok (.iconst 0, 1) := by decide +kernel
theorem dX8_doubtedOnes_31 : decode cX8_doubtedOnes 31 = .ok (.iadd, 1) := by decide +kernel
theorem dX8_doubtedOnes_32 : decode cX8_doubtedOnes 32 = .ok (.istore_n 1, 1) := by decide +kernel
theorem dX8_doubtedOnes_33 : decode cX8_doubtedOnes 33 = .ok (.iinc 2 1, 3) := by decide +kernel
theorem dX8_doubtedOnes_36 : decode cX8_doubtedOnes 36 = .ok (.goto (-32), 3) := by decide +kernel
theorem dX8_doubtedOnes_39 : decode cX8_doubtedOnes 39 = .ok (.iload_n 1, 1) := by decide +kernel
theorem dX8_doubtedOnes_40 : decode cX8_doubtedOnes 40 = .ok (.ireturn, 1) := by decide +kernel
theorem dX8_bowed_0 : decode cX8_bowed 0 = .ok (.aload_n 0, 1) := by decide +kernel
theorem dX8_bowed_1 : decode cX8_bowed 1 = .ok (.getfield 9, 3) := by decide +kernel
theorem dX8_bowed_4 : decode cX8_bowed 4 = .ok (.iconst 3, 1) := by decide +kernel
theorem dX8_bowed_5 : decode cX8_bowed 5 = .ok (.iaload, 1) := by decide +kernel
theorem dX8_bowed_6 : decode cX8_bowed 6 = .ok (.istore 5, 2) := by decide +kernel
theorem dX8_bowed_8 : decode cX8_bowed 8 = .ok (.bipush 6, 2) := by decide +kernel
theorem dX8_bowed_10 : decode cX8_bowed 10 = .ok (.iconst 4, 1) := by decide +kernel
theorem dX8_bowed_11 : decode cX8_bowed 11 = .ok (.iload 5, 2) := by decide +kernel
theorem dX8_bowed_13 : decode cX8_bowed 13 = .ok (.imul, 1) := by decide +kernel
theorem dX8_bowed_14 : decode cX8_bowed 14 = .ok (.iadd, 1) := by decide +kernel
theorem dX8_bowed_15 : decode cX8_bowed 15 = .ok (.istore 6, 2) := by decide +kernel
theorem dX8_bowed_17 : decode cX8_bowed 17 = .ok (.aload_n 0, 1) := by decide +kernel
theorem dX8_bowed_18 : decode cX8_bowed 18 = .ok (.getfield 9, 3) := by decide +kernel
theorem dX8_bowed_21 : decode cX8_bowed 21 = .ok (.iload 6, 2) := by decide +kernel
theorem dX8_bowed_23 : decode cX8_bowed 23 = .ok (.iconst 0, 1) := by decide +kernel
theorem dX8_bowed_24 : decode cX8_bowed 24 = .ok (.iadd, 1) := by decide +kernel
theorem dX8_bowed_25 : decode cX8_bowed 25 = .ok (.iload_n 1, 1) := by decide +kernel
theorem dX8_bowed_26 : decode cX8_bowed 26 = .ok (.iastore, 1) := by decide +kernel
theorem dX8_bowed_27 : decode cX8_bowed 27 = .ok (.aload_n 0, 1) := by decide +kernel
theorem dX8_bowed_28 : decode cX8_bowed 28 = .ok (.getfield 9, 3) := by decide +kernel
theorem dX8_bowed_31 : decode cX8_bowed 31 = .ok (.iload 6, 2) := by decide +kernel
theorem dX8_bowed_33 : decode cX8_bowed 33 = .ok (.iconst 1, 1) := by decide +kernel
theorem dX8_bowed_34 : decode cX8_bowed 34 = .ok (.iadd, 1) := by decide +kernel
theorem dX8_bowed_35 : decode cX8_bowed 35 = .ok (.iload_n 2, 1) := by decide +kernel
theorem dX8_bowed_36 : decode cX8_bowed 36 = .ok (.iastore, 1) := by decide +kernel
theorem dX8_bowed_37 : decode cX8_bowed 37 = .ok (.aload_n 0, 1) := by decide +kernel
theorem dX8_bowed_38 : decode cX8_bowed 38 = .ok (.getfield 9, 3) := by decide +kernel
theorem dX8_bowed_41 : decode cX8_bowed 41 = .ok (.iload 6, 2) := by decide +kernel
theorem dX8_bowed_43 : decode cX8_bowed 43 = .ok (.iconst 2, 1) := by decide +kernel
theorem dX8_bowed_44 : decode cX8_bowed 44 = .ok (.iadd, 1) := by decide +kernel
theorem dX8_bowed_45 : decode cX8_bowed 45 = .ok (.iload_n 3, 1) := by decide +kernel
theorem dX8_bowed_46 : decode cX8_bowed 46 = .ok (.iastore, 1) := by decide +kernel
theorem dX8_bowed_47 : decode cX8_bowed 47 = .ok (.aload_n 0, 1) := by decide +kernel
theorem dX8_bowed_48 : decode cX8_bowed 48 = .ok (.getfield 9, 3) := by decide +kernel
theorem dX8_bowed_51 : decode cX8_bowed 51 = .ok (.iload 6, 2) := by decide +kernel
theorem dX8_bowed_53 : decode cX8_bowed 53 = .ok (.iconst 3, 1) := by decide +kernel
theorem dX8_bowed_54 : decode cX8_bowed 54 = .ok (.iadd, 1) := by decide +kernel
theorem dX8_bowed_55 : decode cX8_bowed 55 = .ok (.iload 4, 2) := by decide +kernel
theorem dX8_bowed_57 : decode cX8_bowed 57 = .ok (.iastore, 1) := by decide +kernel
theorem dX8_bowed_58 : decode cX8_bowed 58 = .ok (.aload_n 0, 1) := by decide +kernel
theorem dX8_bowed_59 : decode cX8_bowed 59 = .ok (.getfield 9, 3) := by decide +kernel
theorem dX8_bowed_62 : decode cX8_bowed 62 = .ok (.iconst 3, 1) := by decide +kernel
theorem dX8_bowed_63 : decode cX8_bowed 63 = .ok (.dup2, 1) := by decide +kernel
theorem dX8_bowed_64 : decode cX8_bowed 64 = .ok (.iaload, 1) := by decide +kernel
theorem dX8_bowed_65 : decode cX8_bowed 65 = .ok (.iconst 1, 1) := by decide +kernel
theorem dX8_bowed_66 : decode cX8_bowed 66 = .ok (.iadd, 1) := by decide +kernel
theorem dX8_bowed_67 : decode cX8_bowed 67 = .ok (.iastore, 1) := by decide +kernel
theorem dX8_bowed_68 : decode cX8_bowed 68 = .ok (.iload 5, 2) := by decide +kernel
theorem dX8_bowed_70 : decode cX8_bowed 70 = .ok (.ireturn, 1) := by decide +kernel
set_option maxRecDepth 20000 in
theorem ggX8_bow_X8_isHour : GoodIn wsX8_bow wsX8_isHour := goodIn_r _ [7, 8, 9, 6, 10] (by decide +kernel) (by decide +kernel)
set_option maxRecDepth 20000 in
theorem gX8_bow_X8_isHour : GoodIn wsX8_bow (va_wsS RX8 98 yX8_isHour wsX8_isHour) := goodIn_app (goodIn_of _ (by decide +kernel)) ggX8_bow_X8_isHour
set_option maxRecDepth 20000 in
theorem ggX8_bow_X8_areTwo : GoodIn wsX8_bow wsX8_areTwo := goodIn_r _ [14, 15, 16, 17, 6, 18, 2, 8, 9, 10, 36, 37, 38, 39, 40, 41, 42, 43, 44, 45, 46, 47, 48, 49, 50, 51, 52, 53, 54, 55, 56, 57, 58, 59, 60, 61, 62, 63, 64, 65, 66, 67] (by decide +kernel) (by decide +kernel)
set_option maxRecDepth 20000 in
theorem gX8_bow_X8_areTwo : GoodIn wsX8_bow (wsV RX8 101 RX8 yX8_areTwo wsX8_areTwo) := goodIn_app (goodIn_of _ (by decide +kernel)) ggX8_bow_X8_areTwo
set_option maxRecDepth 20000 in
theorem ggX8_bow_X8_within : GoodIn wsX8_bow wsX8_within := goodIn_r _ [10] (by decide +kernel) (by decide +kernel)
set_option maxRecDepth 20000 in
theorem gX8_bow_X8_within : GoodIn wsX8_bow (va_wsS RX8 78 yX8_within wsX8_within) := goodIn_app (goodIn_of _ (by decide +kernel)) ggX8_bow_X8_within
set_option maxRecDepth 20000 in
theorem ggX8_bow_X8_finding : GoodIn wsX8_bow wsX8_finding := goodIn_r _ [22, 23, 1, 36, 37, 38, 39, 40, 41, 42, 43, 44, 45, 46, 47, 48, 49, 50, 51, 52, 53, 54, 55, 56, 57, 58, 59, 60, 61, 62, 63, 64, 65, 66, 67] (by decide +kernel) (by decide +kernel)
set_option maxRecDepth 20000 in
theorem gX8_bow_X8_finding : GoodIn wsX8_bow (wsV RX8 86 RX8 yX8_finding wsX8_finding) := goodIn_app (goodIn_of _ (by decide +kernel)) ggX8_bow_X8_finding
set_option maxRecDepth 20000 in
theorem ggX8_bow_X8_doubtedOnes : GoodIn wsX8_bow wsX8_doubtedOnes := goodIn_r _ [27, 2, 28, 29, 30, 6, 31, 36, 37, 38, 39, 40, 41, 42, 43, 44, 45, 46, 47, 48, 49, 50, 51, 52, 53, 54, 55, 56, 57, 58, 59, 60, 61, 62, 63, 64, 65, 66, 67] (by decide +kernel) (by decide +kernel)
set_option maxRecDepth 20000 in
theorem gX8_bow_X8_doubtedOnes : GoodIn wsX8_bow (wsV RX8 105 RX8 yX8_doubtedOnes wsX8_doubtedOnes) := goodIn_app (goodIn_of _ (by decide +kernel)) ggX8_bow_X8_doubtedOnes
set_option maxRecDepth 20000 in
theorem ggX8_bow_X8_bowed : GoodIn wsX8_bow wsX8_bowed := goodIn_r _ [35, 2, 36, 37, 38, 39, 40, 41, 42, 43, 44, 45, 46, 47, 48, 49, 50, 51, 52, 53, 54, 55, 56, 57, 58, 59, 60, 61, 62, 63, 64, 65, 66, 67] (by decide +kernel) (by decide +kernel)
set_option maxRecDepth 20000 in
theorem gX8_bow_X8_bowed : GoodIn wsX8_bow (wsV RX8 110 RX8 yX8_bowed wsX8_bowed) := goodIn_app (goodIn_of _ (by decide +kernel)) ggX8_bow_X8_bowed
theorem dX8_bow_0 : decode cX8_bow 0 = .ok (.iload_n 1, 1) := by decide +kernel
theorem dX8_bow_1 : decode cX8_bow 1 = .ok (.invokestatic 98, 3) := by decide +kernel
theorem dX8_bow_4 : decode cX8_bow 4 = .ok (.ifCond .eq 23, 3) := by decide +kernel
theorem dX8_bow_7 : decode cX8_bow 7 = .ok (.aload_n 0, 1) := by decide +kernel
theorem dX8_bow_8 : decode cX8_bow 8 = .ok (.iload_n 2, 1) := by decide +kernel
theorem dX8_bow_9 : decode cX8_bow 9 = .ok (.iload_n 3, 1) := by decide +kernel
theorem dX8_bow_10 : decode cX8_bow 10 = .ok (.invokevirtual 101, 3) := by decide +kernel
theorem dX8_bow_13 : decode cX8_bow 13 = .ok (.ifCond .eq 14, 3) := by decide +kernel
theorem dX8_bow_16 : decode cX8_bow 16 = .ok (.iload 4, 2) := by decide +kernel
theorem dX8_bow_18 : decode cX8_bow 18 = .ok (.iconst 0, 1) := by decide +kernel
theorem dX8_bow_19 : decode cX8_bow 19 = .ok (.bipush 10, 2) := by decide +kernel
theorem dX8_bow_21 : decode cX8_bow 21 = .ok (.invokestatic 78, 3) := by decide +kernel
theorem dX8_bow_24 : decode cX8_bow 24 = .ok (.ifCond .ne 10, 3) := by decide +kernel
theorem dX8_bow_27 : decode cX8_bow 27 = .ok (.aload_n 0, 1) := by decide +kernel
theorem dX8_bow_28 : decode cX8_bow 28 = .ok (.ldc 77, 2) := by decide +kernel
theorem dX8_bow_30 : decode cX8_bow 30 = .ok (.invokevirtual 86, 3) := by decide +kernel
theorem dX8_bow_33 : decode cX8_bow 33 = .ok (.ireturn, 1) := by decide +kernel
theorem dX8_bow_34 : decode cX8_bow 34 = .ok (.aload_n 0, 1) := by decide +kernel
theorem dX8_bow_35 : decode cX8_bow 35 = .ok (.getfield 9, 3) := by decide +kernel
theorem dX8_bow_38 : decode cX8_bow 38 = .ok (.iconst 3, 1) := by decide +kernel
theorem dX8_bow_39 : decode cX8_bow 39 = .ok (.iaload, 1) := by decide +kernel
theorem dX8_bow_40 : decode cX8_bow 40 = .ok (.bipush 20, 2) := by decide +kernel
theorem dX8_bow_42 : decode cX8_bow 42 = .ok (.if_icmp .eq 19, 3) := by decide +kernel
theorem dX8_bow_45 : decode cX8_bow 45 = .ok (.iload 4, 2) := by decide +kernel
theorem dX8_bow_47 : decode cX8_bow 47 = .ok (.bipush 10, 2) := by decide +kernel
theorem dX8_bow_49 : decode cX8_bow 49 = .ok (.if_icmp .ge 19, 3) := by decide +kernel
theorem dX8_bow_52 : decode cX8_bow 52 = .ok (.aload_n 0, 1) := by decide +kernel
theorem dX8_bow_53 : decode cX8_bow 53 = .ok (.invokevirtual 105, 3) := by decide +kernel
theorem dX8_bow_56 : decode cX8_bow 56 = .ok (.bipush 6, 2) := by decide +kernel
theorem dX8_bow_58 : decode cX8_bow 58 = .ok (.if_icmp .ne 10, 3) := by decide +kernel
theorem dX8_bow_61 : decode cX8_bow 61 = .ok (.aload_n 0, 1) := by decide +kernel
theorem dX8_bow_62 : decode cX8_bow 62 = .ok (.ldc 109, 2) := by decide +kernel
theorem dX8_bow_64 : decode cX8_bow 64 = .ok (.invokevirtual 86, 3) := by decide +kernel
theorem dX8_bow_67 : decode cX8_bow 67 = .ok (.ireturn, 1) := by decide +kernel
theorem dX8_bow_68 : decode cX8_bow 68 = .ok (.aload_n 0, 1) := by decide +kernel
theorem dX8_bow_69 : decode cX8_bow 69 = .ok (.iload_n 1, 1) := by decide +kernel
theorem dX8_bow_70 : decode cX8_bow 70 = .ok (.iload_n 2, 1) := by decide +kernel
theorem dX8_bow_71 : decode cX8_bow 71 = .ok (.iload_n 3, 1) := by decide +kernel
theorem dX8_bow_72 : decode cX8_bow 72 = .ok (.iload 4, 2) := by decide +kernel
theorem dX8_bow_74 : decode cX8_bow 74 = .ok (.invokevirtual 110, 3) := by decide +kernel
theorem dX8_bow_77 : decode cX8_bow 77 = .ok (.ireturn, 1) := by decide +kernel
set_option maxRecDepth 20000 in
theorem ggX8_bowOf_X8_isBow : GoodIn wsX8_bowOf wsX8_isBow := goodIn_r _ [6, 7, 8, 9, 5, 10, 20, 21, 22, 23, 24, 25, 26, 27, 28, 29, 30, 31, 32, 33, 34, 35, 36, 37, 38, 39, 40, 41, 42, 43, 44, 45, 46, 47, 48, 49, 50, 51] (by decide +kernel) (by decide +kernel)
set_option maxRecDepth 20000 in
theorem gX8_bowOf_X8_isBow : GoodIn wsX8_bowOf (wsV RX8 114 RX8 yX8_isBow wsX8_isBow) := goodIn_app (goodIn_of _ (by decide +kernel)) ggX8_bowOf_X8_isBow
set_option maxRecDepth 20000 in
theorem ggX8_bowOf_X8_within : GoodIn wsX8_bowOf wsX8_within := goodIn_r _ [10] (by decide +kernel) (by decide +kernel)
set_option maxRecDepth 20000 in
theorem gX8_bowOf_X8_within : GoodIn wsX8_bowOf (va_wsS RX8 78 yX8_within wsX8_within) := goodIn_app (goodIn_of _ (by decide +kernel)) ggX8_bowOf_X8_within
set_option maxRecDepth 20000 in
theorem ggX8_bowOf_X8_bowIs : GoodIn wsX8_bowOf wsX8_bowIs := goodIn_r _ [14, 7, 20, 21, 22, 23, 24, 25, 26, 27, 28, 29, 30, 31, 32, 33, 34, 35, 36, 37, 38, 39, 40, 41, 42, 43, 44, 45, 46, 47, 48, 49, 50, 51] (by decide +kernel) (by decide +kernel)
set_option maxRecDepth 20000 in
theorem gX8_bowOf_X8_bowIs : GoodIn wsX8_bowOf (wsV RX8 95 RX8 yX8_bowIs wsX8_bowIs) := goodIn_app (goodIn_of _ (by decide +kernel)) ggX8_bowOf_X8_bowIs
set_option maxRecDepth 20000 in
theorem ggX8_bowOf_X8_finding : GoodIn wsX8_bowOf wsX8_finding := goodIn_r _ [18, 19, 1, 20, 21, 22, 23, 24, 25, 26, 27, 28, 29, 30, 31, 32, 33, 34, 35, 36, 37, 38, 39, 40, 41, 42, 43, 44, 45, 46, 47, 48, 49, 50, 51] (by decide +kernel) (by decide +kernel)
set_option maxRecDepth 20000 in
theorem gX8_bowOf_X8_finding : GoodIn wsX8_bowOf (wsV RX8 86 RX8 yX8_finding wsX8_finding) := goodIn_app (goodIn_of _ (by decide +kernel)) ggX8_bowOf_X8_finding
theorem dX8_bowOf_0 : decode cX8_bowOf 0 = .ok (.aload_n 0, 1) := by decide +kernel
theorem dX8_bowOf_1 : decode cX8_bowOf 1 = .ok (.iload_n 1, 1) := by decide +kernel
theorem dX8_bowOf_2 : decode cX8_bowOf 2 = .ok (.invokevirtual 114, 3) := by decide +kernel
theorem dX8_bowOf_5 : decode cX8_bowOf 5 = .ok (.ifCond .eq 21, 3) := by decide +kernel
theorem dX8_bowOf_8 : decode cX8_bowOf 8 = .ok (.iload_n 2, 1) := by decide +kernel
theorem dX8_bowOf_9 : decode cX8_bowOf 9 = .ok (.iconst 0, 1) := by decide +kernel
theorem dX8_bowOf_10 : decode cX8_bowOf 10 = .ok (.iconst 3, 1) := by decide +kernel
theorem dX8_bowOf_11 : decode cX8_bowOf 11 = .ok (.invokestatic 78, 3) := by decide +kernel
theorem dX8_bowOf_14 : decode cX8_bowOf 14 = .ok (.ifCond .eq 12, 3) := by decide +kernel
theorem dX8_bowOf_17 : decode cX8_bowOf 17 = .ok (.aload_n 0, 1) := by decide +kernel
theorem dX8_bowOf_18 : decode cX8_bowOf 18 = .ok (.iload_n 1, 1) := by decide +kernel
theorem dX8_bowOf_19 : decode cX8_bowOf 19 = .ok (.iload_n 2, 1) := by decide +kernel
theorem dX8_bowOf_20 : decode cX8_bowOf 20 = .ok (.invokevirtual 95, 3) := by decide +kernel
theorem dX8_bowOf_23 : decode cX8_bowOf 23 = .ok (.goto 9, 3) := by decide +kernel
theorem dX8_bowOf_26 : decode cX8_bowOf 26 = .ok (.aload_n 0, 1) := by decide +kernel
theorem dX8_bowOf_27 : decode cX8_bowOf 27 = .ok (.ldc 77, 2) := by decide +kernel
theorem dX8_bowOf_29 : decode cX8_bowOf 29 = .ok (.invokevirtual 86, 3) := by decide +kernel
theorem dX8_bowOf_32 : decode cX8_bowOf 32 = .ok (.ireturn, 1) := by decide +kernel
set_option maxRecDepth 20000 in
theorem ggX8_wouldBeOneTooMany_X8_bowIs : GoodIn wsX8_wouldBeOneTooMany wsX8_bowIs := goodIn_r _ [5, 6, 11, 12, 13, 14, 15, 16, 17, 18, 19, 20, 21, 22, 23, 24, 25, 26, 27, 28, 29, 30, 31, 32, 33, 34, 35, 36, 37, 38, 39, 40, 41, 42] (by decide +kernel) (by decide +kernel)
set_option maxRecDepth 20000 in
theorem gX8_wouldBeOneTooMany_X8_bowIs : GoodIn wsX8_wouldBeOneTooMany (wsV RX8 95 RX8 yX8_bowIs wsX8_bowIs) := goodIn_app (goodIn_of _ (by decide +kernel)) ggX8_wouldBeOneTooMany_X8_bowIs
set_option maxRecDepth 20000 in
theorem ggX8_wouldBeOneTooMany_X8_doubtedOnes : GoodIn wsX8_wouldBeOneTooMany wsX8_doubtedOnes := goodIn_r _ [10, 6, 1, 2, 3, 4, 5, 11, 12, 13, 14, 15, 16, 17, 18, 19, 20, 21, 22, 23, 24, 25, 26, 27, 28, 29, 30, 31, 32, 33, 34, 35, 36, 37, 38, 39, 40, 41, 42] (by decide +kernel) (by decide +kernel)
set_option maxRecDepth 20000 in
theorem gX8_wouldBeOneTooMany_X8_doubtedOnes : GoodIn wsX8_wouldBeOneTooMany (wsV RX8 105 RX8 yX8_doubtedOnes wsX8_doubtedOnes) := goodIn_app (goodIn_of _ (by decide +kernel)) ggX8_wouldBeOneTooMany_X8_doubtedOnes
theorem dX8_wouldBeOneTooMany_0 : decode cX8_wouldBeOneTooMany 0 = .ok (.iload_n 2, 1) := by decide +kernel
theorem dX8_wouldBeOneTooMany_1 : decode cX8_wouldBeOneTooMany 1 = .ok (.bipush 10, 2) := by decide +kernel
theorem dX8_wouldBeOneTooMany_3 : decode cX8_wouldBeOneTooMany 3 = .ok (.if_icmp .ge 27, 3) := by decide +kernel
theorem dX8_wouldBeOneTooMany_6 : decode cX8_wouldBeOneTooMany 6 = .ok (.aload_n 0, 1) := by decide +kernel
theorem dX8_wouldBeOneTooMany_7 : decode cX8_wouldBeOneTooMany 7 = .ok (.iload_n 1, 1) := by decide +kernel
theorem dX8_wouldBeOneTooMany_8 : decode cX8_wouldBeOneTooMany 8 = .ok (.iconst 3, 1) := by decide +kernel
theorem dX8_wouldBeOneTooMany_9 : decode cX8_wouldBeOneTooMany 9 = .ok (.invokevirtual 95, 3) := by decide +kernel
theorem dX8_wouldBeOneTooMany_12 : decode cX8_wouldBeOneTooMany 12 = .ok (.bipush 10, 2) := by decide +kernel
theorem dX8_wouldBeOneTooMany_14 : decode cX8_wouldBeOneTooMany 14 = .ok (.if_icmp .ne 16, 3) := by decide +kernel
theorem dX8_wouldBeOneTooMany_17 : decode cX8_wouldBeOneTooMany 17 = .ok (.aload_n 0, 1) := by decide +kernel
theorem dX8_wouldBeOneTooMany_18 : decode cX8_wouldBeOneTooMany 18 = .ok (.invokevirtual 105, 3) := by decide +kernel
theorem dX8_wouldBeOneTooMany_21 : decode cX8_wouldBeOneTooMany 21 = .ok (.bipush 6, 2) := by decide +kernel
theorem dX8_wouldBeOneTooMany_23 : decode cX8_wouldBeOneTooMany 23 = .ok (.if_icmp .ne 7, 3) := by decide +kernel
theorem dX8_wouldBeOneTooMany_26 : decode cX8_wouldBeOneTooMany 26 = .ok (.iconst 1, 1) := by decide +kernel
theorem dX8_wouldBeOneTooMany_27 : decode cX8_wouldBeOneTooMany 27 = .ok (.goto 4, 3) := by decide +kernel
theorem dX8_wouldBeOneTooMany_30 : decode cX8_wouldBeOneTooMany 30 = .ok (.iconst 0, 1) := by decide +kernel
theorem dX8_wouldBeOneTooMany_31 : decode cX8_wouldBeOneTooMany 31 = .ok (.ireturn, 1) := by decide +kernel
set_option maxRecDepth 20000 in
theorem ggX8_doubt_X8_isBow : GoodIn wsX8_doubt wsX8_isBow := goodIn_r _ [7, 8, 9, 10, 6, 11, 33, 34, 35, 36, 37, 38, 39, 40, 41, 42, 43, 44, 45, 46, 47, 48, 49, 50, 51, 52, 53, 54, 55, 56, 57, 58, 59, 60, 61, 62, 63, 64] (by decide +kernel) (by decide +kernel)
set_option maxRecDepth 20000 in
theorem gX8_doubt_X8_isBow : GoodIn wsX8_doubt (wsV RX8 114 RX8 yX8_isBow wsX8_isBow) := goodIn_app (goodIn_of _ (by decide +kernel)) ggX8_doubt_X8_isBow
set_option maxRecDepth 20000 in
theorem ggX8_doubt_X8_within : GoodIn wsX8_doubt wsX8_within := goodIn_r _ [11] (by decide +kernel) (by decide +kernel)
set_option maxRecDepth 20000 in
theorem gX8_doubt_X8_within : GoodIn wsX8_doubt (va_wsS RX8 78 yX8_within wsX8_within) := goodIn_app (goodIn_of _ (by decide +kernel)) ggX8_doubt_X8_within
set_option maxRecDepth 20000 in
theorem ggX8_doubt_X8_finding : GoodIn wsX8_doubt wsX8_finding := goodIn_r _ [15, 16, 1, 33, 34, 35, 36, 37, 38, 39, 40, 41, 42, 43, 44, 45, 46, 47, 48, 49, 50, 51, 52, 53, 54, 55, 56, 57, 58, 59, 60, 61, 62, 63, 64] (by decide +kernel) (by decide +kernel)
set_option maxRecDepth 20000 in
theorem gX8_doubt_X8_finding : GoodIn wsX8_doubt (wsV RX8 86 RX8 yX8_finding wsX8_finding) := goodIn_app (goodIn_of _ (by decide +kernel)) ggX8_doubt_X8_finding
set_option maxRecDepth 20000 in
theorem ggX8_doubt_X8_wouldBeOneTooMany : GoodIn wsX8_doubt wsX8_wouldBeOneTooMany := goodIn_r _ [20, 21, 22, 23, 6, 24, 8, 25, 26, 27, 28, 33, 34, 35, 36, 37, 38, 39, 40, 41, 42, 43, 44, 45, 46, 47, 48, 49, 50, 51, 52, 53, 54, 55, 56, 57, 58, 59, 60, 61, 62, 63, 64] (by decide +kernel) (by decide +kernel)
set_option maxRecDepth 20000 in
theorem gX8_doubt_X8_wouldBeOneTooMany : GoodIn wsX8_doubt (wsV RX8 117 RX8 yX8_wouldBeOneTooMany wsX8_wouldBeOneTooMany) := goodIn_app (goodIn_of _ (by decide +kernel)) ggX8_doubt_X8_wouldBeOneTooMany
set_option maxRecDepth 20000 in
theorem ggX8_doubt_X8_become : GoodIn wsX8_doubt wsX8_become := goodIn_r _ [32, 8, 33, 34, 35, 36, 37, 38, 39, 40, 41, 42, 43, 44, 45, 46, 47, 48, 49, 50, 51, 52, 53, 54, 55, 56, 57, 58, 59, 60, 61, 62, 63, 64] (by decide +kernel) (by decide +kernel)
set_option maxRecDepth 20000 in
theorem gX8_doubt_X8_become : GoodIn wsX8_doubt (wsV RX8 91 RX8 yX8_become wsX8_become) := goodIn_app (goodIn_of _ (by decide +kernel)) ggX8_doubt_X8_become
theorem dX8_doubt_0 : decode cX8_doubt 0 = .ok (.aload_n 0, 1) := by decide +kernel
theorem dX8_doubt_1 : decode cX8_doubt 1 = .ok (.iload_n 1, 1) := by decide +kernel
theorem dX8_doubt_2 : decode cX8_doubt 2 = .ok (.invokevirtual 114, 3) := by decide +kernel
theorem dX8_doubt_5 : decode cX8_doubt 5 = .ok (.ifCond .eq 13, 3) := by decide +kernel
theorem dX8_doubt_8 : decode cX8_doubt 8 = .ok (.iload_n 2, 1) := by decide +kernel
theorem dX8_doubt_9 : decode cX8_doubt 9 = .ok (.iconst 0, 1) := by decide +kernel
theorem dX8_doubt_10 : decode cX8_doubt 10 = .ok (.bipush 10, 2) := by decide +kernel
theorem dX8_doubt_12 : decode cX8_doubt 12 = .ok (.invokestatic 78, 3) := by decide +kernel
theorem dX8_doubt_15 : decode cX8_doubt 15 = .ok (.ifCond .ne 10, 3) := by decide +kernel
theorem dX8_doubt_18 : decode cX8_doubt 18 = .ok (.aload_n 0, 1) := by decide +kernel
theorem dX8_doubt_19 : decode cX8_doubt 19 = .ok (.ldc 77, 2) := by decide +kernel
theorem dX8_doubt_21 : decode cX8_doubt 21 = .ok (.invokevirtual 86, 3) := by decide +kernel
theorem dX8_doubt_24 : decode cX8_doubt 24 = .ok (.ireturn, 1) := by decide +kernel
theorem dX8_doubt_25 : decode cX8_doubt 25 = .ok (.aload_n 0, 1) := by decide +kernel
theorem dX8_doubt_26 : decode cX8_doubt 26 = .ok (.iload_n 1, 1) := by decide +kernel
theorem dX8_doubt_27 : decode cX8_doubt 27 = .ok (.iload_n 2, 1) := by decide +kernel
theorem dX8_doubt_28 : decode cX8_doubt 28 = .ok (.invokevirtual 117, 3) := by decide +kernel
theorem dX8_doubt_31 : decode cX8_doubt 31 = .ok (.ifCond .eq 12, 3) := by decide +kernel
theorem dX8_doubt_34 : decode cX8_doubt 34 = .ok (.aload_n 0, 1) := by decide +kernel
theorem dX8_doubt_35 : decode cX8_doubt 35 = .ok (.ldc 109, 2) := by decide +kernel
theorem dX8_doubt_37 : decode cX8_doubt 37 = .ok (.invokevirtual 86, 3) := by decide +kernel
theorem dX8_doubt_40 : decode cX8_doubt 40 = .ok (.goto 16, 3) := by decide +kernel
theorem dX8_doubt_43 : decode cX8_doubt 43 = .ok (.aload_n 0, 1) := by decide +kernel
theorem dX8_doubt_44 : decode cX8_doubt 44 = .ok (.bipush 6, 2) := by decide +kernel
theorem dX8_doubt_46 : decode cX8_doubt 46 = .ok (.iconst 4, 1) := by decide +kernel
theorem dX8_doubt_47 : decode cX8_doubt 47 = .ok (.iload_n 1, 1) := by decide +kernel
theorem dX8_doubt_48 : decode cX8_doubt 48 = .ok (.imul, 1) := by decide +kernel
theorem dX8_doubt_49 : decode cX8_doubt 49 = .ok (.iadd, 1) := by decide +kernel
theorem dX8_doubt_50 : decode cX8_doubt 50 = .ok (.iconst 3, 1) := by decide +kernel
theorem dX8_doubt_51 : decode cX8_doubt 51 = .ok (.iadd, 1) := by decide +kernel
theorem dX8_doubt_52 : decode cX8_doubt 52 = .ok (.iload_n 2, 1) := by decide +kernel
theorem dX8_doubt_53 : decode cX8_doubt 53 = .ok (.invokevirtual 91, 3) := by decide +kernel
theorem dX8_doubt_56 : decode cX8_doubt 56 = .ok (.ireturn, 1) := by decide +kernel
set_option maxRecDepth 20000 in
theorem ggX8_let_X8_within : GoodIn wsX8_let wsX8_within := goodIn_r _ [5] (by decide +kernel) (by decide +kernel)
set_option maxRecDepth 20000 in
theorem gX8_let_X8_within : GoodIn wsX8_let (va_wsS RX8 78 yX8_within wsX8_within) := goodIn_app (goodIn_of _ (by decide +kernel)) ggX8_let_X8_within
set_option maxRecDepth 20000 in
theorem ggX8_let_X8_finding : GoodIn wsX8_let wsX8_finding := goodIn_r _ [9, 10, 1, 16, 17, 18, 19, 20, 21, 22, 23, 24, 25, 26, 27, 28, 29, 30, 31, 32, 33, 34, 35, 36, 37, 38, 39, 40, 41, 42, 43, 44, 45, 46, 47] (by decide +kernel) (by decide +kernel)
set_option maxRecDepth 20000 in
theorem gX8_let_X8_finding : GoodIn wsX8_let (wsV RX8 86 RX8 yX8_finding wsX8_finding) := goodIn_app (goodIn_of _ (by decide +kernel)) ggX8_let_X8_finding
set_option maxRecDepth 20000 in
theorem ggX8_let_X8_become : GoodIn wsX8_let wsX8_become := goodIn_r _ [14, 15, 16, 17, 18, 19, 20, 21, 22, 23, 24, 25, 26, 27, 28, 29, 30, 31, 32, 33, 34, 35, 36, 37, 38, 39, 40, 41, 42, 43, 44, 45, 46, 47] (by decide +kernel) (by decide +kernel)
set_option maxRecDepth 20000 in
theorem gX8_let_X8_become : GoodIn wsX8_let (wsV RX8 91 RX8 yX8_become wsX8_become) := goodIn_app (goodIn_of _ (by decide +kernel)) ggX8_let_X8_become
theorem dX8_let_0 : decode cX8_let 0 = .ok (.iload_n 1, 1) := by decide +kernel
theorem dX8_let_1 : decode cX8_let 1 = .ok (.iconst 0, 1) := by decide +kernel
theorem dX8_let_2 : decode cX8_let 2 = .ok (.iconst 1, 1) := by decide +kernel
theorem dX8_let_3 : decode cX8_let 3 = .ok (.invokestatic 78, 3) := by decide +kernel
theorem dX8_let_6 : decode cX8_let 6 = .ok (.ifCond .ne 10, 3) := by decide +kernel
theorem dX8_let_9 : decode cX8_let 9 = .ok (.aload_n 0, 1) := by decide +kernel
theorem dX8_let_10 : decode cX8_let 10 = .ok (.ldc 77, 2) := by decide +kernel
theorem dX8_let_12 : decode cX8_let 12 = .ok (.invokevirtual 86, 3) := by decide +kernel
theorem dX8_let_15 : decode cX8_let 15 = .ok (.ireturn, 1) := by decide +kernel
theorem dX8_let_16 : decode cX8_let 16 = .ok (.iload_n 2, 1) := by decide +kernel
theorem dX8_let_17 : decode cX8_let 17 = .ok (.ifCond .eq 7, 3) := by decide +kernel
theorem dX8_let_20 : decode cX8_let 20 = .ok (.iconst 1, 1) := by decide +kernel
theorem dX8_let_21 : decode cX8_let 21 = .ok (.goto 4, 3) := by decide +kernel
theorem dX8_let_24 : decode cX8_let 24 = .ok (.iconst 0, 1) := by decide +kernel
theorem dX8_let_25 : decode cX8_let 25 = .ok (.istore_n 3, 1) := by decide +kernel
theorem dX8_let_26 : decode cX8_let 26 = .ok (.aload_n 0, 1) := by decide +kernel
theorem dX8_let_27 : decode cX8_let 27 = .ok (.iconst 1, 1) := by decide +kernel
theorem dX8_let_28 : decode cX8_let 28 = .ok (.iload_n 1, 1) := by decide +kernel
theorem dX8_let_29 : decode cX8_let 29 = .ok (.iadd, 1) := by decide +kernel
theorem dX8_let_30 : decode cX8_let 30 = .ok (.iload_n 3, 1) := by decide +kernel
theorem dX8_let_31 : decode cX8_let 31 = .ok (.invokevirtual 91, 3) := by decide +kernel
theorem dX8_let_34 : decode cX8_let 34 = .ok (.iload_n 3, 1) := by decide +kernel
theorem dX8_let_35 : decode cX8_let 35 = .ok (.if_icmp .ne 7, 3) := by decide +kernel
theorem dX8_let_38 : decode cX8_let 38 = .ok (.iconst 0, 1) := by decide +kernel
theorem dX8_let_39 : decode cX8_let 39 = .ok (.goto 4, 3) := by decide +kernel
theorem dX8_let_42 : decode cX8_let 42 = .ok (.iconst 1, 1) := by decide +kernel
theorem dX8_let_43 : decode cX8_let 43 = .ok (.ireturn, 1) := by decide +kernel
theorem dX8_said_0 : decode cX8_said 0 = .ok (.aload_n 0, 1) := by decide +kernel
theorem dX8_said_1 : decode cX8_said 1 = .ok (.getfield 9, 3) := by decide +kernel
theorem dX8_said_4 : decode cX8_said 4 = .ok (.iconst 5, 1) := by decide +kernel
theorem dX8_said_5 : decode cX8_said 5 = .ok (.iaload, 1) := by decide +kernel
theorem dX8_said_6 : decode cX8_said 6 = .ok (.istore 5, 2) := by decide +kernel
theorem dX8_said_8 : decode cX8_said 8 = .ok (.sipush 146, 3) := by decide +kernel
theorem dX8_said_11 : decode cX8_said 11 = .ok (.iconst 4, 1) := by decide +kernel
theorem dX8_said_12 : decode cX8_said 12 = .ok (.iload 5, 2) := by decide +kernel
theorem dX8_said_14 : decode cX8_said 14 = .ok (.imul, 1) := by decide +kernel
theorem dX8_said_15 : decode cX8_said 15 = .ok (.iadd, 1) := by decide +kernel
theorem dX8_said_16 : decode cX8_said 16 = .ok (.istore 6, 2) := by decide +kernel
theorem dX8_said_18 : decode cX8_said 18 = .ok (.aload_n 0, 1) := by decide +kernel
theorem dX8_said_19 : decode cX8_said 19 = .ok (.getfield 9, 3) := by decide +kernel
theorem dX8_said_22 : decode cX8_said 22 = .ok (.iload 6, 2) := by decide +kernel
theorem dX8_said_24 : decode cX8_said 24 = .ok (.iconst 0, 1) := by decide +kernel
theorem dX8_said_25 : decode cX8_said 25 = .ok (.iadd, 1) := by decide +kernel
theorem dX8_said_26 : decode cX8_said 26 = .ok (.iload_n 1, 1) := by decide +kernel
theorem dX8_said_27 : decode cX8_said 27 = .ok (.iastore, 1) := by decide +kernel
theorem dX8_said_28 : decode cX8_said 28 = .ok (.aload_n 0, 1) := by decide +kernel
theorem dX8_said_29 : decode cX8_said 29 = .ok (.getfield 9, 3) := by decide +kernel
theorem dX8_said_32 : decode cX8_said 32 = .ok (.iload 6, 2) := by decide +kernel
theorem dX8_said_34 : decode cX8_said 34 = .ok (.iconst 1, 1) := by decide +kernel
theorem dX8_said_35 : decode cX8_said 35 = .ok (.iadd, 1) := by decide +kernel
theorem dX8_said_36 : decode cX8_said 36 = .ok (.iload_n 2, 1) := by decide +kernel
theorem dX8_said_37 : decode cX8_said 37 = .ok (.iastore, 1) := by decide +kernel
theorem dX8_said_38 : decode cX8_said 38 = .ok (.aload_n 0, 1) := by decide +kernel
theorem dX8_said_39 : decode cX8_said 39 = .ok (.getfield 9, 3) := by decide +kernel
theorem dX8_said_42 : decode cX8_said 42 = .ok (.iload 6, 2) := by decide +kernel
theorem dX8_said_44 : decode cX8_said 44 = .ok (.iconst 2, 1) := by decide +kernel
theorem dX8_said_45 : decode cX8_said 45 = .ok (.iadd, 1) := by decide +kernel
theorem dX8_said_46 : decode cX8_said 46 = .ok (.iload_n 3, 1) := by decide +kernel
theorem dX8_said_47 : decode cX8_said 47 = .ok (.iastore, 1) := by decide +kernel
theorem dX8_said_48 : decode cX8_said 48 = .ok (.aload_n 0, 1) := by decide +kernel
theorem dX8_said_49 : decode cX8_said 49 = .ok (.getfield 9, 3) := by decide +kernel
theorem dX8_said_52 : decode cX8_said 52 = .ok (.iload 6, 2) := by decide +kernel
theorem dX8_said_54 : decode cX8_said 54 = .ok (.iconst 3, 1) := by decide +kernel
theorem dX8_said_55 : decode cX8_said 55 = .ok (.iadd, 1) := by decide +kernel
theorem dX8_said_56 : decode cX8_said 56 = .ok (.iload 4, 2) := by decide +kernel
theorem dX8_said_58 : decode cX8_said 58 = .ok (.iastore, 1) := by decide +kernel
theorem dX8_said_59 : decode cX8_said 59 = .ok (.aload_n 0, 1) := by decide +kernel
theorem dX8_said_60 : decode cX8_said 60 = .ok (.getfield 9, 3) := by decide +kernel
theorem dX8_said_63 : decode cX8_said 63 = .ok (.iconst 5, 1) := by decide +kernel
theorem dX8_said_64 : decode cX8_said 64 = .ok (.dup2, 1) := by decide +kernel
theorem dX8_said_65 : decode cX8_said 65 = .ok (.iaload, 1) := by decide +kernel
theorem dX8_said_66 : decode cX8_said 66 = .ok (.iconst 1, 1) := by decide +kernel
theorem dX8_said_67 : decode cX8_said 67 = .ok (.iadd, 1) := by decide +kernel
theorem dX8_said_68 : decode cX8_said 68 = .ok (.iastore, 1) := by decide +kernel
theorem dX8_said_69 : decode cX8_said 69 = .ok (.iload 5, 2) := by decide +kernel
theorem dX8_said_71 : decode cX8_said 71 = .ok (.ireturn, 1) := by decide +kernel
set_option maxRecDepth 20000 in
theorem ggX8_says_X8_isHour : GoodIn wsX8_says wsX8_isHour := goodIn_r _ [7, 8, 9, 6, 10] (by decide +kernel) (by decide +kernel)
set_option maxRecDepth 20000 in
theorem gX8_says_X8_isHour : GoodIn wsX8_says (va_wsS RX8 98 yX8_isHour wsX8_isHour) := goodIn_app (goodIn_of _ (by decide +kernel)) ggX8_says_X8_isHour
set_option maxRecDepth 20000 in
theorem ggX8_says_X8_isOne : GoodIn wsX8_says wsX8_isOne := goodIn_r _ [14, 2, 8, 9, 6, 10, 24, 25, 26, 27, 28, 29, 30, 31, 32, 33, 34, 35, 36, 37, 38, 39, 40, 41, 42, 43, 44, 45, 46, 47, 48, 49, 50, 51, 52, 53, 54, 55] (by decide +kernel) (by decide +kernel)
set_option maxRecDepth 20000 in
theorem gX8_says_X8_isOne : GoodIn wsX8_says (wsV RX8 82 RX8 yX8_isOne wsX8_isOne) := goodIn_app (goodIn_of _ (by decide +kernel)) ggX8_says_X8_isOne
set_option maxRecDepth 20000 in
theorem ggX8_says_X8_finding : GoodIn wsX8_says wsX8_finding := goodIn_r _ [18, 19, 1, 24, 25, 26, 27, 28, 29, 30, 31, 32, 33, 34, 35, 36, 37, 38, 39, 40, 41, 42, 43, 44, 45, 46, 47, 48, 49, 50, 51, 52, 53, 54, 55] (by decide +kernel) (by decide +kernel)
set_option maxRecDepth 20000 in
theorem gX8_says_X8_finding : GoodIn wsX8_says (wsV RX8 86 RX8 yX8_finding wsX8_finding) := goodIn_app (goodIn_of _ (by decide +kernel)) ggX8_says_X8_finding
set_option maxRecDepth 20000 in
theorem ggX8_says_X8_said : GoodIn wsX8_says wsX8_said := goodIn_r _ [23, 2, 24, 25, 26, 27, 28, 29, 30, 31, 32, 33, 34, 35, 36, 37, 38, 39, 40, 41, 42, 43, 44, 45, 46, 47, 48, 49, 50, 51, 52, 53, 54, 55] (by decide +kernel) (by decide +kernel)
set_option maxRecDepth 20000 in
theorem gX8_says_X8_said : GoodIn wsX8_says (wsV RX8 120 RX8 yX8_said wsX8_said) := goodIn_app (goodIn_of _ (by decide +kernel)) ggX8_says_X8_said
theorem dX8_says_0 : decode cX8_says 0 = .ok (.iload_n 1, 1) := by decide +kernel
theorem dX8_says_1 : decode cX8_says 1 = .ok (.invokestatic 98, 3) := by decide +kernel
theorem dX8_says_4 : decode cX8_says 4 = .ok (.ifCond .eq 19, 3) := by decide +kernel
theorem dX8_says_7 : decode cX8_says 7 = .ok (.aload_n 0, 1) := by decide +kernel
theorem dX8_says_8 : decode cX8_says 8 = .ok (.iload_n 2, 1) := by decide +kernel
theorem dX8_says_9 : decode cX8_says 9 = .ok (.invokevirtual 82, 3) := by decide +kernel
theorem dX8_says_12 : decode cX8_says 12 = .ok (.ifCond .eq 11, 3) := by decide +kernel
theorem dX8_says_15 : decode cX8_says 15 = .ok (.aload_n 0, 1) := by decide +kernel
theorem dX8_says_16 : decode cX8_says 16 = .ok (.iload_n 3, 1) := by decide +kernel
theorem dX8_says_17 : decode cX8_says 17 = .ok (.invokevirtual 82, 3) := by decide +kernel
theorem dX8_says_20 : decode cX8_says 20 = .ok (.ifCond .ne 10, 3) := by decide +kernel
theorem dX8_says_23 : decode cX8_says 23 = .ok (.aload_n 0, 1) := by decide +kernel
theorem dX8_says_24 : decode cX8_says 24 = .ok (.ldc 77, 2) := by decide +kernel
theorem dX8_says_26 : decode cX8_says 26 = .ok (.invokevirtual 86, 3) := by decide +kernel
theorem dX8_says_29 : decode cX8_says 29 = .ok (.ireturn, 1) := by decide +kernel
theorem dX8_says_30 : decode cX8_says 30 = .ok (.aload_n 0, 1) := by decide +kernel
theorem dX8_says_31 : decode cX8_says 31 = .ok (.getfield 9, 3) := by decide +kernel
theorem dX8_says_34 : decode cX8_says 34 = .ok (.iconst 5, 1) := by decide +kernel
theorem dX8_says_35 : decode cX8_says 35 = .ok (.iaload, 1) := by decide +kernel
theorem dX8_says_36 : decode cX8_says 36 = .ok (.bipush 10, 2) := by decide +kernel
theorem dX8_says_38 : decode cX8_says 38 = .ok (.if_icmp .ne 12, 3) := by decide +kernel
theorem dX8_says_41 : decode cX8_says 41 = .ok (.aload_n 0, 1) := by decide +kernel
theorem dX8_says_42 : decode cX8_says 42 = .ok (.ldc 109, 2) := by decide +kernel
theorem dX8_says_44 : decode cX8_says 44 = .ok (.invokevirtual 86, 3) := by decide +kernel
theorem dX8_says_47 : decode cX8_says 47 = .ok (.goto 20, 3) := by decide +kernel
theorem dX8_says_50 : decode cX8_says 50 = .ok (.aload_n 0, 1) := by decide +kernel
theorem dX8_says_51 : decode cX8_says 51 = .ok (.iload_n 1, 1) := by decide +kernel
theorem dX8_says_52 : decode cX8_says 52 = .ok (.iload_n 2, 1) := by decide +kernel
theorem dX8_says_53 : decode cX8_says 53 = .ok (.iload_n 3, 1) := by decide +kernel
theorem dX8_says_54 : decode cX8_says 54 = .ok (.iload 4, 2) := by decide +kernel
theorem dX8_says_56 : decode cX8_says 56 = .ok (.ifCond .eq 7, 3) := by decide +kernel
theorem dX8_says_59 : decode cX8_says 59 = .ok (.iconst 1, 1) := by decide +kernel
theorem dX8_says_60 : decode cX8_says 60 = .ok (.goto 4, 3) := by decide +kernel
theorem dX8_says_63 : decode cX8_says 63 = .ok (.iconst 0, 1) := by decide +kernel
theorem dX8_says_64 : decode cX8_says 64 = .ok (.invokevirtual 120, 3) := by decide +kernel
theorem dX8_says_67 : decode cX8_says 67 = .ok (.ireturn, 1) := by decide +kernel
theorem dX8_sayingIs_0 : decode cX8_sayingIs 0 = .ok (.aload_n 0, 1) := by decide +kernel
theorem dX8_sayingIs_1 : decode cX8_sayingIs 1 = .ok (.getfield 9, 3) := by decide +kernel
theorem dX8_sayingIs_4 : decode cX8_sayingIs 4 = .ok (.sipush 146, 3) := by decide +kernel
theorem dX8_sayingIs_7 : decode cX8_sayingIs 7 = .ok (.iconst 4, 1) := by decide +kernel
theorem dX8_sayingIs_8 : decode cX8_sayingIs 8 = .ok (.iload_n 1, 1) := by decide +kernel
theorem dX8_sayingIs_9 : decode cX8_sayingIs 9 = .ok (.imul, 1) := by decide +kernel
theorem dX8_sayingIs_10 : decode cX8_sayingIs 10 = .ok (.iadd, 1) := by decide +kernel
theorem dX8_sayingIs_11 : decode cX8_sayingIs 11 = .ok (.iload_n 2, 1) := by decide +kernel
theorem dX8_sayingIs_12 : decode cX8_sayingIs 12 = .ok (.iadd, 1) := by decide +kernel
theorem dX8_sayingIs_13 : decode cX8_sayingIs 13 = .ok (.iaload, 1) := by decide +kernel
theorem dX8_sayingIs_14 : decode cX8_sayingIs 14 = .ok (.ireturn, 1) := by decide +kernel
set_option maxRecDepth 20000 in
theorem ggX8_sayingOf_X8_within : GoodIn wsX8_sayingOf wsX8_within := goodIn_r _ [6] (by decide +kernel) (by decide +kernel)
set_option maxRecDepth 20000 in
theorem gX8_sayingOf_X8_within : GoodIn wsX8_sayingOf (va_wsS RX8 78 yX8_within wsX8_within) := goodIn_app (goodIn_of _ (by decide +kernel)) ggX8_sayingOf_X8_within
set_option maxRecDepth 20000 in
theorem ggX8_sayingOf_X8_sayingIs : GoodIn wsX8_sayingOf wsX8_sayingIs := goodIn_r _ [10, 1, 16, 17, 18, 19, 20, 21, 22, 23, 24, 25, 26, 27, 28, 29, 30, 31, 32, 33, 34, 35, 36, 37, 38, 39, 40, 41, 42, 43, 44, 45, 46, 47] (by decide +kernel) (by decide +kernel)
set_option maxRecDepth 20000 in
theorem gX8_sayingOf_X8_sayingIs : GoodIn wsX8_sayingOf (wsV RX8 123 RX8 yX8_sayingIs wsX8_sayingIs) := goodIn_app (goodIn_of _ (by decide +kernel)) ggX8_sayingOf_X8_sayingIs
set_option maxRecDepth 20000 in
theorem ggX8_sayingOf_X8_finding : GoodIn wsX8_sayingOf wsX8_finding := goodIn_r _ [14, 15, 2, 16, 17, 18, 19, 20, 21, 22, 23, 24, 25, 26, 27, 28, 29, 30, 31, 32, 33, 34, 35, 36, 37, 38, 39, 40, 41, 42, 43, 44, 45, 46, 47] (by decide +kernel) (by decide +kernel)
set_option maxRecDepth 20000 in
theorem gX8_sayingOf_X8_finding : GoodIn wsX8_sayingOf (wsV RX8 86 RX8 yX8_finding wsX8_finding) := goodIn_app (goodIn_of _ (by decide +kernel)) ggX8_sayingOf_X8_finding
theorem dX8_sayingOf_0 : decode cX8_sayingOf 0 = .ok (.iload_n 1, 1) := by decide +kernel
theorem dX8_sayingOf_1 : decode cX8_sayingOf 1 = .ok (.iconst 0, 1) := by decide +kernel
theorem dX8_sayingOf_2 : decode cX8_sayingOf 2 = .ok (.aload_n 0, 1) := by decide +kernel
theorem dX8_sayingOf_3 : decode cX8_sayingOf 3 = .ok (.getfield 9, 3) := by decide +kernel
theorem dX8_sayingOf_6 : decode cX8_sayingOf 6 = .ok (.iconst 5, 1) := by decide +kernel
theorem dX8_sayingOf_7 : decode cX8_sayingOf 7 = .ok (.iaload, 1) := by decide +kernel
theorem dX8_sayingOf_8 : decode cX8_sayingOf 8 = .ok (.iconst 1, 1) := by decide +kernel
theorem dX8_sayingOf_9 : decode cX8_sayingOf 9 = .ok (.isub, 1) := by decide +kernel
theorem dX8_sayingOf_10 : decode cX8_sayingOf 10 = .ok (.invokestatic 78, 3) := by decide +kernel
theorem dX8_sayingOf_13 : decode cX8_sayingOf 13 = .ok (.ifCond .eq 21, 3) := by decide +kernel
theorem dX8_sayingOf_16 : decode cX8_sayingOf 16 = .ok (.iload_n 2, 1) := by decide +kernel
theorem dX8_sayingOf_17 : decode cX8_sayingOf 17 = .ok (.iconst 0, 1) := by decide +kernel
theorem dX8_sayingOf_18 : decode cX8_sayingOf 18 = .ok (.iconst 3, 1) := by decide +kernel
theorem dX8_sayingOf_19 : decode cX8_sayingOf 19 = .ok (.invokestatic 78, 3) := by decide +kernel
theorem dX8_sayingOf_22 : decode cX8_sayingOf 22 = .ok (.ifCond .eq 12, 3) := by decide +kernel
theorem dX8_sayingOf_25 : decode cX8_sayingOf 25 = .ok (.aload_n 0, 1) := by decide +kernel
theorem dX8_sayingOf_26 : decode cX8_sayingOf 26 = .ok (.iload_n 1, 1) := by decide +kernel
theorem dX8_sayingOf_27 : decode cX8_sayingOf 27 = .ok (.iload_n 2, 1) := by decide +kernel
theorem dX8_sayingOf_28 : decode cX8_sayingOf 28 = .ok (.invokevirtual 123, 3) := by decide +kernel
theorem dX8_sayingOf_31 : decode cX8_sayingOf 31 = .ok (.goto 9, 3) := by decide +kernel
theorem dX8_sayingOf_34 : decode cX8_sayingOf 34 = .ok (.aload_n 0, 1) := by decide +kernel
theorem dX8_sayingOf_35 : decode cX8_sayingOf 35 = .ok (.ldc 77, 2) := by decide +kernel
theorem dX8_sayingOf_37 : decode cX8_sayingOf 37 = .ok (.invokevirtual 86, 3) := by decide +kernel
theorem dX8_sayingOf_40 : decode cX8_sayingOf 40 = .ok (.ireturn, 1) := by decide +kernel
set_option maxRecDepth 20000 in
theorem ggX8_lay_X8_bowIs : GoodIn wsX8_lay wsX8_bowIs := goodIn_r _ [9, 2, 10, 11, 12, 13, 14, 15, 16, 17, 18, 19, 20, 21, 22, 23, 24, 25, 26, 27, 28, 29, 30, 31, 32, 33, 34, 35, 36, 37, 38, 39, 40, 41] (by decide +kernel) (by decide +kernel)
set_option maxRecDepth 20000 in
theorem gX8_lay_X8_bowIs : GoodIn wsX8_lay (wsV RX8 95 RX8 yX8_bowIs wsX8_bowIs) := goodIn_app (goodIn_of _ (by decide +kernel)) ggX8_lay_X8_bowIs
theorem dX8_lay_0 : decode cX8_lay 0 = .ok (.aload_n 0, 1) := by decide +kernel
theorem dX8_lay_1 : decode cX8_lay 1 = .ok (.iconst 0, 1) := by decide +kernel
theorem dX8_lay_2 : decode cX8_lay 2 = .ok (.putfield 126, 3) := by decide +kernel
theorem dX8_lay_5 : decode cX8_lay 5 = .ok (.iconst 0, 1) := by decide +kernel
theorem dX8_lay_6 : decode cX8_lay 6 = .ok (.istore_n 1, 1) := by decide +kernel
theorem dX8_lay_7 : decode cX8_lay 7 = .ok (.iload_n 1, 1) := by decide +kernel
theorem dX8_lay_8 : decode cX8_lay 8 = .ok (.aload_n 0, 1) := by decide +kernel
theorem dX8_lay_9 : decode cX8_lay 9 = .ok (.getfield 9, 3) := by decide +kernel
theorem dX8_lay_12 : decode cX8_lay 12 = .ok (.iconst 3, 1) := by decide +kernel
theorem dX8_lay_13 : decode cX8_lay 13 = .ok (.iaload, 1) := by decide +kernel
theorem dX8_lay_14 : decode cX8_lay 14 = .ok (.if_icmp .ge 95, 3) := by decide +kernel
theorem dX8_lay_17 : decode cX8_lay 17 = .ok (.aload_n 0, 1) := by decide +kernel
theorem dX8_lay_18 : decode cX8_lay 18 = .ok (.iload_n 1, 1) := by decide +kernel
theorem dX8_lay_19 : decode cX8_lay 19 = .ok (.iconst 3, 1) := by decide +kernel
theorem dX8_lay_20 : decode cX8_lay 20 = .ok (.invokevirtual 95, 3) := by decide +kernel
theorem dX8_lay_23 : decode cX8_lay 23 = .ok (.bipush 10, 2) := by decide +kernel
theorem dX8_lay_25 : decode cX8_lay 25 = .ok (.if_icmp .ge 23, 3) := by decide +kernel
theorem dX8_lay_28 : decode cX8_lay 28 = .ok (.aload_n 0, 1) := by decide +kernel
theorem dX8_lay_29 : decode cX8_lay 29 = .ok (.getfield 22, 3) := by decide +kernel
theorem dX8_lay_32 : decode cX8_lay 32 = .ok (.aload_n 0, 1) := by decide +kernel
theorem dX8_lay_33 : decode cX8_lay 33 = .ok (.getfield 126, 3) := by decide +kernel
theorem dX8_lay_36 : decode cX8_lay 36 = .ok (.iload_n 1, 1) := by decide +kernel
theorem dX8_lay_37 : decode cX8_lay 37 = .ok (.iastore, 1) := by decide +kernel
theorem dX8_lay_38 : decode cX8_lay 38 = .ok (.aload_n 0, 1) := by decide +kernel
theorem dX8_lay_39 : decode cX8_lay 39 = .ok (.dup, 1) := by decide +kernel
theorem dX8_lay_40 : decode cX8_lay 40 = .ok (.getfield 126, 3) := by decide +kernel
theorem dX8_lay_43 : decode cX8_lay 43 = .ok (.iconst 1, 1) := by decide +kernel
theorem dX8_lay_44 : decode cX8_lay 44 = .ok (.iadd, 1) := by decide +kernel
theorem dX8_lay_45 : decode cX8_lay 45 = .ok (.putfield 126, 3) := by decide +kernel
theorem dX8_lay_48 : decode cX8_lay 48 = .ok (.iload_n 1, 1) := by decide +kernel
theorem dX8_lay_49 : decode cX8_lay 49 = .ok (.istore_n 2, 1) := by decide +kernel
theorem dX8_lay_50 : decode cX8_lay 50 = .ok (.iload_n 2, 1) := by decide +kernel
theorem dX8_lay_51 : decode cX8_lay 51 = .ok (.ifCond .le 45, 3) := by decide +kernel
theorem dX8_lay_54 : decode cX8_lay 54 = .ok (.aload_n 0, 1) := by decide +kernel
theorem dX8_lay_55 : decode cX8_lay 55 = .ok (.aload_n 0, 1) := by decide +kernel
theorem dX8_lay_56 : decode cX8_lay 56 = .ok (.getfield 19, 3) := by decide +kernel
theorem dX8_lay_59 : decode cX8_lay 59 = .ok (.iload_n 2, 1) := by decide +kernel
theorem dX8_lay_60 : decode cX8_lay 60 = .ok (.iconst 1, 1) := by decide +kernel
theorem dX8_lay_61 : decode cX8_lay 61 = .ok (.isub, 1) := by decide +kernel
theorem dX8_lay_62 : decode cX8_lay 62 = .ok (.iaload, 1) := by decide +kernel
theorem dX8_lay_63 : decode cX8_lay 63 = .ok (.iconst 0, 1) := by decide +kernel
theorem dX8_lay_64 : decode cX8_lay 64 = .ok (.invokevirtual 95, 3) := by decide +kernel
theorem dX8_lay_67 : decode cX8_lay 67 = .ok (.aload_n 0, 1) := by decide +kernel
theorem dX8_lay_68 : decode cX8_lay 68 = .ok (.iload_n 1, 1) := by decide +kernel
theorem dX8_lay_69 : decode cX8_lay 69 = .ok (.iconst 0, 1) := by decide +kernel
theorem dX8_lay_70 : decode cX8_lay 70 = .ok (.invokevirtual 95, 3) := by decide +kernel
theorem dX8_lay_73 : decode cX8_lay 73 = .ok (.if_icmp .le 23, 3) := by decide +kernel
theorem dX8_lay_76 : decode cX8_lay 76 = .ok (.aload_n 0, 1) := by decide +kernel
theorem dX8_lay_77 : decode cX8_lay 77 = .ok (.getfield 19, 3) := by decide +kernel
theorem dX8_lay_80 : decode cX8_lay 80 = .ok (.iload_n 2, 1) := by decide +kernel
theorem dX8_lay_81 : decode cX8_lay 81 = .ok (.aload_n 0, 1) := by decide +kernel
theorem dX8_lay_82 : decode cX8_lay 82 = .ok (.getfield 19, 3) := by decide +kernel
theorem dX8_lay_85 : decode cX8_lay 85 = .ok (.iload_n 2, 1) := by decide +kernel
theorem dX8_lay_86 : decode cX8_lay 86 = .ok (.iconst 1, 1) := by decide +kernel
theorem dX8_lay_87 : decode cX8_lay 87 = .ok (.isub, 1) := by decide +kernel
theorem dX8_lay_88 : decode cX8_lay 88 = .ok (.iaload, 1) := by decide +kernel
theorem dX8_lay_89 : decode cX8_lay 89 = .ok (.iastore, 1) := by decide +kernel
theorem dX8_lay_90 : decode cX8_lay 90 = .ok (.iinc 2 (-1), 3) := by decide +kernel
theorem dX8_lay_93 : decode cX8_lay 93 = .ok (.goto (-43), 3) := by decide +kernel
theorem dX8_lay_96 : decode cX8_lay 96 = .ok (.aload_n 0, 1) := by decide +kernel
theorem dX8_lay_97 : decode cX8_lay 97 = .ok (.getfield 19, 3) := by decide +kernel
theorem dX8_lay_100 : decode cX8_lay 100 = .ok (.iload_n 2, 1) := by decide +kernel
theorem dX8_lay_101 : decode cX8_lay 101 = .ok (.iload_n 1, 1) := by decide +kernel
theorem dX8_lay_102 : decode cX8_lay 102 = .ok (.iastore, 1) := by decide +kernel
theorem dX8_lay_103 : decode cX8_lay 103 = .ok (.iinc 1 1, 3) := by decide +kernel
theorem dX8_lay_106 : decode cX8_lay 106 = .ok (.goto (-99), 3) := by decide +kernel
theorem dX8_lay_109 : decode cX8_lay 109 = .ok (.return_, 1) := by decide +kernel
theorem dX8_nightsThere_0 : decode cX8_nightsThere 0 = .ok (.iconst 1, 1) := by decide +kernel
theorem dX8_nightsThere_1 : decode cX8_nightsThere 1 = .ok (.aload_n 0, 1) := by decide +kernel
theorem dX8_nightsThere_2 : decode cX8_nightsThere 2 = .ok (.getfield 126, 3) := by decide +kernel
theorem dX8_nightsThere_5 : decode cX8_nightsThere 5 = .ok (.ishl, 1) := by decide +kernel
theorem dX8_nightsThere_6 : decode cX8_nightsThere 6 = .ok (.ireturn, 1) := by decide +kernel
theorem dX8_isMade_0 : decode cX8_isMade 0 = .ok (.iconst 1, 1) := by decide +kernel
theorem dX8_isMade_1 : decode cX8_isMade 1 = .ok (.istore_n 3, 1) := by decide +kernel
theorem dX8_isMade_2 : decode cX8_isMade 2 = .ok (.iconst 0, 1) := by decide +kernel
theorem dX8_isMade_3 : decode cX8_isMade 3 = .ok (.istore 4, 2) := by decide +kernel
theorem dX8_isMade_5 : decode cX8_isMade 5 = .ok (.iload 4, 2) := by decide +kernel
theorem dX8_isMade_7 : decode cX8_isMade 7 = .ok (.aload_n 0, 1) := by decide +kernel
theorem dX8_isMade_8 : decode cX8_isMade 8 = .ok (.getfield 126, 3) := by decide +kernel
theorem dX8_isMade_11 : decode cX8_isMade 11 = .ok (.if_icmp .ge 40, 3) := by decide +kernel
theorem dX8_isMade_14 : decode cX8_isMade 14 = .ok (.aload_n 0, 1) := by decide +kernel
theorem dX8_isMade_15 : decode cX8_isMade 15 = .ok (.getfield 22, 3) := by decide +kernel
theorem dX8_isMade_18 : decode cX8_isMade 18 = .ok (.iload 4, 2) := by decide +kernel
theorem dX8_isMade_20 : decode cX8_isMade 20 = .ok (.iaload, 1) := by decide +kernel
theorem dX8_isMade_21 : decode cX8_isMade 21 = .ok (.iload_n 1, 1) := by decide +kernel
theorem dX8_isMade_22 : decode cX8_isMade 22 = .ok (.if_icmp .ne 21, 3) := by decide +kernel
theorem dX8_isMade_25 : decode cX8_isMade 25 = .ok (.iload_n 2, 1) := by decide +kernel
theorem dX8_isMade_26 : decode cX8_isMade 26 = .ok (.iload 4, 2) := by decide +kernel
theorem dX8_isMade_28 : decode cX8_isMade 28 = .ok (.ishr, 1) := by decide +kernel
theorem dX8_isMade_29 : decode cX8_isMade 29 = .ok (.iconst 1, 1) := by decide +kernel
theorem dX8_isMade_30 : decode cX8_isMade 30 = .ok (.iand, 1) := by decide +kernel
theorem dX8_isMade_31 : decode cX8_isMade 31 = .ok (.iconst 1, 1) := by decide +kernel
theorem dX8_isMade_32 : decode cX8_isMade 32 = .ok (.if_icmp .ne 7, 3) := by decide +kernel
theorem dX8_isMade_35 : decode cX8_isMade 35 = .ok (.iconst 1, 1) := by decide +kernel
theorem dX8_isMade_36 : decode cX8_isMade 36 = .ok (.goto 8, 3) := by decide +kernel
theorem dX8_isMade_39 : decode cX8_isMade 39 = .ok (.iconst 0, 1) := by decide +kernel
theorem dX8_isMade_40 : decode cX8_isMade 40 = .ok (.goto 4, 3) := by decide +kernel
theorem dX8_isMade_43 : decode cX8_isMade 43 = .ok (.iload_n 3, 1) := by decide +kernel
theorem dX8_isMade_44 : decode cX8_isMade 44 = .ok (.istore_n 3, 1) := by decide +kernel
theorem dX8_isMade_45 : decode cX8_isMade 45 = .ok (.iinc 4 1, 3) := by decide +kernel
theorem dX8_isMade_48 : decode cX8_isMade 48 = .ok (.goto (-43), 3) := by decide +kernel
theorem dX8_isMade_51 : decode cX8_isMade 51 = .ok (.iload_n 3, 1) := by decide +kernel
theorem dX8_isMade_52 : decode cX8_isMade 52 = .ok (.ireturn, 1) := by decide +kernel
set_option maxRecDepth 20000 in
theorem ggX8_goes_X8_bowIs : GoodIn wsX8_goes wsX8_bowIs := goodIn_r _ [10, 4, 28, 29, 30, 31, 32, 33, 34, 35, 36, 37, 38, 39, 40, 41, 42, 43, 44, 45, 46, 47, 48, 49, 50, 51, 52, 53, 54, 55, 56, 57, 58, 59] (by decide +kernel) (by decide +kernel)
set_option maxRecDepth 20000 in
theorem gX8_goes_X8_bowIs : GoodIn wsX8_goes (wsV RX8 95 RX8 yX8_bowIs wsX8_bowIs) := goodIn_app (goodIn_of _ (by decide +kernel)) ggX8_goes_X8_bowIs
set_option maxRecDepth 20000 in
theorem ggX8_goes_X8_isMade : GoodIn wsX8_goes wsX8_isMade := goodIn_r _ [14, 15, 16, 28, 29, 30, 31, 32, 33, 34, 35, 36, 37, 38, 39, 40, 41, 42, 43, 44, 45, 46, 47, 48, 49, 50, 51, 52, 53, 54, 55, 56, 57, 58, 59] (by decide +kernel) (by decide +kernel)
set_option maxRecDepth 20000 in
theorem gX8_goes_X8_isMade : GoodIn wsX8_goes (wsV RX8 138 RX8 yX8_isMade wsX8_isMade) := goodIn_app (goodIn_of _ (by decide +kernel)) ggX8_goes_X8_isMade
set_option maxRecDepth 20000 in
theorem ggX8_goes_X8_change : GoodIn wsX8_goes wsX8_change := goodIn_r _ [20, 1, 21, 22, 23, 24, 25, 26, 27, 3, 2, 28, 29, 30, 31, 32, 33, 34, 35, 36, 37, 38, 39, 40, 41, 42, 43, 44, 45, 46, 47, 48, 49, 50, 51, 52, 53, 54, 55, 56, 57, 58, 59] (by decide +kernel) (by decide +kernel)
set_option maxRecDepth 20000 in
theorem gX8_goes_X8_change : GoodIn wsX8_goes (wsV RX8 141 RX8 yX8_change wsX8_change) := goodIn_app (goodIn_of _ (by decide +kernel)) ggX8_goes_X8_change
theorem dX8_goes_0 : decode cX8_goes 0 = .ok (.iconst 0, 1) := by decide +kernel
theorem dX8_goes_1 : decode cX8_goes 1 = .ok (.istore_n 3, 1) := by decide +kernel
theorem dX8_goes_2 : decode cX8_goes 2 = .ok (.iload_n 3, 1) := by decide +kernel
theorem dX8_goes_3 : decode cX8_goes 3 = .ok (.bipush 8, 2) := by decide +kernel
theorem dX8_goes_5 : decode cX8_goes 5 = .ok (.if_icmp .ge 16, 3) := by decide +kernel
theorem dX8_goes_8 : decode cX8_goes 8 = .ok (.aload_n 0, 1) := by decide +kernel
theorem dX8_goes_9 : decode cX8_goes 9 = .ok (.getfield 29, 3) := by decide +kernel
theorem dX8_goes_12 : decode cX8_goes 12 = .ok (.iload_n 3, 1) := by decide +kernel
theorem dX8_goes_13 : decode cX8_goes 13 = .ok (.iload_n 3, 1) := by decide +kernel
theorem dX8_goes_14 : decode cX8_goes 14 = .ok (.iastore, 1) := by decide +kernel
theorem dX8_goes_15 : decode cX8_goes 15 = .ok (.iinc 3 1, 3) := by decide +kernel
theorem dX8_goes_18 : decode cX8_goes 18 = .ok (.goto (-16), 3) := by decide +kernel
theorem dX8_goes_21 : decode cX8_goes 21 = .ok (.aload_n 0, 1) := by decide +kernel
theorem dX8_goes_22 : decode cX8_goes 22 = .ok (.lconst 0, 1) := by decide +kernel
theorem dX8_goes_23 : decode cX8_goes 23 = .ok (.putfield 130, 3) := by decide +kernel
theorem dX8_goes_26 : decode cX8_goes 26 = .ok (.aload_n 0, 1) := by decide +kernel
theorem dX8_goes_27 : decode cX8_goes 27 = .ok (.iconst 0, 1) := by decide +kernel
theorem dX8_goes_28 : decode cX8_goes 28 = .ok (.putfield 134, 3) := by decide +kernel
theorem dX8_goes_31 : decode cX8_goes 31 = .ok (.iconst 0, 1) := by decide +kernel
theorem dX8_goes_32 : decode cX8_goes 32 = .ok (.istore_n 3, 1) := by decide +kernel
theorem dX8_goes_33 : decode cX8_goes 33 = .ok (.iload_n 3, 1) := by decide +kernel
theorem dX8_goes_34 : decode cX8_goes 34 = .ok (.aload_n 0, 1) := by decide +kernel
theorem dX8_goes_35 : decode cX8_goes 35 = .ok (.getfield 9, 3) := by decide +kernel
theorem dX8_goes_38 : decode cX8_goes 38 = .ok (.iconst 3, 1) := by decide +kernel
theorem dX8_goes_39 : decode cX8_goes 39 = .ok (.iaload, 1) := by decide +kernel
theorem dX8_goes_40 : decode cX8_goes 40 = .ok (.if_icmp .ge 64, 3) := by decide +kernel
theorem dX8_goes_43 : decode cX8_goes 43 = .ok (.aload_n 0, 1) := by decide +kernel
theorem dX8_goes_44 : decode cX8_goes 44 = .ok (.aload_n 0, 1) := by decide +kernel
theorem dX8_goes_45 : decode cX8_goes 45 = .ok (.getfield 19, 3) := by decide +kernel
theorem dX8_goes_48 : decode cX8_goes 48 = .ok (.iload_n 3, 1) := by decide +kernel
theorem dX8_goes_49 : decode cX8_goes 49 = .ok (.iaload, 1) := by decide +kernel
theorem dX8_goes_50 : decode cX8_goes 50 = .ok (.iconst 0, 1) := by decide +kernel
theorem dX8_goes_51 : decode cX8_goes 51 = .ok (.invokevirtual 95, 3) := by decide +kernel
theorem dX8_goes_54 : decode cX8_goes 54 = .ok (.iload_n 2, 1) := by decide +kernel
theorem dX8_goes_55 : decode cX8_goes 55 = .ok (.if_icmp .gt 49, 3) := by decide +kernel
theorem dX8_goes_58 : decode cX8_goes 58 = .ok (.aload_n 0, 1) := by decide +kernel
theorem dX8_goes_59 : decode cX8_goes 59 = .ok (.aload_n 0, 1) := by decide +kernel
theorem dX8_goes_60 : decode cX8_goes 60 = .ok (.getfield 19, 3) := by decide +kernel
theorem dX8_goes_63 : decode cX8_goes 63 = .ok (.iload_n 3, 1) := by decide +kernel
theorem dX8_goes_64 : decode cX8_goes 64 = .ok (.iaload, 1) := by decide +kernel
theorem dX8_goes_65 : decode cX8_goes 65 = .ok (.iload_n 1, 1) := by decide +kernel
theorem dX8_goes_66 : decode cX8_goes 66 = .ok (.invokevirtual 138, 3) := by decide +kernel
theorem dX8_goes_69 : decode cX8_goes 69 = .ok (.ifCond .eq 29, 3) := by decide +kernel
theorem dX8_goes_72 : decode cX8_goes 72 = .ok (.aload_n 0, 1) := by decide +kernel
theorem dX8_goes_73 : decode cX8_goes 73 = .ok (.aload_n 0, 1) := by decide +kernel
theorem dX8_goes_74 : decode cX8_goes 74 = .ok (.aload_n 0, 1) := by decide +kernel
theorem dX8_goes_75 : decode cX8_goes 75 = .ok (.getfield 19, 3) := by decide +kernel
theorem dX8_goes_78 : decode cX8_goes 78 = .ok (.iload_n 3, 1) := by decide +kernel
theorem dX8_goes_79 : decode cX8_goes 79 = .ok (.iaload, 1) := by decide +kernel
theorem dX8_goes_80 : decode cX8_goes 80 = .ok (.iconst 1, 1) := by decide +kernel
theorem dX8_goes_81 : decode cX8_goes 81 = .ok (.invokevirtual 95, 3) := by decide +kernel
theorem dX8_goes_84 : decode cX8_goes 84 = .ok (.aload_n 0, 1) := by decide +kernel
theorem dX8_goes_85 : decode cX8_goes 85 = .ok (.aload_n 0, 1) := by decide +kernel
theorem dX8_goes_86 : decode cX8_goes 86 = .ok (.getfield 19, 3) := by decide +kernel
theorem dX8_goes_89 : decode cX8_goes 89 = .ok (.iload_n 3, 1) := by decide +kernel
theorem dX8_goes_90 : decode cX8_goes 90 = .ok (.iaload, 1) := by decide +kernel
theorem dX8_goes_91 : decode cX8_goes 91 = .ok (.iconst 2, 1) := by decide +kernel
theorem dX8_goes_92 : decode cX8_goes 92 = .ok (.invokevirtual 95, 3) := by decide +kernel
theorem dX8_goes_95 : decode cX8_goes 95 = .ok (.invokevirtual 141, 3) := by decide +kernel
theorem dX8_goes_98 : decode cX8_goes 98 = .ok (.iinc 3 1, 3) := by decide +kernel
theorem dX8_goes_101 : decode cX8_goes 101 = .ok (.goto (-68), 3) := by decide +kernel
theorem dX8_goes_104 : decode cX8_goes 104 = .ok (.return_, 1) := by decide +kernel
theorem dX8_change_0 : decode cX8_change 0 = .ok (.aload_n 0, 1) := by decide +kernel
theorem dX8_change_1 : decode cX8_change 1 = .ok (.getfield 29, 3) := by decide +kernel
theorem dX8_change_4 : decode cX8_change 4 = .ok (.iload_n 1, 1) := by decide +kernel
theorem dX8_change_5 : decode cX8_change 5 = .ok (.iaload, 1) := by decide +kernel
theorem dX8_change_6 : decode cX8_change 6 = .ok (.istore_n 3, 1) := by decide +kernel
theorem dX8_change_7 : decode cX8_change 7 = .ok (.aload_n 0, 1) := by decide +kernel
theorem dX8_change_8 : decode cX8_change 8 = .ok (.getfield 29, 3) := by decide +kernel
theorem dX8_change_11 : decode cX8_change 11 = .ok (.iload_n 2, 1) := by decide +kernel
theorem dX8_change_12 : decode cX8_change 12 = .ok (.iaload, 1) := by decide +kernel
theorem dX8_change_13 : decode cX8_change 13 = .ok (.istore 4, 2) := by decide +kernel
theorem dX8_change_15 : decode cX8_change 15 = .ok (.lconst 1, 1) := by decide +kernel
theorem dX8_change_16 : decode cX8_change 16 = .ok (.bipush 8, 2) := by decide +kernel
theorem dX8_change_18 : decode cX8_change 18 = .ok (.iload_n 3, 1) := by decide +kernel
theorem dX8_change_19 : decode cX8_change 19 = .ok (.iload 4, 2) := by decide +kernel
theorem dX8_change_21 : decode cX8_change 21 = .ok (.invokestatic 145, 3) := by decide +kernel
theorem dX8_change_24 : decode cX8_change 24 = .ok (.imul, 1) := by decide +kernel
theorem dX8_change_25 : decode cX8_change 25 = .ok (.iload_n 3, 1) := by decide +kernel
theorem dX8_change_26 : decode cX8_change 26 = .ok (.iload 4, 2) := by decide +kernel
theorem dX8_change_28 : decode cX8_change 28 = .ok (.invokestatic 150, 3) := by decide +kernel
theorem dX8_change_31 : decode cX8_change 31 = .ok (.iadd, 1) := by decide +kernel
theorem dX8_change_32 : decode cX8_change 32 = .ok (.lshl, 1) := by decide +kernel
theorem dX8_change_33 : decode cX8_change 33 = .ok (.lstore 5, 2) := by decide +kernel
theorem dX8_change_35 : decode cX8_change 35 = .ok (.aload_n 0, 1) := by decide +kernel
theorem dX8_change_36 : decode cX8_change 36 = .ok (.aload_n 0, 1) := by decide +kernel
theorem dX8_change_37 : decode cX8_change 37 = .ok (.getfield 134, 3) := by decide +kernel
theorem dX8_change_40 : decode cX8_change 40 = .ok (.ifCond .ne 15, 3) := by decide +kernel
theorem dX8_change_43 : decode cX8_change 43 = .ok (.aload_n 0, 1) := by decide +kernel
theorem dX8_change_44 : decode cX8_change 44 = .ok (.getfield 130, 3) := by decide +kernel
theorem dX8_change_47 : decode cX8_change 47 = .ok (.lload 5, 2) := by decide +kernel
theorem dX8_change_49 : decode cX8_change 49 = .ok (.land, 1) := by decide +kernel
theorem dX8_change_50 : decode cX8_change 50 = .ok (.lconst 0, 1) := by decide +kernel
theorem dX8_change_51 : decode cX8_change 51 = .ok (.lcmp, 1) := by decide +kernel
theorem dX8_change_52 : decode cX8_change 52 = .ok (.ifCond .eq 7, 3) := by decide +kernel
theorem dX8_change_55 : decode cX8_change 55 = .ok (.iconst 1, 1) := by decide +kernel
theorem dX8_change_56 : decode cX8_change 56 = .ok (.goto 4, 3) := by decide +kernel
theorem dX8_change_59 : decode cX8_change 59 = .ok (.iconst 0, 1) := by decide +kernel
theorem dX8_change_60 : decode cX8_change 60 = .ok (.putfield 134, 3) := by decide +kernel
theorem dX8_change_63 : decode cX8_change 63 = .ok (.aload_n 0, 1) := by decide +kernel
theorem dX8_change_64 : decode cX8_change 64 = .ok (.dup, 1) := by decide +kernel
theorem dX8_change_65 : decode cX8_change 65 = .ok (.getfield 130, 3) := by decide +kernel
theorem dX8_change_68 : decode cX8_change 68 = .ok (.lload 5, 2) := by decide +kernel
theorem dX8_change_70 : decode cX8_change 70 = .ok (.lor, 1) := by decide +kernel
theorem dX8_change_71 : decode cX8_change 71 = .ok (.putfield 130, 3) := by decide +kernel
theorem dX8_change_74 : decode cX8_change 74 = .ok (.aload_n 0, 1) := by decide +kernel
theorem dX8_change_75 : decode cX8_change 75 = .ok (.getfield 29, 3) := by decide +kernel
theorem dX8_change_78 : decode cX8_change 78 = .ok (.iload_n 1, 1) := by decide +kernel
theorem dX8_change_79 : decode cX8_change 79 = .ok (.iload 4, 2) := by decide +kernel
theorem dX8_change_81 : decode cX8_change 81 = .ok (.iastore, 1) := by decide +kernel
theorem dX8_change_82 : decode cX8_change 82 = .ok (.aload_n 0, 1) := by decide +kernel
theorem dX8_change_83 : decode cX8_change 83 = .ok (.getfield 29, 3) := by decide +kernel
theorem dX8_change_86 : decode cX8_change 86 = .ok (.iload_n 2, 1) := by decide +kernel
theorem dX8_change_87 : decode cX8_change 87 = .ok (.iload_n 3, 1) := by decide +kernel
theorem dX8_change_88 : decode cX8_change 88 = .ok (.iastore, 1) := by decide +kernel
theorem dX8_change_89 : decode cX8_change 89 = .ok (.return_, 1) := by decide +kernel
set_option maxRecDepth 20000 in
theorem ggX8_weightOf_X8_bowIs : GoodIn wsX8_weightOf wsX8_bowIs := goodIn_r _ [7, 8, 9, 10, 11, 12, 13, 14, 15, 16, 17, 18, 19, 20, 21, 22, 23, 24, 25, 26, 27, 28, 29, 30, 31, 32, 33, 34, 35, 36, 37, 38, 39, 40] (by decide +kernel) (by decide +kernel)
set_option maxRecDepth 20000 in
theorem gX8_weightOf_X8_bowIs : GoodIn wsX8_weightOf (wsV RX8 95 RX8 yX8_bowIs wsX8_bowIs) := goodIn_app (goodIn_of _ (by decide +kernel)) ggX8_weightOf_X8_bowIs
theorem dX8_weightOf_0 : decode cX8_weightOf 0 = .ok (.lconst 1, 1) := by decide +kernel
theorem dX8_weightOf_1 : decode cX8_weightOf 1 = .ok (.lstore_n 2, 1) := by decide +kernel
theorem dX8_weightOf_2 : decode cX8_weightOf 2 = .ok (.iconst 0, 1) := by decide +kernel
theorem dX8_weightOf_3 : decode cX8_weightOf 3 = .ok (.istore 4, 2) := by decide +kernel
theorem dX8_weightOf_5 : decode cX8_weightOf 5 = .ok (.iload 4, 2) := by decide +kernel
theorem dX8_weightOf_7 : decode cX8_weightOf 7 = .ok (.aload_n 0, 1) := by decide +kernel
theorem dX8_weightOf_8 : decode cX8_weightOf 8 = .ok (.getfield 126, 3) := by decide +kernel
theorem dX8_weightOf_11 : decode cX8_weightOf 11 = .ok (.if_icmp .ge 48, 3) := by decide +kernel
theorem dX8_weightOf_14 : decode cX8_weightOf 14 = .ok (.aload_n 0, 1) := by decide +kernel
theorem dX8_weightOf_15 : decode cX8_weightOf 15 = .ok (.aload_n 0, 1) := by decide +kernel
theorem dX8_weightOf_16 : decode cX8_weightOf 16 = .ok (.getfield 22, 3) := by decide +kernel
theorem dX8_weightOf_19 : decode cX8_weightOf 19 = .ok (.iload 4, 2) := by decide +kernel
theorem dX8_weightOf_21 : decode cX8_weightOf 21 = .ok (.iaload, 1) := by decide +kernel
theorem dX8_weightOf_22 : decode cX8_weightOf 22 = .ok (.iconst 3, 1) := by decide +kernel
theorem dX8_weightOf_23 : decode cX8_weightOf 23 = .ok (.invokevirtual 95, 3) := by decide +kernel
theorem dX8_weightOf_26 : decode cX8_weightOf 26 = .ok (.istore 5, 2) := by decide +kernel
theorem dX8_weightOf_28 : decode cX8_weightOf 28 = .ok (.lload_n 2, 1) := by decide +kernel
theorem dX8_weightOf_29 : decode cX8_weightOf 29 = .ok (.iload_n 1, 1) := by decide +kernel
theorem dX8_weightOf_30 : decode cX8_weightOf 30 = .ok (.iload 4, 2) := by decide +kernel
theorem dX8_weightOf_32 : decode cX8_weightOf 32 = .ok (.ishr, 1) := by decide +kernel
theorem dX8_weightOf_33 : decode cX8_weightOf 33 = .ok (.iconst 1, 1) := by decide +kernel
theorem dX8_weightOf_34 : decode cX8_weightOf 34 = .ok (.iand, 1) := by decide +kernel
theorem dX8_weightOf_35 : decode cX8_weightOf 35 = .ok (.iconst 1, 1) := by decide +kernel
theorem dX8_weightOf_36 : decode cX8_weightOf 36 = .ok (.if_icmp .ne 9, 3) := by decide +kernel
theorem dX8_weightOf_39 : decode cX8_weightOf 39 = .ok (.iload 5, 2) := by decide +kernel
theorem dX8_weightOf_41 : decode cX8_weightOf 41 = .ok (.i2l, 1) := by decide +kernel
theorem dX8_weightOf_42 : decode cX8_weightOf 42 = .ok (.goto 9, 3) := by decide +kernel
theorem dX8_weightOf_45 : decode cX8_weightOf 45 = .ok (.bipush 10, 2) := by decide +kernel
theorem dX8_weightOf_47 : decode cX8_weightOf 47 = .ok (.iload 5, 2) := by decide +kernel
theorem dX8_weightOf_49 : decode cX8_weightOf 49 = .ok (.isub, 1) := by decide +kernel
theorem dX8_weightOf_50 : decode cX8_weightOf 50 = .ok (.i2l, 1) := by decide +kernel
theorem dX8_weightOf_51 : decode cX8_weightOf 51 = .ok (.lmul, 1) := by decide +kernel
theorem dX8_weightOf_52 : decode cX8_weightOf 52 = .ok (.lstore_n 2, 1) := by decide +kernel
theorem dX8_weightOf_53 : decode cX8_weightOf 53 = .ok (.iinc 4 1, 3) := by decide +kernel
theorem dX8_weightOf_56 : decode cX8_weightOf 56 = .ok (.goto (-51), 3) := by decide +kernel
theorem dX8_weightOf_59 : decode cX8_weightOf 59 = .ok (.lload_n 2, 1) := by decide +kernel
theorem dX8_weightOf_60 : decode cX8_weightOf 60 = .ok (.lreturn, 1) := by decide +kernel
set_option maxRecDepth 20000 in
theorem ggX8_breaksRule_X8_goes : GoodIn wsX8_breaksRule wsX8_goes := goodIn_r _ [7, 8, 9, 2, 1, 10, 11, 12, 13, 6, 14, 15, 16, 17, 18, 19, 20, 21, 22, 23, 24, 25, 26, 27, 28, 29, 30, 31, 32, 33, 34, 35, 36, 37, 38, 39, 40, 41, 42, 43, 44, 45, 46, 47, 48, 49, 50, 51, 52, 53, 54, 55, 56, 57, 58, 59, 60, 61, 62, 63] (by decide +kernel) (by decide +kernel)
set_option maxRecDepth 20000 in
theorem gX8_breaksRule_X8_goes : GoodIn wsX8_breaksRule (wsV RX8 153 RX8 yX8_goes wsX8_goes) := goodIn_app (goodIn_of _ (by decide +kernel)) ggX8_breaksRule_X8_goes
theorem dX8_breaksRule_0 : decode cX8_breaksRule 0 = .ok (.aload_n 0, 1) := by decide +kernel
theorem dX8_breaksRule_1 : decode cX8_breaksRule 1 = .ok (.iload_n 1, 1) := by decide +kernel
theorem dX8_breaksRule_2 : decode cX8_breaksRule 2 = .ok (.bipush 99, 2) := by decide +kernel
theorem dX8_breaksRule_4 : decode cX8_breaksRule 4 = .ok (.invokevirtual 153, 3) := by decide +kernel
theorem dX8_breaksRule_7 : decode cX8_breaksRule 7 = .ok (.aload_n 0, 1) := by decide +kernel
theorem dX8_breaksRule_8 : decode cX8_breaksRule 8 = .ok (.getfield 9, 3) := by decide +kernel
theorem dX8_breaksRule_11 : decode cX8_breaksRule 11 = .ok (.iconst 1, 1) := by decide +kernel
theorem dX8_breaksRule_12 : decode cX8_breaksRule 12 = .ok (.iaload, 1) := by decide +kernel
theorem dX8_breaksRule_13 : decode cX8_breaksRule 13 = .ok (.iconst 1, 1) := by decide +kernel
theorem dX8_breaksRule_14 : decode cX8_breaksRule 14 = .ok (.if_icmp .ne 14, 3) := by decide +kernel
theorem dX8_breaksRule_17 : decode cX8_breaksRule 17 = .ok (.aload_n 0, 1) := by decide +kernel
theorem dX8_breaksRule_18 : decode cX8_breaksRule 18 = .ok (.getfield 134, 3) := by decide +kernel
theorem dX8_breaksRule_21 : decode cX8_breaksRule 21 = .ok (.ifCond .eq 7, 3) := by decide +kernel
theorem dX8_breaksRule_24 : decode cX8_breaksRule 24 = .ok (.iconst 1, 1) := by decide +kernel
theorem dX8_breaksRule_25 : decode cX8_breaksRule 25 = .ok (.goto 4, 3) := by decide +kernel
theorem dX8_breaksRule_28 : decode cX8_breaksRule 28 = .ok (.iconst 0, 1) := by decide +kernel
theorem dX8_breaksRule_29 : decode cX8_breaksRule 29 = .ok (.ireturn, 1) := by decide +kernel
set_option maxRecDepth 20000 in
theorem ggX8_areSo_X8_sayingIs : GoodIn wsX8_areSo wsX8_sayingIs := goodIn_r _ [6, 7, 36, 37, 38, 39, 40, 41, 42, 43, 44, 45, 46, 47, 48, 49, 50, 51, 52, 53, 54, 55, 56, 57, 58, 59, 60, 61, 62, 63, 64, 65, 66, 67] (by decide +kernel) (by decide +kernel)
set_option maxRecDepth 20000 in
theorem gX8_areSo_X8_sayingIs : GoodIn wsX8_areSo (wsV RX8 123 RX8 yX8_sayingIs wsX8_sayingIs) := goodIn_app (goodIn_of _ (by decide +kernel)) ggX8_areSo_X8_sayingIs
set_option maxRecDepth 20000 in
theorem ggX8_areSo_X8_goes : GoodIn wsX8_areSo wsX8_goes := goodIn_r _ [11, 1, 12, 13, 7, 14, 15, 16, 17, 5, 18, 19, 20, 21, 22, 23, 24, 25, 26, 27, 28, 29, 30, 31, 32, 33, 34, 35, 36, 37, 38, 39, 40, 41, 42, 43, 44, 45, 46, 47, 48, 49, 50, 51, 52, 53, 54, 55, 56, 57, 58, 59, 60, 61, 62, 63, 64, 65, 66, 67] (by decide +kernel) (by decide +kernel)
set_option maxRecDepth 20000 in
theorem gX8_areSo_X8_goes : GoodIn wsX8_areSo (wsV RX8 153 RX8 yX8_goes wsX8_goes) := goodIn_app (goodIn_of _ (by decide +kernel)) ggX8_areSo_X8_goes
theorem dX8_areSo_0 : decode cX8_areSo 0 = .ok (.iconst 1, 1) := by decide +kernel
theorem dX8_areSo_1 : decode cX8_areSo 1 = .ok (.istore_n 3, 1) := by decide +kernel
theorem dX8_areSo_2 : decode cX8_areSo 2 = .ok (.iconst 0, 1) := by decide +kernel
theorem dX8_areSo_3 : decode cX8_areSo 3 = .ok (.istore 4, 2) := by decide +kernel
theorem dX8_areSo_5 : decode cX8_areSo 5 = .ok (.iload 4, 2) := by decide +kernel
theorem dX8_areSo_7 : decode cX8_areSo 7 = .ok (.iload_n 2, 1) := by decide +kernel
theorem dX8_areSo_8 : decode cX8_areSo 8 = .ok (.if_icmp .ge 77, 3) := by decide +kernel
theorem dX8_areSo_11 : decode cX8_areSo 11 = .ok (.iload_n 3, 1) := by decide +kernel
theorem dX8_areSo_12 : decode cX8_areSo 12 = .ok (.ifCond .eq 73, 3) := by decide +kernel
theorem dX8_areSo_15 : decode cX8_areSo 15 = .ok (.aload_n 0, 1) := by decide +kernel
theorem dX8_areSo_16 : decode cX8_areSo 16 = .ok (.iload_n 1, 1) := by decide +kernel
theorem dX8_areSo_17 : decode cX8_areSo 17 = .ok (.aload_n 0, 1) := by decide +kernel
theorem dX8_areSo_18 : decode cX8_areSo 18 = .ok (.iload 4, 2) := by decide +kernel
theorem dX8_areSo_20 : decode cX8_areSo 20 = .ok (.iconst 0, 1) := by decide +kernel
theorem dX8_areSo_21 : decode cX8_areSo 21 = .ok (.invokevirtual 123, 3) := by decide +kernel
theorem dX8_areSo_24 : decode cX8_areSo 24 = .ok (.invokevirtual 153, 3) := by decide +kernel
theorem dX8_areSo_27 : decode cX8_areSo 27 = .ok (.aload_n 0, 1) := by decide +kernel
theorem dX8_areSo_28 : decode cX8_areSo 28 = .ok (.getfield 29, 3) := by decide +kernel
theorem dX8_areSo_31 : decode cX8_areSo 31 = .ok (.aload_n 0, 1) := by decide +kernel
theorem dX8_areSo_32 : decode cX8_areSo 32 = .ok (.iload 4, 2) := by decide +kernel
theorem dX8_areSo_34 : decode cX8_areSo 34 = .ok (.iconst 1, 1) := by decide +kernel
theorem dX8_areSo_35 : decode cX8_areSo 35 = .ok (.invokevirtual 123, 3) := by decide +kernel
theorem dX8_areSo_38 : decode cX8_areSo 38 = .ok (.iaload, 1) := by decide +kernel
theorem dX8_areSo_39 : decode cX8_areSo 39 = .ok (.aload_n 0, 1) := by decide +kernel
theorem dX8_areSo_40 : decode cX8_areSo 40 = .ok (.iload 4, 2) := by decide +kernel
theorem dX8_areSo_42 : decode cX8_areSo 42 = .ok (.iconst 2, 1) := by decide +kernel
theorem dX8_areSo_43 : decode cX8_areSo 43 = .ok (.invokevirtual 123, 3) := by decide +kernel
theorem dX8_areSo_46 : decode cX8_areSo 46 = .ok (.if_icmp .ne 7, 3) := by decide +kernel
theorem dX8_areSo_49 : decode cX8_areSo 49 = .ok (.iconst 1, 1) := by decide +kernel
theorem dX8_areSo_50 : decode cX8_areSo 50 = .ok (.goto 4, 3) := by decide +kernel
theorem dX8_areSo_53 : decode cX8_areSo 53 = .ok (.iconst 0, 1) := by decide +kernel
theorem dX8_areSo_54 : decode cX8_areSo 54 = .ok (.aload_n 0, 1) := by decide +kernel
theorem dX8_areSo_55 : decode cX8_areSo 55 = .ok (.iload 4, 2) := by decide +kernel
theorem dX8_areSo_57 : decode cX8_areSo 57 = .ok (.iconst 3, 1) := by decide +kernel
theorem dX8_areSo_58 : decode cX8_areSo 58 = .ok (.invokevirtual 123, 3) := by decide +kernel
theorem dX8_areSo_61 : decode cX8_areSo 61 = .ok (.iconst 1, 1) := by decide +kernel
theorem dX8_areSo_62 : decode cX8_areSo 62 = .ok (.if_icmp .ne 7, 3) := by decide +kernel
theorem dX8_areSo_65 : decode cX8_areSo 65 = .ok (.iconst 1, 1) := by decide +kernel
theorem dX8_areSo_66 : decode cX8_areSo 66 = .ok (.goto 4, 3) := by decide +kernel
theorem dX8_areSo_69 : decode cX8_areSo 69 = .ok (.iconst 0, 1) := by decide +kernel
theorem dX8_areSo_70 : decode cX8_areSo 70 = .ok (.if_icmp .ne 7, 3) := by decide +kernel
theorem dX8_areSo_73 : decode cX8_areSo 73 = .ok (.iconst 1, 1) := by decide +kernel
theorem dX8_areSo_74 : decode cX8_areSo 74 = .ok (.goto 4, 3) := by decide +kernel
theorem dX8_areSo_77 : decode cX8_areSo 77 = .ok (.iconst 0, 1) := by decide +kernel
theorem dX8_areSo_78 : decode cX8_areSo 78 = .ok (.istore_n 3, 1) := by decide +kernel
theorem dX8_areSo_79 : decode cX8_areSo 79 = .ok (.iinc 4 1, 3) := by decide +kernel
theorem dX8_areSo_82 : decode cX8_areSo 82 = .ok (.goto (-77), 3) := by decide +kernel
theorem dX8_areSo_85 : decode cX8_areSo 85 = .ok (.iload_n 3, 1) := by decide +kernel
theorem dX8_areSo_86 : decode cX8_areSo 86 = .ok (.ireturn, 1) := by decide +kernel
set_option maxRecDepth 20000 in
theorem ggX8_weigh_X8_lay : GoodIn wsX8_weigh wsX8_lay := goodIn_r _ [7, 8, 1, 9, 10, 11, 12, 13, 6, 14, 57, 58, 59, 60, 61, 62, 63, 64, 65, 66, 67, 68, 69, 70, 71, 72, 73, 74, 75, 76, 77, 78, 79, 80, 81, 82, 83, 84, 85, 86, 87, 88] (by decide +kernel) (by decide +kernel)
set_option maxRecDepth 20000 in
theorem gX8_weigh_X8_lay : GoodIn wsX8_weigh (wsV RX8 156 RX8 yX8_lay wsX8_lay) := goodIn_app (goodIn_of _ (by decide +kernel)) ggX8_weigh_X8_lay
set_option maxRecDepth 20000 in
theorem ggX8_weigh_X8_nightsThere : GoodIn wsX8_weigh wsX8_nightsThere := goodIn_r _ [18, 8, 57, 58, 59, 60, 61, 62, 63, 64, 65, 66, 67, 68, 69, 70, 71, 72, 73, 74, 75, 76, 77, 78, 79, 80, 81, 82, 83, 84, 85, 86, 87, 88] (by decide +kernel) (by decide +kernel)
set_option maxRecDepth 20000 in
theorem gX8_weigh_X8_nightsThere : GoodIn wsX8_weigh (wsV RX8 159 RX8 yX8_nightsThere wsX8_nightsThere) := goodIn_app (goodIn_of _ (by decide +kernel)) ggX8_weigh_X8_nightsThere
set_option maxRecDepth 20000 in
theorem ggX8_weigh_X8_breaksRule : GoodIn wsX8_weigh wsX8_breaksRule := goodIn_r _ [22, 1, 23, 24, 25, 26, 6, 27, 28, 29, 10, 11, 12, 13, 14, 30, 31, 32, 33, 8, 9, 34, 35, 36, 37, 38, 39, 40, 41, 42, 43, 44, 57, 58, 59, 60, 61, 62, 63, 64, 65, 66, 67, 68, 69, 70, 71, 72, 73, 74, 75, 76, 77, 78, 79, 80, 81, 82, 83, 84, 85, 86, 87, 88] (by decide +kernel) (by decide +kernel)
set_option maxRecDepth 20000 in
theorem gX8_weigh_X8_breaksRule : GoodIn wsX8_weigh (wsV RX8 162 RX8 yX8_breaksRule wsX8_breaksRule) := goodIn_app (goodIn_of _ (by decide +kernel)) ggX8_weigh_X8_breaksRule
set_option maxRecDepth 20000 in
theorem ggX8_weigh_X8_areSo : GoodIn wsX8_weigh wsX8_areSo := goodIn_r _ [48, 28, 49, 50, 51, 6, 52, 1, 24, 25, 26, 27, 29, 23, 10, 11, 12, 13, 14, 30, 31, 32, 33, 8, 9, 34, 35, 36, 37, 38, 39, 40, 41, 42, 43, 44, 57, 58, 59, 60, 61, 62, 63, 64, 65, 66, 67, 68, 69, 70, 71, 72, 73, 74, 75, 76, 77, 78, 79, 80, 81, 82, 83, 84, 85, 86, 87, 88] (by decide +kernel) (by decide +kernel)
set_option maxRecDepth 20000 in
theorem gX8_weigh_X8_areSo : GoodIn wsX8_weigh (wsV RX8 165 RX8 yX8_areSo wsX8_areSo) := goodIn_app (goodIn_of _ (by decide +kernel)) ggX8_weigh_X8_areSo
set_option maxRecDepth 20000 in
theorem ggX8_weigh_X8_weightOf : GoodIn wsX8_weigh wsX8_weightOf := goodIn_r _ [56, 8, 9, 11, 12, 13, 6, 14, 1, 57, 58, 59, 60, 61, 62, 63, 64, 65, 66, 67, 68, 69, 70, 71, 72, 73, 74, 75, 76, 77, 78, 79, 80, 81, 82, 83, 84, 85, 86, 87, 88] (by decide +kernel) (by decide +kernel)
set_option maxRecDepth 20000 in
theorem gX8_weigh_X8_weightOf : GoodIn wsX8_weigh (wsV RX8 168 RX8 yX8_weightOf wsX8_weightOf) := goodIn_app (goodIn_of _ (by decide +kernel)) ggX8_weigh_X8_weightOf
theorem dX8_weigh_0 : decode cX8_weigh 0 = .ok (.aload_n 0, 1) := by decide +kernel
theorem dX8_weigh_1 : decode cX8_weigh 1 = .ok (.invokevirtual 156, 3) := by decide +kernel
theorem dX8_weigh_4 : decode cX8_weigh 4 = .ok (.lconst 0, 1) := by decide +kernel
theorem dX8_weigh_5 : decode cX8_weigh 5 = .ok (.lstore_n 1, 1) := by decide +kernel
theorem dX8_weigh_6 : decode cX8_weigh 6 = .ok (.iconst 0, 1) := by decide +kernel
theorem dX8_weigh_7 : decode cX8_weigh 7 = .ok (.istore_n 3, 1) := by decide +kernel
theorem dX8_weigh_8 : decode cX8_weigh 8 = .ok (.iload_n 3, 1) := by decide +kernel
theorem dX8_weigh_9 : decode cX8_weigh 9 = .ok (.aload_n 0, 1) := by decide +kernel
theorem dX8_weigh_10 : decode cX8_weigh 10 = .ok (.invokevirtual 159, 3) := by decide +kernel
theorem dX8_weigh_13 : decode cX8_weigh 13 = .ok (.if_icmp .ge 76, 3) := by decide +kernel
theorem dX8_weigh_16 : decode cX8_weigh 16 = .ok (.aload_n 0, 1) := by decide +kernel
theorem dX8_weigh_17 : decode cX8_weigh 17 = .ok (.iload_n 3, 1) := by decide +kernel
theorem dX8_weigh_18 : decode cX8_weigh 18 = .ok (.invokevirtual 162, 3) := by decide +kernel
theorem dX8_weigh_21 : decode cX8_weigh 21 = .ok (.ifCond .ne 30, 3) := by decide +kernel
theorem dX8_weigh_24 : decode cX8_weigh 24 = .ok (.aload_n 0, 1) := by decide +kernel
theorem dX8_weigh_25 : decode cX8_weigh 25 = .ok (.getfield 9, 3) := by decide +kernel
theorem dX8_weigh_28 : decode cX8_weigh 28 = .ok (.iconst 2, 1) := by decide +kernel
theorem dX8_weigh_29 : decode cX8_weigh 29 = .ok (.iaload, 1) := by decide +kernel
theorem dX8_weigh_30 : decode cX8_weigh 30 = .ok (.ifCond .eq 17, 3) := by decide +kernel
theorem dX8_weigh_33 : decode cX8_weigh 33 = .ok (.aload_n 0, 1) := by decide +kernel
theorem dX8_weigh_34 : decode cX8_weigh 34 = .ok (.iload_n 3, 1) := by decide +kernel
theorem dX8_weigh_35 : decode cX8_weigh 35 = .ok (.aload_n 0, 1) := by decide +kernel
theorem dX8_weigh_36 : decode cX8_weigh 36 = .ok (.getfield 9, 3) := by decide +kernel
theorem dX8_weigh_39 : decode cX8_weigh 39 = .ok (.iconst 5, 1) := by decide +kernel
theorem dX8_weigh_40 : decode cX8_weigh 40 = .ok (.iaload, 1) := by decide +kernel
theorem dX8_weigh_41 : decode cX8_weigh 41 = .ok (.invokevirtual 165, 3) := by decide +kernel
theorem dX8_weigh_44 : decode cX8_weigh 44 = .ok (.ifCond .eq 7, 3) := by decide +kernel
theorem dX8_weigh_47 : decode cX8_weigh 47 = .ok (.iconst 1, 1) := by decide +kernel
theorem dX8_weigh_48 : decode cX8_weigh 48 = .ok (.goto 4, 3) := by decide +kernel
theorem dX8_weigh_51 : decode cX8_weigh 51 = .ok (.iconst 0, 1) := by decide +kernel
theorem dX8_weigh_52 : decode cX8_weigh 52 = .ok (.istore 4, 2) := by decide +kernel
theorem dX8_weigh_54 : decode cX8_weigh 54 = .ok (.aload_n 0, 1) := by decide +kernel
theorem dX8_weigh_55 : decode cX8_weigh 55 = .ok (.getfield 25, 3) := by decide +kernel
theorem dX8_weigh_58 : decode cX8_weigh 58 = .ok (.iload_n 3, 1) := by decide +kernel
theorem dX8_weigh_59 : decode cX8_weigh 59 = .ok (.iload 4, 2) := by decide +kernel
theorem dX8_weigh_61 : decode cX8_weigh 61 = .ok (.ifCond .eq 11, 3) := by decide +kernel
theorem dX8_weigh_64 : decode cX8_weigh 64 = .ok (.aload_n 0, 1) := by decide +kernel
theorem dX8_weigh_65 : decode cX8_weigh 65 = .ok (.iload_n 3, 1) := by decide +kernel
theorem dX8_weigh_66 : decode cX8_weigh 66 = .ok (.invokevirtual 168, 3) := by decide +kernel
theorem dX8_weigh_69 : decode cX8_weigh 69 = .ok (.goto 4, 3) := by decide +kernel
theorem dX8_weigh_72 : decode cX8_weigh 72 = .ok (.lconst 0, 1) := by decide +kernel
theorem dX8_weigh_73 : decode cX8_weigh 73 = .ok (.lastore, 1) := by decide +kernel
theorem dX8_weigh_74 : decode cX8_weigh 74 = .ok (.lload_n 1, 1) := by decide +kernel
theorem dX8_weigh_75 : decode cX8_weigh 75 = .ok (.aload_n 0, 1) := by decide +kernel
theorem dX8_weigh_76 : decode cX8_weigh 76 = .ok (.getfield 25, 3) := by decide +kernel
theorem dX8_weigh_79 : decode cX8_weigh 79 = .ok (.iload_n 3, 1) := by decide +kernel
theorem dX8_weigh_80 : decode cX8_weigh 80 = .ok (.laload, 1) := by decide +kernel
theorem dX8_weigh_81 : decode cX8_weigh 81 = .ok (.ladd, 1) := by decide +kernel
theorem dX8_weigh_82 : decode cX8_weigh 82 = .ok (.lstore_n 1, 1) := by decide +kernel
theorem dX8_weigh_83 : decode cX8_weigh 83 = .ok (.iinc 3 1, 3) := by decide +kernel
theorem dX8_weigh_86 : decode cX8_weigh 86 = .ok (.goto (-78), 3) := by decide +kernel
theorem dX8_weigh_89 : decode cX8_weigh 89 = .ok (.lload_n 1, 1) := by decide +kernel
theorem dX8_weigh_90 : decode cX8_weigh 90 = .ok (.lreturn, 1) := by decide +kernel
set_option maxRecDepth 20000 in
theorem ggX8_nights_X8_weigh : GoodIn wsX8_nights wsX8_weigh := goodIn_r _ [6, 7, 1, 8, 9, 10, 5, 11, 12, 13, 14, 15, 16, 17, 18, 19, 20, 21, 22, 23, 24, 25, 26, 27, 28, 29, 30, 31, 32, 33, 34, 35, 36, 37, 38, 39, 40, 41, 42, 43, 44, 45, 46, 47, 48, 49, 50, 51, 52, 53, 54, 55, 56, 57, 58, 59, 60, 61, 62, 63, 64, 65, 66, 67, 68, 69, 70, 71, 72, 73, 74, 75, 76, 77, 78, 79, 80, 81, 82, 83, 84, 85, 86, 87, 88, 89, 90, 91, 92] (by decide +kernel) (by decide +kernel)
set_option maxRecDepth 20000 in
theorem gX8_nights_X8_weigh : GoodIn wsX8_nights (wsV RX8 172 RX8 yX8_weigh wsX8_weigh) := goodIn_app (goodIn_of _ (by decide +kernel)) ggX8_nights_X8_weigh
set_option maxRecDepth 20000 in
theorem ggX8_nights_X8_nightsThere : GoodIn wsX8_nights wsX8_nightsThere := goodIn_r _ [22, 12, 61, 62, 63, 64, 65, 66, 67, 68, 69, 70, 71, 72, 73, 74, 75, 76, 77, 78, 79, 80, 81, 82, 83, 84, 85, 86, 87, 88, 89, 90, 91, 92] (by decide +kernel) (by decide +kernel)
set_option maxRecDepth 20000 in
theorem gX8_nights_X8_nightsThere : GoodIn wsX8_nights (wsV RX8 159 RX8 yX8_nightsThere wsX8_nightsThere) := goodIn_app (goodIn_of _ (by decide +kernel)) ggX8_nights_X8_nightsThere
theorem dX8_nights_0 : decode cX8_nights 0 = .ok (.aload_n 0, 1) := by decide +kernel
theorem dX8_nights_1 : decode cX8_nights 1 = .ok (.invokevirtual 172, 3) := by decide +kernel
theorem dX8_nights_4 : decode cX8_nights 4 = .ok (.pop2, 1) := by decide +kernel
theorem dX8_nights_5 : decode cX8_nights 5 = .ok (.iconst 0, 1) := by decide +kernel
theorem dX8_nights_6 : decode cX8_nights 6 = .ok (.istore_n 1, 1) := by decide +kernel
theorem dX8_nights_7 : decode cX8_nights 7 = .ok (.iconst 0, 1) := by decide +kernel
theorem dX8_nights_8 : decode cX8_nights 8 = .ok (.istore_n 2, 1) := by decide +kernel
theorem dX8_nights_9 : decode cX8_nights 9 = .ok (.iload_n 2, 1) := by decide +kernel
theorem dX8_nights_10 : decode cX8_nights 10 = .ok (.aload_n 0, 1) := by decide +kernel
theorem dX8_nights_11 : decode cX8_nights 11 = .ok (.invokevirtual 159, 3) := by decide +kernel
theorem dX8_nights_14 : decode cX8_nights 14 = .ok (.if_icmp .ge 28, 3) := by decide +kernel
theorem dX8_nights_17 : decode cX8_nights 17 = .ok (.iload_n 1, 1) := by decide +kernel
theorem dX8_nights_18 : decode cX8_nights 18 = .ok (.aload_n 0, 1) := by decide +kernel
theorem dX8_nights_19 : decode cX8_nights 19 = .ok (.getfield 25, 3) := by decide +kernel
theorem dX8_nights_22 : decode cX8_nights 22 = .ok (.iload_n 2, 1) := by decide +kernel
theorem dX8_nights_23 : decode cX8_nights 23 = .ok (.laload, 1) := by decide +kernel
theorem dX8_nights_24 : decode cX8_nights 24 = .ok (.lconst 0, 1) := by decide +kernel
theorem dX8_nights_25 : decode cX8_nights 25 = .ok (.lcmp, 1) := by decide +kernel
theorem dX8_nights_26 : decode cX8_nights 26 = .ok (.ifCond .le 7, 3) := by decide +kernel
theorem dX8_nights_29 : decode cX8_nights 29 = .ok (.iconst 1, 1) := by decide +kernel
theorem dX8_nights_30 : decode cX8_nights 30 = .ok (.goto 4, 3) := by decide +kernel
theorem dX8_nights_33 : decode cX8_nights 33 = .ok (.iconst 0, 1) := by decide +kernel
theorem dX8_nights_34 : decode cX8_nights 34 = .ok (.iadd, 1) := by decide +kernel
theorem dX8_nights_35 : decode cX8_nights 35 = .ok (.istore_n 1, 1) := by decide +kernel
theorem dX8_nights_36 : decode cX8_nights 36 = .ok (.iinc 2 1, 3) := by decide +kernel
theorem dX8_nights_39 : decode cX8_nights 39 = .ok (.goto (-30), 3) := by decide +kernel
theorem dX8_nights_42 : decode cX8_nights 42 = .ok (.iload_n 1, 1) := by decide +kernel
theorem dX8_nights_43 : decode cX8_nights 43 = .ok (.ireturn, 1) := by decide +kernel
set_option maxRecDepth 20000 in
theorem ggX8_all_X8_weigh : GoodIn wsX8_all wsX8_weigh := goodIn_r _ [5, 6, 7, 8, 9, 10, 4, 11, 12, 13, 14, 15, 16, 17, 18, 19, 20, 21, 22, 23, 24, 25, 26, 27, 28, 29, 30, 31, 32, 33, 34, 35, 36, 37, 38, 39, 40, 41, 42, 43, 44, 45, 46, 47, 48, 49, 50, 51, 52, 53, 54, 55, 56, 57, 58, 59, 60, 61, 62, 63, 64, 65, 66, 67, 68, 69, 70, 71, 72, 73, 74, 75, 76, 77, 78, 79, 80, 81, 82, 83, 84, 85, 86, 87, 88, 89, 90, 91, 92] (by decide +kernel) (by decide +kernel)
set_option maxRecDepth 20000 in
theorem gX8_all_X8_weigh : GoodIn wsX8_all (wsV RX8 172 RX8 yX8_weigh wsX8_weigh) := goodIn_app (goodIn_of _ (by decide +kernel)) ggX8_all_X8_weigh
theorem dX8_all_0 : decode cX8_all 0 = .ok (.aload_n 0, 1) := by decide +kernel
theorem dX8_all_1 : decode cX8_all 1 = .ok (.invokevirtual 172, 3) := by decide +kernel
theorem dX8_all_4 : decode cX8_all 4 = .ok (.lreturn, 1) := by decide +kernel
set_option maxRecDepth 20000 in
theorem ggX8_bestNight_X8_weigh : GoodIn wsX8_bestNight wsX8_weigh := goodIn_r _ [6, 7, 1, 8, 9, 10, 5, 11, 12, 13, 14, 15, 16, 17, 18, 19, 20, 21, 22, 23, 24, 25, 26, 27, 28, 29, 30, 31, 32, 33, 34, 35, 36, 37, 38, 39, 40, 41, 42, 43, 44, 45, 46, 47, 48, 49, 50, 51, 52, 53, 54, 55, 56, 57, 58, 59, 60, 61, 62, 63, 64, 65, 66, 67, 68, 69, 70, 71, 72, 73, 74, 75, 76, 77, 78, 79, 80, 81, 82, 83, 84, 85, 86, 87, 88, 89, 90, 91, 92] (by decide +kernel) (by decide +kernel)
set_option maxRecDepth 20000 in
theorem gX8_bestNight_X8_weigh : GoodIn wsX8_bestNight (wsV RX8 172 RX8 yX8_weigh wsX8_weigh) := goodIn_app (goodIn_of _ (by decide +kernel)) ggX8_bestNight_X8_weigh
set_option maxRecDepth 20000 in
theorem ggX8_bestNight_X8_nightsThere : GoodIn wsX8_bestNight wsX8_nightsThere := goodIn_r _ [22, 12, 61, 62, 63, 64, 65, 66, 67, 68, 69, 70, 71, 72, 73, 74, 75, 76, 77, 78, 79, 80, 81, 82, 83, 84, 85, 86, 87, 88, 89, 90, 91, 92] (by decide +kernel) (by decide +kernel)
set_option maxRecDepth 20000 in
theorem gX8_bestNight_X8_nightsThere : GoodIn wsX8_bestNight (wsV RX8 159 RX8 yX8_nightsThere wsX8_nightsThere) := goodIn_app (goodIn_of _ (by decide +kernel)) ggX8_bestNight_X8_nightsThere
theorem dX8_bestNight_0 : decode cX8_bestNight 0 = .ok (.aload_n 0, 1) := by decide +kernel
theorem dX8_bestNight_1 : decode cX8_bestNight 1 = .ok (.invokevirtual 172, 3) := by decide +kernel
theorem dX8_bestNight_4 : decode cX8_bestNight 4 = .ok (.pop2, 1) := by decide +kernel
theorem dX8_bestNight_5 : decode cX8_bestNight 5 = .ok (.iconst (-1), 1) := by decide +kernel
theorem dX8_bestNight_6 : decode cX8_bestNight 6 = .ok (.istore_n 1, 1) := by decide +kernel
theorem dX8_bestNight_7 : decode cX8_bestNight 7 = .ok (.iconst 0, 1) := by decide +kernel
theorem dX8_bestNight_8 : decode cX8_bestNight 8 = .ok (.istore_n 2, 1) := by decide +kernel
theorem dX8_bestNight_9 : decode cX8_bestNight 9 = .ok (.iload_n 2, 1) := by decide +kernel
theorem dX8_bestNight_10 : decode cX8_bestNight 10 = .ok (.aload_n 0, 1) := by decide +kernel
theorem dX8_bestNight_11 : decode cX8_bestNight 11 = .ok (.invokevirtual 159, 3) := by decide +kernel
theorem dX8_bestNight_14 : decode cX8_bestNight 14 = .ok (.if_icmp .ge 39, 3) := by decide +kernel
theorem dX8_bestNight_17 : decode cX8_bestNight 17 = .ok (.aload_n 0, 1) := by decide +kernel
theorem dX8_bestNight_18 : decode cX8_bestNight 18 = .ok (.getfield 25, 3) := by decide +kernel
theorem dX8_bestNight_21 : decode cX8_bestNight 21 = .ok (.iload_n 2, 1) := by decide +kernel
theorem dX8_bestNight_22 : decode cX8_bestNight 22 = .ok (.laload, 1) := by decide +kernel
theorem dX8_bestNight_23 : decode cX8_bestNight 23 = .ok (.iload_n 1, 1) := by decide +kernel
theorem dX8_bestNight_24 : decode cX8_bestNight 24 = .ok (.ifCond .ge 7, 3) := by decide +kernel
theorem dX8_bestNight_27 : decode cX8_bestNight 27 = .ok (.lconst 0, 1) := by decide +kernel
theorem dX8_bestNight_28 : decode cX8_bestNight 28 = .ok (.goto 9, 3) := by decide +kernel
theorem dX8_bestNight_31 : decode cX8_bestNight 31 = .ok (.aload_n 0, 1) := by decide +kernel
theorem dX8_bestNight_32 : decode cX8_bestNight 32 = .ok (.getfield 25, 3) := by decide +kernel
theorem dX8_bestNight_35 : decode cX8_bestNight 35 = .ok (.iload_n 1, 1) := by decide +kernel
theorem dX8_bestNight_36 : decode cX8_bestNight 36 = .ok (.laload, 1) := by decide +kernel
theorem dX8_bestNight_37 : decode cX8_bestNight 37 = .ok (.lcmp, 1) := by decide +kernel
theorem dX8_bestNight_38 : decode cX8_bestNight 38 = .ok (.ifCond .le 7, 3) := by decide +kernel
theorem dX8_bestNight_41 : decode cX8_bestNight 41 = .ok (.iload_n 2, 1) := by decide +kernel
theorem dX8_bestNight_42 : decode cX8_bestNight 42 = .ok (.goto 4, 3) := by decide +kernel
theorem dX8_bestNight_45 : decode cX8_bestNight 45 = .ok (.iload_n 1, 1) := by decide +kernel
theorem dX8_bestNight_46 : decode cX8_bestNight 46 = .ok (.istore_n 1, 1) := by decide +kernel
theorem dX8_bestNight_47 : decode cX8_bestNight 47 = .ok (.iinc 2 1, 3) := by decide +kernel
theorem dX8_bestNight_50 : decode cX8_bestNight 50 = .ok (.goto (-41), 3) := by decide +kernel
theorem dX8_bestNight_53 : decode cX8_bestNight 53 = .ok (.iload_n 1, 1) := by decide +kernel
theorem dX8_bestNight_54 : decode cX8_bestNight 54 = .ok (.ireturn, 1) := by decide +kernel
set_option maxRecDepth 20000 in
theorem ggX8_likeliest_X8_bestNight : GoodIn wsX8_likeliest wsX8_bestNight := goodIn_r _ [7, 8, 9, 10, 11, 6, 12, 2, 13, 14, 15, 16, 17, 18, 19, 20, 21, 22, 23, 24, 25, 26, 27, 28, 29, 30, 31, 32, 33, 34, 35, 36, 37, 38, 39, 40, 41, 42, 43, 44, 45, 46, 47, 48, 49, 50, 51, 52, 53, 54, 55, 56, 57, 58, 59, 60, 61, 62, 63, 64, 65, 72, 73, 74, 75, 76, 77, 78, 79, 80, 81, 82, 83, 84, 85, 86, 87, 88, 89, 90, 91, 92, 93, 94, 95, 96, 97, 98, 99, 100, 101, 102, 103] (by decide +kernel) (by decide +kernel)
set_option maxRecDepth 20000 in
theorem gX8_likeliest_X8_bestNight : GoodIn wsX8_likeliest (wsV RX8 176 RX8 yX8_bestNight wsX8_bestNight) := goodIn_app (goodIn_of _ (by decide +kernel)) ggX8_likeliest_X8_bestNight
set_option maxRecDepth 20000 in
theorem ggX8_likeliest_X8_finding : GoodIn wsX8_likeliest wsX8_finding := goodIn_r _ [69, 70, 71, 72, 73, 74, 75, 76, 77, 78, 79, 80, 81, 82, 83, 84, 85, 86, 87, 88, 89, 90, 91, 92, 93, 94, 95, 96, 97, 98, 99, 100, 101, 102, 103] (by decide +kernel) (by decide +kernel)
set_option maxRecDepth 20000 in
theorem gX8_likeliest_X8_finding : GoodIn wsX8_likeliest (wsV RX8 86 RX8 yX8_finding wsX8_finding) := goodIn_app (goodIn_of _ (by decide +kernel)) ggX8_likeliest_X8_finding
set_option maxRecDepth 20000 in
theorem ggX8_likeliest_X8_isMade : GoodIn wsX8_likeliest wsX8_isMade := goodIn_r _ [42, 17, 18, 72, 73, 74, 75, 76, 77, 78, 79, 80, 81, 82, 83, 84, 85, 86, 87, 88, 89, 90, 91, 92, 93, 94, 95, 96, 97, 98, 99, 100, 101, 102, 103] (by decide +kernel) (by decide +kernel)
set_option maxRecDepth 20000 in
theorem gX8_likeliest_X8_isMade : GoodIn wsX8_likeliest (wsV RX8 138 RX8 yX8_isMade wsX8_isMade) := goodIn_app (goodIn_of _ (by decide +kernel)) ggX8_likeliest_X8_isMade
theorem dX8_likeliest_0 : decode cX8_likeliest 0 = .ok (.aload_n 0, 1) := by decide +kernel
theorem dX8_likeliest_1 : decode cX8_likeliest 1 = .ok (.invokevirtual 176, 3) := by decide +kernel
theorem dX8_likeliest_4 : decode cX8_likeliest 4 = .ok (.istore_n 1, 1) := by decide +kernel
theorem dX8_likeliest_5 : decode cX8_likeliest 5 = .ok (.iload_n 1, 1) := by decide +kernel
theorem dX8_likeliest_6 : decode cX8_likeliest 6 = .ok (.ifCond .ge 10, 3) := by decide +kernel
theorem dX8_likeliest_9 : decode cX8_likeliest 9 = .ok (.aload_n 0, 1) := by decide +kernel
theorem dX8_likeliest_10 : decode cX8_likeliest 10 = .ok (.ldc 179, 2) := by decide +kernel
theorem dX8_likeliest_12 : decode cX8_likeliest 12 = .ok (.invokevirtual 86, 3) := by decide +kernel
theorem dX8_likeliest_15 : decode cX8_likeliest 15 = .ok (.ireturn, 1) := by decide +kernel
theorem dX8_likeliest_16 : decode cX8_likeliest 16 = .ok (.iconst 0, 1) := by decide +kernel
theorem dX8_likeliest_17 : decode cX8_likeliest 17 = .ok (.istore_n 2, 1) := by decide +kernel
theorem dX8_likeliest_18 : decode cX8_likeliest 18 = .ok (.iconst 0, 1) := by decide +kernel
theorem dX8_likeliest_19 : decode cX8_likeliest 19 = .ok (.istore_n 3, 1) := by decide +kernel
theorem dX8_likeliest_20 : decode cX8_likeliest 20 = .ok (.iload_n 3, 1) := by decide +kernel
theorem dX8_likeliest_21 : decode cX8_likeliest 21 = .ok (.aload_n 0, 1) := by decide +kernel
theorem dX8_likeliest_22 : decode cX8_likeliest 22 = .ok (.getfield 9, 3) := by decide +kernel
theorem dX8_likeliest_25 : decode cX8_likeliest 25 = .ok (.iconst 3, 1) := by decide +kernel
theorem dX8_likeliest_26 : decode cX8_likeliest 26 = .ok (.iaload, 1) := by decide +kernel
theorem dX8_likeliest_27 : decode cX8_likeliest 27 = .ok (.if_icmp .ge 28, 3) := by decide +kernel
theorem dX8_likeliest_30 : decode cX8_likeliest 30 = .ok (.iload_n 2, 1) := by decide +kernel
theorem dX8_likeliest_31 : decode cX8_likeliest 31 = .ok (.aload_n 0, 1) := by decide +kernel
theorem dX8_likeliest_32 : decode cX8_likeliest 32 = .ok (.iload_n 3, 1) := by decide +kernel
theorem dX8_likeliest_33 : decode cX8_likeliest 33 = .ok (.iload_n 1, 1) := by decide +kernel
theorem dX8_likeliest_34 : decode cX8_likeliest 34 = .ok (.invokevirtual 138, 3) := by decide +kernel
theorem dX8_likeliest_37 : decode cX8_likeliest 37 = .ok (.ifCond .eq 9, 3) := by decide +kernel
theorem dX8_likeliest_40 : decode cX8_likeliest 40 = .ok (.iconst 1, 1) := by decide +kernel
theorem dX8_likeliest_41 : decode cX8_likeliest 41 = .ok (.iload_n 3, 1) := by decide +kernel
theorem dX8_likeliest_42 : decode cX8_likeliest 42 = .ok (.ishl, 1) := by decide +kernel
theorem dX8_likeliest_43 : decode cX8_likeliest 43 = .ok (.goto 4, 3) := by decide +kernel
theorem dX8_likeliest_46 : decode cX8_likeliest 46 = .ok (.iconst 0, 1) := by decide +kernel
theorem dX8_likeliest_47 : decode cX8_likeliest 47 = .ok (.ior, 1) := by decide +kernel
theorem dX8_likeliest_48 : decode cX8_likeliest 48 = .ok (.istore_n 2, 1) := by decide +kernel
theorem dX8_likeliest_49 : decode cX8_likeliest 49 = .ok (.iinc 3 1, 3) := by decide +kernel
theorem dX8_likeliest_52 : decode cX8_likeliest 52 = .ok (.goto (-32), 3) := by decide +kernel
theorem dX8_likeliest_55 : decode cX8_likeliest 55 = .ok (.iload_n 2, 1) := by decide +kernel
theorem dX8_likeliest_56 : decode cX8_likeliest 56 = .ok (.ireturn, 1) := by decide +kernel
theorem dX8_only_0 : decode cX8_only 0 = .ok (.iconst (-1), 1) := by decide +kernel
theorem dX8_only_1 : decode cX8_only 1 = .ok (.istore_n 1, 1) := by decide +kernel
theorem dX8_only_2 : decode cX8_only 2 = .ok (.iconst 0, 1) := by decide +kernel
theorem dX8_only_3 : decode cX8_only 3 = .ok (.istore_n 2, 1) := by decide +kernel
theorem dX8_only_4 : decode cX8_only 4 = .ok (.iload_n 2, 1) := by decide +kernel
theorem dX8_only_5 : decode cX8_only 5 = .ok (.bipush 8, 2) := by decide +kernel
theorem dX8_only_7 : decode cX8_only 7 = .ok (.if_icmp .ge 22, 3) := by decide +kernel
theorem dX8_only_10 : decode cX8_only 10 = .ok (.iload_n 0, 1) := by decide +kernel
theorem dX8_only_11 : decode cX8_only 11 = .ok (.iconst 1, 1) := by decide +kernel
theorem dX8_only_12 : decode cX8_only 12 = .ok (.iload_n 2, 1) := by decide +kernel
theorem dX8_only_13 : decode cX8_only 13 = .ok (.ishl, 1) := by decide +kernel
theorem dX8_only_14 : decode cX8_only 14 = .ok (.if_icmp .ne 7, 3) := by decide +kernel
theorem dX8_only_17 : decode cX8_only 17 = .ok (.iload_n 2, 1) := by decide +kernel
theorem dX8_only_18 : decode cX8_only 18 = .ok (.goto 4, 3) := by decide +kernel
theorem dX8_only_21 : decode cX8_only 21 = .ok (.iload_n 1, 1) := by decide +kernel
theorem dX8_only_22 : decode cX8_only 22 = .ok (.istore_n 1, 1) := by decide +kernel
theorem dX8_only_23 : decode cX8_only 23 = .ok (.iinc 2 1, 3) := by decide +kernel
theorem dX8_only_26 : decode cX8_only 26 = .ok (.goto (-22), 3) := by decide +kernel
theorem dX8_only_29 : decode cX8_only 29 = .ok (.iload_n 1, 1) := by decide +kernel
theorem dX8_only_30 : decode cX8_only 30 = .ok (.ireturn, 1) := by decide +kernel
set_option maxRecDepth 20000 in
theorem ggX8_wornBy_X8_weigh : GoodIn wsX8_wornBy wsX8_weigh := goodIn_r _ [7, 8, 1, 9, 10, 11, 6, 12, 13, 14, 15, 16, 17, 18, 19, 20, 21, 22, 23, 24, 25, 26, 27, 28, 29, 30, 31, 32, 2, 33, 34, 35, 36, 37, 38, 39, 40, 41, 42, 43, 44, 45, 46, 47, 48, 49, 50, 51, 52, 53, 54, 55, 56, 57, 58, 59, 60, 61, 62, 63, 64, 65, 66, 67, 68, 69, 70, 71, 72, 73, 74, 75, 76, 77, 78, 79, 80, 81, 82, 83, 84, 85, 86, 87, 88, 89, 90, 91, 92] (by decide +kernel) (by decide +kernel)
set_option maxRecDepth 20000 in
theorem gX8_wornBy_X8_weigh : GoodIn wsX8_wornBy (wsV RX8 172 RX8 yX8_weigh wsX8_weigh) := goodIn_app (goodIn_of _ (by decide +kernel)) ggX8_wornBy_X8_weigh
set_option maxRecDepth 20000 in
theorem ggX8_wornBy_X8_nightsThere : GoodIn wsX8_wornBy wsX8_nightsThere := goodIn_r _ [23, 13, 61, 62, 63, 64, 65, 66, 67, 68, 69, 70, 71, 72, 73, 74, 75, 76, 77, 78, 79, 80, 81, 82, 83, 84, 85, 86, 87, 88, 89, 90, 91, 92] (by decide +kernel) (by decide +kernel)
set_option maxRecDepth 20000 in
theorem gX8_wornBy_X8_nightsThere : GoodIn wsX8_wornBy (wsV RX8 159 RX8 yX8_nightsThere wsX8_nightsThere) := goodIn_app (goodIn_of _ (by decide +kernel)) ggX8_wornBy_X8_nightsThere
set_option maxRecDepth 20000 in
theorem ggX8_wornBy_X8_goes : GoodIn wsX8_wornBy wsX8_goes := goodIn_r _ [32, 2, 33, 28, 8, 15, 16, 17, 18, 6, 19, 34, 35, 36, 37, 13, 14, 38, 39, 40, 41, 42, 43, 44, 45, 46, 47, 48, 61, 62, 63, 64, 65, 66, 67, 68, 69, 70, 71, 72, 73, 74, 75, 76, 77, 78, 79, 80, 81, 82, 83, 84, 85, 86, 87, 88, 89, 90, 91, 92] (by decide +kernel) (by decide +kernel)
set_option maxRecDepth 20000 in
theorem gX8_wornBy_X8_goes : GoodIn wsX8_wornBy (wsV RX8 153 RX8 yX8_goes wsX8_goes) := goodIn_app (goodIn_of _ (by decide +kernel)) ggX8_wornBy_X8_goes
theorem dX8_wornBy_0 : decode cX8_wornBy 0 = .ok (.aload_n 0, 1) := by decide +kernel
theorem dX8_wornBy_1 : decode cX8_wornBy 1 = .ok (.invokevirtual 172, 3) := by decide +kernel
theorem dX8_wornBy_4 : decode cX8_wornBy 4 = .ok (.pop2, 1) := by decide +kernel
theorem dX8_wornBy_5 : decode cX8_wornBy 5 = .ok (.iconst 0, 1) := by decide +kernel
theorem dX8_wornBy_6 : decode cX8_wornBy 6 = .ok (.istore_n 3, 1) := by decide +kernel
theorem dX8_wornBy_7 : decode cX8_wornBy 7 = .ok (.iconst 0, 1) := by decide +kernel
theorem dX8_wornBy_8 : decode cX8_wornBy 8 = .ok (.istore 4, 2) := by decide +kernel
theorem dX8_wornBy_10 : decode cX8_wornBy 10 = .ok (.iload 4, 2) := by decide +kernel
theorem dX8_wornBy_12 : decode cX8_wornBy 12 = .ok (.aload_n 0, 1) := by decide +kernel
theorem dX8_wornBy_13 : decode cX8_wornBy 13 = .ok (.invokevirtual 159, 3) := by decide +kernel
theorem dX8_wornBy_16 : decode cX8_wornBy 16 = .ok (.if_icmp .ge 43, 3) := by decide +kernel
theorem dX8_wornBy_19 : decode cX8_wornBy 19 = .ok (.aload_n 0, 1) := by decide +kernel
theorem dX8_wornBy_20 : decode cX8_wornBy 20 = .ok (.iload 4, 2) := by decide +kernel
theorem dX8_wornBy_22 : decode cX8_wornBy 22 = .ok (.iload_n 2, 1) := by decide +kernel
theorem dX8_wornBy_23 : decode cX8_wornBy 23 = .ok (.invokevirtual 153, 3) := by decide +kernel
theorem dX8_wornBy_26 : decode cX8_wornBy 26 = .ok (.iload_n 3, 1) := by decide +kernel
theorem dX8_wornBy_27 : decode cX8_wornBy 27 = .ok (.aload_n 0, 1) := by decide +kernel
theorem dX8_wornBy_28 : decode cX8_wornBy 28 = .ok (.getfield 25, 3) := by decide +kernel
theorem dX8_wornBy_31 : decode cX8_wornBy 31 = .ok (.iload 4, 2) := by decide +kernel
theorem dX8_wornBy_33 : decode cX8_wornBy 33 = .ok (.laload, 1) := by decide +kernel
theorem dX8_wornBy_34 : decode cX8_wornBy 34 = .ok (.lconst 0, 1) := by decide +kernel
theorem dX8_wornBy_35 : decode cX8_wornBy 35 = .ok (.lcmp, 1) := by decide +kernel
theorem dX8_wornBy_36 : decode cX8_wornBy 36 = .ok (.ifCond .le 14, 3) := by decide +kernel
theorem dX8_wornBy_39 : decode cX8_wornBy 39 = .ok (.iconst 1, 1) := by decide +kernel
theorem dX8_wornBy_40 : decode cX8_wornBy 40 = .ok (.aload_n 0, 1) := by decide +kernel
theorem dX8_wornBy_41 : decode cX8_wornBy 41 = .ok (.getfield 29, 3) := by decide +kernel
theorem dX8_wornBy_44 : decode cX8_wornBy 44 = .ok (.iload_n 1, 1) := by decide +kernel
theorem dX8_wornBy_45 : decode cX8_wornBy 45 = .ok (.iaload, 1) := by decide +kernel
theorem dX8_wornBy_46 : decode cX8_wornBy 46 = .ok (.ishl, 1) := by decide +kernel
theorem dX8_wornBy_47 : decode cX8_wornBy 47 = .ok (.goto 4, 3) := by decide +kernel
theorem dX8_wornBy_50 : decode cX8_wornBy 50 = .ok (.iconst 0, 1) := by decide +kernel
theorem dX8_wornBy_51 : decode cX8_wornBy 51 = .ok (.ior, 1) := by decide +kernel
theorem dX8_wornBy_52 : decode cX8_wornBy 52 = .ok (.istore_n 3, 1) := by decide +kernel
theorem dX8_wornBy_53 : decode cX8_wornBy 53 = .ok (.iinc 4 1, 3) := by decide +kernel
theorem dX8_wornBy_56 : decode cX8_wornBy 56 = .ok (.goto (-46), 3) := by decide +kernel
theorem dX8_wornBy_59 : decode cX8_wornBy 59 = .ok (.iload_n 3, 1) := by decide +kernel
theorem dX8_wornBy_60 : decode cX8_wornBy 60 = .ok (.ireturn, 1) := by decide +kernel
set_option maxRecDepth 20000 in
theorem ggX8_wore_X8_isOne : GoodIn wsX8_wore wsX8_isOne := goodIn_r _ [7, 8, 9, 10, 6, 11, 85, 86, 87, 88, 89, 90, 91, 92, 93, 94, 95, 96, 97, 98, 99, 100, 101, 102, 103, 104, 105, 106, 107, 108, 109, 110, 111, 112, 113, 114, 115, 116] (by decide +kernel) (by decide +kernel)
set_option maxRecDepth 20000 in
theorem gX8_wore_X8_isOne : GoodIn wsX8_wore (wsV RX8 82 RX8 yX8_isOne wsX8_isOne) := goodIn_app (goodIn_of _ (by decide +kernel)) ggX8_wore_X8_isOne
set_option maxRecDepth 20000 in
theorem ggX8_wore_X8_isHour : GoodIn wsX8_wore wsX8_isHour := goodIn_r _ [14, 9, 10, 6, 11] (by decide +kernel) (by decide +kernel)
set_option maxRecDepth 20000 in
theorem gX8_wore_X8_isHour : GoodIn wsX8_wore (va_wsS RX8 98 yX8_isHour wsX8_isHour) := goodIn_app (goodIn_of _ (by decide +kernel)) ggX8_wore_X8_isHour
set_option maxRecDepth 20000 in
theorem ggX8_wore_X8_finding : GoodIn wsX8_wore wsX8_finding := goodIn_r _ [18, 19, 1, 85, 86, 87, 88, 89, 90, 91, 92, 93, 94, 95, 96, 97, 98, 99, 100, 101, 102, 103, 104, 105, 106, 107, 108, 109, 110, 111, 112, 113, 114, 115, 116] (by decide +kernel) (by decide +kernel)
set_option maxRecDepth 20000 in
theorem gX8_wore_X8_finding : GoodIn wsX8_wore (wsV RX8 86 RX8 yX8_finding wsX8_finding) := goodIn_app (goodIn_of _ (by decide +kernel)) ggX8_wore_X8_finding
set_option maxRecDepth 20000 in
theorem ggX8_wore_X8_wornBy : GoodIn wsX8_wore wsX8_wornBy := goodIn_r _ [23, 24, 25, 26, 27, 28, 6, 29, 8, 30, 31, 32, 33, 34, 35, 36, 37, 38, 39, 40, 41, 42, 43, 44, 45, 46, 47, 48, 49, 50, 51, 52, 53, 54, 55, 56, 57, 58, 59, 60, 61, 62, 63, 64, 65, 66, 67, 68, 69, 70, 71, 72, 73, 74, 75, 76, 77, 78, 79, 80, 81, 85, 86, 87, 88, 89, 90, 91, 92, 93, 94, 95, 96, 97, 98, 99, 100, 101, 102, 103, 104, 105, 106, 107, 108, 109, 110, 111, 112, 113, 114, 115, 116] (by decide +kernel) (by decide +kernel)
set_option maxRecDepth 20000 in
theorem gX8_wore_X8_wornBy : GoodIn wsX8_wore (wsV RX8 180 RX8 yX8_wornBy wsX8_wornBy) := goodIn_app (goodIn_of _ (by decide +kernel)) ggX8_wore_X8_wornBy
set_option maxRecDepth 20000 in
theorem ggX8_wore_X8_only : GoodIn wsX8_wore wsX8_only := goodIn_r _ [84] (by decide +kernel) (by decide +kernel)
set_option maxRecDepth 20000 in
theorem gX8_wore_X8_only : GoodIn wsX8_wore (va_wsS RX8 183 yX8_only wsX8_only) := goodIn_app (goodIn_of _ (by decide +kernel)) ggX8_wore_X8_only
theorem dX8_wore_0 : decode cX8_wore 0 = .ok (.aload_n 0, 1) := by decide +kernel
theorem dX8_wore_1 : decode cX8_wore 1 = .ok (.iload_n 1, 1) := by decide +kernel
theorem dX8_wore_2 : decode cX8_wore 2 = .ok (.invokevirtual 82, 3) := by decide +kernel
theorem dX8_wore_5 : decode cX8_wore 5 = .ok (.ifCond .eq 10, 3) := by decide +kernel
theorem dX8_wore_8 : decode cX8_wore 8 = .ok (.iload_n 2, 1) := by decide +kernel
theorem dX8_wore_9 : decode cX8_wore 9 = .ok (.invokestatic 98, 3) := by decide +kernel
theorem dX8_wore_12 : decode cX8_wore 12 = .ok (.ifCond .ne 10, 3) := by decide +kernel
theorem dX8_wore_15 : decode cX8_wore 15 = .ok (.aload_n 0, 1) := by decide +kernel
theorem dX8_wore_16 : decode cX8_wore 16 = .ok (.ldc 77, 2) := by decide +kernel
theorem dX8_wore_18 : decode cX8_wore 18 = .ok (.invokevirtual 86, 3) := by decide +kernel
theorem dX8_wore_21 : decode cX8_wore 21 = .ok (.ireturn, 1) := by decide +kernel
theorem dX8_wore_22 : decode cX8_wore 22 = .ok (.aload_n 0, 1) := by decide +kernel
theorem dX8_wore_23 : decode cX8_wore 23 = .ok (.iload_n 1, 1) := by decide +kernel
theorem dX8_wore_24 : decode cX8_wore 24 = .ok (.iload_n 2, 1) := by decide +kernel
theorem dX8_wore_25 : decode cX8_wore 25 = .ok (.invokevirtual 180, 3) := by decide +kernel
theorem dX8_wore_28 : decode cX8_wore 28 = .ok (.invokestatic 183, 3) := by decide +kernel
theorem dX8_wore_31 : decode cX8_wore 31 = .ok (.istore_n 3, 1) := by decide +kernel
theorem dX8_wore_32 : decode cX8_wore 32 = .ok (.iload_n 3, 1) := by decide +kernel
theorem dX8_wore_33 : decode cX8_wore 33 = .ok (.ifCond .ge 12, 3) := by decide +kernel
theorem dX8_wore_36 : decode cX8_wore 36 = .ok (.aload_n 0, 1) := by decide +kernel
theorem dX8_wore_37 : decode cX8_wore 37 = .ok (.ldc 179, 2) := by decide +kernel
theorem dX8_wore_39 : decode cX8_wore 39 = .ok (.invokevirtual 86, 3) := by decide +kernel
theorem dX8_wore_42 : decode cX8_wore 42 = .ok (.goto 4, 3) := by decide +kernel
theorem dX8_wore_45 : decode cX8_wore 45 = .ok (.iload_n 3, 1) := by decide +kernel
theorem dX8_wore_46 : decode cX8_wore 46 = .ok (.ireturn, 1) := by decide +kernel
set_option maxRecDepth 20000 in
theorem ggX8_may_X8_isOne : GoodIn wsX8_may wsX8_isOne := goodIn_r _ [6, 7, 8, 9, 5, 10, 81, 82, 83, 84, 85, 86, 87, 88, 89, 90, 91, 92, 93, 94, 95, 96, 97, 98, 99, 100, 101, 102, 103, 104, 105, 106, 107, 108, 109, 110, 111, 112] (by decide +kernel) (by decide +kernel)
set_option maxRecDepth 20000 in
theorem gX8_may_X8_isOne : GoodIn wsX8_may (wsV RX8 82 RX8 yX8_isOne wsX8_isOne) := goodIn_app (goodIn_of _ (by decide +kernel)) ggX8_may_X8_isOne
set_option maxRecDepth 20000 in
theorem ggX8_may_X8_isHour : GoodIn wsX8_may wsX8_isHour := goodIn_r _ [13, 8, 9, 5, 10] (by decide +kernel) (by decide +kernel)
set_option maxRecDepth 20000 in
theorem gX8_may_X8_isHour : GoodIn wsX8_may (va_wsS RX8 98 yX8_isHour wsX8_isHour) := goodIn_app (goodIn_of _ (by decide +kernel)) ggX8_may_X8_isHour
set_option maxRecDepth 20000 in
theorem ggX8_may_X8_wornBy : GoodIn wsX8_may wsX8_wornBy := goodIn_r _ [17, 18, 19, 20, 21, 22, 5, 23, 7, 24, 25, 26, 27, 28, 29, 30, 31, 32, 33, 34, 35, 36, 37, 38, 39, 40, 41, 42, 43, 44, 45, 46, 47, 48, 49, 50, 51, 52, 53, 54, 55, 56, 57, 58, 59, 60, 61, 62, 63, 64, 65, 66, 67, 68, 69, 70, 71, 72, 73, 74, 75, 81, 82, 83, 84, 85, 86, 87, 88, 89, 90, 91, 92, 93, 94, 95, 96, 97, 98, 99, 100, 101, 102, 103, 104, 105, 106, 107, 108, 109, 110, 111, 112] (by decide +kernel) (by decide +kernel)
set_option maxRecDepth 20000 in
theorem gX8_may_X8_wornBy : GoodIn wsX8_may (wsV RX8 180 RX8 yX8_wornBy wsX8_wornBy) := goodIn_app (goodIn_of _ (by decide +kernel)) ggX8_may_X8_wornBy
set_option maxRecDepth 20000 in
theorem ggX8_may_X8_finding : GoodIn wsX8_may wsX8_finding := goodIn_r _ [79, 80, 1, 81, 82, 83, 84, 85, 86, 87, 88, 89, 90, 91, 92, 93, 94, 95, 96, 97, 98, 99, 100, 101, 102, 103, 104, 105, 106, 107, 108, 109, 110, 111, 112] (by decide +kernel) (by decide +kernel)
set_option maxRecDepth 20000 in
theorem gX8_may_X8_finding : GoodIn wsX8_may (wsV RX8 86 RX8 yX8_finding wsX8_finding) := goodIn_app (goodIn_of _ (by decide +kernel)) ggX8_may_X8_finding
theorem dX8_may_0 : decode cX8_may 0 = .ok (.aload_n 0, 1) := by decide +kernel
theorem dX8_may_1 : decode cX8_may 1 = .ok (.iload_n 1, 1) := by decide +kernel
theorem dX8_may_2 : decode cX8_may 2 = .ok (.invokevirtual 82, 3) := by decide +kernel
theorem dX8_may_5 : decode cX8_may 5 = .ok (.ifCond .eq 19, 3) := by decide +kernel
theorem dX8_may_8 : decode cX8_may 8 = .ok (.iload_n 2, 1) := by decide +kernel
theorem dX8_may_9 : decode cX8_may 9 = .ok (.invokestatic 98, 3) := by decide +kernel
theorem dX8_may_12 : decode cX8_may 12 = .ok (.ifCond .eq 12, 3) := by decide +kernel
theorem dX8_may_15 : decode cX8_may 15 = .ok (.aload_n 0, 1) := by decide +kernel
theorem dX8_may_16 : decode cX8_may 16 = .ok (.iload_n 1, 1) := by decide +kernel
theorem dX8_may_17 : decode cX8_may 17 = .ok (.iload_n 2, 1) := by decide +kernel
theorem dX8_may_18 : decode cX8_may 18 = .ok (.invokevirtual 180, 3) := by decide +kernel
theorem dX8_may_21 : decode cX8_may 21 = .ok (.goto 9, 3) := by decide +kernel
theorem dX8_may_24 : decode cX8_may 24 = .ok (.aload_n 0, 1) := by decide +kernel
theorem dX8_may_25 : decode cX8_may 25 = .ok (.ldc 77, 2) := by decide +kernel
theorem dX8_may_27 : decode cX8_may 27 = .ok (.invokevirtual 86, 3) := by decide +kernel
theorem dX8_may_30 : decode cX8_may 30 = .ok (.ireturn, 1) := by decide +kernel
set_option maxRecDepth 20000 in
theorem ggX8_odds_X8_isOne : GoodIn wsX8_odds wsX8_isOne := goodIn_r _ [8, 9, 10, 11, 7, 12, 77, 78, 79, 80, 81, 82, 83, 84, 85, 86, 87, 88, 89, 90, 91, 92, 93, 94, 95, 96, 97, 98, 99, 100, 101, 102, 103, 104, 105, 106, 107, 108] (by decide +kernel) (by decide +kernel)
set_option maxRecDepth 20000 in
theorem gX8_odds_X8_isOne : GoodIn wsX8_odds (wsV RX8 82 RX8 yX8_isOne wsX8_isOne) := goodIn_app (goodIn_of _ (by decide +kernel)) ggX8_odds_X8_isOne
set_option maxRecDepth 20000 in
theorem ggX8_odds_X8_isHour : GoodIn wsX8_odds wsX8_isHour := goodIn_r _ [15, 10, 11, 7, 12] (by decide +kernel) (by decide +kernel)
set_option maxRecDepth 20000 in
theorem gX8_odds_X8_isHour : GoodIn wsX8_odds (va_wsS RX8 98 yX8_isHour wsX8_isHour) := goodIn_app (goodIn_of _ (by decide +kernel)) ggX8_odds_X8_isHour
set_option maxRecDepth 20000 in
theorem ggX8_odds_X8_finding : GoodIn wsX8_odds wsX8_finding := goodIn_r _ [19, 20, 1, 77, 78, 79, 80, 81, 82, 83, 84, 85, 86, 87, 88, 89, 90, 91, 92, 93, 94, 95, 96, 97, 98, 99, 100, 101, 102, 103, 104, 105, 106, 107, 108] (by decide +kernel) (by decide +kernel)
set_option maxRecDepth 20000 in
theorem gX8_odds_X8_finding : GoodIn wsX8_odds (wsV RX8 86 RX8 yX8_finding wsX8_finding) := goodIn_app (goodIn_of _ (by decide +kernel)) ggX8_odds_X8_finding
set_option maxRecDepth 20000 in
theorem ggX8_odds_X8_weigh : GoodIn wsX8_odds wsX8_weigh := goodIn_r _ [24, 9, 3, 25, 26, 27, 7, 28, 29, 30, 31, 32, 33, 34, 35, 36, 37, 38, 39, 40, 41, 42, 43, 44, 45, 46, 47, 48, 2, 49, 50, 51, 52, 53, 54, 55, 56, 57, 58, 59, 60, 61, 62, 63, 64, 65, 66, 67, 68, 69, 70, 71, 72, 73, 74, 75, 76, 77, 78, 79, 80, 81, 82, 83, 84, 85, 86, 87, 88, 89, 90, 91, 92, 93, 94, 95, 96, 97, 98, 99, 100, 101, 102, 103, 104, 105, 106, 107, 108] (by decide +kernel) (by decide +kernel)
set_option maxRecDepth 20000 in
theorem gX8_odds_X8_weigh : GoodIn wsX8_odds (wsV RX8 172 RX8 yX8_weigh wsX8_weigh) := goodIn_app (goodIn_of _ (by decide +kernel)) ggX8_odds_X8_weigh
set_option maxRecDepth 20000 in
theorem ggX8_odds_X8_nightsThere : GoodIn wsX8_odds wsX8_nightsThere := goodIn_r _ [39, 29, 77, 78, 79, 80, 81, 82, 83, 84, 85, 86, 87, 88, 89, 90, 91, 92, 93, 94, 95, 96, 97, 98, 99, 100, 101, 102, 103, 104, 105, 106, 107, 108] (by decide +kernel) (by decide +kernel)
set_option maxRecDepth 20000 in
theorem gX8_odds_X8_nightsThere : GoodIn wsX8_odds (wsV RX8 159 RX8 yX8_nightsThere wsX8_nightsThere) := goodIn_app (goodIn_of _ (by decide +kernel)) ggX8_odds_X8_nightsThere
set_option maxRecDepth 20000 in
theorem ggX8_odds_X8_goes : GoodIn wsX8_odds wsX8_goes := goodIn_r _ [48, 2, 49, 44, 9, 31, 32, 33, 34, 7, 35, 50, 51, 52, 53, 29, 30, 54, 55, 56, 57, 58, 59, 60, 61, 62, 63, 64, 77, 78, 79, 80, 81, 82, 83, 84, 85, 86, 87, 88, 89, 90, 91, 92, 93, 94, 95, 96, 97, 98, 99, 100, 101, 102, 103, 104, 105, 106, 107, 108] (by decide +kernel) (by decide +kernel)
set_option maxRecDepth 20000 in
theorem gX8_odds_X8_goes : GoodIn wsX8_odds (wsV RX8 153 RX8 yX8_goes wsX8_goes) := goodIn_app (goodIn_of _ (by decide +kernel)) ggX8_odds_X8_goes
theorem dX8_odds_0 : decode cX8_odds 0 = .ok (.aload_n 0, 1) := by decide +kernel
theorem dX8_odds_1 : decode cX8_odds 1 = .ok (.iload_n 1, 1) := by decide +kernel
theorem dX8_odds_2 : decode cX8_odds 2 = .ok (.invokevirtual 82, 3) := by decide +kernel
theorem dX8_odds_5 : decode cX8_odds 5 = .ok (.ifCond .eq 18, 3) := by decide +kernel
theorem dX8_odds_8 : decode cX8_odds 8 = .ok (.aload_n 0, 1) := by decide +kernel
theorem dX8_odds_9 : decode cX8_odds 9 = .ok (.iload_n 2, 1) := by decide +kernel
theorem dX8_odds_10 : decode cX8_odds 10 = .ok (.invokevirtual 82, 3) := by decide +kernel
theorem dX8_odds_13 : decode cX8_odds 13 = .ok (.ifCond .eq 10, 3) := by decide +kernel
theorem dX8_odds_16 : decode cX8_odds 16 = .ok (.iload_n 3, 1) := by decide +kernel
theorem dX8_odds_17 : decode cX8_odds 17 = .ok (.invokestatic 98, 3) := by decide +kernel
theorem dX8_odds_20 : decode cX8_odds 20 = .ok (.ifCond .ne 11, 3) := by decide +kernel
theorem dX8_odds_23 : decode cX8_odds 23 = .ok (.aload_n 0, 1) := by decide +kernel
theorem dX8_odds_24 : decode cX8_odds 24 = .ok (.ldc 77, 2) := by decide +kernel
theorem dX8_odds_26 : decode cX8_odds 26 = .ok (.invokevirtual 86, 3) := by decide +kernel
theorem dX8_odds_29 : decode cX8_odds 29 = .ok (.i2l, 1) := by decide +kernel
theorem dX8_odds_30 : decode cX8_odds 30 = .ok (.lreturn, 1) := by decide +kernel
theorem dX8_odds_31 : decode cX8_odds 31 = .ok (.aload_n 0, 1) := by decide +kernel
theorem dX8_odds_32 : decode cX8_odds 32 = .ok (.invokevirtual 172, 3) := by decide +kernel
theorem dX8_odds_35 : decode cX8_odds 35 = .ok (.pop2, 1) := by decide +kernel
theorem dX8_odds_36 : decode cX8_odds 36 = .ok (.lconst 0, 1) := by decide +kernel
theorem dX8_odds_37 : decode cX8_odds 37 = .ok (.lstore 4, 2) := by decide +kernel
theorem dX8_odds_39 : decode cX8_odds 39 = .ok (.iconst 0, 1) := by decide +kernel
theorem dX8_odds_40 : decode cX8_odds 40 = .ok (.istore 6, 2) := by decide +kernel
theorem dX8_odds_42 : decode cX8_odds 42 = .ok (.iload 6, 2) := by decide +kernel
theorem dX8_odds_44 : decode cX8_odds 44 = .ok (.aload_n 0, 1) := by decide +kernel
theorem dX8_odds_45 : decode cX8_odds 45 = .ok (.invokevirtual 159, 3) := by decide +kernel
theorem dX8_odds_48 : decode cX8_odds 48 = .ok (.if_icmp .ge 42, 3) := by decide +kernel
theorem dX8_odds_51 : decode cX8_odds 51 = .ok (.aload_n 0, 1) := by decide +kernel
theorem dX8_odds_52 : decode cX8_odds 52 = .ok (.iload 6, 2) := by decide +kernel
theorem dX8_odds_54 : decode cX8_odds 54 = .ok (.iload_n 3, 1) := by decide +kernel
theorem dX8_odds_55 : decode cX8_odds 55 = .ok (.invokevirtual 153, 3) := by decide +kernel
theorem dX8_odds_58 : decode cX8_odds 58 = .ok (.lload 4, 2) := by decide +kernel
theorem dX8_odds_60 : decode cX8_odds 60 = .ok (.aload_n 0, 1) := by decide +kernel
theorem dX8_odds_61 : decode cX8_odds 61 = .ok (.getfield 29, 3) := by decide +kernel
theorem dX8_odds_64 : decode cX8_odds 64 = .ok (.iload_n 1, 1) := by decide +kernel
theorem dX8_odds_65 : decode cX8_odds 65 = .ok (.iaload, 1) := by decide +kernel
theorem dX8_odds_66 : decode cX8_odds 66 = .ok (.iload_n 2, 1) := by decide +kernel
theorem dX8_odds_67 : decode cX8_odds 67 = .ok (.if_icmp .ne 13, 3) := by decide +kernel
theorem dX8_odds_70 : decode cX8_odds 70 = .ok (.aload_n 0, 1) := by decide +kernel
theorem dX8_odds_71 : decode cX8_odds 71 = .ok (.getfield 25, 3) := by decide +kernel
theorem dX8_odds_74 : decode cX8_odds 74 = .ok (.iload 6, 2) := by decide +kernel
theorem dX8_odds_76 : decode cX8_odds 76 = .ok (.laload, 1) := by decide +kernel
theorem dX8_odds_77 : decode cX8_odds 77 = .ok (.goto 4, 3) := by decide +kernel
theorem dX8_odds_80 : decode cX8_odds 80 = .ok (.lconst 0, 1) := by decide +kernel
theorem dX8_odds_81 : decode cX8_odds 81 = .ok (.ladd, 1) := by decide +kernel
theorem dX8_odds_82 : decode cX8_odds 82 = .ok (.lstore 4, 2) := by decide +kernel
theorem dX8_odds_84 : decode cX8_odds 84 = .ok (.iinc 6 1, 3) := by decide +kernel
theorem dX8_odds_87 : decode cX8_odds 87 = .ok (.goto (-45), 3) := by decide +kernel
theorem dX8_odds_90 : decode cX8_odds 90 = .ok (.lload 4, 2) := by decide +kernel
theorem dX8_odds_92 : decode cX8_odds 92 = .ok (.lreturn, 1) := by decide +kernel
theorem dX8_maskOf_0 : decode cX8_maskOf 0 = .ok (.iconst 0, 1) := by decide +kernel
theorem dX8_maskOf_1 : decode cX8_maskOf 1 = .ok (.istore_n 2, 1) := by decide +kernel
theorem dX8_maskOf_2 : decode cX8_maskOf 2 = .ok (.aload_n 0, 1) := by decide +kernel
theorem dX8_maskOf_3 : decode cX8_maskOf 3 = .ok (.getfield 29, 3) := by decide +kernel
theorem dX8_maskOf_6 : decode cX8_maskOf 6 = .ok (.iload_n 2, 1) := by decide +kernel
theorem dX8_maskOf_7 : decode cX8_maskOf 7 = .ok (.iaload, 1) := by decide +kernel
theorem dX8_maskOf_8 : decode cX8_maskOf 8 = .ok (.iload_n 1, 1) := by decide +kernel
theorem dX8_maskOf_9 : decode cX8_maskOf 9 = .ok (.if_icmp .eq 9, 3) := by decide +kernel
theorem dX8_maskOf_12 : decode cX8_maskOf 12 = .ok (.iinc 2 1, 3) := by decide +kernel
theorem dX8_maskOf_15 : decode cX8_maskOf 15 = .ok (.goto (-13), 3) := by decide +kernel
theorem dX8_maskOf_18 : decode cX8_maskOf 18 = .ok (.iload_n 2, 1) := by decide +kernel
theorem dX8_maskOf_19 : decode cX8_maskOf 19 = .ok (.ireturn, 1) := by decide +kernel
set_option maxRecDepth 20000 in
theorem ggX8_behind_X8_isOne : GoodIn wsX8_behind wsX8_isOne := goodIn_r _ [8, 9, 10, 11, 7, 12, 85, 86, 87, 88, 89, 90, 91, 92, 93, 94, 95, 96, 97, 98, 99, 100, 101, 102, 103, 104, 105, 106, 107, 108, 109, 110, 111, 112, 113, 114, 115, 116] (by decide +kernel) (by decide +kernel)
set_option maxRecDepth 20000 in
theorem gX8_behind_X8_isOne : GoodIn wsX8_behind (wsV RX8 82 RX8 yX8_isOne wsX8_isOne) := goodIn_app (goodIn_of _ (by decide +kernel)) ggX8_behind_X8_isOne
set_option maxRecDepth 20000 in
theorem ggX8_behind_X8_isHour : GoodIn wsX8_behind wsX8_isHour := goodIn_r _ [15, 10, 11, 7, 12] (by decide +kernel) (by decide +kernel)
set_option maxRecDepth 20000 in
theorem gX8_behind_X8_isHour : GoodIn wsX8_behind (va_wsS RX8 98 yX8_isHour wsX8_isHour) := goodIn_app (goodIn_of _ (by decide +kernel)) ggX8_behind_X8_isHour
set_option maxRecDepth 20000 in
theorem ggX8_behind_X8_finding : GoodIn wsX8_behind wsX8_finding := goodIn_r _ [19, 20, 1, 85, 86, 87, 88, 89, 90, 91, 92, 93, 94, 95, 96, 97, 98, 99, 100, 101, 102, 103, 104, 105, 106, 107, 108, 109, 110, 111, 112, 113, 114, 115, 116] (by decide +kernel) (by decide +kernel)
set_option maxRecDepth 20000 in
theorem gX8_behind_X8_finding : GoodIn wsX8_behind (wsV RX8 86 RX8 yX8_finding wsX8_finding) := goodIn_app (goodIn_of _ (by decide +kernel)) ggX8_behind_X8_finding
set_option maxRecDepth 20000 in
theorem ggX8_behind_X8_weigh : GoodIn wsX8_behind wsX8_weigh := goodIn_r _ [24, 9, 2, 25, 26, 27, 7, 28, 29, 30, 31, 32, 33, 34, 35, 36, 37, 38, 39, 40, 41, 42, 43, 44, 45, 46, 47, 48, 49, 50, 51, 52, 53, 54, 55, 56, 57, 58, 59, 60, 61, 62, 63, 64, 65, 66, 67, 68, 69, 70, 71, 72, 73, 74, 75, 76, 77, 85, 86, 87, 88, 89, 90, 91, 92, 93, 94, 95, 96, 97, 98, 99, 100, 101, 102, 103, 104, 105, 106, 107, 108, 109, 110, 111, 112, 113, 114, 115, 116] (by decide +kernel) (by decide +kernel)
set_option maxRecDepth 20000 in
theorem gX8_behind_X8_weigh : GoodIn wsX8_behind (wsV RX8 172 RX8 yX8_weigh wsX8_weigh) := goodIn_app (goodIn_of _ (by decide +kernel)) ggX8_behind_X8_weigh
set_option maxRecDepth 20000 in
theorem ggX8_behind_X8_nightsThere : GoodIn wsX8_behind wsX8_nightsThere := goodIn_r _ [39, 29, 85, 86, 87, 88, 89, 90, 91, 92, 93, 94, 95, 96, 97, 98, 99, 100, 101, 102, 103, 104, 105, 106, 107, 108, 109, 110, 111, 112, 113, 114, 115, 116] (by decide +kernel) (by decide +kernel)
set_option maxRecDepth 20000 in
theorem gX8_behind_X8_nightsThere : GoodIn wsX8_behind (wsV RX8 159 RX8 yX8_nightsThere wsX8_nightsThere) := goodIn_app (goodIn_of _ (by decide +kernel)) ggX8_behind_X8_nightsThere
set_option maxRecDepth 20000 in
theorem ggX8_behind_X8_goes : GoodIn wsX8_behind wsX8_goes := goodIn_r _ [48, 49, 50, 44, 9, 31, 32, 33, 34, 7, 35, 51, 52, 53, 54, 29, 30, 55, 56, 57, 58, 59, 60, 61, 62, 63, 64, 65, 85, 86, 87, 88, 89, 90, 91, 92, 93, 94, 95, 96, 97, 98, 99, 100, 101, 102, 103, 104, 105, 106, 107, 108, 109, 110, 111, 112, 113, 114, 115, 116] (by decide +kernel) (by decide +kernel)
set_option maxRecDepth 20000 in
theorem gX8_behind_X8_goes : GoodIn wsX8_behind (wsV RX8 153 RX8 yX8_goes wsX8_goes) := goodIn_app (goodIn_of _ (by decide +kernel)) ggX8_behind_X8_goes
set_option maxRecDepth 20000 in
theorem ggX8_behind_X8_maskOf : GoodIn wsX8_behind wsX8_maskOf := goodIn_r _ [81, 49, 85, 86, 87, 88, 89, 90, 91, 92, 93, 94, 95, 96, 97, 98, 99, 100, 101, 102, 103, 104, 105, 106, 107, 108, 109, 110, 111, 112, 113, 114, 115, 116] (by decide +kernel) (by decide +kernel)
set_option maxRecDepth 20000 in
theorem gX8_behind_X8_maskOf : GoodIn wsX8_behind (wsV RX8 186 RX8 yX8_maskOf wsX8_maskOf) := goodIn_app (goodIn_of _ (by decide +kernel)) ggX8_behind_X8_maskOf
set_option maxRecDepth 20000 in
theorem ggX8_behind_X8_only : GoodIn wsX8_behind wsX8_only := goodIn_r _ [84] (by decide +kernel) (by decide +kernel)
set_option maxRecDepth 20000 in
theorem gX8_behind_X8_only : GoodIn wsX8_behind (va_wsS RX8 183 yX8_only wsX8_only) := goodIn_app (goodIn_of _ (by decide +kernel)) ggX8_behind_X8_only
theorem dX8_behind_0 : decode cX8_behind 0 = .ok (.aload_n 0, 1) := by decide +kernel
theorem dX8_behind_1 : decode cX8_behind 1 = .ok (.iload_n 1, 1) := by decide +kernel
theorem dX8_behind_2 : decode cX8_behind 2 = .ok (.invokevirtual 82, 3) := by decide +kernel
theorem dX8_behind_5 : decode cX8_behind 5 = .ok (.ifCond .eq 10, 3) := by decide +kernel
theorem dX8_behind_8 : decode cX8_behind 8 = .ok (.iload_n 2, 1) := by decide +kernel
theorem dX8_behind_9 : decode cX8_behind 9 = .ok (.invokestatic 98, 3) := by decide +kernel
theorem dX8_behind_12 : decode cX8_behind 12 = .ok (.ifCond .ne 10, 3) := by decide +kernel
theorem dX8_behind_15 : decode cX8_behind 15 = .ok (.aload_n 0, 1) := by decide +kernel
theorem dX8_behind_16 : decode cX8_behind 16 = .ok (.ldc 77, 2) := by decide +kernel
theorem dX8_behind_18 : decode cX8_behind 18 = .ok (.invokevirtual 86, 3) := by decide +kernel
theorem dX8_behind_21 : decode cX8_behind 21 = .ok (.ireturn, 1) := by decide +kernel
theorem dX8_behind_22 : decode cX8_behind 22 = .ok (.aload_n 0, 1) := by decide +kernel
theorem dX8_behind_23 : decode cX8_behind 23 = .ok (.invokevirtual 172, 3) := by decide +kernel
theorem dX8_behind_26 : decode cX8_behind 26 = .ok (.pop2, 1) := by decide +kernel
theorem dX8_behind_27 : decode cX8_behind 27 = .ok (.iconst 0, 1) := by decide +kernel
theorem dX8_behind_28 : decode cX8_behind 28 = .ok (.istore_n 3, 1) := by decide +kernel
theorem dX8_behind_29 : decode cX8_behind 29 = .ok (.iconst 0, 1) := by decide +kernel
theorem dX8_behind_30 : decode cX8_behind 30 = .ok (.istore 4, 2) := by decide +kernel
theorem dX8_behind_32 : decode cX8_behind 32 = .ok (.iload 4, 2) := by decide +kernel
theorem dX8_behind_34 : decode cX8_behind 34 = .ok (.aload_n 0, 1) := by decide +kernel
theorem dX8_behind_35 : decode cX8_behind 35 = .ok (.invokevirtual 159, 3) := by decide +kernel
theorem dX8_behind_38 : decode cX8_behind 38 = .ok (.if_icmp .ge 42, 3) := by decide +kernel
theorem dX8_behind_41 : decode cX8_behind 41 = .ok (.aload_n 0, 1) := by decide +kernel
theorem dX8_behind_42 : decode cX8_behind 42 = .ok (.iload 4, 2) := by decide +kernel
theorem dX8_behind_44 : decode cX8_behind 44 = .ok (.iload_n 2, 1) := by decide +kernel
theorem dX8_behind_45 : decode cX8_behind 45 = .ok (.invokevirtual 153, 3) := by decide +kernel
theorem dX8_behind_48 : decode cX8_behind 48 = .ok (.iload_n 3, 1) := by decide +kernel
theorem dX8_behind_49 : decode cX8_behind 49 = .ok (.aload_n 0, 1) := by decide +kernel
theorem dX8_behind_50 : decode cX8_behind 50 = .ok (.getfield 25, 3) := by decide +kernel
theorem dX8_behind_53 : decode cX8_behind 53 = .ok (.iload 4, 2) := by decide +kernel
theorem dX8_behind_55 : decode cX8_behind 55 = .ok (.laload, 1) := by decide +kernel
theorem dX8_behind_56 : decode cX8_behind 56 = .ok (.lconst 0, 1) := by decide +kernel
theorem dX8_behind_57 : decode cX8_behind 57 = .ok (.lcmp, 1) := by decide +kernel
theorem dX8_behind_58 : decode cX8_behind 58 = .ok (.ifCond .le 13, 3) := by decide +kernel
theorem dX8_behind_61 : decode cX8_behind 61 = .ok (.iconst 1, 1) := by decide +kernel
theorem dX8_behind_62 : decode cX8_behind 62 = .ok (.aload_n 0, 1) := by decide +kernel
theorem dX8_behind_63 : decode cX8_behind 63 = .ok (.iload_n 1, 1) := by decide +kernel
theorem dX8_behind_64 : decode cX8_behind 64 = .ok (.invokevirtual 186, 3) := by decide +kernel
theorem dX8_behind_67 : decode cX8_behind 67 = .ok (.ishl, 1) := by decide +kernel
theorem dX8_behind_68 : decode cX8_behind 68 = .ok (.goto 4, 3) := by decide +kernel
theorem dX8_behind_71 : decode cX8_behind 71 = .ok (.iconst 0, 1) := by decide +kernel
theorem dX8_behind_72 : decode cX8_behind 72 = .ok (.ior, 1) := by decide +kernel
theorem dX8_behind_73 : decode cX8_behind 73 = .ok (.istore_n 3, 1) := by decide +kernel
theorem dX8_behind_74 : decode cX8_behind 74 = .ok (.iinc 4 1, 3) := by decide +kernel
theorem dX8_behind_77 : decode cX8_behind 77 = .ok (.goto (-45), 3) := by decide +kernel
theorem dX8_behind_80 : decode cX8_behind 80 = .ok (.iload_n 3, 1) := by decide +kernel
theorem dX8_behind_81 : decode cX8_behind 81 = .ok (.invokestatic 183, 3) := by decide +kernel
theorem dX8_behind_84 : decode cX8_behind 84 = .ok (.istore 4, 2) := by decide +kernel
theorem dX8_behind_86 : decode cX8_behind 86 = .ok (.iload 4, 2) := by decide +kernel
theorem dX8_behind_88 : decode cX8_behind 88 = .ok (.ifCond .ge 12, 3) := by decide +kernel
theorem dX8_behind_91 : decode cX8_behind 91 = .ok (.aload_n 0, 1) := by decide +kernel
theorem dX8_behind_92 : decode cX8_behind 92 = .ok (.ldc 179, 2) := by decide +kernel
theorem dX8_behind_94 : decode cX8_behind 94 = .ok (.invokevirtual 86, 3) := by decide +kernel
theorem dX8_behind_97 : decode cX8_behind 97 = .ok (.goto 5, 3) := by decide +kernel
theorem dX8_behind_100 : decode cX8_behind 100 = .ok (.iload 4, 2) := by decide +kernel
theorem dX8_behind_102 : decode cX8_behind 102 = .ok (.ireturn, 1) := by decide +kernel
set_option maxRecDepth 20000 in
theorem ggX8_met_X8_isOne : GoodIn wsX8_met wsX8_isOne := goodIn_r _ [16, 2, 17, 18, 15, 19, 74, 75, 76, 77, 78, 79, 80, 81, 82, 83, 84, 85, 86, 87, 88, 89, 90, 91, 92, 93, 94, 95, 96, 97, 98, 99, 100, 101, 102, 103, 104, 105] (by decide +kernel) (by decide +kernel)
set_option maxRecDepth 20000 in
theorem gX8_met_X8_isOne : GoodIn wsX8_met (wsV RX8 82 RX8 yX8_isOne wsX8_isOne) := goodIn_app (goodIn_of _ (by decide +kernel)) ggX8_met_X8_isOne
set_option maxRecDepth 20000 in
theorem ggX8_met_X8_finding : GoodIn wsX8_met wsX8_finding := goodIn_r _ [23, 24, 1, 74, 75, 76, 77, 78, 79, 80, 81, 82, 83, 84, 85, 86, 87, 88, 89, 90, 91, 92, 93, 94, 95, 96, 97, 98, 99, 100, 101, 102, 103, 104, 105] (by decide +kernel) (by decide +kernel)
set_option maxRecDepth 20000 in
theorem gX8_met_X8_finding : GoodIn wsX8_met (wsV RX8 86 RX8 yX8_finding wsX8_finding) := goodIn_app (goodIn_of _ (by decide +kernel)) ggX8_met_X8_finding
set_option maxRecDepth 20000 in
theorem ggX8_met_X8_weigh : GoodIn wsX8_met wsX8_weigh := goodIn_r _ [28, 2, 3, 29, 30, 31, 15, 32, 33, 34, 35, 36, 37, 38, 39, 40, 41, 42, 43, 44, 45, 46, 47, 48, 49, 50, 51, 52, 53, 4, 54, 55, 56, 57, 58, 59, 60, 61, 5, 6, 7, 8, 9, 10, 11, 62, 63, 64, 65, 66, 67, 68, 69, 70, 71, 72, 73, 74, 75, 76, 77, 78, 79, 80, 81, 82, 83, 84, 85, 86, 87, 88, 89, 90, 91, 92, 93, 94, 95, 96, 97, 98, 99, 100, 101, 102, 103, 104, 105] (by decide +kernel) (by decide +kernel)
set_option maxRecDepth 20000 in
theorem gX8_met_X8_weigh : GoodIn wsX8_met (wsV RX8 172 RX8 yX8_weigh wsX8_weigh) := goodIn_app (goodIn_of _ (by decide +kernel)) ggX8_met_X8_weigh
set_option maxRecDepth 20000 in
theorem ggX8_met_X8_nightsThere : GoodIn wsX8_met wsX8_nightsThere := goodIn_r _ [43, 33, 74, 75, 76, 77, 78, 79, 80, 81, 82, 83, 84, 85, 86, 87, 88, 89, 90, 91, 92, 93, 94, 95, 96, 97, 98, 99, 100, 101, 102, 103, 104, 105] (by decide +kernel) (by decide +kernel)
set_option maxRecDepth 20000 in
theorem gX8_met_X8_nightsThere : GoodIn wsX8_met (wsV RX8 159 RX8 yX8_nightsThere wsX8_nightsThere) := goodIn_app (goodIn_of _ (by decide +kernel)) ggX8_met_X8_nightsThere
set_option maxRecDepth 20000 in
theorem ggX8_met_X8_goes : GoodIn wsX8_met wsX8_goes := goodIn_r _ [52, 53, 4, 48, 2, 35, 36, 37, 38, 15, 39, 54, 55, 56, 57, 33, 34, 58, 59, 60, 61, 5, 6, 7, 8, 9, 10, 11, 74, 75, 76, 77, 78, 79, 80, 81, 82, 83, 84, 85, 86, 87, 88, 89, 90, 91, 92, 93, 94, 95, 96, 97, 98, 99, 100, 101, 102, 103, 104, 105] (by decide +kernel) (by decide +kernel)
set_option maxRecDepth 20000 in
theorem gX8_met_X8_goes : GoodIn wsX8_met (wsV RX8 153 RX8 yX8_goes wsX8_goes) := goodIn_app (goodIn_of _ (by decide +kernel)) ggX8_met_X8_goes
theorem dX8_met_0 : decode cX8_met 0 = .ok (.aload_n 0, 1) := by decide +kernel
theorem dX8_met_1 : decode cX8_met 1 = .ok (.iload_n 1, 1) := by decide +kernel
theorem dX8_met_2 : decode cX8_met 2 = .ok (.invokevirtual 82, 3) := by decide +kernel
theorem dX8_met_5 : decode cX8_met 5 = .ok (.ifCond .ne 10, 3) := by decide +kernel
theorem dX8_met_8 : decode cX8_met 8 = .ok (.aload_n 0, 1) := by decide +kernel
theorem dX8_met_9 : decode cX8_met 9 = .ok (.ldc 77, 2) := by decide +kernel
theorem dX8_met_11 : decode cX8_met 11 = .ok (.invokevirtual 86, 3) := by decide +kernel
theorem dX8_met_14 : decode cX8_met 14 = .ok (.ireturn, 1) := by decide +kernel
theorem dX8_met_15 : decode cX8_met 15 = .ok (.aload_n 0, 1) := by decide +kernel
theorem dX8_met_16 : decode cX8_met 16 = .ok (.invokevirtual 172, 3) := by decide +kernel
theorem dX8_met_19 : decode cX8_met 19 = .ok (.pop2, 1) := by decide +kernel
theorem dX8_met_20 : decode cX8_met 20 = .ok (.iconst 0, 1) := by decide +kernel
theorem dX8_met_21 : decode cX8_met 21 = .ok (.istore_n 2, 1) := by decide +kernel
theorem dX8_met_22 : decode cX8_met 22 = .ok (.iconst 0, 1) := by decide +kernel
theorem dX8_met_23 : decode cX8_met 23 = .ok (.istore_n 3, 1) := by decide +kernel
theorem dX8_met_24 : decode cX8_met 24 = .ok (.iload_n 3, 1) := by decide +kernel
theorem dX8_met_25 : decode cX8_met 25 = .ok (.aload_n 0, 1) := by decide +kernel
theorem dX8_met_26 : decode cX8_met 26 = .ok (.invokevirtual 159, 3) := by decide +kernel
theorem dX8_met_29 : decode cX8_met 29 = .ok (.if_icmp .ge 77, 3) := by decide +kernel
theorem dX8_met_32 : decode cX8_met 32 = .ok (.aload_n 0, 1) := by decide +kernel
theorem dX8_met_33 : decode cX8_met 33 = .ok (.iload_n 3, 1) := by decide +kernel
theorem dX8_met_34 : decode cX8_met 34 = .ok (.bipush 99, 2) := by decide +kernel
theorem dX8_met_36 : decode cX8_met 36 = .ok (.invokevirtual 153, 3) := by decide +kernel
theorem dX8_met_39 : decode cX8_met 39 = .ok (.iconst 0, 1) := by decide +kernel
theorem dX8_met_40 : decode cX8_met 40 = .ok (.istore 4, 2) := by decide +kernel
theorem dX8_met_42 : decode cX8_met 42 = .ok (.iload 4, 2) := by decide +kernel
theorem dX8_met_44 : decode cX8_met 44 = .ok (.aload_n 0, 1) := by decide +kernel
theorem dX8_met_45 : decode cX8_met 45 = .ok (.getfield 9, 3) := by decide +kernel
theorem dX8_met_48 : decode cX8_met 48 = .ok (.iconst 0, 1) := by decide +kernel
theorem dX8_met_49 : decode cX8_met 49 = .ok (.iaload, 1) := by decide +kernel
theorem dX8_met_50 : decode cX8_met 50 = .ok (.if_icmp .ge 50, 3) := by decide +kernel
theorem dX8_met_53 : decode cX8_met 53 = .ok (.aload_n 0, 1) := by decide +kernel
theorem dX8_met_54 : decode cX8_met 54 = .ok (.getfield 25, 3) := by decide +kernel
theorem dX8_met_57 : decode cX8_met 57 = .ok (.iload_n 3, 1) := by decide +kernel
theorem dX8_met_58 : decode cX8_met 58 = .ok (.laload, 1) := by decide +kernel
theorem dX8_met_59 : decode cX8_met 59 = .ok (.lconst 0, 1) := by decide +kernel
theorem dX8_met_60 : decode cX8_met 60 = .ok (.lcmp, 1) := by decide +kernel
theorem dX8_met_61 : decode cX8_met 61 = .ok (.ifCond .le 39, 3) := by decide +kernel
theorem dX8_met_64 : decode cX8_met 64 = .ok (.iload_n 2, 1) := by decide +kernel
theorem dX8_met_65 : decode cX8_met 65 = .ok (.aload_n 0, 1) := by decide +kernel
theorem dX8_met_66 : decode cX8_met 66 = .ok (.getfield 130, 3) := by decide +kernel
theorem dX8_met_69 : decode cX8_met 69 = .ok (.bipush 8, 2) := by decide +kernel
theorem dX8_met_71 : decode cX8_met 71 = .ok (.iload 4, 2) := by decide +kernel
theorem dX8_met_73 : decode cX8_met 73 = .ok (.iload_n 1, 1) := by decide +kernel
theorem dX8_met_74 : decode cX8_met 74 = .ok (.invokestatic 145, 3) := by decide +kernel
theorem dX8_met_77 : decode cX8_met 77 = .ok (.imul, 1) := by decide +kernel
theorem dX8_met_78 : decode cX8_met 78 = .ok (.iload 4, 2) := by decide +kernel
theorem dX8_met_80 : decode cX8_met 80 = .ok (.iload_n 1, 1) := by decide +kernel
theorem dX8_met_81 : decode cX8_met 81 = .ok (.invokestatic 150, 3) := by decide +kernel
theorem dX8_met_84 : decode cX8_met 84 = .ok (.iadd, 1) := by decide +kernel
theorem dX8_met_85 : decode cX8_met 85 = .ok (.lshr, 1) := by decide +kernel
theorem dX8_met_86 : decode cX8_met 86 = .ok (.lconst 1, 1) := by decide +kernel
theorem dX8_met_87 : decode cX8_met 87 = .ok (.land, 1) := by decide +kernel
theorem dX8_met_88 : decode cX8_met 88 = .ok (.l2i, 1) := by decide +kernel
theorem dX8_met_89 : decode cX8_met 89 = .ok (.iload 4, 2) := by decide +kernel
theorem dX8_met_91 : decode cX8_met 91 = .ok (.ishl, 1) := by decide +kernel
theorem dX8_met_92 : decode cX8_met 92 = .ok (.ior, 1) := by decide +kernel
theorem dX8_met_93 : decode cX8_met 93 = .ok (.istore_n 2, 1) := by decide +kernel
theorem dX8_met_94 : decode cX8_met 94 = .ok (.iinc 4 1, 3) := by decide +kernel
theorem dX8_met_97 : decode cX8_met 97 = .ok (.goto (-55), 3) := by decide +kernel
theorem dX8_met_100 : decode cX8_met 100 = .ok (.iinc 3 1, 3) := by decide +kernel
theorem dX8_met_103 : decode cX8_met 103 = .ok (.goto (-79), 3) := by decide +kernel
theorem dX8_met_106 : decode cX8_met 106 = .ok (.iload_n 2, 1) := by decide +kernel
theorem dX8_met_107 : decode cX8_met 107 = .ok (.ireturn, 1) := by decide +kernel
set_option maxRecDepth 20000 in
theorem ggX8_lie_X8_lay : GoodIn wsX8_lie wsX8_lay := goodIn_r _ [7, 8, 1, 9, 10, 11, 12, 13, 6, 14, 63, 64, 65, 66, 67, 68, 69, 70, 71, 72, 73, 74, 75, 76, 77, 78, 79, 80, 81, 82, 83, 84, 85, 86, 87, 88, 89, 90, 91, 92, 93, 94] (by decide +kernel) (by decide +kernel)
set_option maxRecDepth 20000 in
theorem gX8_lie_X8_lay : GoodIn wsX8_lie (wsV RX8 156 RX8 yX8_lay wsX8_lay) := goodIn_app (goodIn_of _ (by decide +kernel)) ggX8_lie_X8_lay
set_option maxRecDepth 20000 in
theorem ggX8_lie_X8_nightsThere : GoodIn wsX8_lie wsX8_nightsThere := goodIn_r _ [18, 8, 63, 64, 65, 66, 67, 68, 69, 70, 71, 72, 73, 74, 75, 76, 77, 78, 79, 80, 81, 82, 83, 84, 85, 86, 87, 88, 89, 90, 91, 92, 93, 94] (by decide +kernel) (by decide +kernel)
set_option maxRecDepth 20000 in
theorem gX8_lie_X8_nightsThere : GoodIn wsX8_lie (wsV RX8 159 RX8 yX8_nightsThere wsX8_nightsThere) := goodIn_app (goodIn_of _ (by decide +kernel)) ggX8_lie_X8_nightsThere
set_option maxRecDepth 20000 in
theorem ggX8_lie_X8_weightOf : GoodIn wsX8_lie wsX8_weightOf := goodIn_r _ [22, 8, 9, 11, 12, 13, 6, 14, 1, 63, 64, 65, 66, 67, 68, 69, 70, 71, 72, 73, 74, 75, 76, 77, 78, 79, 80, 81, 82, 83, 84, 85, 86, 87, 88, 89, 90, 91, 92, 93, 94] (by decide +kernel) (by decide +kernel)
set_option maxRecDepth 20000 in
theorem gX8_lie_X8_weightOf : GoodIn wsX8_lie (wsV RX8 168 RX8 yX8_weightOf wsX8_weightOf) := goodIn_app (goodIn_of _ (by decide +kernel)) ggX8_lie_X8_weightOf
set_option maxRecDepth 20000 in
theorem ggX8_lie_X8_breaksRule : GoodIn wsX8_lie wsX8_breaksRule := goodIn_r _ [26, 1, 27, 28, 29, 30, 6, 31, 32, 33, 10, 11, 12, 13, 14, 34, 35, 36, 37, 8, 9, 38, 39, 40, 41, 42, 43, 44, 45, 46, 47, 48, 63, 64, 65, 66, 67, 68, 69, 70, 71, 72, 73, 74, 75, 76, 77, 78, 79, 80, 81, 82, 83, 84, 85, 86, 87, 88, 89, 90, 91, 92, 93, 94] (by decide +kernel) (by decide +kernel)
set_option maxRecDepth 20000 in
theorem gX8_lie_X8_breaksRule : GoodIn wsX8_lie (wsV RX8 162 RX8 yX8_breaksRule wsX8_breaksRule) := goodIn_app (goodIn_of _ (by decide +kernel)) ggX8_lie_X8_breaksRule
set_option maxRecDepth 20000 in
theorem ggX8_lie_X8_areSo : GoodIn wsX8_lie wsX8_areSo := goodIn_r _ [52, 32, 53, 54, 55, 6, 56, 1, 28, 29, 30, 31, 33, 27, 10, 11, 12, 13, 14, 34, 35, 36, 37, 8, 9, 38, 39, 40, 41, 42, 43, 44, 45, 46, 47, 48, 63, 64, 65, 66, 67, 68, 69, 70, 71, 72, 73, 74, 75, 76, 77, 78, 79, 80, 81, 82, 83, 84, 85, 86, 87, 88, 89, 90, 91, 92, 93, 94] (by decide +kernel) (by decide +kernel)
set_option maxRecDepth 20000 in
theorem gX8_lie_X8_areSo : GoodIn wsX8_lie (wsV RX8 165 RX8 yX8_areSo wsX8_areSo) := goodIn_app (goodIn_of _ (by decide +kernel)) ggX8_lie_X8_areSo
set_option maxRecDepth 20000 in
theorem ggX8_lie_X8_finding : GoodIn wsX8_lie wsX8_finding := goodIn_r _ [60, 61, 62, 63, 64, 65, 66, 67, 68, 69, 70, 71, 72, 73, 74, 75, 76, 77, 78, 79, 80, 81, 82, 83, 84, 85, 86, 87, 88, 89, 90, 91, 92, 93, 94] (by decide +kernel) (by decide +kernel)
set_option maxRecDepth 20000 in
theorem gX8_lie_X8_finding : GoodIn wsX8_lie (wsV RX8 86 RX8 yX8_finding wsX8_finding) := goodIn_app (goodIn_of _ (by decide +kernel)) ggX8_lie_X8_finding
theorem dX8_lie_0 : decode cX8_lie 0 = .ok (.aload_n 0, 1) := by decide +kernel
theorem dX8_lie_1 : decode cX8_lie 1 = .ok (.invokevirtual 156, 3) := by decide +kernel
theorem dX8_lie_4 : decode cX8_lie 4 = .ok (.iconst 0, 1) := by decide +kernel
theorem dX8_lie_5 : decode cX8_lie 5 = .ok (.istore_n 1, 1) := by decide +kernel
theorem dX8_lie_6 : decode cX8_lie 6 = .ok (.iload_n 1, 1) := by decide +kernel
theorem dX8_lie_7 : decode cX8_lie 7 = .ok (.aload_n 0, 1) := by decide +kernel
theorem dX8_lie_8 : decode cX8_lie 8 = .ok (.getfield 9, 3) := by decide +kernel
theorem dX8_lie_11 : decode cX8_lie 11 = .ok (.iconst 5, 1) := by decide +kernel
theorem dX8_lie_12 : decode cX8_lie 12 = .ok (.iaload, 1) := by decide +kernel
theorem dX8_lie_13 : decode cX8_lie 13 = .ok (.if_icmp .ge 72, 3) := by decide +kernel
theorem dX8_lie_16 : decode cX8_lie 16 = .ok (.iconst 0, 1) := by decide +kernel
theorem dX8_lie_17 : decode cX8_lie 17 = .ok (.istore_n 2, 1) := by decide +kernel
theorem dX8_lie_18 : decode cX8_lie 18 = .ok (.iconst 0, 1) := by decide +kernel
theorem dX8_lie_19 : decode cX8_lie 19 = .ok (.istore_n 3, 1) := by decide +kernel
theorem dX8_lie_20 : decode cX8_lie 20 = .ok (.iload_n 3, 1) := by decide +kernel
theorem dX8_lie_21 : decode cX8_lie 21 = .ok (.aload_n 0, 1) := by decide +kernel
theorem dX8_lie_22 : decode cX8_lie 22 = .ok (.invokevirtual 159, 3) := by decide +kernel
theorem dX8_lie_25 : decode cX8_lie 25 = .ok (.if_icmp .ge 48, 3) := by decide +kernel
theorem dX8_lie_28 : decode cX8_lie 28 = .ok (.iload_n 2, 1) := by decide +kernel
theorem dX8_lie_29 : decode cX8_lie 29 = .ok (.ifCond .ne 32, 3) := by decide +kernel
theorem dX8_lie_32 : decode cX8_lie 32 = .ok (.aload_n 0, 1) := by decide +kernel
theorem dX8_lie_33 : decode cX8_lie 33 = .ok (.iload_n 3, 1) := by decide +kernel
theorem dX8_lie_34 : decode cX8_lie 34 = .ok (.invokevirtual 168, 3) := by decide +kernel
theorem dX8_lie_37 : decode cX8_lie 37 = .ok (.lconst 0, 1) := by decide +kernel
theorem dX8_lie_38 : decode cX8_lie 38 = .ok (.lcmp, 1) := by decide +kernel
theorem dX8_lie_39 : decode cX8_lie 39 = .ok (.ifCond .le 26, 3) := by decide +kernel
theorem dX8_lie_42 : decode cX8_lie 42 = .ok (.aload_n 0, 1) := by decide +kernel
theorem dX8_lie_43 : decode cX8_lie 43 = .ok (.iload_n 3, 1) := by decide +kernel
theorem dX8_lie_44 : decode cX8_lie 44 = .ok (.invokevirtual 162, 3) := by decide +kernel
theorem dX8_lie_47 : decode cX8_lie 47 = .ok (.ifCond .ne 18, 3) := by decide +kernel
theorem dX8_lie_50 : decode cX8_lie 50 = .ok (.aload_n 0, 1) := by decide +kernel
theorem dX8_lie_51 : decode cX8_lie 51 = .ok (.iload_n 3, 1) := by decide +kernel
theorem dX8_lie_52 : decode cX8_lie 52 = .ok (.iload_n 1, 1) := by decide +kernel
theorem dX8_lie_53 : decode cX8_lie 53 = .ok (.iconst 1, 1) := by decide +kernel
theorem dX8_lie_54 : decode cX8_lie 54 = .ok (.iadd, 1) := by decide +kernel
theorem dX8_lie_55 : decode cX8_lie 55 = .ok (.invokevirtual 165, 3) := by decide +kernel
theorem dX8_lie_58 : decode cX8_lie 58 = .ok (.ifCond .eq 7, 3) := by decide +kernel
theorem dX8_lie_61 : decode cX8_lie 61 = .ok (.iconst 1, 1) := by decide +kernel
theorem dX8_lie_62 : decode cX8_lie 62 = .ok (.goto 4, 3) := by decide +kernel
theorem dX8_lie_65 : decode cX8_lie 65 = .ok (.iconst 0, 1) := by decide +kernel
theorem dX8_lie_66 : decode cX8_lie 66 = .ok (.istore_n 2, 1) := by decide +kernel
theorem dX8_lie_67 : decode cX8_lie 67 = .ok (.iinc 3 1, 3) := by decide +kernel
theorem dX8_lie_70 : decode cX8_lie 70 = .ok (.goto (-50), 3) := by decide +kernel
theorem dX8_lie_73 : decode cX8_lie 73 = .ok (.iload_n 2, 1) := by decide +kernel
theorem dX8_lie_74 : decode cX8_lie 74 = .ok (.ifCond .ne 5, 3) := by decide +kernel
theorem dX8_lie_77 : decode cX8_lie 77 = .ok (.iload_n 1, 1) := by decide +kernel
theorem dX8_lie_78 : decode cX8_lie 78 = .ok (.ireturn, 1) := by decide +kernel
theorem dX8_lie_79 : decode cX8_lie 79 = .ok (.iinc 1 1, 3) := by decide +kernel
theorem dX8_lie_82 : decode cX8_lie 82 = .ok (.goto (-76), 3) := by decide +kernel
theorem dX8_lie_85 : decode cX8_lie 85 = .ok (.aload_n 0, 1) := by decide +kernel
theorem dX8_lie_86 : decode cX8_lie 86 = .ok (.ldc 179, 2) := by decide +kernel
theorem dX8_lie_88 : decode cX8_lie 88 = .ok (.invokevirtual 86, 3) := by decide +kernel
theorem dX8_lie_91 : decode cX8_lie 91 = .ok (.ireturn, 1) := by decide +kernel
set_option maxRecDepth 20000 in
theorem ggX8_isKind_X8_within : GoodIn wsX8_isKind wsX8_within := goodIn_r _ [4] (by decide +kernel) (by decide +kernel)
set_option maxRecDepth 20000 in
theorem gX8_isKind_X8_within : GoodIn wsX8_isKind (va_wsS RX8 78 yX8_within wsX8_within) := goodIn_app (goodIn_of _ (by decide +kernel)) ggX8_isKind_X8_within
theorem dX8_isKind_0 : decode cX8_isKind 0 = .ok (.iload_n 0, 1) := by decide +kernel
theorem dX8_isKind_1 : decode cX8_isKind 1 = .ok (.iconst 0, 1) := by decide +kernel
theorem dX8_isKind_2 : decode cX8_isKind 2 = .ok (.iconst 5, 1) := by decide +kernel
theorem dX8_isKind_3 : decode cX8_isKind 3 = .ok (.invokestatic 78, 3) := by decide +kernel
theorem dX8_isKind_6 : decode cX8_isKind 6 = .ok (.ireturn, 1) := by decide +kernel
set_option maxRecDepth 20000 in
theorem ggX8_isDeed_X8_within : GoodIn wsX8_isDeed wsX8_within := goodIn_r _ [5] (by decide +kernel) (by decide +kernel)
set_option maxRecDepth 20000 in
theorem gX8_isDeed_X8_within : GoodIn wsX8_isDeed (va_wsS RX8 78 yX8_within wsX8_within) := goodIn_app (goodIn_of _ (by decide +kernel)) ggX8_isDeed_X8_within
theorem dX8_isDeed_0 : decode cX8_isDeed 0 = .ok (.iload_n 1, 1) := by decide +kernel
theorem dX8_isDeed_1 : decode cX8_isDeed 1 = .ok (.iconst 0, 1) := by decide +kernel
theorem dX8_isDeed_2 : decode cX8_isDeed 2 = .ok (.aload_n 0, 1) := by decide +kernel
theorem dX8_isDeed_3 : decode cX8_isDeed 3 = .ok (.getfield 9, 3) := by decide +kernel
theorem dX8_isDeed_6 : decode cX8_isDeed 6 = .ok (.iconst 4, 1) := by decide +kernel
theorem dX8_isDeed_7 : decode cX8_isDeed 7 = .ok (.iaload, 1) := by decide +kernel
theorem dX8_isDeed_8 : decode cX8_isDeed 8 = .ok (.iconst 1, 1) := by decide +kernel
theorem dX8_isDeed_9 : decode cX8_isDeed 9 = .ok (.isub, 1) := by decide +kernel
theorem dX8_isDeed_10 : decode cX8_isDeed 10 = .ok (.invokestatic 78, 3) := by decide +kernel
theorem dX8_isDeed_13 : decode cX8_isDeed 13 = .ok (.ireturn, 1) := by decide +kernel
theorem dX8_deedIs_0 : decode cX8_deedIs 0 = .ok (.aload_n 0, 1) := by decide +kernel
theorem dX8_deedIs_1 : decode cX8_deedIs 1 = .ok (.getfield 9, 3) := by decide +kernel
theorem dX8_deedIs_4 : decode cX8_deedIs 4 = .ok (.bipush 86, 2) := by decide +kernel
theorem dX8_deedIs_6 : decode cX8_deedIs 6 = .ok (.iconst 5, 1) := by decide +kernel
theorem dX8_deedIs_7 : decode cX8_deedIs 7 = .ok (.iload_n 1, 1) := by decide +kernel
theorem dX8_deedIs_8 : decode cX8_deedIs 8 = .ok (.imul, 1) := by decide +kernel
theorem dX8_deedIs_9 : decode cX8_deedIs 9 = .ok (.iadd, 1) := by decide +kernel
theorem dX8_deedIs_10 : decode cX8_deedIs 10 = .ok (.iload_n 2, 1) := by decide +kernel
theorem dX8_deedIs_11 : decode cX8_deedIs 11 = .ok (.iadd, 1) := by decide +kernel
theorem dX8_deedIs_12 : decode cX8_deedIs 12 = .ok (.iaload, 1) := by decide +kernel
theorem dX8_deedIs_13 : decode cX8_deedIs 13 = .ok (.ireturn, 1) := by decide +kernel
theorem dX8_done_0 : decode cX8_done 0 = .ok (.aload_n 0, 1) := by decide +kernel
theorem dX8_done_1 : decode cX8_done 1 = .ok (.getfield 9, 3) := by decide +kernel
theorem dX8_done_4 : decode cX8_done 4 = .ok (.iconst 4, 1) := by decide +kernel
theorem dX8_done_5 : decode cX8_done 5 = .ok (.iaload, 1) := by decide +kernel
theorem dX8_done_6 : decode cX8_done 6 = .ok (.istore 6, 2) := by decide +kernel
theorem dX8_done_8 : decode cX8_done 8 = .ok (.bipush 86, 2) := by decide +kernel
theorem dX8_done_10 : decode cX8_done 10 = .ok (.iconst 5, 1) := by decide +kernel
theorem dX8_done_11 : decode cX8_done 11 = .ok (.iload 6, 2) := by decide +kernel
theorem dX8_done_13 : decode cX8_done 13 = .ok (.imul, 1) := by decide +kernel
theorem dX8_done_14 : decode cX8_done 14 = .ok (.iadd, 1) := by decide +kernel
theorem dX8_done_15 : decode cX8_done 15 = .ok (.istore 7, 2) := by decide +kernel
theorem dX8_done_17 : decode cX8_done 17 = .ok (.aload_n 0, 1) := by decide +kernel
theorem dX8_done_18 : decode cX8_done 18 = .ok (.getfield 9, 3) := by decide +kernel
theorem dX8_done_21 : decode cX8_done 21 = .ok (.iload 7, 2) := by decide +kernel
theorem dX8_done_23 : decode cX8_done 23 = .ok (.iconst 0, 1) := by decide +kernel
theorem dX8_done_24 : decode cX8_done 24 = .ok (.iadd, 1) := by decide +kernel
theorem dX8_done_25 : decode cX8_done 25 = .ok (.iload_n 1, 1) := by decide +kernel
theorem dX8_done_26 : decode cX8_done 26 = .ok (.iastore, 1) := by decide +kernel
theorem dX8_done_27 : decode cX8_done 27 = .ok (.aload_n 0, 1) := by decide +kernel
theorem dX8_done_28 : decode cX8_done 28 = .ok (.getfield 9, 3) := by decide +kernel
theorem dX8_done_31 : decode cX8_done 31 = .ok (.iload 7, 2) := by decide +kernel
theorem dX8_done_33 : decode cX8_done 33 = .ok (.iconst 1, 1) := by decide +kernel
theorem dX8_done_34 : decode cX8_done 34 = .ok (.iadd, 1) := by decide +kernel
theorem dX8_done_35 : decode cX8_done 35 = .ok (.iload_n 2, 1) := by decide +kernel
theorem dX8_done_36 : decode cX8_done 36 = .ok (.iastore, 1) := by decide +kernel
theorem dX8_done_37 : decode cX8_done 37 = .ok (.aload_n 0, 1) := by decide +kernel
theorem dX8_done_38 : decode cX8_done 38 = .ok (.getfield 9, 3) := by decide +kernel
theorem dX8_done_41 : decode cX8_done 41 = .ok (.iload 7, 2) := by decide +kernel
theorem dX8_done_43 : decode cX8_done 43 = .ok (.iconst 2, 1) := by decide +kernel
theorem dX8_done_44 : decode cX8_done 44 = .ok (.iadd, 1) := by decide +kernel
theorem dX8_done_45 : decode cX8_done 45 = .ok (.iload_n 3, 1) := by decide +kernel
theorem dX8_done_46 : decode cX8_done 46 = .ok (.iastore, 1) := by decide +kernel
theorem dX8_done_47 : decode cX8_done 47 = .ok (.aload_n 0, 1) := by decide +kernel
theorem dX8_done_48 : decode cX8_done 48 = .ok (.getfield 9, 3) := by decide +kernel
theorem dX8_done_51 : decode cX8_done 51 = .ok (.iload 7, 2) := by decide +kernel
theorem dX8_done_53 : decode cX8_done 53 = .ok (.iconst 3, 1) := by decide +kernel
theorem dX8_done_54 : decode cX8_done 54 = .ok (.iadd, 1) := by decide +kernel
theorem dX8_done_55 : decode cX8_done 55 = .ok (.iload 4, 2) := by decide +kernel
theorem dX8_done_57 : decode cX8_done 57 = .ok (.iastore, 1) := by decide +kernel
theorem dX8_done_58 : decode cX8_done 58 = .ok (.aload_n 0, 1) := by decide +kernel
theorem dX8_done_59 : decode cX8_done 59 = .ok (.getfield 9, 3) := by decide +kernel
theorem dX8_done_62 : decode cX8_done 62 = .ok (.iload 7, 2) := by decide +kernel
theorem dX8_done_64 : decode cX8_done 64 = .ok (.iconst 4, 1) := by decide +kernel
theorem dX8_done_65 : decode cX8_done 65 = .ok (.iadd, 1) := by decide +kernel
theorem dX8_done_66 : decode cX8_done 66 = .ok (.iload 5, 2) := by decide +kernel
theorem dX8_done_68 : decode cX8_done 68 = .ok (.iastore, 1) := by decide +kernel
theorem dX8_done_69 : decode cX8_done 69 = .ok (.aload_n 0, 1) := by decide +kernel
theorem dX8_done_70 : decode cX8_done 70 = .ok (.getfield 9, 3) := by decide +kernel
theorem dX8_done_73 : decode cX8_done 73 = .ok (.iconst 4, 1) := by decide +kernel
theorem dX8_done_74 : decode cX8_done 74 = .ok (.dup2, 1) := by decide +kernel
theorem dX8_done_75 : decode cX8_done 75 = .ok (.iaload, 1) := by decide +kernel
theorem dX8_done_76 : decode cX8_done 76 = .ok (.iconst 1, 1) := by decide +kernel
theorem dX8_done_77 : decode cX8_done 77 = .ok (.iadd, 1) := by decide +kernel
theorem dX8_done_78 : decode cX8_done 78 = .ok (.iastore, 1) := by decide +kernel
theorem dX8_done_79 : decode cX8_done 79 = .ok (.iload 6, 2) := by decide +kernel
theorem dX8_done_81 : decode cX8_done 81 = .ok (.ireturn, 1) := by decide +kernel
set_option maxRecDepth 20000 in
theorem ggX8_deed_X8_isKind : GoodIn wsX8_deed wsX8_isKind := goodIn_r _ [7, 8, 9, 6, 10] (by decide +kernel) (by decide +kernel)
set_option maxRecDepth 20000 in
theorem gX8_deed_X8_isKind : GoodIn wsX8_deed (va_wsS RX8 189 yX8_isKind wsX8_isKind) := goodIn_app (goodIn_of _ (by decide +kernel)) ggX8_deed_X8_isKind
set_option maxRecDepth 20000 in
theorem ggX8_deed_X8_isHour : GoodIn wsX8_deed wsX8_isHour := goodIn_r _ [13, 8, 9, 6, 10] (by decide +kernel) (by decide +kernel)
set_option maxRecDepth 20000 in
theorem gX8_deed_X8_isHour : GoodIn wsX8_deed (va_wsS RX8 98 yX8_isHour wsX8_isHour) := goodIn_app (goodIn_of _ (by decide +kernel)) ggX8_deed_X8_isHour
set_option maxRecDepth 20000 in
theorem ggX8_deed_X8_areTwo : GoodIn wsX8_deed wsX8_areTwo := goodIn_r _ [17, 18, 19, 20, 6, 21, 2, 8, 9, 10, 31, 32, 33, 34, 35, 36, 37, 38, 39, 40, 41, 42, 43, 44, 45, 46, 47, 48, 49, 50, 51, 52, 53, 54, 55, 56, 57, 58, 59, 60, 61, 62] (by decide +kernel) (by decide +kernel)
set_option maxRecDepth 20000 in
theorem gX8_deed_X8_areTwo : GoodIn wsX8_deed (wsV RX8 101 RX8 yX8_areTwo wsX8_areTwo) := goodIn_app (goodIn_of _ (by decide +kernel)) ggX8_deed_X8_areTwo
set_option maxRecDepth 20000 in
theorem ggX8_deed_X8_within : GoodIn wsX8_deed wsX8_within := goodIn_r _ [10] (by decide +kernel) (by decide +kernel)
set_option maxRecDepth 20000 in
theorem gX8_deed_X8_within : GoodIn wsX8_deed (va_wsS RX8 78 yX8_within wsX8_within) := goodIn_app (goodIn_of _ (by decide +kernel)) ggX8_deed_X8_within
set_option maxRecDepth 20000 in
theorem ggX8_deed_X8_finding : GoodIn wsX8_deed wsX8_finding := goodIn_r _ [25, 26, 1, 31, 32, 33, 34, 35, 36, 37, 38, 39, 40, 41, 42, 43, 44, 45, 46, 47, 48, 49, 50, 51, 52, 53, 54, 55, 56, 57, 58, 59, 60, 61, 62] (by decide +kernel) (by decide +kernel)
set_option maxRecDepth 20000 in
theorem gX8_deed_X8_finding : GoodIn wsX8_deed (wsV RX8 86 RX8 yX8_finding wsX8_finding) := goodIn_app (goodIn_of _ (by decide +kernel)) ggX8_deed_X8_finding
set_option maxRecDepth 20000 in
theorem ggX8_deed_X8_done : GoodIn wsX8_deed wsX8_done := goodIn_r _ [30, 2, 31, 32, 33, 34, 35, 36, 37, 38, 39, 40, 41, 42, 43, 44, 45, 46, 47, 48, 49, 50, 51, 52, 53, 54, 55, 56, 57, 58, 59, 60, 61, 62] (by decide +kernel) (by decide +kernel)
set_option maxRecDepth 20000 in
theorem gX8_deed_X8_done : GoodIn wsX8_deed (wsV RX8 192 RX8 yX8_done wsX8_done) := goodIn_app (goodIn_of _ (by decide +kernel)) ggX8_deed_X8_done
theorem dX8_deed_0 : decode cX8_deed 0 = .ok (.iload_n 1, 1) := by decide +kernel
theorem dX8_deed_1 : decode cX8_deed 1 = .ok (.invokestatic 189, 3) := by decide +kernel
theorem dX8_deed_4 : decode cX8_deed 4 = .ok (.ifCond .eq 32, 3) := by decide +kernel
theorem dX8_deed_7 : decode cX8_deed 7 = .ok (.iload_n 2, 1) := by decide +kernel
theorem dX8_deed_8 : decode cX8_deed 8 = .ok (.invokestatic 98, 3) := by decide +kernel
theorem dX8_deed_11 : decode cX8_deed 11 = .ok (.ifCond .eq 25, 3) := by decide +kernel
theorem dX8_deed_14 : decode cX8_deed 14 = .ok (.aload_n 0, 1) := by decide +kernel
theorem dX8_deed_15 : decode cX8_deed 15 = .ok (.iload_n 3, 1) := by decide +kernel
theorem dX8_deed_16 : decode cX8_deed 16 = .ok (.iload 4, 2) := by decide +kernel
theorem dX8_deed_18 : decode cX8_deed 18 = .ok (.invokevirtual 101, 3) := by decide +kernel
theorem dX8_deed_21 : decode cX8_deed 21 = .ok (.ifCond .eq 15, 3) := by decide +kernel
theorem dX8_deed_24 : decode cX8_deed 24 = .ok (.iload 5, 2) := by decide +kernel
theorem dX8_deed_26 : decode cX8_deed 26 = .ok (.iconst 0, 1) := by decide +kernel
theorem dX8_deed_27 : decode cX8_deed 27 = .ok (.sipush 999, 3) := by decide +kernel
theorem dX8_deed_30 : decode cX8_deed 30 = .ok (.invokestatic 78, 3) := by decide +kernel
theorem dX8_deed_33 : decode cX8_deed 33 = .ok (.ifCond .ne 10, 3) := by decide +kernel
theorem dX8_deed_36 : decode cX8_deed 36 = .ok (.aload_n 0, 1) := by decide +kernel
theorem dX8_deed_37 : decode cX8_deed 37 = .ok (.ldc 77, 2) := by decide +kernel
theorem dX8_deed_39 : decode cX8_deed 39 = .ok (.invokevirtual 86, 3) := by decide +kernel
theorem dX8_deed_42 : decode cX8_deed 42 = .ok (.ireturn, 1) := by decide +kernel
theorem dX8_deed_43 : decode cX8_deed 43 = .ok (.aload_n 0, 1) := by decide +kernel
theorem dX8_deed_44 : decode cX8_deed 44 = .ok (.getfield 9, 3) := by decide +kernel
theorem dX8_deed_47 : decode cX8_deed 47 = .ok (.iconst 4, 1) := by decide +kernel
theorem dX8_deed_48 : decode cX8_deed 48 = .ok (.iaload, 1) := by decide +kernel
theorem dX8_deed_49 : decode cX8_deed 49 = .ok (.bipush 12, 2) := by decide +kernel
theorem dX8_deed_51 : decode cX8_deed 51 = .ok (.if_icmp .ne 12, 3) := by decide +kernel
theorem dX8_deed_54 : decode cX8_deed 54 = .ok (.aload_n 0, 1) := by decide +kernel
theorem dX8_deed_55 : decode cX8_deed 55 = .ok (.ldc 109, 2) := by decide +kernel
theorem dX8_deed_57 : decode cX8_deed 57 = .ok (.invokevirtual 86, 3) := by decide +kernel
theorem dX8_deed_60 : decode cX8_deed 60 = .ok (.goto 14, 3) := by decide +kernel
theorem dX8_deed_63 : decode cX8_deed 63 = .ok (.aload_n 0, 1) := by decide +kernel
theorem dX8_deed_64 : decode cX8_deed 64 = .ok (.iload_n 1, 1) := by decide +kernel
theorem dX8_deed_65 : decode cX8_deed 65 = .ok (.iload_n 2, 1) := by decide +kernel
theorem dX8_deed_66 : decode cX8_deed 66 = .ok (.iload_n 3, 1) := by decide +kernel
theorem dX8_deed_67 : decode cX8_deed 67 = .ok (.iload 4, 2) := by decide +kernel
theorem dX8_deed_69 : decode cX8_deed 69 = .ok (.iload 5, 2) := by decide +kernel
theorem dX8_deed_71 : decode cX8_deed 71 = .ok (.invokevirtual 192, 3) := by decide +kernel
theorem dX8_deed_74 : decode cX8_deed 74 = .ok (.ireturn, 1) := by decide +kernel
set_option maxRecDepth 20000 in
theorem ggX8_pays_X8_deedIs : GoodIn wsX8_pays wsX8_deedIs := goodIn_r _ [5, 6, 7, 8, 9, 10, 11, 12, 13, 14, 15, 16, 17, 18, 19, 20, 21, 22, 23, 24, 25, 26, 27, 28, 29, 30, 31, 32, 33, 34, 35, 36, 37, 38] (by decide +kernel) (by decide +kernel)
set_option maxRecDepth 20000 in
theorem gX8_pays_X8_deedIs : GoodIn wsX8_pays (wsV RX8 196 RX8 yX8_deedIs wsX8_deedIs) := goodIn_app (goodIn_of _ (by decide +kernel)) ggX8_pays_X8_deedIs
theorem dX8_pays_0 : decode cX8_pays 0 = .ok (.aload_n 0, 1) := by decide +kernel
theorem dX8_pays_1 : decode cX8_pays 1 = .ok (.iload_n 1, 1) := by decide +kernel
theorem dX8_pays_2 : decode cX8_pays 2 = .ok (.iconst 4, 1) := by decide +kernel
theorem dX8_pays_3 : decode cX8_pays 3 = .ok (.invokevirtual 196, 3) := by decide +kernel
theorem dX8_pays_6 : decode cX8_pays 6 = .ok (.istore_n 2, 1) := by decide +kernel
theorem dX8_pays_7 : decode cX8_pays 7 = .ok (.aload_n 0, 1) := by decide +kernel
theorem dX8_pays_8 : decode cX8_pays 8 = .ok (.iload_n 1, 1) := by decide +kernel
theorem dX8_pays_9 : decode cX8_pays 9 = .ok (.iconst 0, 1) := by decide +kernel
theorem dX8_pays_10 : decode cX8_pays 10 = .ok (.invokevirtual 196, 3) := by decide +kernel
theorem dX8_pays_13 : decode cX8_pays 13 = .ok (.tableswitch 55 1 5 #[35, 37, 43, 45, 51], 35) := by decide +kernel
theorem dX8_pays_48 : decode cX8_pays 48 = .ok (.iload_n 2, 1) := by decide +kernel
theorem dX8_pays_49 : decode cX8_pays 49 = .ok (.ireturn, 1) := by decide +kernel
theorem dX8_pays_50 : decode cX8_pays 50 = .ok (.iload_n 2, 1) := by decide +kernel
theorem dX8_pays_51 : decode cX8_pays 51 = .ok (.bipush 10, 2) := by decide +kernel
theorem dX8_pays_53 : decode cX8_pays 53 = .ok (.idiv, 1) := by decide +kernel
theorem dX8_pays_54 : decode cX8_pays 54 = .ok (.ineg, 1) := by decide +kernel
theorem dX8_pays_55 : decode cX8_pays 55 = .ok (.ireturn, 1) := by decide +kernel
theorem dX8_pays_56 : decode cX8_pays 56 = .ok (.iconst 1, 1) := by decide +kernel
theorem dX8_pays_57 : decode cX8_pays 57 = .ok (.ireturn, 1) := by decide +kernel
theorem dX8_pays_58 : decode cX8_pays 58 = .ok (.iconst 1, 1) := by decide +kernel
theorem dX8_pays_59 : decode cX8_pays 59 = .ok (.iload_n 2, 1) := by decide +kernel
theorem dX8_pays_60 : decode cX8_pays 60 = .ok (.iconst 2, 1) := by decide +kernel
theorem dX8_pays_61 : decode cX8_pays 61 = .ok (.idiv, 1) := by decide +kernel
theorem dX8_pays_62 : decode cX8_pays 62 = .ok (.iadd, 1) := by decide +kernel
theorem dX8_pays_63 : decode cX8_pays 63 = .ok (.ireturn, 1) := by decide +kernel
theorem dX8_pays_64 : decode cX8_pays 64 = .ok (.iconst 2, 1) := by decide +kernel
theorem dX8_pays_65 : decode cX8_pays 65 = .ok (.iload_n 2, 1) := by decide +kernel
theorem dX8_pays_66 : decode cX8_pays 66 = .ok (.imul, 1) := by decide +kernel
theorem dX8_pays_67 : decode cX8_pays 67 = .ok (.ireturn, 1) := by decide +kernel
theorem dX8_pays_68 : decode cX8_pays 68 = .ok (.iconst 0, 1) := by decide +kernel
theorem dX8_pays_69 : decode cX8_pays 69 = .ok (.ireturn, 1) := by decide +kernel
set_option maxRecDepth 20000 in
theorem ggX8_deedOf_X8_isDeed : GoodIn wsX8_deedOf wsX8_isDeed := goodIn_r _ [6, 7, 8, 9, 5, 10, 24, 25, 26, 27, 28, 29, 30, 31, 32, 33, 34, 35, 36, 37, 38, 39, 40, 41, 42, 43, 44, 45, 46, 47, 48, 49, 50, 51, 52, 53, 54, 55] (by decide +kernel) (by decide +kernel)
set_option maxRecDepth 20000 in
theorem gX8_deedOf_X8_isDeed : GoodIn wsX8_deedOf (wsV RX8 199 RX8 yX8_isDeed wsX8_isDeed) := goodIn_app (goodIn_of _ (by decide +kernel)) ggX8_deedOf_X8_isDeed
set_option maxRecDepth 20000 in
theorem ggX8_deedOf_X8_within : GoodIn wsX8_deedOf wsX8_within := goodIn_r _ [10] (by decide +kernel) (by decide +kernel)
set_option maxRecDepth 20000 in
theorem gX8_deedOf_X8_within : GoodIn wsX8_deedOf (va_wsS RX8 78 yX8_within wsX8_within) := goodIn_app (goodIn_of _ (by decide +kernel)) ggX8_deedOf_X8_within
set_option maxRecDepth 20000 in
theorem ggX8_deedOf_X8_finding : GoodIn wsX8_deedOf wsX8_finding := goodIn_r _ [14, 15, 1, 24, 25, 26, 27, 28, 29, 30, 31, 32, 33, 34, 35, 36, 37, 38, 39, 40, 41, 42, 43, 44, 45, 46, 47, 48, 49, 50, 51, 52, 53, 54, 55] (by decide +kernel) (by decide +kernel)
set_option maxRecDepth 20000 in
theorem gX8_deedOf_X8_finding : GoodIn wsX8_deedOf (wsV RX8 86 RX8 yX8_finding wsX8_finding) := goodIn_app (goodIn_of _ (by decide +kernel)) ggX8_deedOf_X8_finding
set_option maxRecDepth 20000 in
theorem ggX8_deedOf_X8_pays : GoodIn wsX8_deedOf wsX8_pays := goodIn_r _ [19, 20, 21, 22, 5, 23, 7, 24, 25, 26, 27, 28, 29, 30, 31, 32, 33, 34, 35, 36, 37, 38, 39, 40, 41, 42, 43, 44, 45, 46, 47, 48, 49, 50, 51, 52, 53, 54, 55] (by decide +kernel) (by decide +kernel)
set_option maxRecDepth 20000 in
theorem gX8_deedOf_X8_pays : GoodIn wsX8_deedOf (wsV RX8 202 RX8 yX8_pays wsX8_pays) := goodIn_app (goodIn_of _ (by decide +kernel)) ggX8_deedOf_X8_pays
set_option maxRecDepth 20000 in
theorem ggX8_deedOf_X8_deedIs : GoodIn wsX8_deedOf wsX8_deedIs := goodIn_r _ [23, 7, 24, 25, 26, 27, 28, 29, 30, 31, 32, 33, 34, 35, 36, 37, 38, 39, 40, 41, 42, 43, 44, 45, 46, 47, 48, 49, 50, 51, 52, 53, 54, 55] (by decide +kernel) (by decide +kernel)
set_option maxRecDepth 20000 in
theorem gX8_deedOf_X8_deedIs : GoodIn wsX8_deedOf (wsV RX8 196 RX8 yX8_deedIs wsX8_deedIs) := goodIn_app (goodIn_of _ (by decide +kernel)) ggX8_deedOf_X8_deedIs
theorem dX8_deedOf_0 : decode cX8_deedOf 0 = .ok (.aload_n 0, 1) := by decide +kernel
theorem dX8_deedOf_1 : decode cX8_deedOf 1 = .ok (.iload_n 1, 1) := by decide +kernel
theorem dX8_deedOf_2 : decode cX8_deedOf 2 = .ok (.invokevirtual 199, 3) := by decide +kernel
theorem dX8_deedOf_5 : decode cX8_deedOf 5 = .ok (.ifCond .eq 13, 3) := by decide +kernel
theorem dX8_deedOf_8 : decode cX8_deedOf 8 = .ok (.iload_n 2, 1) := by decide +kernel
theorem dX8_deedOf_9 : decode cX8_deedOf 9 = .ok (.iconst 0, 1) := by decide +kernel
theorem dX8_deedOf_10 : decode cX8_deedOf 10 = .ok (.bipush 6, 2) := by decide +kernel
theorem dX8_deedOf_12 : decode cX8_deedOf 12 = .ok (.invokestatic 78, 3) := by decide +kernel
theorem dX8_deedOf_15 : decode cX8_deedOf 15 = .ok (.ifCond .ne 10, 3) := by decide +kernel
theorem dX8_deedOf_18 : decode cX8_deedOf 18 = .ok (.aload_n 0, 1) := by decide +kernel
theorem dX8_deedOf_19 : decode cX8_deedOf 19 = .ok (.ldc 77, 2) := by decide +kernel
theorem dX8_deedOf_21 : decode cX8_deedOf 21 = .ok (.invokevirtual 86, 3) := by decide +kernel
theorem dX8_deedOf_24 : decode cX8_deedOf 24 = .ok (.ireturn, 1) := by decide +kernel
theorem dX8_deedOf_25 : decode cX8_deedOf 25 = .ok (.iload_n 2, 1) := by decide +kernel
theorem dX8_deedOf_26 : decode cX8_deedOf 26 = .ok (.iconst 5, 1) := by decide +kernel
theorem dX8_deedOf_27 : decode cX8_deedOf 27 = .ok (.if_icmp .ne 11, 3) := by decide +kernel
theorem dX8_deedOf_30 : decode cX8_deedOf 30 = .ok (.aload_n 0, 1) := by decide +kernel
theorem dX8_deedOf_31 : decode cX8_deedOf 31 = .ok (.iload_n 1, 1) := by decide +kernel
theorem dX8_deedOf_32 : decode cX8_deedOf 32 = .ok (.invokevirtual 202, 3) := by decide +kernel
theorem dX8_deedOf_35 : decode cX8_deedOf 35 = .ok (.goto 33, 3) := by decide +kernel
theorem dX8_deedOf_38 : decode cX8_deedOf 38 = .ok (.iload_n 2, 1) := by decide +kernel
theorem dX8_deedOf_39 : decode cX8_deedOf 39 = .ok (.bipush 6, 2) := by decide +kernel
theorem dX8_deedOf_41 : decode cX8_deedOf 41 = .ok (.if_icmp .ne 21, 3) := by decide +kernel
theorem dX8_deedOf_44 : decode cX8_deedOf 44 = .ok (.aload_n 0, 1) := by decide +kernel
theorem dX8_deedOf_45 : decode cX8_deedOf 45 = .ok (.iload_n 1, 1) := by decide +kernel
theorem dX8_deedOf_46 : decode cX8_deedOf 46 = .ok (.iconst 0, 1) := by decide +kernel
theorem dX8_deedOf_47 : decode cX8_deedOf 47 = .ok (.invokevirtual 196, 3) := by decide +kernel
theorem dX8_deedOf_50 : decode cX8_deedOf 50 = .ok (.iconst 4, 1) := by decide +kernel
theorem dX8_deedOf_51 : decode cX8_deedOf 51 = .ok (.if_icmp .ne 7, 3) := by decide +kernel
theorem dX8_deedOf_54 : decode cX8_deedOf 54 = .ok (.iconst 1, 1) := by decide +kernel
theorem dX8_deedOf_55 : decode cX8_deedOf 55 = .ok (.goto 13, 3) := by decide +kernel
theorem dX8_deedOf_58 : decode cX8_deedOf 58 = .ok (.iconst 0, 1) := by decide +kernel
theorem dX8_deedOf_59 : decode cX8_deedOf 59 = .ok (.goto 9, 3) := by decide +kernel
theorem dX8_deedOf_62 : decode cX8_deedOf 62 = .ok (.aload_n 0, 1) := by decide +kernel
theorem dX8_deedOf_63 : decode cX8_deedOf 63 = .ok (.iload_n 1, 1) := by decide +kernel
theorem dX8_deedOf_64 : decode cX8_deedOf 64 = .ok (.iload_n 2, 1) := by decide +kernel
theorem dX8_deedOf_65 : decode cX8_deedOf 65 = .ok (.invokevirtual 196, 3) := by decide +kernel
theorem dX8_deedOf_68 : decode cX8_deedOf 68 = .ok (.ireturn, 1) := by decide +kernel
set_option maxRecDepth 20000 in
theorem ggX8_turn_X8_isDeed : GoodIn wsX8_turn wsX8_isDeed := goodIn_r _ [6, 7, 8, 9, 5, 10, 23, 24, 25, 26, 27, 28, 29, 30, 31, 32, 33, 34, 35, 36, 37, 38, 39, 40, 41, 42, 43, 44, 45, 46, 47, 48, 49, 50, 51, 52, 53, 54] (by decide +kernel) (by decide +kernel)
set_option maxRecDepth 20000 in
theorem gX8_turn_X8_isDeed : GoodIn wsX8_turn (wsV RX8 199 RX8 yX8_isDeed wsX8_isDeed) := goodIn_app (goodIn_of _ (by decide +kernel)) ggX8_turn_X8_isDeed
set_option maxRecDepth 20000 in
theorem ggX8_turn_X8_isKind : GoodIn wsX8_turn wsX8_isKind := goodIn_r _ [13, 8, 9, 5, 10] (by decide +kernel) (by decide +kernel)
set_option maxRecDepth 20000 in
theorem gX8_turn_X8_isKind : GoodIn wsX8_turn (va_wsS RX8 189 yX8_isKind wsX8_isKind) := goodIn_app (goodIn_of _ (by decide +kernel)) ggX8_turn_X8_isKind
set_option maxRecDepth 20000 in
theorem ggX8_turn_X8_become : GoodIn wsX8_turn wsX8_become := goodIn_r _ [17, 7, 23, 24, 25, 26, 27, 28, 29, 30, 31, 32, 33, 34, 35, 36, 37, 38, 39, 40, 41, 42, 43, 44, 45, 46, 47, 48, 49, 50, 51, 52, 53, 54] (by decide +kernel) (by decide +kernel)
set_option maxRecDepth 20000 in
theorem gX8_turn_X8_become : GoodIn wsX8_turn (wsV RX8 91 RX8 yX8_become wsX8_become) := goodIn_app (goodIn_of _ (by decide +kernel)) ggX8_turn_X8_become
set_option maxRecDepth 20000 in
theorem ggX8_turn_X8_finding : GoodIn wsX8_turn wsX8_finding := goodIn_r _ [21, 22, 1, 23, 24, 25, 26, 27, 28, 29, 30, 31, 32, 33, 34, 35, 36, 37, 38, 39, 40, 41, 42, 43, 44, 45, 46, 47, 48, 49, 50, 51, 52, 53, 54] (by decide +kernel) (by decide +kernel)
set_option maxRecDepth 20000 in
theorem gX8_turn_X8_finding : GoodIn wsX8_turn (wsV RX8 86 RX8 yX8_finding wsX8_finding) := goodIn_app (goodIn_of _ (by decide +kernel)) ggX8_turn_X8_finding
theorem dX8_turn_0 : decode cX8_turn 0 = .ok (.aload_n 0, 1) := by decide +kernel
theorem dX8_turn_1 : decode cX8_turn 1 = .ok (.iload_n 1, 1) := by decide +kernel
theorem dX8_turn_2 : decode cX8_turn 2 = .ok (.invokevirtual 199, 3) := by decide +kernel
theorem dX8_turn_5 : decode cX8_turn 5 = .ok (.ifCond .eq 26, 3) := by decide +kernel
theorem dX8_turn_8 : decode cX8_turn 8 = .ok (.iload_n 2, 1) := by decide +kernel
theorem dX8_turn_9 : decode cX8_turn 9 = .ok (.invokestatic 189, 3) := by decide +kernel
theorem dX8_turn_12 : decode cX8_turn 12 = .ok (.ifCond .eq 19, 3) := by decide +kernel
theorem dX8_turn_15 : decode cX8_turn 15 = .ok (.aload_n 0, 1) := by decide +kernel
theorem dX8_turn_16 : decode cX8_turn 16 = .ok (.bipush 86, 2) := by decide +kernel
theorem dX8_turn_18 : decode cX8_turn 18 = .ok (.iconst 5, 1) := by decide +kernel
theorem dX8_turn_19 : decode cX8_turn 19 = .ok (.iload_n 1, 1) := by decide +kernel
theorem dX8_turn_20 : decode cX8_turn 20 = .ok (.imul, 1) := by decide +kernel
theorem dX8_turn_21 : decode cX8_turn 21 = .ok (.iadd, 1) := by decide +kernel
theorem dX8_turn_22 : decode cX8_turn 22 = .ok (.iconst 0, 1) := by decide +kernel
theorem dX8_turn_23 : decode cX8_turn 23 = .ok (.iadd, 1) := by decide +kernel
theorem dX8_turn_24 : decode cX8_turn 24 = .ok (.iload_n 2, 1) := by decide +kernel
theorem dX8_turn_25 : decode cX8_turn 25 = .ok (.invokevirtual 91, 3) := by decide +kernel
theorem dX8_turn_28 : decode cX8_turn 28 = .ok (.goto 9, 3) := by decide +kernel
theorem dX8_turn_31 : decode cX8_turn 31 = .ok (.aload_n 0, 1) := by decide +kernel
theorem dX8_turn_32 : decode cX8_turn 32 = .ok (.ldc 77, 2) := by decide +kernel
theorem dX8_turn_34 : decode cX8_turn 34 = .ok (.invokevirtual 86, 3) := by decide +kernel
theorem dX8_turn_37 : decode cX8_turn 37 = .ok (.ireturn, 1) := by decide +kernel
theorem dX8_above_0 : decode cX8_above 0 = .ok (.iload_n 0, 1) := by decide +kernel
theorem dX8_above_1 : decode cX8_above 1 = .ok (.ifCond .ne 7, 3) := by decide +kernel
theorem dX8_above_4 : decode cX8_above 4 = .ok (.iconst (-1), 1) := by decide +kernel
theorem dX8_above_5 : decode cX8_above 5 = .ok (.goto 22, 3) := by decide +kernel
theorem dX8_above_8 : decode cX8_above 8 = .ok (.iload_n 0, 1) := by decide +kernel
theorem dX8_above_9 : decode cX8_above 9 = .ok (.iconst 4, 1) := by decide +kernel
theorem dX8_above_10 : decode cX8_above 10 = .ok (.if_icmp .ne 7, 3) := by decide +kernel
theorem dX8_above_13 : decode cX8_above 13 = .ok (.iconst 3, 1) := by decide +kernel
theorem dX8_above_14 : decode cX8_above 14 = .ok (.goto 13, 3) := by decide +kernel
theorem dX8_above_17 : decode cX8_above 17 = .ok (.iload_n 0, 1) := by decide +kernel
theorem dX8_above_18 : decode cX8_above 18 = .ok (.iconst 5, 1) := by decide +kernel
theorem dX8_above_19 : decode cX8_above 19 = .ok (.if_icmp .ne 7, 3) := by decide +kernel
theorem dX8_above_22 : decode cX8_above 22 = .ok (.iconst 1, 1) := by decide +kernel
theorem dX8_above_23 : decode cX8_above 23 = .ok (.goto 4, 3) := by decide +kernel
theorem dX8_above_26 : decode cX8_above 26 = .ok (.iconst 0, 1) := by decide +kernel
theorem dX8_above_27 : decode cX8_above 27 = .ok (.ireturn, 1) := by decide +kernel
set_option maxRecDepth 20000 in
theorem ggX8_as_X8_isDeed : GoodIn wsX8_as wsX8_isDeed := goodIn_r _ [7, 8, 9, 10, 6, 11, 27, 28, 29, 30, 31, 32, 33, 34, 35, 36, 37, 38, 39, 40, 41, 42, 43, 44, 45, 46, 47, 48, 49, 50, 51, 52, 53, 54, 55, 56, 57, 58] (by decide +kernel) (by decide +kernel)
set_option maxRecDepth 20000 in
theorem gX8_as_X8_isDeed : GoodIn wsX8_as (wsV RX8 199 RX8 yX8_isDeed wsX8_isDeed) := goodIn_app (goodIn_of _ (by decide +kernel)) ggX8_as_X8_isDeed
set_option maxRecDepth 20000 in
theorem ggX8_as_X8_isKind : GoodIn wsX8_as wsX8_isKind := goodIn_r _ [14, 9, 10, 6, 11] (by decide +kernel) (by decide +kernel)
set_option maxRecDepth 20000 in
theorem gX8_as_X8_isKind : GoodIn wsX8_as (va_wsS RX8 189 yX8_isKind wsX8_isKind) := goodIn_app (goodIn_of _ (by decide +kernel)) ggX8_as_X8_isKind
set_option maxRecDepth 20000 in
theorem ggX8_as_X8_finding : GoodIn wsX8_as wsX8_finding := goodIn_r _ [18, 19, 1, 27, 28, 29, 30, 31, 32, 33, 34, 35, 36, 37, 38, 39, 40, 41, 42, 43, 44, 45, 46, 47, 48, 49, 50, 51, 52, 53, 54, 55, 56, 57, 58] (by decide +kernel) (by decide +kernel)
set_option maxRecDepth 20000 in
theorem gX8_as_X8_finding : GoodIn wsX8_as (wsV RX8 86 RX8 yX8_finding wsX8_finding) := goodIn_app (goodIn_of _ (by decide +kernel)) ggX8_as_X8_finding
set_option maxRecDepth 20000 in
theorem ggX8_as_X8_deedIs : GoodIn wsX8_as wsX8_deedIs := goodIn_r _ [23, 8, 27, 28, 29, 30, 31, 32, 33, 34, 35, 36, 37, 38, 39, 40, 41, 42, 43, 44, 45, 46, 47, 48, 49, 50, 51, 52, 53, 54, 55, 56, 57, 58] (by decide +kernel) (by decide +kernel)
set_option maxRecDepth 20000 in
theorem gX8_as_X8_deedIs : GoodIn wsX8_as (wsV RX8 196 RX8 yX8_deedIs wsX8_deedIs) := goodIn_app (goodIn_of _ (by decide +kernel)) ggX8_as_X8_deedIs
set_option maxRecDepth 20000 in
theorem ggX8_as_X8_above : GoodIn wsX8_as wsX8_above := goodIn_r _ [26] (by decide +kernel) (by decide +kernel)
set_option maxRecDepth 20000 in
theorem gX8_as_X8_above : GoodIn wsX8_as (va_wsS RX8 205 yX8_above wsX8_above) := goodIn_app (goodIn_of _ (by decide +kernel)) ggX8_as_X8_above
theorem dX8_as_0 : decode cX8_as 0 = .ok (.aload_n 0, 1) := by decide +kernel
theorem dX8_as_1 : decode cX8_as 1 = .ok (.iload_n 1, 1) := by decide +kernel
theorem dX8_as_2 : decode cX8_as 2 = .ok (.invokevirtual 199, 3) := by decide +kernel
theorem dX8_as_5 : decode cX8_as 5 = .ok (.ifCond .eq 10, 3) := by decide +kernel
theorem dX8_as_8 : decode cX8_as 8 = .ok (.iload_n 2, 1) := by decide +kernel
theorem dX8_as_9 : decode cX8_as 9 = .ok (.invokestatic 189, 3) := by decide +kernel
theorem dX8_as_12 : decode cX8_as 12 = .ok (.ifCond .ne 10, 3) := by decide +kernel
theorem dX8_as_15 : decode cX8_as 15 = .ok (.aload_n 0, 1) := by decide +kernel
theorem dX8_as_16 : decode cX8_as 16 = .ok (.ldc 77, 2) := by decide +kernel
theorem dX8_as_18 : decode cX8_as 18 = .ok (.invokevirtual 86, 3) := by decide +kernel
theorem dX8_as_21 : decode cX8_as 21 = .ok (.ireturn, 1) := by decide +kernel
theorem dX8_as_22 : decode cX8_as 22 = .ok (.aload_n 0, 1) := by decide +kernel
theorem dX8_as_23 : decode cX8_as 23 = .ok (.iload_n 1, 1) := by decide +kernel
theorem dX8_as_24 : decode cX8_as 24 = .ok (.iconst 0, 1) := by decide +kernel
theorem dX8_as_25 : decode cX8_as 25 = .ok (.invokevirtual 196, 3) := by decide +kernel
theorem dX8_as_28 : decode cX8_as 28 = .ok (.istore_n 3, 1) := by decide +kernel
theorem dX8_as_29 : decode cX8_as 29 = .ok (.iload_n 3, 1) := by decide +kernel
theorem dX8_as_30 : decode cX8_as 30 = .ok (.ifCond .lt 16, 3) := by decide +kernel
theorem dX8_as_33 : decode cX8_as 33 = .ok (.iload_n 3, 1) := by decide +kernel
theorem dX8_as_34 : decode cX8_as 34 = .ok (.iload_n 2, 1) := by decide +kernel
theorem dX8_as_35 : decode cX8_as 35 = .ok (.if_icmp .eq 11, 3) := by decide +kernel
theorem dX8_as_38 : decode cX8_as 38 = .ok (.iload_n 3, 1) := by decide +kernel
theorem dX8_as_39 : decode cX8_as 39 = .ok (.invokestatic 205, 3) := by decide +kernel
theorem dX8_as_42 : decode cX8_as 42 = .ok (.istore_n 3, 1) := by decide +kernel
theorem dX8_as_43 : decode cX8_as 43 = .ok (.goto (-14), 3) := by decide +kernel
theorem dX8_as_46 : decode cX8_as 46 = .ok (.iload_n 3, 1) := by decide +kernel
theorem dX8_as_47 : decode cX8_as 47 = .ok (.ifCond .ge 12, 3) := by decide +kernel
theorem dX8_as_50 : decode cX8_as 50 = .ok (.aload_n 0, 1) := by decide +kernel
theorem dX8_as_51 : decode cX8_as 51 = .ok (.ldc 208, 2) := by decide +kernel
theorem dX8_as_53 : decode cX8_as 53 = .ok (.invokevirtual 86, 3) := by decide +kernel
theorem dX8_as_56 : decode cX8_as 56 = .ok (.goto 9, 3) := by decide +kernel
theorem dX8_as_59 : decode cX8_as 59 = .ok (.aload_n 0, 1) := by decide +kernel
theorem dX8_as_60 : decode cX8_as 60 = .ok (.iload_n 1, 1) := by decide +kernel
theorem dX8_as_61 : decode cX8_as 61 = .ok (.iconst 4, 1) := by decide +kernel
theorem dX8_as_62 : decode cX8_as 62 = .ok (.invokevirtual 196, 3) := by decide +kernel
theorem dX8_as_65 : decode cX8_as 65 = .ok (.ireturn, 1) := by decide +kernel
set_option maxRecDepth 20000 in
theorem ggX8_findDoers_X8_deedIs : GoodIn wsX8_findDoers wsX8_deedIs := goodIn_r _ [9, 1, 38, 39, 40, 41, 42, 43, 44, 45, 46, 47, 48, 49, 50, 51, 52, 53, 54, 55, 56, 57, 58, 59, 60, 61, 62, 63, 64, 65, 66, 67, 68, 69] (by decide +kernel) (by decide +kernel)
set_option maxRecDepth 20000 in
theorem gX8_findDoers_X8_deedIs : GoodIn wsX8_findDoers (wsV RX8 196 RX8 yX8_deedIs wsX8_deedIs) := goodIn_app (goodIn_of _ (by decide +kernel)) ggX8_findDoers_X8_deedIs
set_option maxRecDepth 20000 in
theorem ggX8_findDoers_X8_goes : GoodIn wsX8_findDoers wsX8_goes := goodIn_r _ [13, 3, 14, 15, 1, 16, 17, 18, 19, 8, 20, 21, 22, 23, 24, 25, 26, 27, 28, 29, 30, 31, 32, 33, 34, 35, 36, 37, 38, 39, 40, 41, 42, 43, 44, 45, 46, 47, 48, 49, 50, 51, 52, 53, 54, 55, 56, 57, 58, 59, 60, 61, 62, 63, 64, 65, 66, 67, 68, 69] (by decide +kernel) (by decide +kernel)
set_option maxRecDepth 20000 in
theorem gX8_findDoers_X8_goes : GoodIn wsX8_findDoers (wsV RX8 153 RX8 yX8_goes wsX8_goes) := goodIn_app (goodIn_of _ (by decide +kernel)) ggX8_findDoers_X8_goes
theorem dX8_findDoers_0 : decode cX8_findDoers 0 = .ok (.iconst 0, 1) := by decide +kernel
theorem dX8_findDoers_1 : decode cX8_findDoers 1 = .ok (.istore_n 2, 1) := by decide +kernel
theorem dX8_findDoers_2 : decode cX8_findDoers 2 = .ok (.iload_n 2, 1) := by decide +kernel
theorem dX8_findDoers_3 : decode cX8_findDoers 3 = .ok (.aload_n 0, 1) := by decide +kernel
theorem dX8_findDoers_4 : decode cX8_findDoers 4 = .ok (.getfield 9, 3) := by decide +kernel
theorem dX8_findDoers_7 : decode cX8_findDoers 7 = .ok (.iconst 4, 1) := by decide +kernel
theorem dX8_findDoers_8 : decode cX8_findDoers 8 = .ok (.iaload, 1) := by decide +kernel
theorem dX8_findDoers_9 : decode cX8_findDoers 9 = .ok (.if_icmp .ge 54, 3) := by decide +kernel
theorem dX8_findDoers_12 : decode cX8_findDoers 12 = .ok (.aload_n 0, 1) := by decide +kernel
theorem dX8_findDoers_13 : decode cX8_findDoers 13 = .ok (.iload_n 1, 1) := by decide +kernel
theorem dX8_findDoers_14 : decode cX8_findDoers 14 = .ok (.aload_n 0, 1) := by decide +kernel
theorem dX8_findDoers_15 : decode cX8_findDoers 15 = .ok (.iload_n 2, 1) := by decide +kernel
theorem dX8_findDoers_16 : decode cX8_findDoers 16 = .ok (.iconst 1, 1) := by decide +kernel
theorem dX8_findDoers_17 : decode cX8_findDoers 17 = .ok (.invokevirtual 196, 3) := by decide +kernel
theorem dX8_findDoers_20 : decode cX8_findDoers 20 = .ok (.invokevirtual 153, 3) := by decide +kernel
theorem dX8_findDoers_23 : decode cX8_findDoers 23 = .ok (.aload_n 0, 1) := by decide +kernel
theorem dX8_findDoers_24 : decode cX8_findDoers 24 = .ok (.getfield 32, 3) := by decide +kernel
theorem dX8_findDoers_27 : decode cX8_findDoers 27 = .ok (.iload_n 2, 1) := by decide +kernel
theorem dX8_findDoers_28 : decode cX8_findDoers 28 = .ok (.aload_n 0, 1) := by decide +kernel
theorem dX8_findDoers_29 : decode cX8_findDoers 29 = .ok (.getfield 29, 3) := by decide +kernel
theorem dX8_findDoers_32 : decode cX8_findDoers 32 = .ok (.aload_n 0, 1) := by decide +kernel
theorem dX8_findDoers_33 : decode cX8_findDoers 33 = .ok (.iload_n 2, 1) := by decide +kernel
theorem dX8_findDoers_34 : decode cX8_findDoers 34 = .ok (.iconst 2, 1) := by decide +kernel
theorem dX8_findDoers_35 : decode cX8_findDoers 35 = .ok (.invokevirtual 196, 3) := by decide +kernel
theorem dX8_findDoers_38 : decode cX8_findDoers 38 = .ok (.iaload, 1) := by decide +kernel
theorem dX8_findDoers_39 : decode cX8_findDoers 39 = .ok (.iastore, 1) := by decide +kernel
theorem dX8_findDoers_40 : decode cX8_findDoers 40 = .ok (.aload_n 0, 1) := by decide +kernel
theorem dX8_findDoers_41 : decode cX8_findDoers 41 = .ok (.getfield 35, 3) := by decide +kernel
theorem dX8_findDoers_44 : decode cX8_findDoers 44 = .ok (.iload_n 2, 1) := by decide +kernel
theorem dX8_findDoers_45 : decode cX8_findDoers 45 = .ok (.aload_n 0, 1) := by decide +kernel
theorem dX8_findDoers_46 : decode cX8_findDoers 46 = .ok (.getfield 29, 3) := by decide +kernel
theorem dX8_findDoers_49 : decode cX8_findDoers 49 = .ok (.aload_n 0, 1) := by decide +kernel
theorem dX8_findDoers_50 : decode cX8_findDoers 50 = .ok (.iload_n 2, 1) := by decide +kernel
theorem dX8_findDoers_51 : decode cX8_findDoers 51 = .ok (.iconst 3, 1) := by decide +kernel
theorem dX8_findDoers_52 : decode cX8_findDoers 52 = .ok (.invokevirtual 196, 3) := by decide +kernel
theorem dX8_findDoers_55 : decode cX8_findDoers 55 = .ok (.iaload, 1) := by decide +kernel
theorem dX8_findDoers_56 : decode cX8_findDoers 56 = .ok (.iastore, 1) := by decide +kernel
theorem dX8_findDoers_57 : decode cX8_findDoers 57 = .ok (.iinc 2 1, 3) := by decide +kernel
theorem dX8_findDoers_60 : decode cX8_findDoers 60 = .ok (.goto (-58), 3) := by decide +kernel
theorem dX8_findDoers_63 : decode cX8_findDoers 63 = .ok (.return_, 1) := by decide +kernel
set_option maxRecDepth 20000 in
theorem ggX8_who_X8_isDeed : GoodIn wsX8_who wsX8_isDeed := goodIn_r _ [7, 8, 9, 10, 6, 11, 86, 87, 88, 89, 90, 91, 92, 93, 94, 95, 96, 97, 98, 99, 100, 101, 102, 103, 104, 105, 106, 107, 108, 109, 110, 111, 112, 113, 114, 115, 116, 117] (by decide +kernel) (by decide +kernel)
set_option maxRecDepth 20000 in
theorem gX8_who_X8_isDeed : GoodIn wsX8_who (wsV RX8 199 RX8 yX8_isDeed wsX8_isDeed) := goodIn_app (goodIn_of _ (by decide +kernel)) ggX8_who_X8_isDeed
set_option maxRecDepth 20000 in
theorem ggX8_who_X8_within : GoodIn wsX8_who wsX8_within := goodIn_r _ [11] (by decide +kernel) (by decide +kernel)
set_option maxRecDepth 20000 in
theorem gX8_who_X8_within : GoodIn wsX8_who (va_wsS RX8 78 yX8_within wsX8_within) := goodIn_app (goodIn_of _ (by decide +kernel)) ggX8_who_X8_within
set_option maxRecDepth 20000 in
theorem ggX8_who_X8_finding : GoodIn wsX8_who wsX8_finding := goodIn_r _ [15, 16, 1, 86, 87, 88, 89, 90, 91, 92, 93, 94, 95, 96, 97, 98, 99, 100, 101, 102, 103, 104, 105, 106, 107, 108, 109, 110, 111, 112, 113, 114, 115, 116, 117] (by decide +kernel) (by decide +kernel)
set_option maxRecDepth 20000 in
theorem gX8_who_X8_finding : GoodIn wsX8_who (wsV RX8 86 RX8 yX8_finding wsX8_finding) := goodIn_app (goodIn_of _ (by decide +kernel)) ggX8_who_X8_finding
set_option maxRecDepth 20000 in
theorem ggX8_who_X8_deedIs : GoodIn wsX8_who wsX8_deedIs := goodIn_r _ [20, 8, 86, 87, 88, 89, 90, 91, 92, 93, 94, 95, 96, 97, 98, 99, 100, 101, 102, 103, 104, 105, 106, 107, 108, 109, 110, 111, 112, 113, 114, 115, 116, 117] (by decide +kernel) (by decide +kernel)
set_option maxRecDepth 20000 in
theorem gX8_who_X8_deedIs : GoodIn wsX8_who (wsV RX8 196 RX8 yX8_deedIs wsX8_deedIs) := goodIn_app (goodIn_of _ (by decide +kernel)) ggX8_who_X8_deedIs
set_option maxRecDepth 20000 in
theorem ggX8_who_X8_wornBy : GoodIn wsX8_who wsX8_wornBy := goodIn_r _ [24, 25, 26, 27, 28, 29, 6, 30, 8, 31, 32, 33, 34, 35, 36, 37, 38, 39, 40, 41, 42, 43, 44, 45, 46, 47, 48, 49, 50, 51, 52, 53, 54, 55, 56, 57, 58, 59, 60, 61, 62, 63, 64, 65, 66, 67, 68, 69, 70, 71, 72, 73, 74, 75, 76, 77, 78, 79, 80, 81, 82, 86, 87, 88, 89, 90, 91, 92, 93, 94, 95, 96, 97, 98, 99, 100, 101, 102, 103, 104, 105, 106, 107, 108, 109, 110, 111, 112, 113, 114, 115, 116, 117] (by decide +kernel) (by decide +kernel)
set_option maxRecDepth 20000 in
theorem gX8_who_X8_wornBy : GoodIn wsX8_who (wsV RX8 180 RX8 yX8_wornBy wsX8_wornBy) := goodIn_app (goodIn_of _ (by decide +kernel)) ggX8_who_X8_wornBy
set_option maxRecDepth 20000 in
theorem ggX8_who_X8_only : GoodIn wsX8_who wsX8_only := goodIn_r _ [85] (by decide +kernel) (by decide +kernel)
set_option maxRecDepth 20000 in
theorem gX8_who_X8_only : GoodIn wsX8_who (va_wsS RX8 183 yX8_only wsX8_only) := goodIn_app (goodIn_of _ (by decide +kernel)) ggX8_who_X8_only
theorem dX8_who_0 : decode cX8_who 0 = .ok (.aload_n 0, 1) := by decide +kernel
theorem dX8_who_1 : decode cX8_who 1 = .ok (.iload_n 1, 1) := by decide +kernel
theorem dX8_who_2 : decode cX8_who 2 = .ok (.invokevirtual 199, 3) := by decide +kernel
theorem dX8_who_5 : decode cX8_who 5 = .ok (.ifCond .eq 12, 3) := by decide +kernel
theorem dX8_who_8 : decode cX8_who 8 = .ok (.iload_n 2, 1) := by decide +kernel
theorem dX8_who_9 : decode cX8_who 9 = .ok (.iconst 0, 1) := by decide +kernel
theorem dX8_who_10 : decode cX8_who 10 = .ok (.iconst 1, 1) := by decide +kernel
theorem dX8_who_11 : decode cX8_who 11 = .ok (.invokestatic 78, 3) := by decide +kernel
theorem dX8_who_14 : decode cX8_who 14 = .ok (.ifCond .ne 10, 3) := by decide +kernel
theorem dX8_who_17 : decode cX8_who 17 = .ok (.aload_n 0, 1) := by decide +kernel
theorem dX8_who_18 : decode cX8_who 18 = .ok (.ldc 77, 2) := by decide +kernel
theorem dX8_who_20 : decode cX8_who 20 = .ok (.invokevirtual 86, 3) := by decide +kernel
theorem dX8_who_23 : decode cX8_who 23 = .ok (.ireturn, 1) := by decide +kernel
theorem dX8_who_24 : decode cX8_who 24 = .ok (.aload_n 0, 1) := by decide +kernel
theorem dX8_who_25 : decode cX8_who 25 = .ok (.aload_n 0, 1) := by decide +kernel
theorem dX8_who_26 : decode cX8_who 26 = .ok (.iload_n 1, 1) := by decide +kernel
theorem dX8_who_27 : decode cX8_who 27 = .ok (.iload_n 2, 1) := by decide +kernel
theorem dX8_who_28 : decode cX8_who 28 = .ok (.ifCond .ne 7, 3) := by decide +kernel
theorem dX8_who_31 : decode cX8_who 31 = .ok (.iconst 2, 1) := by decide +kernel
theorem dX8_who_32 : decode cX8_who 32 = .ok (.goto 4, 3) := by decide +kernel
theorem dX8_who_35 : decode cX8_who 35 = .ok (.iconst 3, 1) := by decide +kernel
theorem dX8_who_36 : decode cX8_who 36 = .ok (.invokevirtual 196, 3) := by decide +kernel
theorem dX8_who_39 : decode cX8_who 39 = .ok (.aload_n 0, 1) := by decide +kernel
theorem dX8_who_40 : decode cX8_who 40 = .ok (.iload_n 1, 1) := by decide +kernel
theorem dX8_who_41 : decode cX8_who 41 = .ok (.iconst 1, 1) := by decide +kernel
theorem dX8_who_42 : decode cX8_who 42 = .ok (.invokevirtual 196, 3) := by decide +kernel
theorem dX8_who_45 : decode cX8_who 45 = .ok (.invokevirtual 180, 3) := by decide +kernel
theorem dX8_who_48 : decode cX8_who 48 = .ok (.invokestatic 183, 3) := by decide +kernel
theorem dX8_who_51 : decode cX8_who 51 = .ok (.istore_n 3, 1) := by decide +kernel
theorem dX8_who_52 : decode cX8_who 52 = .ok (.iload_n 3, 1) := by decide +kernel
theorem dX8_who_53 : decode cX8_who 53 = .ok (.ifCond .ge 12, 3) := by decide +kernel
theorem dX8_who_56 : decode cX8_who 56 = .ok (.aload_n 0, 1) := by decide +kernel
theorem dX8_who_57 : decode cX8_who 57 = .ok (.ldc 179, 2) := by decide +kernel
theorem dX8_who_59 : decode cX8_who 59 = .ok (.invokevirtual 86, 3) := by decide +kernel
theorem dX8_who_62 : decode cX8_who 62 = .ok (.goto 4, 3) := by decide +kernel
theorem dX8_who_65 : decode cX8_who 65 = .ok (.iload_n 3, 1) := by decide +kernel
theorem dX8_who_66 : decode cX8_who 66 = .ok (.ireturn, 1) := by decide +kernel
set_option maxRecDepth 20000 in
theorem ggX8_same_X8_isDeed : GoodIn wsX8_same wsX8_isDeed := goodIn_r _ [8, 9, 10, 11, 7, 12, 84, 85, 86, 87, 88, 89, 90, 91, 92, 93, 94, 95, 96, 97, 98, 99, 100, 101, 102, 103, 104, 105, 106, 107, 108, 109, 110, 111, 112, 113, 114, 115] (by decide +kernel) (by decide +kernel)
set_option maxRecDepth 20000 in
theorem gX8_same_X8_isDeed : GoodIn wsX8_same (wsV RX8 199 RX8 yX8_isDeed wsX8_isDeed) := goodIn_app (goodIn_of _ (by decide +kernel)) ggX8_same_X8_isDeed
set_option maxRecDepth 20000 in
theorem ggX8_same_X8_finding : GoodIn wsX8_same wsX8_finding := goodIn_r _ [16, 17, 1, 84, 85, 86, 87, 88, 89, 90, 91, 92, 93, 94, 95, 96, 97, 98, 99, 100, 101, 102, 103, 104, 105, 106, 107, 108, 109, 110, 111, 112, 113, 114, 115] (by decide +kernel) (by decide +kernel)
set_option maxRecDepth 20000 in
theorem gX8_same_X8_finding : GoodIn wsX8_same (wsV RX8 86 RX8 yX8_finding wsX8_finding) := goodIn_app (goodIn_of _ (by decide +kernel)) ggX8_same_X8_finding
set_option maxRecDepth 20000 in
theorem ggX8_same_X8_weigh : GoodIn wsX8_same wsX8_weigh := goodIn_r _ [21, 9, 3, 22, 23, 24, 7, 25, 26, 27, 28, 29, 30, 31, 32, 33, 34, 35, 36, 37, 38, 39, 40, 41, 42, 43, 44, 45, 46, 47, 48, 49, 50, 51, 52, 53, 54, 55, 56, 57, 58, 59, 60, 61, 62, 63, 64, 65, 66, 67, 68, 69, 70, 71, 72, 73, 74, 84, 85, 86, 87, 88, 89, 90, 91, 92, 93, 94, 95, 96, 97, 98, 99, 100, 101, 102, 103, 104, 105, 106, 107, 108, 109, 110, 111, 112, 113, 114, 115] (by decide +kernel) (by decide +kernel)
set_option maxRecDepth 20000 in
theorem gX8_same_X8_weigh : GoodIn wsX8_same (wsV RX8 172 RX8 yX8_weigh wsX8_weigh) := goodIn_app (goodIn_of _ (by decide +kernel)) ggX8_same_X8_weigh
set_option maxRecDepth 20000 in
theorem ggX8_same_X8_nightsThere : GoodIn wsX8_same wsX8_nightsThere := goodIn_r _ [36, 26, 84, 85, 86, 87, 88, 89, 90, 91, 92, 93, 94, 95, 96, 97, 98, 99, 100, 101, 102, 103, 104, 105, 106, 107, 108, 109, 110, 111, 112, 113, 114, 115] (by decide +kernel) (by decide +kernel)
set_option maxRecDepth 20000 in
theorem gX8_same_X8_nightsThere : GoodIn wsX8_same (wsV RX8 159 RX8 yX8_nightsThere wsX8_nightsThere) := goodIn_app (goodIn_of _ (by decide +kernel)) ggX8_same_X8_nightsThere
set_option maxRecDepth 20000 in
theorem ggX8_same_X8_findDoers : GoodIn wsX8_same wsX8_findDoers := goodIn_r _ [78, 9, 2, 46, 79, 80, 81, 82, 7, 83, 42, 43, 44, 45, 47, 41, 28, 29, 30, 31, 32, 48, 49, 50, 51, 26, 27, 52, 53, 54, 55, 56, 57, 58, 59, 60, 61, 62, 84, 85, 86, 87, 88, 89, 90, 91, 92, 93, 94, 95, 96, 97, 98, 99, 100, 101, 102, 103, 104, 105, 106, 107, 108, 109, 110, 111, 112, 113, 114, 115] (by decide +kernel) (by decide +kernel)
set_option maxRecDepth 20000 in
theorem gX8_same_X8_findDoers : GoodIn wsX8_same (wsV RX8 209 RX8 yX8_findDoers wsX8_findDoers) := goodIn_app (goodIn_of _ (by decide +kernel)) ggX8_same_X8_findDoers
theorem dX8_same_0 : decode cX8_same 0 = .ok (.aload_n 0, 1) := by decide +kernel
theorem dX8_same_1 : decode cX8_same 1 = .ok (.iload_n 1, 1) := by decide +kernel
theorem dX8_same_2 : decode cX8_same 2 = .ok (.invokevirtual 199, 3) := by decide +kernel
theorem dX8_same_5 : decode cX8_same 5 = .ok (.ifCond .eq 16, 3) := by decide +kernel
theorem dX8_same_8 : decode cX8_same 8 = .ok (.aload_n 0, 1) := by decide +kernel
theorem dX8_same_9 : decode cX8_same 9 = .ok (.iload_n 2, 1) := by decide +kernel
theorem dX8_same_10 : decode cX8_same 10 = .ok (.invokevirtual 199, 3) := by decide +kernel
theorem dX8_same_13 : decode cX8_same 13 = .ok (.ifCond .eq 8, 3) := by decide +kernel
theorem dX8_same_16 : decode cX8_same 16 = .ok (.iload_n 1, 1) := by decide +kernel
theorem dX8_same_17 : decode cX8_same 17 = .ok (.iload_n 2, 1) := by decide +kernel
theorem dX8_same_18 : decode cX8_same 18 = .ok (.if_icmp .ne 11, 3) := by decide +kernel
theorem dX8_same_21 : decode cX8_same 21 = .ok (.aload_n 0, 1) := by decide +kernel
theorem dX8_same_22 : decode cX8_same 22 = .ok (.ldc 77, 2) := by decide +kernel
theorem dX8_same_24 : decode cX8_same 24 = .ok (.invokevirtual 86, 3) := by decide +kernel
theorem dX8_same_27 : decode cX8_same 27 = .ok (.i2l, 1) := by decide +kernel
theorem dX8_same_28 : decode cX8_same 28 = .ok (.lreturn, 1) := by decide +kernel
theorem dX8_same_29 : decode cX8_same 29 = .ok (.aload_n 0, 1) := by decide +kernel
theorem dX8_same_30 : decode cX8_same 30 = .ok (.invokevirtual 172, 3) := by decide +kernel
theorem dX8_same_33 : decode cX8_same 33 = .ok (.pop2, 1) := by decide +kernel
theorem dX8_same_34 : decode cX8_same 34 = .ok (.lconst 0, 1) := by decide +kernel
theorem dX8_same_35 : decode cX8_same 35 = .ok (.lstore_n 3, 1) := by decide +kernel
theorem dX8_same_36 : decode cX8_same 36 = .ok (.iconst 0, 1) := by decide +kernel
theorem dX8_same_37 : decode cX8_same 37 = .ok (.istore 5, 2) := by decide +kernel
theorem dX8_same_39 : decode cX8_same 39 = .ok (.iload 5, 2) := by decide +kernel
theorem dX8_same_41 : decode cX8_same 41 = .ok (.aload_n 0, 1) := by decide +kernel
theorem dX8_same_42 : decode cX8_same 42 = .ok (.invokevirtual 159, 3) := by decide +kernel
theorem dX8_same_45 : decode cX8_same 45 = .ok (.if_icmp .ge 44, 3) := by decide +kernel
theorem dX8_same_48 : decode cX8_same 48 = .ok (.aload_n 0, 1) := by decide +kernel
theorem dX8_same_49 : decode cX8_same 49 = .ok (.iload 5, 2) := by decide +kernel
theorem dX8_same_51 : decode cX8_same 51 = .ok (.invokevirtual 209, 3) := by decide +kernel
theorem dX8_same_54 : decode cX8_same 54 = .ok (.lload_n 3, 1) := by decide +kernel
theorem dX8_same_55 : decode cX8_same 55 = .ok (.aload_n 0, 1) := by decide +kernel
theorem dX8_same_56 : decode cX8_same 56 = .ok (.getfield 32, 3) := by decide +kernel
theorem dX8_same_59 : decode cX8_same 59 = .ok (.iload_n 1, 1) := by decide +kernel
theorem dX8_same_60 : decode cX8_same 60 = .ok (.iaload, 1) := by decide +kernel
theorem dX8_same_61 : decode cX8_same 61 = .ok (.aload_n 0, 1) := by decide +kernel
theorem dX8_same_62 : decode cX8_same 62 = .ok (.getfield 32, 3) := by decide +kernel
theorem dX8_same_65 : decode cX8_same 65 = .ok (.iload_n 2, 1) := by decide +kernel
theorem dX8_same_66 : decode cX8_same 66 = .ok (.iaload, 1) := by decide +kernel
theorem dX8_same_67 : decode cX8_same 67 = .ok (.if_icmp .ne 13, 3) := by decide +kernel
theorem dX8_same_70 : decode cX8_same 70 = .ok (.aload_n 0, 1) := by decide +kernel
theorem dX8_same_71 : decode cX8_same 71 = .ok (.getfield 25, 3) := by decide +kernel
theorem dX8_same_74 : decode cX8_same 74 = .ok (.iload 5, 2) := by decide +kernel
theorem dX8_same_76 : decode cX8_same 76 = .ok (.laload, 1) := by decide +kernel
theorem dX8_same_77 : decode cX8_same 77 = .ok (.goto 4, 3) := by decide +kernel
theorem dX8_same_80 : decode cX8_same 80 = .ok (.lconst 0, 1) := by decide +kernel
theorem dX8_same_81 : decode cX8_same 81 = .ok (.ladd, 1) := by decide +kernel
theorem dX8_same_82 : decode cX8_same 82 = .ok (.lstore_n 3, 1) := by decide +kernel
theorem dX8_same_83 : decode cX8_same 83 = .ok (.iinc 5 1, 3) := by decide +kernel
theorem dX8_same_86 : decode cX8_same 86 = .ok (.goto (-47), 3) := by decide +kernel
theorem dX8_same_89 : decode cX8_same 89 = .ok (.lload_n 3, 1) := by decide +kernel
theorem dX8_same_90 : decode cX8_same 90 = .ok (.lreturn, 1) := by decide +kernel
set_option maxRecDepth 20000 in
theorem ggX8_owes_X8_isOne : GoodIn wsX8_owes wsX8_isOne := goodIn_r _ [10, 2, 11, 12, 9, 13, 88, 89, 90, 91, 92, 93, 94, 95, 96, 97, 98, 99, 100, 101, 102, 103, 104, 105, 106, 107, 108, 109, 110, 111, 112, 113, 114, 115, 116, 117, 118, 119] (by decide +kernel) (by decide +kernel)
set_option maxRecDepth 20000 in
theorem gX8_owes_X8_isOne : GoodIn wsX8_owes (wsV RX8 82 RX8 yX8_isOne wsX8_isOne) := goodIn_app (goodIn_of _ (by decide +kernel)) ggX8_owes_X8_isOne
set_option maxRecDepth 20000 in
theorem ggX8_owes_X8_finding : GoodIn wsX8_owes wsX8_finding := goodIn_r _ [17, 18, 1, 88, 89, 90, 91, 92, 93, 94, 95, 96, 97, 98, 99, 100, 101, 102, 103, 104, 105, 106, 107, 108, 109, 110, 111, 112, 113, 114, 115, 116, 117, 118, 119] (by decide +kernel) (by decide +kernel)
set_option maxRecDepth 20000 in
theorem gX8_owes_X8_finding : GoodIn wsX8_owes (wsV RX8 86 RX8 yX8_finding wsX8_finding) := goodIn_app (goodIn_of _ (by decide +kernel)) ggX8_owes_X8_finding
set_option maxRecDepth 20000 in
theorem ggX8_owes_X8_weigh : GoodIn wsX8_owes wsX8_weigh := goodIn_r _ [22, 2, 5, 23, 24, 25, 9, 26, 27, 28, 29, 30, 31, 32, 33, 34, 35, 36, 37, 38, 39, 40, 41, 42, 43, 44, 45, 46, 47, 48, 49, 50, 51, 52, 53, 54, 55, 56, 57, 58, 59, 60, 61, 62, 63, 64, 65, 66, 67, 68, 69, 70, 71, 72, 73, 74, 75, 88, 89, 90, 91, 92, 93, 94, 95, 96, 97, 98, 99, 100, 101, 102, 103, 104, 105, 106, 107, 108, 109, 110, 111, 112, 113, 114, 115, 116, 117, 118, 119] (by decide +kernel) (by decide +kernel)
set_option maxRecDepth 20000 in
theorem gX8_owes_X8_weigh : GoodIn wsX8_owes (wsV RX8 172 RX8 yX8_weigh wsX8_weigh) := goodIn_app (goodIn_of _ (by decide +kernel)) ggX8_owes_X8_weigh
set_option maxRecDepth 20000 in
theorem ggX8_owes_X8_nightsThere : GoodIn wsX8_owes wsX8_nightsThere := goodIn_r _ [37, 27, 88, 89, 90, 91, 92, 93, 94, 95, 96, 97, 98, 99, 100, 101, 102, 103, 104, 105, 106, 107, 108, 109, 110, 111, 112, 113, 114, 115, 116, 117, 118, 119] (by decide +kernel) (by decide +kernel)
set_option maxRecDepth 20000 in
theorem gX8_owes_X8_nightsThere : GoodIn wsX8_owes (wsV RX8 159 RX8 yX8_nightsThere wsX8_nightsThere) := goodIn_app (goodIn_of _ (by decide +kernel)) ggX8_owes_X8_nightsThere
set_option maxRecDepth 20000 in
theorem ggX8_owes_X8_findDoers : GoodIn wsX8_owes wsX8_findDoers := goodIn_r _ [79, 2, 3, 47, 4, 80, 81, 82, 9, 83, 43, 44, 45, 46, 48, 42, 29, 30, 31, 32, 33, 49, 50, 51, 52, 27, 28, 53, 54, 55, 56, 57, 58, 59, 60, 61, 62, 63, 88, 89, 90, 91, 92, 93, 94, 95, 96, 97, 98, 99, 100, 101, 102, 103, 104, 105, 106, 107, 108, 109, 110, 111, 112, 113, 114, 115, 116, 117, 118, 119] (by decide +kernel) (by decide +kernel)
set_option maxRecDepth 20000 in
theorem gX8_owes_X8_findDoers : GoodIn wsX8_owes (wsV RX8 209 RX8 yX8_findDoers wsX8_findDoers) := goodIn_app (goodIn_of _ (by decide +kernel)) ggX8_owes_X8_findDoers
set_option maxRecDepth 20000 in
theorem ggX8_owes_X8_pays : GoodIn wsX8_owes wsX8_pays := goodIn_r _ [87, 80, 81, 82, 9, 83, 2, 88, 89, 90, 91, 92, 93, 94, 95, 96, 97, 98, 99, 100, 101, 102, 103, 104, 105, 106, 107, 108, 109, 110, 111, 112, 113, 114, 115, 116, 117, 118, 119] (by decide +kernel) (by decide +kernel)
set_option maxRecDepth 20000 in
theorem gX8_owes_X8_pays : GoodIn wsX8_owes (wsV RX8 202 RX8 yX8_pays wsX8_pays) := goodIn_app (goodIn_of _ (by decide +kernel)) ggX8_owes_X8_pays
theorem dX8_owes_0 : decode cX8_owes 0 = .ok (.aload_n 0, 1) := by decide +kernel
theorem dX8_owes_1 : decode cX8_owes 1 = .ok (.iload_n 1, 1) := by decide +kernel
theorem dX8_owes_2 : decode cX8_owes 2 = .ok (.invokevirtual 82, 3) := by decide +kernel
theorem dX8_owes_5 : decode cX8_owes 5 = .ok (.ifCond .ne 11, 3) := by decide +kernel
theorem dX8_owes_8 : decode cX8_owes 8 = .ok (.aload_n 0, 1) := by decide +kernel
theorem dX8_owes_9 : decode cX8_owes 9 = .ok (.ldc 77, 2) := by decide +kernel
theorem dX8_owes_11 : decode cX8_owes 11 = .ok (.invokevirtual 86, 3) := by decide +kernel
theorem dX8_owes_14 : decode cX8_owes 14 = .ok (.i2l, 1) := by decide +kernel
theorem dX8_owes_15 : decode cX8_owes 15 = .ok (.lreturn, 1) := by decide +kernel
theorem dX8_owes_16 : decode cX8_owes 16 = .ok (.aload_n 0, 1) := by decide +kernel
theorem dX8_owes_17 : decode cX8_owes 17 = .ok (.invokevirtual 172, 3) := by decide +kernel
theorem dX8_owes_20 : decode cX8_owes 20 = .ok (.pop2, 1) := by decide +kernel
theorem dX8_owes_21 : decode cX8_owes 21 = .ok (.lconst 0, 1) := by decide +kernel
theorem dX8_owes_22 : decode cX8_owes 22 = .ok (.lstore_n 2, 1) := by decide +kernel
theorem dX8_owes_23 : decode cX8_owes 23 = .ok (.iconst 0, 1) := by decide +kernel
theorem dX8_owes_24 : decode cX8_owes 24 = .ok (.istore 4, 2) := by decide +kernel
theorem dX8_owes_26 : decode cX8_owes 26 = .ok (.iload 4, 2) := by decide +kernel
theorem dX8_owes_28 : decode cX8_owes 28 = .ok (.aload_n 0, 1) := by decide +kernel
theorem dX8_owes_29 : decode cX8_owes 29 = .ok (.invokevirtual 159, 3) := by decide +kernel
theorem dX8_owes_32 : decode cX8_owes 32 = .ok (.if_icmp .ge 90, 3) := by decide +kernel
theorem dX8_owes_35 : decode cX8_owes 35 = .ok (.aload_n 0, 1) := by decide +kernel
theorem dX8_owes_36 : decode cX8_owes 36 = .ok (.iload 4, 2) := by decide +kernel
theorem dX8_owes_38 : decode cX8_owes 38 = .ok (.invokevirtual 209, 3) := by decide +kernel
theorem dX8_owes_41 : decode cX8_owes 41 = .ok (.iconst 0, 1) := by decide +kernel
theorem dX8_owes_42 : decode cX8_owes 42 = .ok (.istore 5, 2) := by decide +kernel
theorem dX8_owes_44 : decode cX8_owes 44 = .ok (.iload 5, 2) := by decide +kernel
theorem dX8_owes_46 : decode cX8_owes 46 = .ok (.aload_n 0, 1) := by decide +kernel
theorem dX8_owes_47 : decode cX8_owes 47 = .ok (.getfield 9, 3) := by decide +kernel
theorem dX8_owes_50 : decode cX8_owes 50 = .ok (.iconst 4, 1) := by decide +kernel
theorem dX8_owes_51 : decode cX8_owes 51 = .ok (.iaload, 1) := by decide +kernel
theorem dX8_owes_52 : decode cX8_owes 52 = .ok (.if_icmp .ge 64, 3) := by decide +kernel
theorem dX8_owes_55 : decode cX8_owes 55 = .ok (.aload_n 0, 1) := by decide +kernel
theorem dX8_owes_56 : decode cX8_owes 56 = .ok (.getfield 32, 3) := by decide +kernel
theorem dX8_owes_59 : decode cX8_owes 59 = .ok (.iload 5, 2) := by decide +kernel
theorem dX8_owes_61 : decode cX8_owes 61 = .ok (.iaload, 1) := by decide +kernel
theorem dX8_owes_62 : decode cX8_owes 62 = .ok (.iload_n 1, 1) := by decide +kernel
theorem dX8_owes_63 : decode cX8_owes 63 = .ok (.if_icmp .ne 7, 3) := by decide +kernel
theorem dX8_owes_66 : decode cX8_owes 66 = .ok (.iconst 1, 1) := by decide +kernel
theorem dX8_owes_67 : decode cX8_owes 67 = .ok (.goto 19, 3) := by decide +kernel
theorem dX8_owes_70 : decode cX8_owes 70 = .ok (.aload_n 0, 1) := by decide +kernel
theorem dX8_owes_71 : decode cX8_owes 71 = .ok (.getfield 35, 3) := by decide +kernel
theorem dX8_owes_74 : decode cX8_owes 74 = .ok (.iload 5, 2) := by decide +kernel
theorem dX8_owes_76 : decode cX8_owes 76 = .ok (.iaload, 1) := by decide +kernel
theorem dX8_owes_77 : decode cX8_owes 77 = .ok (.iload_n 1, 1) := by decide +kernel
theorem dX8_owes_78 : decode cX8_owes 78 = .ok (.if_icmp .ne 7, 3) := by decide +kernel
theorem dX8_owes_81 : decode cX8_owes 81 = .ok (.iconst (-1), 1) := by decide +kernel
theorem dX8_owes_82 : decode cX8_owes 82 = .ok (.goto 4, 3) := by decide +kernel
theorem dX8_owes_85 : decode cX8_owes 85 = .ok (.iconst 0, 1) := by decide +kernel
theorem dX8_owes_86 : decode cX8_owes 86 = .ok (.istore 6, 2) := by decide +kernel
theorem dX8_owes_88 : decode cX8_owes 88 = .ok (.lload_n 2, 1) := by decide +kernel
theorem dX8_owes_89 : decode cX8_owes 89 = .ok (.iload 6, 2) := by decide +kernel
theorem dX8_owes_91 : decode cX8_owes 91 = .ok (.i2l, 1) := by decide +kernel
theorem dX8_owes_92 : decode cX8_owes 92 = .ok (.aload_n 0, 1) := by decide +kernel
theorem dX8_owes_93 : decode cX8_owes 93 = .ok (.getfield 25, 3) := by decide +kernel
theorem dX8_owes_96 : decode cX8_owes 96 = .ok (.iload 4, 2) := by decide +kernel
theorem dX8_owes_98 : decode cX8_owes 98 = .ok (.laload, 1) := by decide +kernel
theorem dX8_owes_99 : decode cX8_owes 99 = .ok (.lmul, 1) := by decide +kernel
theorem dX8_owes_100 : decode cX8_owes 100 = .ok (.aload_n 0, 1) := by decide +kernel
theorem dX8_owes_101 : decode cX8_owes 101 = .ok (.iload 5, 2) := by decide +kernel
theorem dX8_owes_103 : decode cX8_owes 103 = .ok (.invokevirtual 202, 3) := by decide +kernel
theorem dX8_owes_106 : decode cX8_owes 106 = .ok (.i2l, 1) := by decide +kernel
theorem dX8_owes_107 : decode cX8_owes 107 = .ok (.lmul, 1) := by decide +kernel
theorem dX8_owes_108 : decode cX8_owes 108 = .ok (.ladd, 1) := by decide +kernel
theorem dX8_owes_109 : decode cX8_owes 109 = .ok (.lstore_n 2, 1) := by decide +kernel
theorem dX8_owes_110 : decode cX8_owes 110 = .ok (.iinc 5 1, 3) := by decide +kernel
theorem dX8_owes_113 : decode cX8_owes 113 = .ok (.goto (-69), 3) := by decide +kernel
theorem dX8_owes_116 : decode cX8_owes 116 = .ok (.iinc 4 1, 3) := by decide +kernel
theorem dX8_owes_119 : decode cX8_owes 119 = .ok (.goto (-93), 3) := by decide +kernel
theorem dX8_owes_122 : decode cX8_owes 122 = .ok (.lload_n 2, 1) := by decide +kernel
theorem dX8_owes_123 : decode cX8_owes 123 = .ok (.lreturn, 1) := by decide +kernel
set_option maxRecDepth 20000 in
theorem ggX8_owesTo_X8_areTwo : GoodIn wsX8_owesTo wsX8_areTwo := goodIn_r _ [10, 11, 12, 13, 9, 14, 3, 15, 16, 17, 97, 98, 99, 100, 101, 102, 103, 104, 105, 106, 107, 108, 109, 110, 111, 112, 113, 114, 115, 116, 117, 118, 119, 120, 121, 122, 123, 124, 125, 126, 127, 128] (by decide +kernel) (by decide +kernel)
set_option maxRecDepth 20000 in
theorem gX8_owesTo_X8_areTwo : GoodIn wsX8_owesTo (wsV RX8 101 RX8 yX8_areTwo wsX8_areTwo) := goodIn_app (goodIn_of _ (by decide +kernel)) ggX8_owesTo_X8_areTwo
set_option maxRecDepth 20000 in
theorem ggX8_owesTo_X8_finding : GoodIn wsX8_owesTo wsX8_finding := goodIn_r _ [21, 22, 1, 97, 98, 99, 100, 101, 102, 103, 104, 105, 106, 107, 108, 109, 110, 111, 112, 113, 114, 115, 116, 117, 118, 119, 120, 121, 122, 123, 124, 125, 126, 127, 128] (by decide +kernel) (by decide +kernel)
set_option maxRecDepth 20000 in
theorem gX8_owesTo_X8_finding : GoodIn wsX8_owesTo (wsV RX8 86 RX8 yX8_finding wsX8_finding) := goodIn_app (goodIn_of _ (by decide +kernel)) ggX8_owesTo_X8_finding
set_option maxRecDepth 20000 in
theorem ggX8_owesTo_X8_bestNight : GoodIn wsX8_owesTo wsX8_bestNight := goodIn_r _ [26, 27, 28, 29, 30, 9, 31, 3, 32, 33, 34, 35, 36, 37, 38, 39, 40, 41, 42, 43, 44, 45, 46, 47, 48, 49, 50, 51, 52, 53, 54, 55, 56, 57, 58, 59, 60, 61, 62, 63, 64, 65, 66, 67, 68, 69, 70, 71, 72, 73, 74, 75, 76, 77, 78, 79, 80, 81, 82, 83, 84, 97, 98, 99, 100, 101, 102, 103, 104, 105, 106, 107, 108, 109, 110, 111, 112, 113, 114, 115, 116, 117, 118, 119, 120, 121, 122, 123, 124, 125, 126, 127, 128] (by decide +kernel) (by decide +kernel)
set_option maxRecDepth 20000 in
theorem gX8_owesTo_X8_bestNight : GoodIn wsX8_owesTo (wsV RX8 176 RX8 yX8_bestNight wsX8_bestNight) := goodIn_app (goodIn_of _ (by decide +kernel)) ggX8_owesTo_X8_bestNight
set_option maxRecDepth 20000 in
theorem ggX8_owesTo_X8_findDoers : GoodIn wsX8_owesTo wsX8_findDoers := goodIn_r _ [88, 3, 4, 56, 5, 89, 90, 91, 9, 92, 52, 53, 54, 55, 57, 51, 38, 39, 40, 41, 42, 58, 59, 60, 61, 36, 37, 62, 63, 64, 65, 66, 67, 68, 69, 70, 71, 72, 97, 98, 99, 100, 101, 102, 103, 104, 105, 106, 107, 108, 109, 110, 111, 112, 113, 114, 115, 116, 117, 118, 119, 120, 121, 122, 123, 124, 125, 126, 127, 128] (by decide +kernel) (by decide +kernel)
set_option maxRecDepth 20000 in
theorem gX8_owesTo_X8_findDoers : GoodIn wsX8_owesTo (wsV RX8 209 RX8 yX8_findDoers wsX8_findDoers) := goodIn_app (goodIn_of _ (by decide +kernel)) ggX8_owesTo_X8_findDoers
set_option maxRecDepth 20000 in
theorem ggX8_owesTo_X8_pays : GoodIn wsX8_owesTo wsX8_pays := goodIn_r _ [96, 89, 90, 91, 9, 92, 3, 97, 98, 99, 100, 101, 102, 103, 104, 105, 106, 107, 108, 109, 110, 111, 112, 113, 114, 115, 116, 117, 118, 119, 120, 121, 122, 123, 124, 125, 126, 127, 128] (by decide +kernel) (by decide +kernel)
set_option maxRecDepth 20000 in
theorem gX8_owesTo_X8_pays : GoodIn wsX8_owesTo (wsV RX8 202 RX8 yX8_pays wsX8_pays) := goodIn_app (goodIn_of _ (by decide +kernel)) ggX8_owesTo_X8_pays
theorem dX8_owesTo_0 : decode cX8_owesTo 0 = .ok (.aload_n 0, 1) := by decide +kernel
theorem dX8_owesTo_1 : decode cX8_owesTo 1 = .ok (.iload_n 1, 1) := by decide +kernel
theorem dX8_owesTo_2 : decode cX8_owesTo 2 = .ok (.iload_n 2, 1) := by decide +kernel
theorem dX8_owesTo_3 : decode cX8_owesTo 3 = .ok (.invokevirtual 101, 3) := by decide +kernel
theorem dX8_owesTo_6 : decode cX8_owesTo 6 = .ok (.ifCond .ne 10, 3) := by decide +kernel
theorem dX8_owesTo_9 : decode cX8_owesTo 9 = .ok (.aload_n 0, 1) := by decide +kernel
theorem dX8_owesTo_10 : decode cX8_owesTo 10 = .ok (.ldc 77, 2) := by decide +kernel
theorem dX8_owesTo_12 : decode cX8_owesTo 12 = .ok (.invokevirtual 86, 3) := by decide +kernel
theorem dX8_owesTo_15 : decode cX8_owesTo 15 = .ok (.ireturn, 1) := by decide +kernel
theorem dX8_owesTo_16 : decode cX8_owesTo 16 = .ok (.aload_n 0, 1) := by decide +kernel
theorem dX8_owesTo_17 : decode cX8_owesTo 17 = .ok (.invokevirtual 176, 3) := by decide +kernel
theorem dX8_owesTo_20 : decode cX8_owesTo 20 = .ok (.istore_n 3, 1) := by decide +kernel
theorem dX8_owesTo_21 : decode cX8_owesTo 21 = .ok (.iload_n 3, 1) := by decide +kernel
theorem dX8_owesTo_22 : decode cX8_owesTo 22 = .ok (.ifCond .ge 10, 3) := by decide +kernel
theorem dX8_owesTo_25 : decode cX8_owesTo 25 = .ok (.aload_n 0, 1) := by decide +kernel
theorem dX8_owesTo_26 : decode cX8_owesTo 26 = .ok (.ldc 179, 2) := by decide +kernel
theorem dX8_owesTo_28 : decode cX8_owesTo 28 = .ok (.invokevirtual 86, 3) := by decide +kernel
theorem dX8_owesTo_31 : decode cX8_owesTo 31 = .ok (.ireturn, 1) := by decide +kernel
theorem dX8_owesTo_32 : decode cX8_owesTo 32 = .ok (.aload_n 0, 1) := by decide +kernel
theorem dX8_owesTo_33 : decode cX8_owesTo 33 = .ok (.iload_n 3, 1) := by decide +kernel
theorem dX8_owesTo_34 : decode cX8_owesTo 34 = .ok (.invokevirtual 209, 3) := by decide +kernel
theorem dX8_owesTo_37 : decode cX8_owesTo 37 = .ok (.iconst 0, 1) := by decide +kernel
theorem dX8_owesTo_38 : decode cX8_owesTo 38 = .ok (.istore 4, 2) := by decide +kernel
theorem dX8_owesTo_40 : decode cX8_owesTo 40 = .ok (.iconst 0, 1) := by decide +kernel
theorem dX8_owesTo_41 : decode cX8_owesTo 41 = .ok (.istore 5, 2) := by decide +kernel
theorem dX8_owesTo_43 : decode cX8_owesTo 43 = .ok (.iload 5, 2) := by decide +kernel
theorem dX8_owesTo_45 : decode cX8_owesTo 45 = .ok (.aload_n 0, 1) := by decide +kernel
theorem dX8_owesTo_46 : decode cX8_owesTo 46 = .ok (.getfield 9, 3) := by decide +kernel
theorem dX8_owesTo_49 : decode cX8_owesTo 49 = .ok (.iconst 4, 1) := by decide +kernel
theorem dX8_owesTo_50 : decode cX8_owesTo 50 = .ok (.iaload, 1) := by decide +kernel
theorem dX8_owesTo_51 : decode cX8_owesTo 51 = .ok (.if_icmp .ge 78, 3) := by decide +kernel
theorem dX8_owesTo_54 : decode cX8_owesTo 54 = .ok (.iload 4, 2) := by decide +kernel
theorem dX8_owesTo_56 : decode cX8_owesTo 56 = .ok (.aload_n 0, 1) := by decide +kernel
theorem dX8_owesTo_57 : decode cX8_owesTo 57 = .ok (.getfield 32, 3) := by decide +kernel
theorem dX8_owesTo_60 : decode cX8_owesTo 60 = .ok (.iload 5, 2) := by decide +kernel
theorem dX8_owesTo_62 : decode cX8_owesTo 62 = .ok (.iaload, 1) := by decide +kernel
theorem dX8_owesTo_63 : decode cX8_owesTo 63 = .ok (.iload_n 1, 1) := by decide +kernel
theorem dX8_owesTo_64 : decode cX8_owesTo 64 = .ok (.if_icmp .ne 23, 3) := by decide +kernel
theorem dX8_owesTo_67 : decode cX8_owesTo 67 = .ok (.aload_n 0, 1) := by decide +kernel
theorem dX8_owesTo_68 : decode cX8_owesTo 68 = .ok (.getfield 35, 3) := by decide +kernel
theorem dX8_owesTo_71 : decode cX8_owesTo 71 = .ok (.iload 5, 2) := by decide +kernel
theorem dX8_owesTo_73 : decode cX8_owesTo 73 = .ok (.iaload, 1) := by decide +kernel
theorem dX8_owesTo_74 : decode cX8_owesTo 74 = .ok (.iload_n 2, 1) := by decide +kernel
theorem dX8_owesTo_75 : decode cX8_owesTo 75 = .ok (.if_icmp .ne 12, 3) := by decide +kernel
theorem dX8_owesTo_78 : decode cX8_owesTo 78 = .ok (.aload_n 0, 1) := by decide +kernel
theorem dX8_owesTo_79 : decode cX8_owesTo 79 = .ok (.iload 5, 2) := by decide +kernel
theorem dX8_owesTo_81 : decode cX8_owesTo 81 = .ok (.invokevirtual 202, 3) := by decide +kernel
theorem dX8_owesTo_84 : decode cX8_owesTo 84 = .ok (.goto 36, 3) := by decide +kernel
theorem dX8_owesTo_87 : decode cX8_owesTo 87 = .ok (.aload_n 0, 1) := by decide +kernel
theorem dX8_owesTo_88 : decode cX8_owesTo 88 = .ok (.getfield 32, 3) := by decide +kernel
theorem dX8_owesTo_91 : decode cX8_owesTo 91 = .ok (.iload 5, 2) := by decide +kernel
theorem dX8_owesTo_93 : decode cX8_owesTo 93 = .ok (.iaload, 1) := by decide +kernel
theorem dX8_owesTo_94 : decode cX8_owesTo 94 = .ok (.iload_n 2, 1) := by decide +kernel
theorem dX8_owesTo_95 : decode cX8_owesTo 95 = .ok (.if_icmp .ne 24, 3) := by decide +kernel
theorem dX8_owesTo_98 : decode cX8_owesTo 98 = .ok (.aload_n 0, 1) := by decide +kernel
theorem dX8_owesTo_99 : decode cX8_owesTo 99 = .ok (.getfield 35, 3) := by decide +kernel
theorem dX8_owesTo_102 : decode cX8_owesTo 102 = .ok (.iload 5, 2) := by decide +kernel
theorem dX8_owesTo_104 : decode cX8_owesTo 104 = .ok (.iaload, 1) := by decide +kernel
theorem dX8_owesTo_105 : decode cX8_owesTo 105 = .ok (.iload_n 1, 1) := by decide +kernel
theorem dX8_owesTo_106 : decode cX8_owesTo 106 = .ok (.if_icmp .ne 13, 3) := by decide +kernel
theorem dX8_owesTo_109 : decode cX8_owesTo 109 = .ok (.aload_n 0, 1) := by decide +kernel
theorem dX8_owesTo_110 : decode cX8_owesTo 110 = .ok (.iload 5, 2) := by decide +kernel
theorem dX8_owesTo_112 : decode cX8_owesTo 112 = .ok (.invokevirtual 202, 3) := by decide +kernel
theorem dX8_owesTo_115 : decode cX8_owesTo 115 = .ok (.ineg, 1) := by decide +kernel
theorem dX8_owesTo_116 : decode cX8_owesTo 116 = .ok (.goto 4, 3) := by decide +kernel
theorem dX8_owesTo_119 : decode cX8_owesTo 119 = .ok (.iconst 0, 1) := by decide +kernel
theorem dX8_owesTo_120 : decode cX8_owesTo 120 = .ok (.iadd, 1) := by decide +kernel
theorem dX8_owesTo_121 : decode cX8_owesTo 121 = .ok (.istore 4, 2) := by decide +kernel
theorem dX8_owesTo_123 : decode cX8_owesTo 123 = .ok (.iinc 5 1, 3) := by decide +kernel
theorem dX8_owesTo_126 : decode cX8_owesTo 126 = .ok (.goto (-83), 3) := by decide +kernel
theorem dX8_owesTo_129 : decode cX8_owesTo 129 = .ok (.iload 4, 2) := by decide +kernel
theorem dX8_owesTo_131 : decode cX8_owesTo 131 = .ok (.ireturn, 1) := by decide +kernel
set_option maxRecDepth 20000 in
theorem ggX8_bound_X8_areTwo : GoodIn wsX8_bound wsX8_areTwo := goodIn_r _ [10, 11, 12, 13, 9, 14, 2, 15, 16, 17, 88, 89, 90, 91, 92, 93, 94, 95, 96, 97, 98, 99, 100, 101, 102, 103, 104, 105, 106, 107, 108, 109, 110, 111, 112, 113, 114, 115, 116, 117, 118, 119] (by decide +kernel) (by decide +kernel)
set_option maxRecDepth 20000 in
theorem gX8_bound_X8_areTwo : GoodIn wsX8_bound (wsV RX8 101 RX8 yX8_areTwo wsX8_areTwo) := goodIn_app (goodIn_of _ (by decide +kernel)) ggX8_bound_X8_areTwo
set_option maxRecDepth 20000 in
theorem ggX8_bound_X8_finding : GoodIn wsX8_bound wsX8_finding := goodIn_r _ [21, 22, 1, 88, 89, 90, 91, 92, 93, 94, 95, 96, 97, 98, 99, 100, 101, 102, 103, 104, 105, 106, 107, 108, 109, 110, 111, 112, 113, 114, 115, 116, 117, 118, 119] (by decide +kernel) (by decide +kernel)
set_option maxRecDepth 20000 in
theorem gX8_bound_X8_finding : GoodIn wsX8_bound (wsV RX8 86 RX8 yX8_finding wsX8_finding) := goodIn_app (goodIn_of _ (by decide +kernel)) ggX8_bound_X8_finding
set_option maxRecDepth 20000 in
theorem ggX8_bound_X8_weigh : GoodIn wsX8_bound wsX8_weigh := goodIn_r _ [26, 2, 5, 27, 28, 29, 9, 30, 31, 32, 33, 34, 35, 36, 37, 38, 39, 40, 41, 42, 43, 44, 45, 46, 47, 48, 49, 50, 51, 52, 53, 54, 55, 56, 57, 58, 59, 60, 61, 62, 63, 64, 65, 66, 67, 68, 69, 70, 71, 72, 73, 74, 75, 76, 77, 78, 79, 88, 89, 90, 91, 92, 93, 94, 95, 96, 97, 98, 99, 100, 101, 102, 103, 104, 105, 106, 107, 108, 109, 110, 111, 112, 113, 114, 115, 116, 117, 118, 119] (by decide +kernel) (by decide +kernel)
set_option maxRecDepth 20000 in
theorem gX8_bound_X8_weigh : GoodIn wsX8_bound (wsV RX8 172 RX8 yX8_weigh wsX8_weigh) := goodIn_app (goodIn_of _ (by decide +kernel)) ggX8_bound_X8_weigh
set_option maxRecDepth 20000 in
theorem ggX8_bound_X8_nightsThere : GoodIn wsX8_bound wsX8_nightsThere := goodIn_r _ [41, 31, 88, 89, 90, 91, 92, 93, 94, 95, 96, 97, 98, 99, 100, 101, 102, 103, 104, 105, 106, 107, 108, 109, 110, 111, 112, 113, 114, 115, 116, 117, 118, 119] (by decide +kernel) (by decide +kernel)
set_option maxRecDepth 20000 in
theorem gX8_bound_X8_nightsThere : GoodIn wsX8_bound (wsV RX8 159 RX8 yX8_nightsThere wsX8_nightsThere) := goodIn_app (goodIn_of _ (by decide +kernel)) ggX8_bound_X8_nightsThere
set_option maxRecDepth 20000 in
theorem ggX8_bound_X8_findDoers : GoodIn wsX8_bound wsX8_findDoers := goodIn_r _ [83, 2, 3, 51, 4, 84, 85, 86, 9, 87, 47, 48, 49, 50, 52, 46, 33, 34, 35, 36, 37, 53, 54, 55, 56, 31, 32, 57, 58, 59, 60, 61, 62, 63, 64, 65, 66, 67, 88, 89, 90, 91, 92, 93, 94, 95, 96, 97, 98, 99, 100, 101, 102, 103, 104, 105, 106, 107, 108, 109, 110, 111, 112, 113, 114, 115, 116, 117, 118, 119] (by decide +kernel) (by decide +kernel)
set_option maxRecDepth 20000 in
theorem gX8_bound_X8_findDoers : GoodIn wsX8_bound (wsV RX8 209 RX8 yX8_findDoers wsX8_findDoers) := goodIn_app (goodIn_of _ (by decide +kernel)) ggX8_bound_X8_findDoers
set_option maxRecDepth 20000 in
theorem ggX8_bound_X8_deedIs : GoodIn wsX8_bound wsX8_deedIs := goodIn_r _ [87, 2, 88, 89, 90, 91, 92, 93, 94, 95, 96, 97, 98, 99, 100, 101, 102, 103, 104, 105, 106, 107, 108, 109, 110, 111, 112, 113, 114, 115, 116, 117, 118, 119] (by decide +kernel) (by decide +kernel)
set_option maxRecDepth 20000 in
theorem gX8_bound_X8_deedIs : GoodIn wsX8_bound (wsV RX8 196 RX8 yX8_deedIs wsX8_deedIs) := goodIn_app (goodIn_of _ (by decide +kernel)) ggX8_bound_X8_deedIs
theorem dX8_bound_0 : decode cX8_bound 0 = .ok (.aload_n 0, 1) := by decide +kernel
theorem dX8_bound_1 : decode cX8_bound 1 = .ok (.iload_n 1, 1) := by decide +kernel
theorem dX8_bound_2 : decode cX8_bound 2 = .ok (.iload_n 2, 1) := by decide +kernel
theorem dX8_bound_3 : decode cX8_bound 3 = .ok (.invokevirtual 101, 3) := by decide +kernel
theorem dX8_bound_6 : decode cX8_bound 6 = .ok (.ifCond .ne 11, 3) := by decide +kernel
theorem dX8_bound_9 : decode cX8_bound 9 = .ok (.aload_n 0, 1) := by decide +kernel
theorem dX8_bound_10 : decode cX8_bound 10 = .ok (.ldc 77, 2) := by decide +kernel
theorem dX8_bound_12 : decode cX8_bound 12 = .ok (.invokevirtual 86, 3) := by decide +kernel
theorem dX8_bound_15 : decode cX8_bound 15 = .ok (.i2l, 1) := by decide +kernel
theorem dX8_bound_16 : decode cX8_bound 16 = .ok (.lreturn, 1) := by decide +kernel
theorem dX8_bound_17 : decode cX8_bound 17 = .ok (.aload_n 0, 1) := by decide +kernel
theorem dX8_bound_18 : decode cX8_bound 18 = .ok (.invokevirtual 172, 3) := by decide +kernel
theorem dX8_bound_21 : decode cX8_bound 21 = .ok (.pop2, 1) := by decide +kernel
theorem dX8_bound_22 : decode cX8_bound 22 = .ok (.lconst 0, 1) := by decide +kernel
theorem dX8_bound_23 : decode cX8_bound 23 = .ok (.lstore_n 3, 1) := by decide +kernel
theorem dX8_bound_24 : decode cX8_bound 24 = .ok (.iconst 0, 1) := by decide +kernel
theorem dX8_bound_25 : decode cX8_bound 25 = .ok (.istore 5, 2) := by decide +kernel
theorem dX8_bound_27 : decode cX8_bound 27 = .ok (.iload 5, 2) := by decide +kernel
theorem dX8_bound_29 : decode cX8_bound 29 = .ok (.aload_n 0, 1) := by decide +kernel
theorem dX8_bound_30 : decode cX8_bound 30 = .ok (.invokevirtual 159, 3) := by decide +kernel
theorem dX8_bound_33 : decode cX8_bound 33 = .ok (.if_icmp .ge 136, 3) := by decide +kernel
theorem dX8_bound_36 : decode cX8_bound 36 = .ok (.aload_n 0, 1) := by decide +kernel
theorem dX8_bound_37 : decode cX8_bound 37 = .ok (.iload 5, 2) := by decide +kernel
theorem dX8_bound_39 : decode cX8_bound 39 = .ok (.invokevirtual 209, 3) := by decide +kernel
theorem dX8_bound_42 : decode cX8_bound 42 = .ok (.iconst 0, 1) := by decide +kernel
theorem dX8_bound_43 : decode cX8_bound 43 = .ok (.istore 6, 2) := by decide +kernel
theorem dX8_bound_45 : decode cX8_bound 45 = .ok (.iconst 0, 1) := by decide +kernel
theorem dX8_bound_46 : decode cX8_bound 46 = .ok (.istore 7, 2) := by decide +kernel
theorem dX8_bound_48 : decode cX8_bound 48 = .ok (.iload 7, 2) := by decide +kernel
theorem dX8_bound_50 : decode cX8_bound 50 = .ok (.aload_n 0, 1) := by decide +kernel
theorem dX8_bound_51 : decode cX8_bound 51 = .ok (.getfield 9, 3) := by decide +kernel
theorem dX8_bound_54 : decode cX8_bound 54 = .ok (.iconst 4, 1) := by decide +kernel
theorem dX8_bound_55 : decode cX8_bound 55 = .ok (.iaload, 1) := by decide +kernel
theorem dX8_bound_56 : decode cX8_bound 56 = .ok (.if_icmp .ge 88, 3) := by decide +kernel
theorem dX8_bound_59 : decode cX8_bound 59 = .ok (.aload_n 0, 1) := by decide +kernel
theorem dX8_bound_60 : decode cX8_bound 60 = .ok (.getfield 32, 3) := by decide +kernel
theorem dX8_bound_63 : decode cX8_bound 63 = .ok (.iload 7, 2) := by decide +kernel
theorem dX8_bound_65 : decode cX8_bound 65 = .ok (.iaload, 1) := by decide +kernel
theorem dX8_bound_66 : decode cX8_bound 66 = .ok (.iload_n 1, 1) := by decide +kernel
theorem dX8_bound_67 : decode cX8_bound 67 = .ok (.if_icmp .ne 14, 3) := by decide +kernel
theorem dX8_bound_70 : decode cX8_bound 70 = .ok (.aload_n 0, 1) := by decide +kernel
theorem dX8_bound_71 : decode cX8_bound 71 = .ok (.getfield 35, 3) := by decide +kernel
theorem dX8_bound_74 : decode cX8_bound 74 = .ok (.iload 7, 2) := by decide +kernel
theorem dX8_bound_76 : decode cX8_bound 76 = .ok (.iaload, 1) := by decide +kernel
theorem dX8_bound_77 : decode cX8_bound 77 = .ok (.iload_n 2, 1) := by decide +kernel
theorem dX8_bound_78 : decode cX8_bound 78 = .ok (.if_icmp .eq 25, 3) := by decide +kernel
theorem dX8_bound_81 : decode cX8_bound 81 = .ok (.aload_n 0, 1) := by decide +kernel
theorem dX8_bound_82 : decode cX8_bound 82 = .ok (.getfield 32, 3) := by decide +kernel
theorem dX8_bound_85 : decode cX8_bound 85 = .ok (.iload 7, 2) := by decide +kernel
theorem dX8_bound_87 : decode cX8_bound 87 = .ok (.iaload, 1) := by decide +kernel
theorem dX8_bound_88 : decode cX8_bound 88 = .ok (.iload_n 2, 1) := by decide +kernel
theorem dX8_bound_89 : decode cX8_bound 89 = .ok (.if_icmp .ne 18, 3) := by decide +kernel
theorem dX8_bound_92 : decode cX8_bound 92 = .ok (.aload_n 0, 1) := by decide +kernel
theorem dX8_bound_93 : decode cX8_bound 93 = .ok (.getfield 35, 3) := by decide +kernel
theorem dX8_bound_96 : decode cX8_bound 96 = .ok (.iload 7, 2) := by decide +kernel
theorem dX8_bound_98 : decode cX8_bound 98 = .ok (.iaload, 1) := by decide +kernel
theorem dX8_bound_99 : decode cX8_bound 99 = .ok (.iload_n 1, 1) := by decide +kernel
theorem dX8_bound_100 : decode cX8_bound 100 = .ok (.if_icmp .ne 7, 3) := by decide +kernel
theorem dX8_bound_103 : decode cX8_bound 103 = .ok (.iconst 1, 1) := by decide +kernel
theorem dX8_bound_104 : decode cX8_bound 104 = .ok (.goto 4, 3) := by decide +kernel
theorem dX8_bound_107 : decode cX8_bound 107 = .ok (.iconst 0, 1) := by decide +kernel
theorem dX8_bound_108 : decode cX8_bound 108 = .ok (.istore 8, 2) := by decide +kernel
theorem dX8_bound_110 : decode cX8_bound 110 = .ok (.iload 6, 2) := by decide +kernel
theorem dX8_bound_112 : decode cX8_bound 112 = .ok (.ifCond .ne 19, 3) := by decide +kernel
theorem dX8_bound_115 : decode cX8_bound 115 = .ok (.iload 8, 2) := by decide +kernel
theorem dX8_bound_117 : decode cX8_bound 117 = .ok (.ifCond .eq 18, 3) := by decide +kernel
theorem dX8_bound_120 : decode cX8_bound 120 = .ok (.aload_n 0, 1) := by decide +kernel
theorem dX8_bound_121 : decode cX8_bound 121 = .ok (.iload 7, 2) := by decide +kernel
theorem dX8_bound_123 : decode cX8_bound 123 = .ok (.iconst 0, 1) := by decide +kernel
theorem dX8_bound_124 : decode cX8_bound 124 = .ok (.invokevirtual 196, 3) := by decide +kernel
theorem dX8_bound_127 : decode cX8_bound 127 = .ok (.iconst 4, 1) := by decide +kernel
theorem dX8_bound_128 : decode cX8_bound 128 = .ok (.if_icmp .ne 7, 3) := by decide +kernel
theorem dX8_bound_131 : decode cX8_bound 131 = .ok (.iconst 1, 1) := by decide +kernel
theorem dX8_bound_132 : decode cX8_bound 132 = .ok (.goto 4, 3) := by decide +kernel
theorem dX8_bound_135 : decode cX8_bound 135 = .ok (.iconst 0, 1) := by decide +kernel
theorem dX8_bound_136 : decode cX8_bound 136 = .ok (.istore 6, 2) := by decide +kernel
theorem dX8_bound_138 : decode cX8_bound 138 = .ok (.iinc 7 1, 3) := by decide +kernel
theorem dX8_bound_141 : decode cX8_bound 141 = .ok (.goto (-93), 3) := by decide +kernel
theorem dX8_bound_144 : decode cX8_bound 144 = .ok (.lload_n 3, 1) := by decide +kernel
theorem dX8_bound_145 : decode cX8_bound 145 = .ok (.iload 6, 2) := by decide +kernel
theorem dX8_bound_147 : decode cX8_bound 147 = .ok (.ifCond .eq 13, 3) := by decide +kernel
theorem dX8_bound_150 : decode cX8_bound 150 = .ok (.aload_n 0, 1) := by decide +kernel
theorem dX8_bound_151 : decode cX8_bound 151 = .ok (.getfield 25, 3) := by decide +kernel
theorem dX8_bound_154 : decode cX8_bound 154 = .ok (.iload 5, 2) := by decide +kernel
theorem dX8_bound_156 : decode cX8_bound 156 = .ok (.laload, 1) := by decide +kernel
theorem dX8_bound_157 : decode cX8_bound 157 = .ok (.goto 4, 3) := by decide +kernel
theorem dX8_bound_160 : decode cX8_bound 160 = .ok (.lconst 0, 1) := by decide +kernel
theorem dX8_bound_161 : decode cX8_bound 161 = .ok (.ladd, 1) := by decide +kernel
theorem dX8_bound_162 : decode cX8_bound 162 = .ok (.lstore_n 3, 1) := by decide +kernel
theorem dX8_bound_163 : decode cX8_bound 163 = .ok (.iinc 5 1, 3) := by decide +kernel
theorem dX8_bound_166 : decode cX8_bound 166 = .ok (.goto (-139), 3) := by decide +kernel
theorem dX8_bound_169 : decode cX8_bound 169 = .ok (.lload_n 3, 1) := by decide +kernel
theorem dX8_bound_170 : decode cX8_bound 170 = .ok (.lreturn, 1) := by decide +kernel
set_option maxRecDepth 20000 in
theorem ggX8_ask_X8_weigh : GoodIn wsX8_ask wsX8_weigh := goodIn_r _ [13, 14, 2, 15, 16, 17, 12, 18, 1, 7, 19, 20, 21, 22, 23, 24, 25, 26, 27, 28, 29, 30, 31, 32, 33, 34, 35, 36, 37, 38, 39, 40, 41, 42, 43, 44, 45, 46, 47, 48, 5, 49, 50, 51, 52, 53, 54, 55, 56, 57, 58, 59, 60, 61, 62, 63, 64, 71, 72, 73, 74, 75, 76, 77, 78, 79, 80, 81, 82, 83, 84, 85, 86, 87, 88, 89, 90, 91, 92, 93, 94, 95, 96, 97, 98, 99, 100, 101, 102] (by decide +kernel) (by decide +kernel)
set_option maxRecDepth 20000 in
theorem gX8_ask_X8_weigh : GoodIn wsX8_ask (wsV RX8 172 RX8 yX8_weigh wsX8_weigh) := goodIn_app (goodIn_of _ (by decide +kernel)) ggX8_ask_X8_weigh
set_option maxRecDepth 20000 in
theorem ggX8_ask_X8_nightsThere : GoodIn wsX8_ask wsX8_nightsThere := goodIn_r _ [27, 1, 71, 72, 73, 74, 75, 76, 77, 78, 79, 80, 81, 82, 83, 84, 85, 86, 87, 88, 89, 90, 91, 92, 93, 94, 95, 96, 97, 98, 99, 100, 101, 102] (by decide +kernel) (by decide +kernel)
set_option maxRecDepth 20000 in
theorem gX8_ask_X8_nightsThere : GoodIn wsX8_ask (wsV RX8 159 RX8 yX8_nightsThere wsX8_nightsThere) := goodIn_app (goodIn_of _ (by decide +kernel)) ggX8_ask_X8_nightsThere
set_option maxRecDepth 20000 in
theorem ggX8_ask_X8_finding : GoodIn wsX8_ask wsX8_finding := goodIn_r _ [68, 69, 70, 71, 72, 73, 74, 75, 76, 77, 78, 79, 80, 81, 82, 83, 84, 85, 86, 87, 88, 89, 90, 91, 92, 93, 94, 95, 96, 97, 98, 99, 100, 101, 102] (by decide +kernel) (by decide +kernel)
set_option maxRecDepth 20000 in
theorem gX8_ask_X8_finding : GoodIn wsX8_ask (wsV RX8 86 RX8 yX8_finding wsX8_finding) := goodIn_app (goodIn_of _ (by decide +kernel)) ggX8_ask_X8_finding
theorem dX8_ask_0 : decode cX8_ask 0 = .ok (.aload_n 0, 1) := by decide +kernel
theorem dX8_ask_1 : decode cX8_ask 1 = .ok (.invokevirtual 172, 3) := by decide +kernel
theorem dX8_ask_4 : decode cX8_ask 4 = .ok (.lstore_n 1, 1) := by decide +kernel
theorem dX8_ask_5 : decode cX8_ask 5 = .ok (.iconst (-1), 1) := by decide +kernel
theorem dX8_ask_6 : decode cX8_ask 6 = .ok (.istore_n 3, 1) := by decide +kernel
theorem dX8_ask_7 : decode cX8_ask 7 = .ok (.lconst 0, 1) := by decide +kernel
theorem dX8_ask_8 : decode cX8_ask 8 = .ok (.lstore 4, 2) := by decide +kernel
theorem dX8_ask_10 : decode cX8_ask 10 = .ok (.iconst 0, 1) := by decide +kernel
theorem dX8_ask_11 : decode cX8_ask 11 = .ok (.istore 6, 2) := by decide +kernel
theorem dX8_ask_13 : decode cX8_ask 13 = .ok (.iload 6, 2) := by decide +kernel
theorem dX8_ask_15 : decode cX8_ask 15 = .ok (.aload_n 0, 1) := by decide +kernel
theorem dX8_ask_16 : decode cX8_ask 16 = .ok (.getfield 126, 3) := by decide +kernel
theorem dX8_ask_19 : decode cX8_ask 19 = .ok (.if_icmp .ge 98, 3) := by decide +kernel
theorem dX8_ask_22 : decode cX8_ask 22 = .ok (.lload_n 1, 1) := by decide +kernel
theorem dX8_ask_23 : decode cX8_ask 23 = .ok (.lconst 0, 1) := by decide +kernel
theorem dX8_ask_24 : decode cX8_ask 24 = .ok (.lcmp, 1) := by decide +kernel
theorem dX8_ask_25 : decode cX8_ask 25 = .ok (.ifCond .le 92, 3) := by decide +kernel
theorem dX8_ask_28 : decode cX8_ask 28 = .ok (.lconst 0, 1) := by decide +kernel
theorem dX8_ask_29 : decode cX8_ask 29 = .ok (.lstore 7, 2) := by decide +kernel
theorem dX8_ask_31 : decode cX8_ask 31 = .ok (.iconst 0, 1) := by decide +kernel
theorem dX8_ask_32 : decode cX8_ask 32 = .ok (.istore 9, 2) := by decide +kernel
theorem dX8_ask_34 : decode cX8_ask 34 = .ok (.iload 9, 2) := by decide +kernel
theorem dX8_ask_36 : decode cX8_ask 36 = .ok (.aload_n 0, 1) := by decide +kernel
theorem dX8_ask_37 : decode cX8_ask 37 = .ok (.invokevirtual 159, 3) := by decide +kernel
theorem dX8_ask_40 : decode cX8_ask 40 = .ok (.if_icmp .ge 36, 3) := by decide +kernel
theorem dX8_ask_43 : decode cX8_ask 43 = .ok (.lload 7, 2) := by decide +kernel
theorem dX8_ask_45 : decode cX8_ask 45 = .ok (.iload 9, 2) := by decide +kernel
theorem dX8_ask_47 : decode cX8_ask 47 = .ok (.iload 6, 2) := by decide +kernel
theorem dX8_ask_49 : decode cX8_ask 49 = .ok (.ishr, 1) := by decide +kernel
theorem dX8_ask_50 : decode cX8_ask 50 = .ok (.iconst 1, 1) := by decide +kernel
theorem dX8_ask_51 : decode cX8_ask 51 = .ok (.iand, 1) := by decide +kernel
theorem dX8_ask_52 : decode cX8_ask 52 = .ok (.iconst 1, 1) := by decide +kernel
theorem dX8_ask_53 : decode cX8_ask 53 = .ok (.if_icmp .ne 13, 3) := by decide +kernel
theorem dX8_ask_56 : decode cX8_ask 56 = .ok (.aload_n 0, 1) := by decide +kernel
theorem dX8_ask_57 : decode cX8_ask 57 = .ok (.getfield 25, 3) := by decide +kernel
theorem dX8_ask_60 : decode cX8_ask 60 = .ok (.iload 9, 2) := by decide +kernel
theorem dX8_ask_62 : decode cX8_ask 62 = .ok (.laload, 1) := by decide +kernel
theorem dX8_ask_63 : decode cX8_ask 63 = .ok (.goto 4, 3) := by decide +kernel
theorem dX8_ask_66 : decode cX8_ask 66 = .ok (.lconst 0, 1) := by decide +kernel
theorem dX8_ask_67 : decode cX8_ask 67 = .ok (.ladd, 1) := by decide +kernel
theorem dX8_ask_68 : decode cX8_ask 68 = .ok (.lstore 7, 2) := by decide +kernel
theorem dX8_ask_70 : decode cX8_ask 70 = .ok (.iinc 9 1, 3) := by decide +kernel
theorem dX8_ask_73 : decode cX8_ask 73 = .ok (.goto (-39), 3) := by decide +kernel
theorem dX8_ask_76 : decode cX8_ask 76 = .ok (.lload 7, 2) := by decide +kernel
theorem dX8_ask_78 : decode cX8_ask 78 = .ok (.lload_n 1, 1) := by decide +kernel
theorem dX8_ask_79 : decode cX8_ask 79 = .ok (.lload 7, 2) := by decide +kernel
theorem dX8_ask_81 : decode cX8_ask 81 = .ok (.lsub, 1) := by decide +kernel
theorem dX8_ask_82 : decode cX8_ask 82 = .ok (.invokestatic 213, 3) := by decide +kernel
theorem dX8_ask_85 : decode cX8_ask 85 = .ok (.lstore 9, 2) := by decide +kernel
theorem dX8_ask_87 : decode cX8_ask 87 = .ok (.iload_n 3, 1) := by decide +kernel
theorem dX8_ask_88 : decode cX8_ask 88 = .ok (.ifCond .lt 11, 3) := by decide +kernel
theorem dX8_ask_91 : decode cX8_ask 91 = .ok (.lload 9, 2) := by decide +kernel
theorem dX8_ask_93 : decode cX8_ask 93 = .ok (.lload 4, 2) := by decide +kernel
theorem dX8_ask_95 : decode cX8_ask 95 = .ok (.lcmp, 1) := by decide +kernel
theorem dX8_ask_96 : decode cX8_ask 96 = .ok (.ifCond .ge 15, 3) := by decide +kernel
theorem dX8_ask_99 : decode cX8_ask 99 = .ok (.lload 9, 2) := by decide +kernel
theorem dX8_ask_101 : decode cX8_ask 101 = .ok (.lstore 4, 2) := by decide +kernel
theorem dX8_ask_103 : decode cX8_ask 103 = .ok (.aload_n 0, 1) := by decide +kernel
theorem dX8_ask_104 : decode cX8_ask 104 = .ok (.getfield 22, 3) := by decide +kernel
theorem dX8_ask_107 : decode cX8_ask 107 = .ok (.iload 6, 2) := by decide +kernel
theorem dX8_ask_109 : decode cX8_ask 109 = .ok (.iaload, 1) := by decide +kernel
theorem dX8_ask_110 : decode cX8_ask 110 = .ok (.istore_n 3, 1) := by decide +kernel
theorem dX8_ask_111 : decode cX8_ask 111 = .ok (.iinc 6 1, 3) := by decide +kernel
theorem dX8_ask_114 : decode cX8_ask 114 = .ok (.goto (-101), 3) := by decide +kernel
theorem dX8_ask_117 : decode cX8_ask 117 = .ok (.iload_n 3, 1) := by decide +kernel
theorem dX8_ask_118 : decode cX8_ask 118 = .ok (.ifCond .ge 12, 3) := by decide +kernel
theorem dX8_ask_121 : decode cX8_ask 121 = .ok (.aload_n 0, 1) := by decide +kernel
theorem dX8_ask_122 : decode cX8_ask 122 = .ok (.ldc 179, 2) := by decide +kernel
theorem dX8_ask_124 : decode cX8_ask 124 = .ok (.invokevirtual 86, 3) := by decide +kernel
theorem dX8_ask_127 : decode cX8_ask 127 = .ok (.goto 4, 3) := by decide +kernel
theorem dX8_ask_130 : decode cX8_ask 130 = .ok (.iload_n 3, 1) := by decide +kernel
theorem dX8_ask_131 : decode cX8_ask 131 = .ok (.ireturn, 1) := by decide +kernel
set_option maxRecDepth 20000 in
theorem ggX8_findAllDoers_X8_nightsThere : GoodIn wsX8_findAllDoers wsX8_nightsThere := goodIn_r _ [8, 9, 47, 48, 49, 50, 51, 52, 53, 54, 55, 56, 57, 58, 59, 60, 61, 62, 63, 64, 65, 66, 67, 68, 69, 70, 71, 72, 73, 74, 75, 76, 77, 78] (by decide +kernel) (by decide +kernel)
set_option maxRecDepth 20000 in
theorem gX8_findAllDoers_X8_nightsThere : GoodIn wsX8_findAllDoers (wsV RX8 159 RX8 yX8_nightsThere wsX8_nightsThere) := goodIn_app (goodIn_of _ (by decide +kernel)) ggX8_findAllDoers_X8_nightsThere
set_option maxRecDepth 20000 in
theorem ggX8_findAllDoers_X8_findDoers : GoodIn wsX8_findAllDoers wsX8_findDoers := goodIn_r _ [13, 2, 3, 14, 15, 16, 17, 18, 7, 19, 20, 21, 22, 23, 24, 25, 26, 27, 28, 29, 30, 31, 32, 33, 34, 9, 35, 36, 37, 38, 39, 40, 41, 42, 43, 44, 45, 46, 47, 48, 49, 50, 51, 52, 53, 54, 55, 56, 57, 58, 59, 60, 61, 62, 63, 64, 65, 66, 67, 68, 69, 70, 71, 72, 73, 74, 75, 76, 77, 78] (by decide +kernel) (by decide +kernel)
set_option maxRecDepth 20000 in
theorem gX8_findAllDoers_X8_findDoers : GoodIn wsX8_findAllDoers (wsV RX8 209 RX8 yX8_findDoers wsX8_findDoers) := goodIn_app (goodIn_of _ (by decide +kernel)) ggX8_findAllDoers_X8_findDoers
theorem dX8_findAllDoers_0 : decode cX8_findAllDoers 0 = .ok (.iconst 0, 1) := by decide +kernel
theorem dX8_findAllDoers_1 : decode cX8_findAllDoers 1 = .ok (.istore_n 1, 1) := by decide +kernel
theorem dX8_findAllDoers_2 : decode cX8_findAllDoers 2 = .ok (.iload_n 1, 1) := by decide +kernel
theorem dX8_findAllDoers_3 : decode cX8_findAllDoers 3 = .ok (.aload_n 0, 1) := by decide +kernel
theorem dX8_findAllDoers_4 : decode cX8_findAllDoers 4 = .ok (.invokevirtual 159, 3) := by decide +kernel
theorem dX8_findAllDoers_7 : decode cX8_findAllDoers 7 = .ok (.if_icmp .ge 59, 3) := by decide +kernel
theorem dX8_findAllDoers_10 : decode cX8_findAllDoers 10 = .ok (.aload_n 0, 1) := by decide +kernel
theorem dX8_findAllDoers_11 : decode cX8_findAllDoers 11 = .ok (.iload_n 1, 1) := by decide +kernel
theorem dX8_findAllDoers_12 : decode cX8_findAllDoers 12 = .ok (.invokevirtual 209, 3) := by decide +kernel
theorem dX8_findAllDoers_15 : decode cX8_findAllDoers 15 = .ok (.aload_n 0, 1) := by decide +kernel
theorem dX8_findAllDoers_16 : decode cX8_findAllDoers 16 = .ok (.getfield 38, 3) := by decide +kernel
theorem dX8_findAllDoers_19 : decode cX8_findAllDoers 19 = .ok (.iload_n 1, 1) := by decide +kernel
theorem dX8_findAllDoers_20 : decode cX8_findAllDoers 20 = .ok (.lconst 0, 1) := by decide +kernel
theorem dX8_findAllDoers_21 : decode cX8_findAllDoers 21 = .ok (.lastore, 1) := by decide +kernel
theorem dX8_findAllDoers_22 : decode cX8_findAllDoers 22 = .ok (.iconst 0, 1) := by decide +kernel
theorem dX8_findAllDoers_23 : decode cX8_findAllDoers 23 = .ok (.istore_n 2, 1) := by decide +kernel
theorem dX8_findAllDoers_24 : decode cX8_findAllDoers 24 = .ok (.iload_n 2, 1) := by decide +kernel
theorem dX8_findAllDoers_25 : decode cX8_findAllDoers 25 = .ok (.aload_n 0, 1) := by decide +kernel
theorem dX8_findAllDoers_26 : decode cX8_findAllDoers 26 = .ok (.getfield 9, 3) := by decide +kernel
theorem dX8_findAllDoers_29 : decode cX8_findAllDoers 29 = .ok (.iconst 4, 1) := by decide +kernel
theorem dX8_findAllDoers_30 : decode cX8_findAllDoers 30 = .ok (.iaload, 1) := by decide +kernel
theorem dX8_findAllDoers_31 : decode cX8_findAllDoers 31 = .ok (.if_icmp .ge 29, 3) := by decide +kernel
theorem dX8_findAllDoers_34 : decode cX8_findAllDoers 34 = .ok (.aload_n 0, 1) := by decide +kernel
theorem dX8_findAllDoers_35 : decode cX8_findAllDoers 35 = .ok (.getfield 38, 3) := by decide +kernel
theorem dX8_findAllDoers_38 : decode cX8_findAllDoers 38 = .ok (.iload_n 1, 1) := by decide +kernel
theorem dX8_findAllDoers_39 : decode cX8_findAllDoers 39 = .ok (.dup2, 1) := by decide +kernel
theorem dX8_findAllDoers_40 : decode cX8_findAllDoers 40 = .ok (.laload, 1) := by decide +kernel
theorem dX8_findAllDoers_41 : decode cX8_findAllDoers 41 = .ok (.aload_n 0, 1) := by decide +kernel
theorem dX8_findAllDoers_42 : decode cX8_findAllDoers 42 = .ok (.getfield 32, 3) := by decide +kernel
theorem dX8_findAllDoers_45 : decode cX8_findAllDoers 45 = .ok (.iload_n 2, 1) := by decide +kernel
theorem dX8_findAllDoers_46 : decode cX8_findAllDoers 46 = .ok (.iaload, 1) := by decide +kernel
theorem dX8_findAllDoers_47 : decode cX8_findAllDoers 47 = .ok (.i2l, 1) := by decide +kernel
theorem dX8_findAllDoers_48 : decode cX8_findAllDoers 48 = .ok (.iconst 3, 1) := by decide +kernel
theorem dX8_findAllDoers_49 : decode cX8_findAllDoers 49 = .ok (.iload_n 2, 1) := by decide +kernel
theorem dX8_findAllDoers_50 : decode cX8_findAllDoers 50 = .ok (.imul, 1) := by decide +kernel
theorem dX8_findAllDoers_51 : decode cX8_findAllDoers 51 = .ok (.lshl, 1) := by decide +kernel
theorem dX8_findAllDoers_52 : decode cX8_findAllDoers 52 = .ok (.lor, 1) := by decide +kernel
theorem dX8_findAllDoers_53 : decode cX8_findAllDoers 53 = .ok (.lastore, 1) := by decide +kernel
theorem dX8_findAllDoers_54 : decode cX8_findAllDoers 54 = .ok (.iinc 2 1, 3) := by decide +kernel
theorem dX8_findAllDoers_57 : decode cX8_findAllDoers 57 = .ok (.goto (-33), 3) := by decide +kernel
theorem dX8_findAllDoers_60 : decode cX8_findAllDoers 60 = .ok (.iinc 1 1, 3) := by decide +kernel
theorem dX8_findAllDoers_63 : decode cX8_findAllDoers 63 = .ok (.goto (-61), 3) := by decide +kernel
theorem dX8_findAllDoers_66 : decode cX8_findAllDoers 66 = .ok (.return_, 1) := by decide +kernel
set_option maxRecDepth 20000 in
theorem ggX8_isEnough_X8_nightsThere : GoodIn wsX8_isEnough wsX8_nightsThere := goodIn_r _ [7, 8, 9, 10, 11, 12, 13, 14, 15, 16, 17, 18, 19, 20, 21, 22, 23, 24, 25, 26, 27, 28, 29, 30, 31, 32, 33, 34, 35, 36, 37, 38, 39, 40] (by decide +kernel) (by decide +kernel)
set_option maxRecDepth 20000 in
theorem gX8_isEnough_X8_nightsThere : GoodIn wsX8_isEnough (wsV RX8 159 RX8 yX8_nightsThere wsX8_nightsThere) := goodIn_app (goodIn_of _ (by decide +kernel)) ggX8_isEnough_X8_nightsThere
theorem dX8_isEnough_0 : decode cX8_isEnough 0 = .ok (.iconst 1, 1) := by decide +kernel
theorem dX8_isEnough_1 : decode cX8_isEnough 1 = .ok (.istore_n 2, 1) := by decide +kernel
theorem dX8_isEnough_2 : decode cX8_isEnough 2 = .ok (.iconst 0, 1) := by decide +kernel
theorem dX8_isEnough_3 : decode cX8_isEnough 3 = .ok (.istore_n 3, 1) := by decide +kernel
theorem dX8_isEnough_4 : decode cX8_isEnough 4 = .ok (.iload_n 3, 1) := by decide +kernel
theorem dX8_isEnough_5 : decode cX8_isEnough 5 = .ok (.aload_n 0, 1) := by decide +kernel
theorem dX8_isEnough_6 : decode cX8_isEnough 6 = .ok (.invokevirtual 159, 3) := by decide +kernel
theorem dX8_isEnough_9 : decode cX8_isEnough 9 = .ok (.if_icmp .ge 84, 3) := by decide +kernel
theorem dX8_isEnough_12 : decode cX8_isEnough 12 = .ok (.iconst 0, 1) := by decide +kernel
theorem dX8_isEnough_13 : decode cX8_isEnough 13 = .ok (.istore 4, 2) := by decide +kernel
theorem dX8_isEnough_15 : decode cX8_isEnough 15 = .ok (.iload 4, 2) := by decide +kernel
theorem dX8_isEnough_17 : decode cX8_isEnough 17 = .ok (.iload_n 3, 1) := by decide +kernel
theorem dX8_isEnough_18 : decode cX8_isEnough 18 = .ok (.if_icmp .ge 69, 3) := by decide +kernel
theorem dX8_isEnough_21 : decode cX8_isEnough 21 = .ok (.aload_n 0, 1) := by decide +kernel
theorem dX8_isEnough_22 : decode cX8_isEnough 22 = .ok (.getfield 25, 3) := by decide +kernel
theorem dX8_isEnough_25 : decode cX8_isEnough 25 = .ok (.iload_n 3, 1) := by decide +kernel
theorem dX8_isEnough_26 : decode cX8_isEnough 26 = .ok (.laload, 1) := by decide +kernel
theorem dX8_isEnough_27 : decode cX8_isEnough 27 = .ok (.lconst 0, 1) := by decide +kernel
theorem dX8_isEnough_28 : decode cX8_isEnough 28 = .ok (.lcmp, 1) := by decide +kernel
theorem dX8_isEnough_29 : decode cX8_isEnough 29 = .ok (.ifCond .le 58, 3) := by decide +kernel
theorem dX8_isEnough_32 : decode cX8_isEnough 32 = .ok (.iload_n 2, 1) := by decide +kernel
theorem dX8_isEnough_33 : decode cX8_isEnough 33 = .ok (.ifCond .eq 46, 3) := by decide +kernel
theorem dX8_isEnough_36 : decode cX8_isEnough 36 = .ok (.aload_n 0, 1) := by decide +kernel
theorem dX8_isEnough_37 : decode cX8_isEnough 37 = .ok (.getfield 25, 3) := by decide +kernel
theorem dX8_isEnough_40 : decode cX8_isEnough 40 = .ok (.iload 4, 2) := by decide +kernel
theorem dX8_isEnough_42 : decode cX8_isEnough 42 = .ok (.laload, 1) := by decide +kernel
theorem dX8_isEnough_43 : decode cX8_isEnough 43 = .ok (.lconst 0, 1) := by decide +kernel
theorem dX8_isEnough_44 : decode cX8_isEnough 44 = .ok (.lcmp, 1) := by decide +kernel
theorem dX8_isEnough_45 : decode cX8_isEnough 45 = .ok (.ifCond .eq 30, 3) := by decide +kernel
theorem dX8_isEnough_48 : decode cX8_isEnough 48 = .ok (.iload_n 3, 1) := by decide +kernel
theorem dX8_isEnough_49 : decode cX8_isEnough 49 = .ok (.iload_n 1, 1) := by decide +kernel
theorem dX8_isEnough_50 : decode cX8_isEnough 50 = .ok (.iand, 1) := by decide +kernel
theorem dX8_isEnough_51 : decode cX8_isEnough 51 = .ok (.iload 4, 2) := by decide +kernel
theorem dX8_isEnough_53 : decode cX8_isEnough 53 = .ok (.iload_n 1, 1) := by decide +kernel
theorem dX8_isEnough_54 : decode cX8_isEnough 54 = .ok (.iand, 1) := by decide +kernel
theorem dX8_isEnough_55 : decode cX8_isEnough 55 = .ok (.if_icmp .ne 20, 3) := by decide +kernel
theorem dX8_isEnough_58 : decode cX8_isEnough 58 = .ok (.aload_n 0, 1) := by decide +kernel
theorem dX8_isEnough_59 : decode cX8_isEnough 59 = .ok (.getfield 38, 3) := by decide +kernel
theorem dX8_isEnough_62 : decode cX8_isEnough 62 = .ok (.iload_n 3, 1) := by decide +kernel
theorem dX8_isEnough_63 : decode cX8_isEnough 63 = .ok (.laload, 1) := by decide +kernel
theorem dX8_isEnough_64 : decode cX8_isEnough 64 = .ok (.aload_n 0, 1) := by decide +kernel
theorem dX8_isEnough_65 : decode cX8_isEnough 65 = .ok (.getfield 38, 3) := by decide +kernel
theorem dX8_isEnough_68 : decode cX8_isEnough 68 = .ok (.iload 4, 2) := by decide +kernel
theorem dX8_isEnough_70 : decode cX8_isEnough 70 = .ok (.laload, 1) := by decide +kernel
theorem dX8_isEnough_71 : decode cX8_isEnough 71 = .ok (.lcmp, 1) := by decide +kernel
theorem dX8_isEnough_72 : decode cX8_isEnough 72 = .ok (.ifCond .ne 7, 3) := by decide +kernel
theorem dX8_isEnough_75 : decode cX8_isEnough 75 = .ok (.iconst 1, 1) := by decide +kernel
theorem dX8_isEnough_76 : decode cX8_isEnough 76 = .ok (.goto 4, 3) := by decide +kernel
theorem dX8_isEnough_79 : decode cX8_isEnough 79 = .ok (.iconst 0, 1) := by decide +kernel
theorem dX8_isEnough_80 : decode cX8_isEnough 80 = .ok (.istore_n 2, 1) := by decide +kernel
theorem dX8_isEnough_81 : decode cX8_isEnough 81 = .ok (.iinc 4 1, 3) := by decide +kernel
theorem dX8_isEnough_84 : decode cX8_isEnough 84 = .ok (.goto (-69), 3) := by decide +kernel
theorem dX8_isEnough_87 : decode cX8_isEnough 87 = .ok (.iinc 3 1, 3) := by decide +kernel
theorem dX8_isEnough_90 : decode cX8_isEnough 90 = .ok (.goto (-86), 3) := by decide +kernel
theorem dX8_isEnough_93 : decode cX8_isEnough 93 = .ok (.iload_n 2, 1) := by decide +kernel
theorem dX8_isEnough_94 : decode cX8_isEnough 94 = .ok (.ireturn, 1) := by decide +kernel
theorem dX8_bits_0 : decode cX8_bits 0 = .ok (.iconst 0, 1) := by decide +kernel
theorem dX8_bits_1 : decode cX8_bits 1 = .ok (.istore_n 1, 1) := by decide +kernel
theorem dX8_bits_2 : decode cX8_bits 2 = .ok (.iload_n 0, 1) := by decide +kernel
theorem dX8_bits_3 : decode cX8_bits 3 = .ok (.istore_n 2, 1) := by decide +kernel
theorem dX8_bits_4 : decode cX8_bits 4 = .ok (.iload_n 2, 1) := by decide +kernel
theorem dX8_bits_5 : decode cX8_bits 5 = .ok (.ifCond .eq 15, 3) := by decide +kernel
theorem dX8_bits_8 : decode cX8_bits 8 = .ok (.iinc 1 1, 3) := by decide +kernel
theorem dX8_bits_11 : decode cX8_bits 11 = .ok (.iload_n 2, 1) := by decide +kernel
theorem dX8_bits_12 : decode cX8_bits 12 = .ok (.iload_n 2, 1) := by decide +kernel
theorem dX8_bits_13 : decode cX8_bits 13 = .ok (.iconst 1, 1) := by decide +kernel
theorem dX8_bits_14 : decode cX8_bits 14 = .ok (.isub, 1) := by decide +kernel
theorem dX8_bits_15 : decode cX8_bits 15 = .ok (.iand, 1) := by decide +kernel
theorem dX8_bits_16 : decode cX8_bits 16 = .ok (.istore_n 2, 1) := by decide +kernel
theorem dX8_bits_17 : decode cX8_bits 17 = .ok (.goto (-13), 3) := by decide +kernel
theorem dX8_bits_20 : decode cX8_bits 20 = .ok (.iload_n 1, 1) := by decide +kernel
theorem dX8_bits_21 : decode cX8_bits 21 = .ok (.ireturn, 1) := by decide +kernel
set_option maxRecDepth 20000 in
theorem ggX8_witnesses_X8_weigh : GoodIn wsX8_witnesses wsX8_weigh := goodIn_r _ [7, 8, 9, 10, 11, 12, 6, 13, 1, 2, 14, 15, 16, 17, 18, 19, 20, 21, 22, 23, 24, 25, 26, 27, 28, 29, 30, 31, 32, 33, 34, 35, 36, 37, 38, 39, 40, 41, 42, 43, 44, 45, 46, 47, 48, 49, 50, 51, 52, 53, 54, 55, 56, 57, 58, 59, 60, 83, 84, 85, 86, 87, 88, 89, 90, 91, 92, 93, 94, 95, 96, 97, 98, 99, 100, 101, 102, 103, 104, 105, 106, 107, 108, 109, 110, 111, 112, 113, 114] (by decide +kernel) (by decide +kernel)
set_option maxRecDepth 20000 in
theorem gX8_witnesses_X8_weigh : GoodIn wsX8_witnesses (wsV RX8 172 RX8 yX8_weigh wsX8_weigh) := goodIn_app (goodIn_of _ (by decide +kernel)) ggX8_witnesses_X8_weigh
set_option maxRecDepth 20000 in
theorem ggX8_witnesses_X8_findAllDoers : GoodIn wsX8_witnesses wsX8_findAllDoers := goodIn_r _ [64, 65, 8, 66, 19, 20, 21, 6, 22, 1, 67, 68, 69, 70, 32, 71, 72, 73, 74, 75, 28, 29, 30, 31, 33, 27, 14, 15, 16, 17, 18, 34, 35, 36, 37, 2, 38, 39, 40, 41, 42, 43, 44, 45, 46, 47, 48, 83, 84, 85, 86, 87, 88, 89, 90, 91, 92, 93, 94, 95, 96, 97, 98, 99, 100, 101, 102, 103, 104, 105, 106, 107, 108, 109, 110, 111, 112, 113, 114] (by decide +kernel) (by decide +kernel)
set_option maxRecDepth 20000 in
theorem gX8_witnesses_X8_findAllDoers : GoodIn wsX8_witnesses (wsV RX8 216 RX8 yX8_findAllDoers wsX8_findAllDoers) := goodIn_app (goodIn_of _ (by decide +kernel)) ggX8_witnesses_X8_findAllDoers
set_option maxRecDepth 20000 in
theorem ggX8_witnesses_X8_nightsThere : GoodIn wsX8_witnesses wsX8_nightsThere := goodIn_r _ [22, 1, 83, 84, 85, 86, 87, 88, 89, 90, 91, 92, 93, 94, 95, 96, 97, 98, 99, 100, 101, 102, 103, 104, 105, 106, 107, 108, 109, 110, 111, 112, 113, 114] (by decide +kernel) (by decide +kernel)
set_option maxRecDepth 20000 in
theorem gX8_witnesses_X8_nightsThere : GoodIn wsX8_witnesses (wsV RX8 159 RX8 yX8_nightsThere wsX8_nightsThere) := goodIn_app (goodIn_of _ (by decide +kernel)) ggX8_witnesses_X8_nightsThere
set_option maxRecDepth 20000 in
theorem ggX8_witnesses_X8_isEnough : GoodIn wsX8_witnesses wsX8_isEnough := goodIn_r _ [79, 9, 65, 19, 20, 21, 6, 22, 1, 83, 84, 85, 86, 87, 88, 89, 90, 91, 92, 93, 94, 95, 96, 97, 98, 99, 100, 101, 102, 103, 104, 105, 106, 107, 108, 109, 110, 111, 112, 113, 114] (by decide +kernel) (by decide +kernel)
set_option maxRecDepth 20000 in
theorem gX8_witnesses_X8_isEnough : GoodIn wsX8_witnesses (wsV RX8 219 RX8 yX8_isEnough wsX8_isEnough) := goodIn_app (goodIn_of _ (by decide +kernel)) ggX8_witnesses_X8_isEnough
set_option maxRecDepth 20000 in
theorem ggX8_witnesses_X8_bits : GoodIn wsX8_witnesses wsX8_bits := goodIn_r _ [82] (by decide +kernel) (by decide +kernel)
set_option maxRecDepth 20000 in
theorem gX8_witnesses_X8_bits : GoodIn wsX8_witnesses (va_wsS RX8 222 yX8_bits wsX8_bits) := goodIn_app (goodIn_of _ (by decide +kernel)) ggX8_witnesses_X8_bits
theorem dX8_witnesses_0 : decode cX8_witnesses 0 = .ok (.aload_n 0, 1) := by decide +kernel
theorem dX8_witnesses_1 : decode cX8_witnesses 1 = .ok (.invokevirtual 172, 3) := by decide +kernel
theorem dX8_witnesses_4 : decode cX8_witnesses 4 = .ok (.pop2, 1) := by decide +kernel
theorem dX8_witnesses_5 : decode cX8_witnesses 5 = .ok (.aload_n 0, 1) := by decide +kernel
theorem dX8_witnesses_6 : decode cX8_witnesses 6 = .ok (.invokevirtual 216, 3) := by decide +kernel
theorem dX8_witnesses_9 : decode cX8_witnesses 9 = .ok (.aload_n 0, 1) := by decide +kernel
theorem dX8_witnesses_10 : decode cX8_witnesses 10 = .ok (.invokevirtual 159, 3) := by decide +kernel
theorem dX8_witnesses_13 : decode cX8_witnesses 13 = .ok (.iconst 1, 1) := by decide +kernel
theorem dX8_witnesses_14 : decode cX8_witnesses 14 = .ok (.isub, 1) := by decide +kernel
theorem dX8_witnesses_15 : decode cX8_witnesses 15 = .ok (.istore_n 1, 1) := by decide +kernel
theorem dX8_witnesses_16 : decode cX8_witnesses 16 = .ok (.aload_n 0, 1) := by decide +kernel
theorem dX8_witnesses_17 : decode cX8_witnesses 17 = .ok (.invokevirtual 159, 3) := by decide +kernel
theorem dX8_witnesses_20 : decode cX8_witnesses 20 = .ok (.iconst 1, 1) := by decide +kernel
theorem dX8_witnesses_21 : decode cX8_witnesses 21 = .ok (.isub, 1) := by decide +kernel
theorem dX8_witnesses_22 : decode cX8_witnesses 22 = .ok (.istore_n 2, 1) := by decide +kernel
theorem dX8_witnesses_23 : decode cX8_witnesses 23 = .ok (.iload_n 2, 1) := by decide +kernel
theorem dX8_witnesses_24 : decode cX8_witnesses 24 = .ok (.ifCond .lt 34, 3) := by decide +kernel
theorem dX8_witnesses_27 : decode cX8_witnesses 27 = .ok (.aload_n 0, 1) := by decide +kernel
theorem dX8_witnesses_28 : decode cX8_witnesses 28 = .ok (.iload_n 2, 1) := by decide +kernel
theorem dX8_witnesses_29 : decode cX8_witnesses 29 = .ok (.invokevirtual 219, 3) := by decide +kernel
theorem dX8_witnesses_32 : decode cX8_witnesses 32 = .ok (.ifCond .eq 18, 3) := by decide +kernel
theorem dX8_witnesses_35 : decode cX8_witnesses 35 = .ok (.iload_n 2, 1) := by decide +kernel
theorem dX8_witnesses_36 : decode cX8_witnesses 36 = .ok (.invokestatic 222, 3) := by decide +kernel
theorem dX8_witnesses_39 : decode cX8_witnesses 39 = .ok (.iload_n 1, 1) := by decide +kernel
theorem dX8_witnesses_40 : decode cX8_witnesses 40 = .ok (.invokestatic 222, 3) := by decide +kernel
theorem dX8_witnesses_43 : decode cX8_witnesses 43 = .ok (.if_icmp .gt 7, 3) := by decide +kernel
theorem dX8_witnesses_46 : decode cX8_witnesses 46 = .ok (.iload_n 2, 1) := by decide +kernel
theorem dX8_witnesses_47 : decode cX8_witnesses 47 = .ok (.goto 4, 3) := by decide +kernel
theorem dX8_witnesses_50 : decode cX8_witnesses 50 = .ok (.iload_n 1, 1) := by decide +kernel
theorem dX8_witnesses_51 : decode cX8_witnesses 51 = .ok (.istore_n 1, 1) := by decide +kernel
theorem dX8_witnesses_52 : decode cX8_witnesses 52 = .ok (.iinc 2 (-1), 3) := by decide +kernel
theorem dX8_witnesses_55 : decode cX8_witnesses 55 = .ok (.goto (-32), 3) := by decide +kernel
theorem dX8_witnesses_58 : decode cX8_witnesses 58 = .ok (.iconst 0, 1) := by decide +kernel
theorem dX8_witnesses_59 : decode cX8_witnesses 59 = .ok (.istore_n 2, 1) := by decide +kernel
theorem dX8_witnesses_60 : decode cX8_witnesses 60 = .ok (.iconst 0, 1) := by decide +kernel
theorem dX8_witnesses_61 : decode cX8_witnesses 61 = .ok (.istore_n 3, 1) := by decide +kernel
theorem dX8_witnesses_62 : decode cX8_witnesses 62 = .ok (.iload_n 3, 1) := by decide +kernel
theorem dX8_witnesses_63 : decode cX8_witnesses 63 = .ok (.aload_n 0, 1) := by decide +kernel
theorem dX8_witnesses_64 : decode cX8_witnesses 64 = .ok (.getfield 126, 3) := by decide +kernel
theorem dX8_witnesses_67 : decode cX8_witnesses 67 = .ok (.if_icmp .ge 24, 3) := by decide +kernel
theorem dX8_witnesses_70 : decode cX8_witnesses 70 = .ok (.iload_n 2, 1) := by decide +kernel
theorem dX8_witnesses_71 : decode cX8_witnesses 71 = .ok (.iload_n 1, 1) := by decide +kernel
theorem dX8_witnesses_72 : decode cX8_witnesses 72 = .ok (.iload_n 3, 1) := by decide +kernel
theorem dX8_witnesses_73 : decode cX8_witnesses 73 = .ok (.ishr, 1) := by decide +kernel
theorem dX8_witnesses_74 : decode cX8_witnesses 74 = .ok (.iconst 1, 1) := by decide +kernel
theorem dX8_witnesses_75 : decode cX8_witnesses 75 = .ok (.iand, 1) := by decide +kernel
theorem dX8_witnesses_76 : decode cX8_witnesses 76 = .ok (.aload_n 0, 1) := by decide +kernel
theorem dX8_witnesses_77 : decode cX8_witnesses 77 = .ok (.getfield 22, 3) := by decide +kernel
theorem dX8_witnesses_80 : decode cX8_witnesses 80 = .ok (.iload_n 3, 1) := by decide +kernel
theorem dX8_witnesses_81 : decode cX8_witnesses 81 = .ok (.iaload, 1) := by decide +kernel
theorem dX8_witnesses_82 : decode cX8_witnesses 82 = .ok (.ishl, 1) := by decide +kernel
theorem dX8_witnesses_83 : decode cX8_witnesses 83 = .ok (.ior, 1) := by decide +kernel
theorem dX8_witnesses_84 : decode cX8_witnesses 84 = .ok (.istore_n 2, 1) := by decide +kernel
theorem dX8_witnesses_85 : decode cX8_witnesses 85 = .ok (.iinc 3 1, 3) := by decide +kernel
theorem dX8_witnesses_88 : decode cX8_witnesses 88 = .ok (.goto (-26), 3) := by decide +kernel
theorem dX8_witnesses_91 : decode cX8_witnesses 91 = .ok (.iload_n 2, 1) := by decide +kernel
theorem dX8_witnesses_92 : decode cX8_witnesses 92 = .ok (.ireturn, 1) := by decide +kernel
set_option maxRecDepth 20000 in
theorem ggX8_unsure_X8_weigh : GoodIn wsX8_unsure wsX8_weigh := goodIn_r _ [6, 1, 7, 8, 9, 10, 5, 11, 12, 13, 14, 15, 16, 17, 18, 19, 20, 21, 22, 23, 24, 25, 26, 27, 28, 29, 30, 31, 32, 33, 34, 35, 36, 37, 38, 39, 40, 41, 42, 43, 44, 45, 46, 47, 48, 49, 50, 51, 52, 53, 54, 55, 56, 57, 58, 59, 60, 72, 73, 74, 75, 76, 77, 78, 79, 80, 81, 82, 83, 84, 85, 86, 87, 88, 89, 90, 91, 92, 93, 94, 95, 96, 97, 98, 99, 100, 101, 102, 103] (by decide +kernel) (by decide +kernel)
set_option maxRecDepth 20000 in
theorem gX8_unsure_X8_weigh : GoodIn wsX8_unsure (wsV RX8 172 RX8 yX8_weigh wsX8_weigh) := goodIn_app (goodIn_of _ (by decide +kernel)) ggX8_unsure_X8_weigh
set_option maxRecDepth 20000 in
theorem ggX8_unsure_X8_deedIs : GoodIn wsX8_unsure wsX8_deedIs := goodIn_r _ [64, 1, 72, 73, 74, 75, 76, 77, 78, 79, 80, 81, 82, 83, 84, 85, 86, 87, 88, 89, 90, 91, 92, 93, 94, 95, 96, 97, 98, 99, 100, 101, 102, 103] (by decide +kernel) (by decide +kernel)
set_option maxRecDepth 20000 in
theorem gX8_unsure_X8_deedIs : GoodIn wsX8_unsure (wsV RX8 196 RX8 yX8_deedIs wsX8_deedIs) := goodIn_app (goodIn_of _ (by decide +kernel)) ggX8_unsure_X8_deedIs
set_option maxRecDepth 20000 in
theorem ggX8_unsure_X8_wornBy : GoodIn wsX8_unsure wsX8_wornBy := goodIn_r _ [68, 7, 32, 2, 3, 4, 5, 6, 1, 8, 9, 10, 11, 12, 13, 14, 15, 16, 17, 18, 19, 20, 21, 22, 23, 24, 25, 26, 27, 28, 29, 30, 31, 33, 34, 35, 36, 37, 38, 39, 40, 41, 42, 43, 44, 45, 46, 47, 48, 49, 50, 51, 52, 53, 54, 55, 56, 57, 58, 59, 60, 72, 73, 74, 75, 76, 77, 78, 79, 80, 81, 82, 83, 84, 85, 86, 87, 88, 89, 90, 91, 92, 93, 94, 95, 96, 97, 98, 99, 100, 101, 102, 103] (by decide +kernel) (by decide +kernel)
set_option maxRecDepth 20000 in
theorem gX8_unsure_X8_wornBy : GoodIn wsX8_unsure (wsV RX8 180 RX8 yX8_wornBy wsX8_wornBy) := goodIn_app (goodIn_of _ (by decide +kernel)) ggX8_unsure_X8_wornBy
set_option maxRecDepth 20000 in
theorem ggX8_unsure_X8_only : GoodIn wsX8_unsure wsX8_only := goodIn_r _ [71] (by decide +kernel) (by decide +kernel)
set_option maxRecDepth 20000 in
theorem gX8_unsure_X8_only : GoodIn wsX8_unsure (va_wsS RX8 183 yX8_only wsX8_only) := goodIn_app (goodIn_of _ (by decide +kernel)) ggX8_unsure_X8_only
theorem dX8_unsure_0 : decode cX8_unsure 0 = .ok (.aload_n 0, 1) := by decide +kernel
theorem dX8_unsure_1 : decode cX8_unsure 1 = .ok (.invokevirtual 172, 3) := by decide +kernel
theorem dX8_unsure_4 : decode cX8_unsure 4 = .ok (.pop2, 1) := by decide +kernel
theorem dX8_unsure_5 : decode cX8_unsure 5 = .ok (.iconst 0, 1) := by decide +kernel
theorem dX8_unsure_6 : decode cX8_unsure 6 = .ok (.istore_n 1, 1) := by decide +kernel
theorem dX8_unsure_7 : decode cX8_unsure 7 = .ok (.iconst 0, 1) := by decide +kernel
theorem dX8_unsure_8 : decode cX8_unsure 8 = .ok (.istore_n 2, 1) := by decide +kernel
theorem dX8_unsure_9 : decode cX8_unsure 9 = .ok (.iload_n 2, 1) := by decide +kernel
theorem dX8_unsure_10 : decode cX8_unsure 10 = .ok (.aload_n 0, 1) := by decide +kernel
theorem dX8_unsure_11 : decode cX8_unsure 11 = .ok (.getfield 9, 3) := by decide +kernel
theorem dX8_unsure_14 : decode cX8_unsure 14 = .ok (.iconst 4, 1) := by decide +kernel
theorem dX8_unsure_15 : decode cX8_unsure 15 = .ok (.iaload, 1) := by decide +kernel
theorem dX8_unsure_16 : decode cX8_unsure 16 = .ok (.if_icmp .ge 41, 3) := by decide +kernel
theorem dX8_unsure_19 : decode cX8_unsure 19 = .ok (.iload_n 1, 1) := by decide +kernel
theorem dX8_unsure_20 : decode cX8_unsure 20 = .ok (.aload_n 0, 1) := by decide +kernel
theorem dX8_unsure_21 : decode cX8_unsure 21 = .ok (.aload_n 0, 1) := by decide +kernel
theorem dX8_unsure_22 : decode cX8_unsure 22 = .ok (.iload_n 2, 1) := by decide +kernel
theorem dX8_unsure_23 : decode cX8_unsure 23 = .ok (.iconst 2, 1) := by decide +kernel
theorem dX8_unsure_24 : decode cX8_unsure 24 = .ok (.invokevirtual 196, 3) := by decide +kernel
theorem dX8_unsure_27 : decode cX8_unsure 27 = .ok (.aload_n 0, 1) := by decide +kernel
theorem dX8_unsure_28 : decode cX8_unsure 28 = .ok (.iload_n 2, 1) := by decide +kernel
theorem dX8_unsure_29 : decode cX8_unsure 29 = .ok (.iconst 1, 1) := by decide +kernel
theorem dX8_unsure_30 : decode cX8_unsure 30 = .ok (.invokevirtual 196, 3) := by decide +kernel
theorem dX8_unsure_33 : decode cX8_unsure 33 = .ok (.invokevirtual 180, 3) := by decide +kernel
theorem dX8_unsure_36 : decode cX8_unsure 36 = .ok (.invokestatic 183, 3) := by decide +kernel
theorem dX8_unsure_39 : decode cX8_unsure 39 = .ok (.ifCond .ge 9, 3) := by decide +kernel
theorem dX8_unsure_42 : decode cX8_unsure 42 = .ok (.iconst 1, 1) := by decide +kernel
theorem dX8_unsure_43 : decode cX8_unsure 43 = .ok (.iload_n 2, 1) := by decide +kernel
theorem dX8_unsure_44 : decode cX8_unsure 44 = .ok (.ishl, 1) := by decide +kernel
theorem dX8_unsure_45 : decode cX8_unsure 45 = .ok (.goto 4, 3) := by decide +kernel
theorem dX8_unsure_48 : decode cX8_unsure 48 = .ok (.iconst 0, 1) := by decide +kernel
theorem dX8_unsure_49 : decode cX8_unsure 49 = .ok (.ior, 1) := by decide +kernel
theorem dX8_unsure_50 : decode cX8_unsure 50 = .ok (.istore_n 1, 1) := by decide +kernel
theorem dX8_unsure_51 : decode cX8_unsure 51 = .ok (.iinc 2 1, 3) := by decide +kernel
theorem dX8_unsure_54 : decode cX8_unsure 54 = .ok (.goto (-45), 3) := by decide +kernel
theorem dX8_unsure_57 : decode cX8_unsure 57 = .ok (.iload_n 1, 1) := by decide +kernel
theorem dX8_unsure_58 : decode cX8_unsure 58 = .ok (.ireturn, 1) := by decide +kernel
set_option maxRecDepth 20000 in
theorem ggX8_goesLikeliest_X8_bestNight : GoodIn wsX8_goesLikeliest wsX8_bestNight := goodIn_r _ [5, 6, 7, 8, 9, 4, 10, 11, 12, 13, 14, 15, 16, 17, 18, 19, 20, 21, 22, 23, 24, 25, 26, 27, 28, 29, 30, 31, 32, 33, 34, 35, 36, 37, 38, 39, 40, 41, 42, 43, 44, 45, 46, 47, 48, 49, 50, 51, 52, 53, 54, 55, 56, 57, 58, 59, 60, 61, 62, 63, 64, 65, 66, 67, 68, 69, 70, 71, 72, 73, 74, 75, 76, 77, 78, 79, 80, 81, 82, 83, 84, 85, 86, 87, 88, 89, 90, 91, 92, 93, 94, 95, 96] (by decide +kernel) (by decide +kernel)
set_option maxRecDepth 20000 in
theorem gX8_goesLikeliest_X8_bestNight : GoodIn wsX8_goesLikeliest (wsV RX8 176 RX8 yX8_bestNight wsX8_bestNight) := goodIn_app (goodIn_of _ (by decide +kernel)) ggX8_goesLikeliest_X8_bestNight
set_option maxRecDepth 20000 in
theorem ggX8_goesLikeliest_X8_goes : GoodIn wsX8_goesLikeliest wsX8_goes := goodIn_r _ [35, 36, 37, 31, 11, 18, 19, 20, 21, 4, 22, 38, 39, 40, 41, 16, 17, 42, 43, 44, 45, 46, 47, 48, 49, 50, 51, 52, 65, 66, 67, 68, 69, 70, 71, 72, 73, 74, 75, 76, 77, 78, 79, 80, 81, 82, 83, 84, 85, 86, 87, 88, 89, 90, 91, 92, 93, 94, 95, 96] (by decide +kernel) (by decide +kernel)
set_option maxRecDepth 20000 in
theorem gX8_goesLikeliest_X8_goes : GoodIn wsX8_goesLikeliest (wsV RX8 153 RX8 yX8_goes wsX8_goes) := goodIn_app (goodIn_of _ (by decide +kernel)) ggX8_goesLikeliest_X8_goes
theorem dX8_goesLikeliest_0 : decode cX8_goesLikeliest 0 = .ok (.aload_n 0, 1) := by decide +kernel
theorem dX8_goesLikeliest_1 : decode cX8_goesLikeliest 1 = .ok (.invokevirtual 176, 3) := by decide +kernel
theorem dX8_goesLikeliest_4 : decode cX8_goesLikeliest 4 = .ok (.istore_n 2, 1) := by decide +kernel
theorem dX8_goesLikeliest_5 : decode cX8_goesLikeliest 5 = .ok (.iload_n 2, 1) := by decide +kernel
theorem dX8_goesLikeliest_6 : decode cX8_goesLikeliest 6 = .ok (.ifCond .lt 9, 3) := by decide +kernel
theorem dX8_goesLikeliest_9 : decode cX8_goesLikeliest 9 = .ok (.aload_n 0, 1) := by decide +kernel
theorem dX8_goesLikeliest_10 : decode cX8_goesLikeliest 10 = .ok (.iload_n 2, 1) := by decide +kernel
theorem dX8_goesLikeliest_11 : decode cX8_goesLikeliest 11 = .ok (.iload_n 1, 1) := by decide +kernel
theorem dX8_goesLikeliest_12 : decode cX8_goesLikeliest 12 = .ok (.invokevirtual 153, 3) := by decide +kernel
theorem dX8_goesLikeliest_15 : decode cX8_goesLikeliest 15 = .ok (.iload_n 2, 1) := by decide +kernel
theorem dX8_goesLikeliest_16 : decode cX8_goesLikeliest 16 = .ok (.ifCond .lt 7, 3) := by decide +kernel
theorem dX8_goesLikeliest_19 : decode cX8_goesLikeliest 19 = .ok (.iconst 1, 1) := by decide +kernel
theorem dX8_goesLikeliest_20 : decode cX8_goesLikeliest 20 = .ok (.goto 4, 3) := by decide +kernel
theorem dX8_goesLikeliest_23 : decode cX8_goesLikeliest 23 = .ok (.iconst 0, 1) := by decide +kernel
theorem dX8_goesLikeliest_24 : decode cX8_goesLikeliest 24 = .ok (.ireturn, 1) := by decide +kernel
theorem dX8_notHome_0 : decode cX8_notHome 0 = .ok (.iconst (-1), 1) := by decide +kernel
theorem dX8_notHome_1 : decode cX8_notHome 1 = .ok (.istore_n 1, 1) := by decide +kernel
theorem dX8_notHome_2 : decode cX8_notHome 2 = .ok (.aload_n 0, 1) := by decide +kernel
theorem dX8_notHome_3 : decode cX8_notHome 3 = .ok (.getfield 9, 3) := by decide +kernel
theorem dX8_notHome_6 : decode cX8_notHome 6 = .ok (.iconst 0, 1) := by decide +kernel
theorem dX8_notHome_7 : decode cX8_notHome 7 = .ok (.iaload, 1) := by decide +kernel
theorem dX8_notHome_8 : decode cX8_notHome 8 = .ok (.iconst 1, 1) := by decide +kernel
theorem dX8_notHome_9 : decode cX8_notHome 9 = .ok (.isub, 1) := by decide +kernel
theorem dX8_notHome_10 : decode cX8_notHome 10 = .ok (.istore_n 2, 1) := by decide +kernel
theorem dX8_notHome_11 : decode cX8_notHome 11 = .ok (.iload_n 2, 1) := by decide +kernel
theorem dX8_notHome_12 : decode cX8_notHome 12 = .ok (.ifCond .lt 25, 3) := by decide +kernel
theorem dX8_notHome_15 : decode cX8_notHome 15 = .ok (.aload_n 0, 1) := by decide +kernel
theorem dX8_notHome_16 : decode cX8_notHome 16 = .ok (.getfield 29, 3) := by decide +kernel
theorem dX8_notHome_19 : decode cX8_notHome 19 = .ok (.iload_n 2, 1) := by decide +kernel
theorem dX8_notHome_20 : decode cX8_notHome 20 = .ok (.iaload, 1) := by decide +kernel
theorem dX8_notHome_21 : decode cX8_notHome 21 = .ok (.iload_n 2, 1) := by decide +kernel
theorem dX8_notHome_22 : decode cX8_notHome 22 = .ok (.if_icmp .ne 7, 3) := by decide +kernel
theorem dX8_notHome_25 : decode cX8_notHome 25 = .ok (.iload_n 1, 1) := by decide +kernel
theorem dX8_notHome_26 : decode cX8_notHome 26 = .ok (.goto 4, 3) := by decide +kernel
theorem dX8_notHome_29 : decode cX8_notHome 29 = .ok (.iload_n 2, 1) := by decide +kernel
theorem dX8_notHome_30 : decode cX8_notHome 30 = .ok (.istore_n 1, 1) := by decide +kernel
theorem dX8_notHome_31 : decode cX8_notHome 31 = .ok (.iinc 2 (-1), 3) := by decide +kernel
theorem dX8_notHome_34 : decode cX8_notHome 34 = .ok (.goto (-23), 3) := by decide +kernel
theorem dX8_notHome_37 : decode cX8_notHome 37 = .ok (.iload_n 1, 1) := by decide +kernel
theorem dX8_notHome_38 : decode cX8_notHome 38 = .ok (.ireturn, 1) := by decide +kernel
set_option maxRecDepth 20000 in
theorem ggX8_bowsHome_X8_maskOf : GoodIn wsX8_bowsHome wsX8_maskOf := goodIn_r _ [12, 13, 20, 21, 22, 23, 24, 25, 26, 27, 28, 29, 30, 31, 32, 33, 34, 35, 36, 37, 38, 39, 40, 41, 42, 43, 44, 45, 46, 47, 48, 49, 50, 51] (by decide +kernel) (by decide +kernel)
set_option maxRecDepth 20000 in
theorem gX8_bowsHome_X8_maskOf : GoodIn wsX8_bowsHome (wsV RX8 186 RX8 yX8_maskOf wsX8_maskOf) := goodIn_app (goodIn_of _ (by decide +kernel)) ggX8_bowsHome_X8_maskOf
set_option maxRecDepth 20000 in
theorem ggX8_bowsHome_X8_change : GoodIn wsX8_bowsHome wsX8_change := goodIn_r _ [17, 13, 1, 2, 3, 4, 5, 6, 7, 18, 19, 20, 21, 22, 23, 24, 25, 26, 27, 28, 29, 30, 31, 32, 33, 34, 35, 36, 37, 38, 39, 40, 41, 42, 43, 44, 45, 46, 47, 48, 49, 50, 51] (by decide +kernel) (by decide +kernel)
set_option maxRecDepth 20000 in
theorem gX8_bowsHome_X8_change : GoodIn wsX8_bowsHome (wsV RX8 141 RX8 yX8_change wsX8_change) := goodIn_app (goodIn_of _ (by decide +kernel)) ggX8_bowsHome_X8_change
theorem dX8_bowsHome_0 : decode cX8_bowsHome 0 = .ok (.aload_n 0, 1) := by decide +kernel
theorem dX8_bowsHome_1 : decode cX8_bowsHome 1 = .ok (.iload_n 1, 1) := by decide +kernel
theorem dX8_bowsHome_2 : decode cX8_bowsHome 2 = .ok (.invokevirtual 186, 3) := by decide +kernel
theorem dX8_bowsHome_5 : decode cX8_bowsHome 5 = .ok (.istore_n 2, 1) := by decide +kernel
theorem dX8_bowsHome_6 : decode cX8_bowsHome 6 = .ok (.aload_n 0, 1) := by decide +kernel
theorem dX8_bowsHome_7 : decode cX8_bowsHome 7 = .ok (.iload_n 1, 1) := by decide +kernel
theorem dX8_bowsHome_8 : decode cX8_bowsHome 8 = .ok (.iload_n 2, 1) := by decide +kernel
theorem dX8_bowsHome_9 : decode cX8_bowsHome 9 = .ok (.invokevirtual 141, 3) := by decide +kernel
theorem dX8_bowsHome_12 : decode cX8_bowsHome 12 = .ok (.bipush 10, 2) := by decide +kernel
theorem dX8_bowsHome_14 : decode cX8_bowsHome 14 = .ok (.iload_n 1, 1) := by decide +kernel
theorem dX8_bowsHome_15 : decode cX8_bowsHome 15 = .ok (.iload_n 2, 1) := by decide +kernel
theorem dX8_bowsHome_16 : decode cX8_bowsHome 16 = .ok (.invokestatic 145, 3) := by decide +kernel
theorem dX8_bowsHome_19 : decode cX8_bowsHome 19 = .ok (.imul, 1) := by decide +kernel
theorem dX8_bowsHome_20 : decode cX8_bowsHome 20 = .ok (.iload_n 1, 1) := by decide +kernel
theorem dX8_bowsHome_21 : decode cX8_bowsHome 21 = .ok (.iload_n 2, 1) := by decide +kernel
theorem dX8_bowsHome_22 : decode cX8_bowsHome 22 = .ok (.invokestatic 150, 3) := by decide +kernel
theorem dX8_bowsHome_25 : decode cX8_bowsHome 25 = .ok (.iadd, 1) := by decide +kernel
theorem dX8_bowsHome_26 : decode cX8_bowsHome 26 = .ok (.ireturn, 1) := by decide +kernel
set_option maxRecDepth 20000 in
theorem ggX8_home_X8_goesLikeliest : GoodIn wsX8_home wsX8_goesLikeliest := goodIn_r _ [6, 7, 8, 9, 5, 10, 11, 12, 13, 14, 15, 16, 17, 18, 19, 20, 21, 22, 23, 24, 25, 26, 27, 28, 29, 30, 31, 32, 33, 34, 35, 36, 37, 38, 39, 40, 41, 42, 43, 44, 45, 46, 47, 48, 49, 50, 51, 52, 53, 54, 55, 56, 57, 58, 59, 60, 61, 62, 63, 64, 65, 66, 67, 68, 69, 88, 89, 90, 91, 92, 93, 94, 95, 96, 97, 98, 99, 100, 101, 102, 103, 104, 105, 106, 107, 108, 109, 110, 111, 112, 113, 114, 115, 116, 117, 118, 119] (by decide +kernel) (by decide +kernel)
set_option maxRecDepth 20000 in
theorem gX8_home_X8_goesLikeliest : GoodIn wsX8_home (wsV RX8 225 RX8 yX8_goesLikeliest wsX8_goesLikeliest) := goodIn_app (goodIn_of _ (by decide +kernel)) ggX8_home_X8_goesLikeliest
set_option maxRecDepth 20000 in
theorem ggX8_home_X8_finding : GoodIn wsX8_home wsX8_finding := goodIn_r _ [73, 74, 75, 88, 89, 90, 91, 92, 93, 94, 95, 96, 97, 98, 99, 100, 101, 102, 103, 104, 105, 106, 107, 108, 109, 110, 111, 112, 113, 114, 115, 116, 117, 118, 119] (by decide +kernel) (by decide +kernel)
set_option maxRecDepth 20000 in
theorem gX8_home_X8_finding : GoodIn wsX8_home (wsV RX8 86 RX8 yX8_finding wsX8_finding) := goodIn_app (goodIn_of _ (by decide +kernel)) ggX8_home_X8_finding
set_option maxRecDepth 20000 in
theorem ggX8_home_X8_notHome : GoodIn wsX8_home wsX8_notHome := goodIn_r _ [79, 16, 41, 88, 89, 90, 91, 92, 93, 94, 95, 96, 97, 98, 99, 100, 101, 102, 103, 104, 105, 106, 107, 108, 109, 110, 111, 112, 113, 114, 115, 116, 117, 118, 119] (by decide +kernel) (by decide +kernel)
set_option maxRecDepth 20000 in
theorem gX8_home_X8_notHome : GoodIn wsX8_home (wsV RX8 228 RX8 yX8_notHome wsX8_notHome) := goodIn_app (goodIn_of _ (by decide +kernel)) ggX8_home_X8_notHome
set_option maxRecDepth 20000 in
theorem ggX8_home_X8_bowsHome : GoodIn wsX8_home wsX8_bowsHome := goodIn_r _ [83, 51, 52, 53, 54, 55, 56, 57, 84, 85, 86, 5, 87, 41, 47, 48, 49, 50, 36, 42, 88, 89, 90, 91, 92, 93, 94, 95, 96, 97, 98, 99, 100, 101, 102, 103, 104, 105, 106, 107, 108, 109, 110, 111, 112, 113, 114, 115, 116, 117, 118, 119] (by decide +kernel) (by decide +kernel)
set_option maxRecDepth 20000 in
theorem gX8_home_X8_bowsHome : GoodIn wsX8_home (wsV RX8 231 RX8 yX8_bowsHome wsX8_bowsHome) := goodIn_app (goodIn_of _ (by decide +kernel)) ggX8_home_X8_bowsHome
theorem dX8_home_0 : decode cX8_home 0 = .ok (.aload_n 0, 1) := by decide +kernel
theorem dX8_home_1 : decode cX8_home 1 = .ok (.bipush 99, 2) := by decide +kernel
theorem dX8_home_3 : decode cX8_home 3 = .ok (.invokevirtual 225, 3) := by decide +kernel
theorem dX8_home_6 : decode cX8_home 6 = .ok (.ifCond .ne 10, 3) := by decide +kernel
theorem dX8_home_9 : decode cX8_home 9 = .ok (.aload_n 0, 1) := by decide +kernel
theorem dX8_home_10 : decode cX8_home 10 = .ok (.ldc 179, 2) := by decide +kernel
theorem dX8_home_12 : decode cX8_home 12 = .ok (.invokevirtual 86, 3) := by decide +kernel
theorem dX8_home_15 : decode cX8_home 15 = .ok (.ireturn, 1) := by decide +kernel
theorem dX8_home_16 : decode cX8_home 16 = .ok (.iconst 0, 1) := by decide +kernel
theorem dX8_home_17 : decode cX8_home 17 = .ok (.istore_n 1, 1) := by decide +kernel
theorem dX8_home_18 : decode cX8_home 18 = .ok (.aload_n 0, 1) := by decide +kernel
theorem dX8_home_19 : decode cX8_home 19 = .ok (.invokevirtual 228, 3) := by decide +kernel
theorem dX8_home_22 : decode cX8_home 22 = .ok (.istore_n 2, 1) := by decide +kernel
theorem dX8_home_23 : decode cX8_home 23 = .ok (.iload_n 2, 1) := by decide +kernel
theorem dX8_home_24 : decode cX8_home 24 = .ok (.ifCond .lt 20, 3) := by decide +kernel
theorem dX8_home_27 : decode cX8_home 27 = .ok (.aload_n 0, 1) := by decide +kernel
theorem dX8_home_28 : decode cX8_home 28 = .ok (.iload_n 2, 1) := by decide +kernel
theorem dX8_home_29 : decode cX8_home 29 = .ok (.invokevirtual 231, 3) := by decide +kernel
theorem dX8_home_32 : decode cX8_home 32 = .ok (.pop, 1) := by decide +kernel
theorem dX8_home_33 : decode cX8_home 33 = .ok (.iinc 1 1, 3) := by decide +kernel
theorem dX8_home_36 : decode cX8_home 36 = .ok (.aload_n 0, 1) := by decide +kernel
theorem dX8_home_37 : decode cX8_home 37 = .ok (.invokevirtual 228, 3) := by decide +kernel
theorem dX8_home_40 : decode cX8_home 40 = .ok (.istore_n 2, 1) := by decide +kernel
theorem dX8_home_41 : decode cX8_home 41 = .ok (.goto (-18), 3) := by decide +kernel
theorem dX8_home_44 : decode cX8_home 44 = .ok (.iload_n 1, 1) := by decide +kernel
theorem dX8_home_45 : decode cX8_home 45 = .ok (.ireturn, 1) := by decide +kernel
set_option maxRecDepth 20000 in
theorem ggX8_homeBow_X8_finding : GoodIn wsX8_homeBow wsX8_finding := goodIn_r _ [7, 8, 1, 88, 89, 90, 91, 92, 93, 94, 95, 96, 97, 98, 99, 100, 101, 102, 103, 104, 105, 106, 107, 108, 109, 110, 111, 112, 113, 114, 115, 116, 117, 118, 119] (by decide +kernel) (by decide +kernel)
set_option maxRecDepth 20000 in
theorem gX8_homeBow_X8_finding : GoodIn wsX8_homeBow (wsV RX8 86 RX8 yX8_finding wsX8_finding) := goodIn_app (goodIn_of _ (by decide +kernel)) ggX8_homeBow_X8_finding
set_option maxRecDepth 20000 in
theorem ggX8_homeBow_X8_goesLikeliest : GoodIn wsX8_homeBow wsX8_goesLikeliest := goodIn_r _ [12, 13, 14, 15, 6, 16, 17, 18, 19, 20, 21, 22, 23, 24, 25, 26, 27, 28, 29, 30, 31, 32, 33, 34, 35, 36, 37, 38, 39, 40, 41, 42, 43, 44, 45, 46, 47, 48, 49, 50, 51, 52, 53, 54, 55, 56, 57, 58, 59, 60, 61, 62, 63, 64, 65, 66, 67, 68, 69, 70, 71, 72, 73, 74, 75, 88, 89, 90, 91, 92, 93, 94, 95, 96, 97, 98, 99, 100, 101, 102, 103, 104, 105, 106, 107, 108, 109, 110, 111, 112, 113, 114, 115, 116, 117, 118, 119] (by decide +kernel) (by decide +kernel)
set_option maxRecDepth 20000 in
theorem gX8_homeBow_X8_goesLikeliest : GoodIn wsX8_homeBow (wsV RX8 225 RX8 yX8_goesLikeliest wsX8_goesLikeliest) := goodIn_app (goodIn_of _ (by decide +kernel)) ggX8_homeBow_X8_goesLikeliest
set_option maxRecDepth 20000 in
theorem ggX8_homeBow_X8_notHome : GoodIn wsX8_homeBow wsX8_notHome := goodIn_r _ [79, 22, 47, 88, 89, 90, 91, 92, 93, 94, 95, 96, 97, 98, 99, 100, 101, 102, 103, 104, 105, 106, 107, 108, 109, 110, 111, 112, 113, 114, 115, 116, 117, 118, 119] (by decide +kernel) (by decide +kernel)
set_option maxRecDepth 20000 in
theorem gX8_homeBow_X8_notHome : GoodIn wsX8_homeBow (wsV RX8 228 RX8 yX8_notHome wsX8_notHome) := goodIn_app (goodIn_of _ (by decide +kernel)) ggX8_homeBow_X8_notHome
set_option maxRecDepth 20000 in
theorem ggX8_homeBow_X8_bowsHome : GoodIn wsX8_homeBow wsX8_bowsHome := goodIn_r _ [83, 57, 58, 59, 60, 61, 62, 63, 84, 85, 86, 6, 87, 47, 53, 54, 55, 56, 42, 48, 88, 89, 90, 91, 92, 93, 94, 95, 96, 97, 98, 99, 100, 101, 102, 103, 104, 105, 106, 107, 108, 109, 110, 111, 112, 113, 114, 115, 116, 117, 118, 119] (by decide +kernel) (by decide +kernel)
set_option maxRecDepth 20000 in
theorem gX8_homeBow_X8_bowsHome : GoodIn wsX8_homeBow (wsV RX8 231 RX8 yX8_bowsHome wsX8_bowsHome) := goodIn_app (goodIn_of _ (by decide +kernel)) ggX8_homeBow_X8_bowsHome
theorem dX8_homeBow_0 : decode cX8_homeBow 0 = .ok (.iload_n 1, 1) := by decide +kernel
theorem dX8_homeBow_1 : decode cX8_homeBow 1 = .ok (.ifCond .ge 10, 3) := by decide +kernel
theorem dX8_homeBow_4 : decode cX8_homeBow 4 = .ok (.aload_n 0, 1) := by decide +kernel
theorem dX8_homeBow_5 : decode cX8_homeBow 5 = .ok (.ldc 77, 2) := by decide +kernel
theorem dX8_homeBow_7 : decode cX8_homeBow 7 = .ok (.invokevirtual 86, 3) := by decide +kernel
theorem dX8_homeBow_10 : decode cX8_homeBow 10 = .ok (.ireturn, 1) := by decide +kernel
theorem dX8_homeBow_11 : decode cX8_homeBow 11 = .ok (.aload_n 0, 1) := by decide +kernel
theorem dX8_homeBow_12 : decode cX8_homeBow 12 = .ok (.bipush 99, 2) := by decide +kernel
theorem dX8_homeBow_14 : decode cX8_homeBow 14 = .ok (.invokevirtual 225, 3) := by decide +kernel
theorem dX8_homeBow_17 : decode cX8_homeBow 17 = .ok (.ifCond .ne 10, 3) := by decide +kernel
theorem dX8_homeBow_20 : decode cX8_homeBow 20 = .ok (.aload_n 0, 1) := by decide +kernel
theorem dX8_homeBow_21 : decode cX8_homeBow 21 = .ok (.ldc 179, 2) := by decide +kernel
theorem dX8_homeBow_23 : decode cX8_homeBow 23 = .ok (.invokevirtual 86, 3) := by decide +kernel
theorem dX8_homeBow_26 : decode cX8_homeBow 26 = .ok (.ireturn, 1) := by decide +kernel
theorem dX8_homeBow_27 : decode cX8_homeBow 27 = .ok (.iconst 0, 1) := by decide +kernel
theorem dX8_homeBow_28 : decode cX8_homeBow 28 = .ok (.istore_n 2, 1) := by decide +kernel
theorem dX8_homeBow_29 : decode cX8_homeBow 29 = .ok (.aload_n 0, 1) := by decide +kernel
theorem dX8_homeBow_30 : decode cX8_homeBow 30 = .ok (.invokevirtual 228, 3) := by decide +kernel
theorem dX8_homeBow_33 : decode cX8_homeBow 33 = .ok (.istore_n 3, 1) := by decide +kernel
theorem dX8_homeBow_34 : decode cX8_homeBow 34 = .ok (.iload_n 3, 1) := by decide +kernel
theorem dX8_homeBow_35 : decode cX8_homeBow 35 = .ok (.ifCond .lt 29, 3) := by decide +kernel
theorem dX8_homeBow_38 : decode cX8_homeBow 38 = .ok (.aload_n 0, 1) := by decide +kernel
theorem dX8_homeBow_39 : decode cX8_homeBow 39 = .ok (.iload_n 3, 1) := by decide +kernel
theorem dX8_homeBow_40 : decode cX8_homeBow 40 = .ok (.invokevirtual 231, 3) := by decide +kernel
theorem dX8_homeBow_43 : decode cX8_homeBow 43 = .ok (.istore 4, 2) := by decide +kernel
theorem dX8_homeBow_45 : decode cX8_homeBow 45 = .ok (.iload_n 2, 1) := by decide +kernel
theorem dX8_homeBow_46 : decode cX8_homeBow 46 = .ok (.iload_n 1, 1) := by decide +kernel
theorem dX8_homeBow_47 : decode cX8_homeBow 47 = .ok (.if_icmp .ne 6, 3) := by decide +kernel
theorem dX8_homeBow_50 : decode cX8_homeBow 50 = .ok (.iload 4, 2) := by decide +kernel
theorem dX8_homeBow_52 : decode cX8_homeBow 52 = .ok (.ireturn, 1) := by decide +kernel
theorem dX8_homeBow_53 : decode cX8_homeBow 53 = .ok (.iinc 2 1, 3) := by decide +kernel
theorem dX8_homeBow_56 : decode cX8_homeBow 56 = .ok (.aload_n 0, 1) := by decide +kernel
theorem dX8_homeBow_57 : decode cX8_homeBow 57 = .ok (.invokevirtual 228, 3) := by decide +kernel
theorem dX8_homeBow_60 : decode cX8_homeBow 60 = .ok (.istore_n 3, 1) := by decide +kernel
theorem dX8_homeBow_61 : decode cX8_homeBow 61 = .ok (.goto (-27), 3) := by decide +kernel
theorem dX8_homeBow_64 : decode cX8_homeBow 64 = .ok (.aload_n 0, 1) := by decide +kernel
theorem dX8_homeBow_65 : decode cX8_homeBow 65 = .ok (.ldc 179, 2) := by decide +kernel
theorem dX8_homeBow_67 : decode cX8_homeBow 67 = .ok (.invokevirtual 86, 3) := by decide +kernel
theorem dX8_homeBow_70 : decode cX8_homeBow 70 = .ok (.ireturn, 1) := by decide +kernel
set_option maxRecDepth 20000 in
theorem ggX8_atHome_X8_isHour : GoodIn wsX8_atHome wsX8_isHour := goodIn_r _ [8, 9, 10, 7, 11] (by decide +kernel) (by decide +kernel)
set_option maxRecDepth 20000 in
theorem gX8_atHome_X8_isHour : GoodIn wsX8_atHome (va_wsS RX8 98 yX8_isHour wsX8_isHour) := goodIn_app (goodIn_of _ (by decide +kernel)) ggX8_atHome_X8_isHour
set_option maxRecDepth 20000 in
theorem ggX8_atHome_X8_finding : GoodIn wsX8_atHome wsX8_finding := goodIn_r _ [15, 16, 1, 82, 83, 84, 85, 86, 87, 88, 89, 90, 91, 92, 93, 94, 95, 96, 97, 98, 99, 100, 101, 102, 103, 104, 105, 106, 107, 108, 109, 110, 111, 112, 113] (by decide +kernel) (by decide +kernel)
set_option maxRecDepth 20000 in
theorem gX8_atHome_X8_finding : GoodIn wsX8_atHome (wsV RX8 86 RX8 yX8_finding wsX8_finding) := goodIn_app (goodIn_of _ (by decide +kernel)) ggX8_atHome_X8_finding
set_option maxRecDepth 20000 in
theorem ggX8_atHome_X8_goesLikeliest : GoodIn wsX8_atHome wsX8_goesLikeliest := goodIn_r _ [20, 21, 22, 23, 7, 24, 25, 26, 27, 28, 29, 3, 30, 31, 32, 33, 34, 35, 36, 37, 38, 39, 40, 41, 42, 43, 44, 45, 46, 47, 48, 49, 50, 51, 52, 53, 4, 54, 55, 56, 57, 58, 59, 60, 61, 62, 63, 64, 65, 66, 67, 68, 69, 70, 71, 72, 73, 74, 75, 76, 77, 78, 79, 80, 81, 82, 83, 84, 85, 86, 87, 88, 89, 90, 91, 92, 93, 94, 95, 96, 97, 98, 99, 100, 101, 102, 103, 104, 105, 106, 107, 108, 109, 110, 111, 112, 113] (by decide +kernel) (by decide +kernel)
set_option maxRecDepth 20000 in
theorem gX8_atHome_X8_goesLikeliest : GoodIn wsX8_atHome (wsV RX8 225 RX8 yX8_goesLikeliest wsX8_goesLikeliest) := goodIn_app (goodIn_of _ (by decide +kernel)) ggX8_atHome_X8_goesLikeliest
theorem dX8_atHome_0 : decode cX8_atHome 0 = .ok (.iload_n 1, 1) := by decide +kernel
theorem dX8_atHome_1 : decode cX8_atHome 1 = .ok (.invokestatic 98, 3) := by decide +kernel
theorem dX8_atHome_4 : decode cX8_atHome 4 = .ok (.ifCond .ne 10, 3) := by decide +kernel
theorem dX8_atHome_7 : decode cX8_atHome 7 = .ok (.aload_n 0, 1) := by decide +kernel
theorem dX8_atHome_8 : decode cX8_atHome 8 = .ok (.ldc 77, 2) := by decide +kernel
theorem dX8_atHome_10 : decode cX8_atHome 10 = .ok (.invokevirtual 86, 3) := by decide +kernel
theorem dX8_atHome_13 : decode cX8_atHome 13 = .ok (.ireturn, 1) := by decide +kernel
theorem dX8_atHome_14 : decode cX8_atHome 14 = .ok (.aload_n 0, 1) := by decide +kernel
theorem dX8_atHome_15 : decode cX8_atHome 15 = .ok (.iload_n 1, 1) := by decide +kernel
theorem dX8_atHome_16 : decode cX8_atHome 16 = .ok (.invokevirtual 225, 3) := by decide +kernel
theorem dX8_atHome_19 : decode cX8_atHome 19 = .ok (.ifCond .ne 10, 3) := by decide +kernel
theorem dX8_atHome_22 : decode cX8_atHome 22 = .ok (.aload_n 0, 1) := by decide +kernel
theorem dX8_atHome_23 : decode cX8_atHome 23 = .ok (.ldc 179, 2) := by decide +kernel
theorem dX8_atHome_25 : decode cX8_atHome 25 = .ok (.invokevirtual 86, 3) := by decide +kernel
theorem dX8_atHome_28 : decode cX8_atHome 28 = .ok (.ireturn, 1) := by decide +kernel
theorem dX8_atHome_29 : decode cX8_atHome 29 = .ok (.iconst 0, 1) := by decide +kernel
theorem dX8_atHome_30 : decode cX8_atHome 30 = .ok (.istore_n 2, 1) := by decide +kernel
theorem dX8_atHome_31 : decode cX8_atHome 31 = .ok (.iconst 0, 1) := by decide +kernel
theorem dX8_atHome_32 : decode cX8_atHome 32 = .ok (.istore_n 3, 1) := by decide +kernel
theorem dX8_atHome_33 : decode cX8_atHome 33 = .ok (.iload_n 3, 1) := by decide +kernel
theorem dX8_atHome_34 : decode cX8_atHome 34 = .ok (.aload_n 0, 1) := by decide +kernel
theorem dX8_atHome_35 : decode cX8_atHome 35 = .ok (.getfield 9, 3) := by decide +kernel
theorem dX8_atHome_38 : decode cX8_atHome 38 = .ok (.iconst 0, 1) := by decide +kernel
theorem dX8_atHome_39 : decode cX8_atHome 39 = .ok (.iaload, 1) := by decide +kernel
theorem dX8_atHome_40 : decode cX8_atHome 40 = .ok (.if_icmp .ge 29, 3) := by decide +kernel
theorem dX8_atHome_43 : decode cX8_atHome 43 = .ok (.iload_n 2, 1) := by decide +kernel
theorem dX8_atHome_44 : decode cX8_atHome 44 = .ok (.aload_n 0, 1) := by decide +kernel
theorem dX8_atHome_45 : decode cX8_atHome 45 = .ok (.getfield 29, 3) := by decide +kernel
theorem dX8_atHome_48 : decode cX8_atHome 48 = .ok (.iload_n 3, 1) := by decide +kernel
theorem dX8_atHome_49 : decode cX8_atHome 49 = .ok (.iaload, 1) := by decide +kernel
theorem dX8_atHome_50 : decode cX8_atHome 50 = .ok (.iload_n 3, 1) := by decide +kernel
theorem dX8_atHome_51 : decode cX8_atHome 51 = .ok (.if_icmp .ne 9, 3) := by decide +kernel
theorem dX8_atHome_54 : decode cX8_atHome 54 = .ok (.iconst 1, 1) := by decide +kernel
theorem dX8_atHome_55 : decode cX8_atHome 55 = .ok (.iload_n 3, 1) := by decide +kernel
theorem dX8_atHome_56 : decode cX8_atHome 56 = .ok (.ishl, 1) := by decide +kernel
theorem dX8_atHome_57 : decode cX8_atHome 57 = .ok (.goto 4, 3) := by decide +kernel
theorem dX8_atHome_60 : decode cX8_atHome 60 = .ok (.iconst 0, 1) := by decide +kernel
theorem dX8_atHome_61 : decode cX8_atHome 61 = .ok (.ior, 1) := by decide +kernel
theorem dX8_atHome_62 : decode cX8_atHome 62 = .ok (.istore_n 2, 1) := by decide +kernel
theorem dX8_atHome_63 : decode cX8_atHome 63 = .ok (.iinc 3 1, 3) := by decide +kernel
theorem dX8_atHome_66 : decode cX8_atHome 66 = .ok (.goto (-33), 3) := by decide +kernel
theorem dX8_atHome_69 : decode cX8_atHome 69 = .ok (.iload_n 2, 1) := by decide +kernel
theorem dX8_atHome_70 : decode cX8_atHome 70 = .ok (.ireturn, 1) := by decide +kernel
set_option maxRecDepth 20000 in
theorem ggX8_since_X8_isOne : GoodIn wsX8_since wsX8_isOne := goodIn_r _ [8, 9, 10, 11, 7, 12, 79, 80, 81, 82, 83, 84, 85, 86, 87, 88, 89, 90, 91, 92, 93, 94, 95, 96, 97, 98, 99, 100, 101, 102, 103, 104, 105, 106, 107, 108, 109, 110] (by decide +kernel) (by decide +kernel)
set_option maxRecDepth 20000 in
theorem gX8_since_X8_isOne : GoodIn wsX8_since (wsV RX8 82 RX8 yX8_isOne wsX8_isOne) := goodIn_app (goodIn_of _ (by decide +kernel)) ggX8_since_X8_isOne
set_option maxRecDepth 20000 in
theorem ggX8_since_X8_finding : GoodIn wsX8_since wsX8_finding := goodIn_r _ [16, 17, 1, 79, 80, 81, 82, 83, 84, 85, 86, 87, 88, 89, 90, 91, 92, 93, 94, 95, 96, 97, 98, 99, 100, 101, 102, 103, 104, 105, 106, 107, 108, 109, 110] (by decide +kernel) (by decide +kernel)
set_option maxRecDepth 20000 in
theorem gX8_since_X8_finding : GoodIn wsX8_since (wsV RX8 86 RX8 yX8_finding wsX8_finding) := goodIn_app (goodIn_of _ (by decide +kernel)) ggX8_since_X8_finding
set_option maxRecDepth 20000 in
theorem ggX8_since_X8_bestNight : GoodIn wsX8_since wsX8_bestNight := goodIn_r _ [21, 22, 23, 24, 25, 7, 26, 9, 27, 28, 29, 30, 31, 32, 33, 34, 35, 36, 37, 38, 39, 40, 41, 42, 43, 44, 45, 46, 47, 48, 49, 50, 2, 51, 52, 53, 54, 55, 56, 57, 58, 59, 60, 61, 62, 63, 64, 65, 66, 67, 68, 69, 70, 71, 72, 73, 74, 75, 76, 77, 78, 79, 80, 81, 82, 83, 84, 85, 86, 87, 88, 89, 90, 91, 92, 93, 94, 95, 96, 97, 98, 99, 100, 101, 102, 103, 104, 105, 106, 107, 108, 109, 110] (by decide +kernel) (by decide +kernel)
set_option maxRecDepth 20000 in
theorem gX8_since_X8_bestNight : GoodIn wsX8_since (wsV RX8 176 RX8 yX8_bestNight wsX8_bestNight) := goodIn_app (goodIn_of _ (by decide +kernel)) ggX8_since_X8_bestNight
set_option maxRecDepth 20000 in
theorem ggX8_since_X8_goes : GoodIn wsX8_since wsX8_goes := goodIn_r _ [50, 2, 51, 46, 9, 33, 34, 35, 36, 7, 37, 52, 53, 54, 55, 31, 32, 56, 57, 58, 59, 60, 61, 62, 63, 64, 65, 66, 79, 80, 81, 82, 83, 84, 85, 86, 87, 88, 89, 90, 91, 92, 93, 94, 95, 96, 97, 98, 99, 100, 101, 102, 103, 104, 105, 106, 107, 108, 109, 110] (by decide +kernel) (by decide +kernel)
set_option maxRecDepth 20000 in
theorem gX8_since_X8_goes : GoodIn wsX8_since (wsV RX8 153 RX8 yX8_goes wsX8_goes) := goodIn_app (goodIn_of _ (by decide +kernel)) ggX8_since_X8_goes
theorem dX8_since_0 : decode cX8_since 0 = .ok (.aload_n 0, 1) := by decide +kernel
theorem dX8_since_1 : decode cX8_since 1 = .ok (.iload_n 1, 1) := by decide +kernel
theorem dX8_since_2 : decode cX8_since 2 = .ok (.invokevirtual 82, 3) := by decide +kernel
theorem dX8_since_5 : decode cX8_since 5 = .ok (.ifCond .ne 10, 3) := by decide +kernel
theorem dX8_since_8 : decode cX8_since 8 = .ok (.aload_n 0, 1) := by decide +kernel
theorem dX8_since_9 : decode cX8_since 9 = .ok (.ldc 77, 2) := by decide +kernel
theorem dX8_since_11 : decode cX8_since 11 = .ok (.invokevirtual 86, 3) := by decide +kernel
theorem dX8_since_14 : decode cX8_since 14 = .ok (.ireturn, 1) := by decide +kernel
theorem dX8_since_15 : decode cX8_since 15 = .ok (.aload_n 0, 1) := by decide +kernel
theorem dX8_since_16 : decode cX8_since 16 = .ok (.invokevirtual 176, 3) := by decide +kernel
theorem dX8_since_19 : decode cX8_since 19 = .ok (.istore_n 2, 1) := by decide +kernel
theorem dX8_since_20 : decode cX8_since 20 = .ok (.bipush 100, 2) := by decide +kernel
theorem dX8_since_22 : decode cX8_since 22 = .ok (.istore_n 3, 1) := by decide +kernel
theorem dX8_since_23 : decode cX8_since 23 = .ok (.iload_n 2, 1) := by decide +kernel
theorem dX8_since_24 : decode cX8_since 24 = .ok (.ifCond .lt 7, 3) := by decide +kernel
theorem dX8_since_27 : decode cX8_since 27 = .ok (.iconst 1, 1) := by decide +kernel
theorem dX8_since_28 : decode cX8_since 28 = .ok (.goto 4, 3) := by decide +kernel
theorem dX8_since_31 : decode cX8_since 31 = .ok (.iconst 0, 1) := by decide +kernel
theorem dX8_since_32 : decode cX8_since 32 = .ok (.istore 4, 2) := by decide +kernel
theorem dX8_since_34 : decode cX8_since 34 = .ok (.bipush 99, 2) := by decide +kernel
theorem dX8_since_36 : decode cX8_since 36 = .ok (.istore 5, 2) := by decide +kernel
theorem dX8_since_38 : decode cX8_since 38 = .ok (.iload 5, 2) := by decide +kernel
theorem dX8_since_40 : decode cX8_since 40 = .ok (.ifCond .lt 50, 3) := by decide +kernel
theorem dX8_since_43 : decode cX8_since 43 = .ok (.iload 4, 2) := by decide +kernel
theorem dX8_since_45 : decode cX8_since 45 = .ok (.ifCond .eq 45, 3) := by decide +kernel
theorem dX8_since_48 : decode cX8_since 48 = .ok (.aload_n 0, 1) := by decide +kernel
theorem dX8_since_49 : decode cX8_since 49 = .ok (.iload_n 2, 1) := by decide +kernel
theorem dX8_since_50 : decode cX8_since 50 = .ok (.iload 5, 2) := by decide +kernel
theorem dX8_since_52 : decode cX8_since 52 = .ok (.invokevirtual 153, 3) := by decide +kernel
theorem dX8_since_55 : decode cX8_since 55 = .ok (.aload_n 0, 1) := by decide +kernel
theorem dX8_since_56 : decode cX8_since 56 = .ok (.getfield 29, 3) := by decide +kernel
theorem dX8_since_59 : decode cX8_since 59 = .ok (.iload_n 1, 1) := by decide +kernel
theorem dX8_since_60 : decode cX8_since 60 = .ok (.iaload, 1) := by decide +kernel
theorem dX8_since_61 : decode cX8_since 61 = .ok (.iload_n 1, 1) := by decide +kernel
theorem dX8_since_62 : decode cX8_since 62 = .ok (.if_icmp .ne 7, 3) := by decide +kernel
theorem dX8_since_65 : decode cX8_since 65 = .ok (.iconst 1, 1) := by decide +kernel
theorem dX8_since_66 : decode cX8_since 66 = .ok (.goto 4, 3) := by decide +kernel
theorem dX8_since_69 : decode cX8_since 69 = .ok (.iconst 0, 1) := by decide +kernel
theorem dX8_since_70 : decode cX8_since 70 = .ok (.istore 4, 2) := by decide +kernel
theorem dX8_since_72 : decode cX8_since 72 = .ok (.iload 4, 2) := by decide +kernel
theorem dX8_since_74 : decode cX8_since 74 = .ok (.ifCond .eq 8, 3) := by decide +kernel
theorem dX8_since_77 : decode cX8_since 77 = .ok (.iload 5, 2) := by decide +kernel
theorem dX8_since_79 : decode cX8_since 79 = .ok (.goto 4, 3) := by decide +kernel
theorem dX8_since_82 : decode cX8_since 82 = .ok (.iload_n 3, 1) := by decide +kernel
theorem dX8_since_83 : decode cX8_since 83 = .ok (.istore_n 3, 1) := by decide +kernel
theorem dX8_since_84 : decode cX8_since 84 = .ok (.iinc 5 (-1), 3) := by decide +kernel
theorem dX8_since_87 : decode cX8_since 87 = .ok (.goto (-49), 3) := by decide +kernel
theorem dX8_since_90 : decode cX8_since 90 = .ok (.iload_n 3, 1) := by decide +kernel
theorem dX8_since_91 : decode cX8_since 91 = .ok (.bipush 99, 2) := by decide +kernel
theorem dX8_since_93 : decode cX8_since 93 = .ok (.if_icmp .le 12, 3) := by decide +kernel
theorem dX8_since_96 : decode cX8_since 96 = .ok (.aload_n 0, 1) := by decide +kernel
theorem dX8_since_97 : decode cX8_since 97 = .ok (.ldc 179, 2) := by decide +kernel
theorem dX8_since_99 : decode cX8_since 99 = .ok (.invokevirtual 86, 3) := by decide +kernel
theorem dX8_since_102 : decode cX8_since 102 = .ok (.goto 4, 3) := by decide +kernel
theorem dX8_since_105 : decode cX8_since 105 = .ok (.iload_n 3, 1) := by decide +kernel
theorem dX8_since_106 : decode cX8_since 106 = .ok (.ireturn, 1) := by decide +kernel
set_option maxRecDepth 20000 in
theorem ggX8_feed_X8_within : GoodIn wsX8_feed wsX8_within := goodIn_r _ [8] (by decide +kernel) (by decide +kernel)
set_option maxRecDepth 20000 in
theorem gX8_feed_X8_within : GoodIn wsX8_feed (va_wsS RX8 78 yX8_within wsX8_within) := goodIn_app (goodIn_of _ (by decide +kernel)) ggX8_feed_X8_within
set_option maxRecDepth 20000 in
theorem ggX8_feed_X8_finding : GoodIn wsX8_feed wsX8_finding := goodIn_r _ [12, 13, 1, 14, 15, 16, 17, 18, 19, 20, 21, 22, 23, 24, 25, 26, 27, 28, 29, 30, 31, 32, 33, 34, 35, 36, 37, 38, 39, 40, 41, 42, 43, 44, 45] (by decide +kernel) (by decide +kernel)
set_option maxRecDepth 20000 in
theorem gX8_feed_X8_finding : GoodIn wsX8_feed (wsV RX8 86 RX8 yX8_finding wsX8_finding) := goodIn_app (goodIn_of _ (by decide +kernel)) ggX8_feed_X8_finding
theorem dX8_feed_0 : decode cX8_feed 0 = .ok (.iload_n 2, 1) := by decide +kernel
theorem dX8_feed_1 : decode cX8_feed 1 = .ok (.iconst 1, 1) := by decide +kernel
theorem dX8_feed_2 : decode cX8_feed 2 = .ok (.iconst 4, 1) := by decide +kernel
theorem dX8_feed_3 : decode cX8_feed 3 = .ok (.invokestatic 78, 3) := by decide +kernel
theorem dX8_feed_6 : decode cX8_feed 6 = .ok (.ifCond .ne 10, 3) := by decide +kernel
theorem dX8_feed_9 : decode cX8_feed 9 = .ok (.aload_n 0, 1) := by decide +kernel
theorem dX8_feed_10 : decode cX8_feed 10 = .ok (.ldc 77, 2) := by decide +kernel
theorem dX8_feed_12 : decode cX8_feed 12 = .ok (.invokevirtual 86, 3) := by decide +kernel
theorem dX8_feed_15 : decode cX8_feed 15 = .ok (.ireturn, 1) := by decide +kernel
theorem dX8_feed_16 : decode cX8_feed 16 = .ok (.aload_n 0, 1) := by decide +kernel
theorem dX8_feed_17 : decode cX8_feed 17 = .ok (.getfield 234, 3) := by decide +kernel
theorem dX8_feed_20 : decode cX8_feed 20 = .ok (.iload_n 2, 1) := by decide +kernel
theorem dX8_feed_21 : decode cX8_feed 21 = .ok (.iadd, 1) := by decide +kernel
theorem dX8_feed_22 : decode cX8_feed 22 = .ok (.bipush 120, 2) := by decide +kernel
theorem dX8_feed_24 : decode cX8_feed 24 = .ok (.if_icmp .le 10, 3) := by decide +kernel
theorem dX8_feed_27 : decode cX8_feed 27 = .ok (.aload_n 0, 1) := by decide +kernel
theorem dX8_feed_28 : decode cX8_feed 28 = .ok (.ldc 109, 2) := by decide +kernel
theorem dX8_feed_30 : decode cX8_feed 30 = .ok (.invokevirtual 86, 3) := by decide +kernel
theorem dX8_feed_33 : decode cX8_feed 33 = .ok (.ireturn, 1) := by decide +kernel
theorem dX8_feed_34 : decode cX8_feed 34 = .ok (.iload_n 2, 1) := by decide +kernel
theorem dX8_feed_35 : decode cX8_feed 35 = .ok (.iconst 1, 1) := by decide +kernel
theorem dX8_feed_36 : decode cX8_feed 36 = .ok (.isub, 1) := by decide +kernel
theorem dX8_feed_37 : decode cX8_feed 37 = .ok (.istore_n 3, 1) := by decide +kernel
theorem dX8_feed_38 : decode cX8_feed 38 = .ok (.iload_n 3, 1) := by decide +kernel
theorem dX8_feed_39 : decode cX8_feed 39 = .ok (.ifCond .lt 38, 3) := by decide +kernel
theorem dX8_feed_42 : decode cX8_feed 42 = .ok (.aload_n 0, 1) := by decide +kernel
theorem dX8_feed_43 : decode cX8_feed 43 = .ok (.getfield 41, 3) := by decide +kernel
theorem dX8_feed_46 : decode cX8_feed 46 = .ok (.aload_n 0, 1) := by decide +kernel
theorem dX8_feed_47 : decode cX8_feed 47 = .ok (.getfield 234, 3) := by decide +kernel
theorem dX8_feed_50 : decode cX8_feed 50 = .ok (.iload_n 1, 1) := by decide +kernel
theorem dX8_feed_51 : decode cX8_feed 51 = .ok (.bipush 8, 2) := by decide +kernel
theorem dX8_feed_53 : decode cX8_feed 53 = .ok (.iload_n 3, 1) := by decide +kernel
theorem dX8_feed_54 : decode cX8_feed 54 = .ok (.imul, 1) := by decide +kernel
theorem dX8_feed_55 : decode cX8_feed 55 = .ok (.ishr, 1) := by decide +kernel
theorem dX8_feed_56 : decode cX8_feed 56 = .ok (.sipush 255, 3) := by decide +kernel
theorem dX8_feed_59 : decode cX8_feed 59 = .ok (.iand, 1) := by decide +kernel
theorem dX8_feed_60 : decode cX8_feed 60 = .ok (.iastore, 1) := by decide +kernel
theorem dX8_feed_61 : decode cX8_feed 61 = .ok (.aload_n 0, 1) := by decide +kernel
theorem dX8_feed_62 : decode cX8_feed 62 = .ok (.dup, 1) := by decide +kernel
theorem dX8_feed_63 : decode cX8_feed 63 = .ok (.getfield 234, 3) := by decide +kernel
theorem dX8_feed_66 : decode cX8_feed 66 = .ok (.iconst 1, 1) := by decide +kernel
theorem dX8_feed_67 : decode cX8_feed 67 = .ok (.iadd, 1) := by decide +kernel
theorem dX8_feed_68 : decode cX8_feed 68 = .ok (.putfield 234, 3) := by decide +kernel
theorem dX8_feed_71 : decode cX8_feed 71 = .ok (.iinc 3 (-1), 3) := by decide +kernel
theorem dX8_feed_74 : decode cX8_feed 74 = .ok (.goto (-36), 3) := by decide +kernel
theorem dX8_feed_77 : decode cX8_feed 77 = .ok (.aload_n 0, 1) := by decide +kernel
theorem dX8_feed_78 : decode cX8_feed 78 = .ok (.getfield 234, 3) := by decide +kernel
theorem dX8_feed_81 : decode cX8_feed 81 = .ok (.ireturn, 1) := by decide +kernel
theorem dX8_wipe_0 : decode cX8_wipe 0 = .ok (.aload_n 0, 1) := by decide +kernel
theorem dX8_wipe_1 : decode cX8_wipe 1 = .ok (.getfield 234, 3) := by decide +kernel
theorem dX8_wipe_4 : decode cX8_wipe 4 = .ok (.istore_n 1, 1) := by decide +kernel
theorem dX8_wipe_5 : decode cX8_wipe 5 = .ok (.aload_n 0, 1) := by decide +kernel
theorem dX8_wipe_6 : decode cX8_wipe 6 = .ok (.iconst 0, 1) := by decide +kernel
theorem dX8_wipe_7 : decode cX8_wipe 7 = .ok (.putfield 234, 3) := by decide +kernel
theorem dX8_wipe_10 : decode cX8_wipe 10 = .ok (.iload_n 1, 1) := by decide +kernel
theorem dX8_wipe_11 : decode cX8_wipe 11 = .ok (.ireturn, 1) := by decide +kernel
theorem dX8_byteAt_0 : decode cX8_byteAt 0 = .ok (.iload_n 1, 1) := by decide +kernel
theorem dX8_byteAt_1 : decode cX8_byteAt 1 = .ok (.aload_n 0, 1) := by decide +kernel
theorem dX8_byteAt_2 : decode cX8_byteAt 2 = .ok (.getfield 234, 3) := by decide +kernel
theorem dX8_byteAt_5 : decode cX8_byteAt 5 = .ok (.if_icmp .ge 12, 3) := by decide +kernel
theorem dX8_byteAt_8 : decode cX8_byteAt 8 = .ok (.aload_n 0, 1) := by decide +kernel
theorem dX8_byteAt_9 : decode cX8_byteAt 9 = .ok (.getfield 41, 3) := by decide +kernel
theorem dX8_byteAt_12 : decode cX8_byteAt 12 = .ok (.iload_n 1, 1) := by decide +kernel
theorem dX8_byteAt_13 : decode cX8_byteAt 13 = .ok (.iaload, 1) := by decide +kernel
theorem dX8_byteAt_14 : decode cX8_byteAt 14 = .ok (.goto 4, 3) := by decide +kernel
theorem dX8_byteAt_17 : decode cX8_byteAt 17 = .ok (.iconst (-1), 1) := by decide +kernel
theorem dX8_byteAt_18 : decode cX8_byteAt 18 = .ok (.ireturn, 1) := by decide +kernel
set_option maxRecDepth 20000 in
theorem ggX8_next_X8_byteAt : GoodIn wsX8_next wsX8_byteAt := goodIn_r _ [13, 14, 15, 19, 20, 21, 22, 23, 24, 25, 26, 27, 28, 29, 30, 31, 32, 33, 34, 35, 36, 37, 38, 39, 40, 41, 42, 43, 44, 45, 46, 47, 48, 49, 50] (by decide +kernel) (by decide +kernel)
set_option maxRecDepth 20000 in
theorem gX8_next_X8_byteAt : GoodIn wsX8_next (wsV RX8 243 RX8 yX8_byteAt wsX8_byteAt) := goodIn_app (goodIn_of _ (by decide +kernel)) ggX8_next_X8_byteAt
set_option maxRecDepth 20000 in
theorem ggX8_next_X8_within : GoodIn wsX8_next wsX8_within := goodIn_r _ [18] (by decide +kernel) (by decide +kernel)
set_option maxRecDepth 20000 in
theorem gX8_next_X8_within : GoodIn wsX8_next (va_wsS RX8 78 yX8_within wsX8_within) := goodIn_app (goodIn_of _ (by decide +kernel)) ggX8_next_X8_within
theorem dX8_next_0 : decode cX8_next 0 = .ok (.aload_n 0, 1) := by decide +kernel
theorem dX8_next_1 : decode cX8_next 1 = .ok (.aload_n 0, 1) := by decide +kernel
theorem dX8_next_2 : decode cX8_next 2 = .ok (.getfield 237, 3) := by decide +kernel
theorem dX8_next_5 : decode cX8_next 5 = .ok (.putfield 240, 3) := by decide +kernel
theorem dX8_next_8 : decode cX8_next 8 = .ok (.aload_n 0, 1) := by decide +kernel
theorem dX8_next_9 : decode cX8_next 9 = .ok (.aload_n 0, 1) := by decide +kernel
theorem dX8_next_10 : decode cX8_next 10 = .ok (.getfield 240, 3) := by decide +kernel
theorem dX8_next_13 : decode cX8_next 13 = .ok (.invokevirtual 243, 3) := by decide +kernel
theorem dX8_next_16 : decode cX8_next 16 = .ok (.bipush 32, 2) := by decide +kernel
theorem dX8_next_18 : decode cX8_next 18 = .ok (.if_icmp .ne 16, 3) := by decide +kernel
theorem dX8_next_21 : decode cX8_next 21 = .ok (.aload_n 0, 1) := by decide +kernel
theorem dX8_next_22 : decode cX8_next 22 = .ok (.dup, 1) := by decide +kernel
theorem dX8_next_23 : decode cX8_next 23 = .ok (.getfield 240, 3) := by decide +kernel
theorem dX8_next_26 : decode cX8_next 26 = .ok (.iconst 1, 1) := by decide +kernel
theorem dX8_next_27 : decode cX8_next 27 = .ok (.iadd, 1) := by decide +kernel
theorem dX8_next_28 : decode cX8_next 28 = .ok (.putfield 240, 3) := by decide +kernel
theorem dX8_next_31 : decode cX8_next 31 = .ok (.goto (-23), 3) := by decide +kernel
theorem dX8_next_34 : decode cX8_next 34 = .ok (.aload_n 0, 1) := by decide +kernel
theorem dX8_next_35 : decode cX8_next 35 = .ok (.aload_n 0, 1) := by decide +kernel
theorem dX8_next_36 : decode cX8_next 36 = .ok (.getfield 240, 3) := by decide +kernel
theorem dX8_next_39 : decode cX8_next 39 = .ok (.invokevirtual 243, 3) := by decide +kernel
theorem dX8_next_42 : decode cX8_next 42 = .ok (.istore_n 1, 1) := by decide +kernel
theorem dX8_next_43 : decode cX8_next 43 = .ok (.aload_n 0, 1) := by decide +kernel
theorem dX8_next_44 : decode cX8_next 44 = .ok (.aload_n 0, 1) := by decide +kernel
theorem dX8_next_45 : decode cX8_next 45 = .ok (.getfield 240, 3) := by decide +kernel
theorem dX8_next_48 : decode cX8_next 48 = .ok (.putfield 237, 3) := by decide +kernel
theorem dX8_next_51 : decode cX8_next 51 = .ok (.aload_n 0, 1) := by decide +kernel
theorem dX8_next_52 : decode cX8_next 52 = .ok (.iconst 0, 1) := by decide +kernel
theorem dX8_next_53 : decode cX8_next 53 = .ok (.putfield 246, 3) := by decide +kernel
theorem dX8_next_56 : decode cX8_next 56 = .ok (.iload_n 1, 1) := by decide +kernel
theorem dX8_next_57 : decode cX8_next 57 = .ok (.ifCond .ge 11, 3) := by decide +kernel
theorem dX8_next_60 : decode cX8_next 60 = .ok (.aload_n 0, 1) := by decide +kernel
theorem dX8_next_61 : decode cX8_next 61 = .ok (.iconst 0, 1) := by decide +kernel
theorem dX8_next_62 : decode cX8_next 62 = .ok (.putfield 249, 3) := by decide +kernel
theorem dX8_next_65 : decode cX8_next 65 = .ok (.goto 141, 3) := by decide +kernel
theorem dX8_next_68 : decode cX8_next 68 = .ok (.iload_n 1, 1) := by decide +kernel
theorem dX8_next_69 : decode cX8_next 69 = .ok (.bipush 97, 2) := by decide +kernel
theorem dX8_next_71 : decode cX8_next 71 = .ok (.bipush 122, 2) := by decide +kernel
theorem dX8_next_73 : decode cX8_next 73 = .ok (.invokestatic 78, 3) := by decide +kernel
theorem dX8_next_76 : decode cX8_next 76 = .ok (.ifCond .eq 39, 3) := by decide +kernel
theorem dX8_next_79 : decode cX8_next 79 = .ok (.aload_n 0, 1) := by decide +kernel
theorem dX8_next_80 : decode cX8_next 80 = .ok (.iconst 1, 1) := by decide +kernel
theorem dX8_next_81 : decode cX8_next 81 = .ok (.putfield 249, 3) := by decide +kernel
theorem dX8_next_84 : decode cX8_next 84 = .ok (.aload_n 0, 1) := by decide +kernel
theorem dX8_next_85 : decode cX8_next 85 = .ok (.aload_n 0, 1) := by decide +kernel
theorem dX8_next_86 : decode cX8_next 86 = .ok (.getfield 237, 3) := by decide +kernel
theorem dX8_next_89 : decode cX8_next 89 = .ok (.invokevirtual 243, 3) := by decide +kernel
theorem dX8_next_92 : decode cX8_next 92 = .ok (.bipush 97, 2) := by decide +kernel
theorem dX8_next_94 : decode cX8_next 94 = .ok (.bipush 122, 2) := by decide +kernel
theorem dX8_next_96 : decode cX8_next 96 = .ok (.invokestatic 78, 3) := by decide +kernel
theorem dX8_next_99 : decode cX8_next 99 = .ok (.ifCond .eq 107, 3) := by decide +kernel
theorem dX8_next_102 : decode cX8_next 102 = .ok (.aload_n 0, 1) := by decide +kernel
theorem dX8_next_103 : decode cX8_next 103 = .ok (.dup, 1) := by decide +kernel
theorem dX8_next_104 : decode cX8_next 104 = .ok (.getfield 237, 3) := by decide +kernel
theorem dX8_next_107 : decode cX8_next 107 = .ok (.iconst 1, 1) := by decide +kernel
theorem dX8_next_108 : decode cX8_next 108 = .ok (.iadd, 1) := by decide +kernel
theorem dX8_next_109 : decode cX8_next 109 = .ok (.putfield 237, 3) := by decide +kernel
theorem dX8_next_112 : decode cX8_next 112 = .ok (.goto (-28), 3) := by decide +kernel
theorem dX8_next_115 : decode cX8_next 115 = .ok (.iload_n 1, 1) := by decide +kernel
theorem dX8_next_116 : decode cX8_next 116 = .ok (.bipush 48, 2) := by decide +kernel
theorem dX8_next_118 : decode cX8_next 118 = .ok (.bipush 57, 2) := by decide +kernel
theorem dX8_next_120 : decode cX8_next 120 = .ok (.invokestatic 78, 3) := by decide +kernel
theorem dX8_next_123 : decode cX8_next 123 = .ok (.ifCond .eq 68, 3) := by decide +kernel
theorem dX8_next_126 : decode cX8_next 126 = .ok (.aload_n 0, 1) := by decide +kernel
theorem dX8_next_127 : decode cX8_next 127 = .ok (.iconst 2, 1) := by decide +kernel
theorem dX8_next_128 : decode cX8_next 128 = .ok (.putfield 249, 3) := by decide +kernel
theorem dX8_next_131 : decode cX8_next 131 = .ok (.aload_n 0, 1) := by decide +kernel
theorem dX8_next_132 : decode cX8_next 132 = .ok (.aload_n 0, 1) := by decide +kernel
theorem dX8_next_133 : decode cX8_next 133 = .ok (.getfield 237, 3) := by decide +kernel
theorem dX8_next_136 : decode cX8_next 136 = .ok (.invokevirtual 243, 3) := by decide +kernel
theorem dX8_next_139 : decode cX8_next 139 = .ok (.bipush 48, 2) := by decide +kernel
theorem dX8_next_141 : decode cX8_next 141 = .ok (.bipush 57, 2) := by decide +kernel
theorem dX8_next_143 : decode cX8_next 143 = .ok (.invokestatic 78, 3) := by decide +kernel
theorem dX8_next_146 : decode cX8_next 146 = .ok (.ifCond .eq 60, 3) := by decide +kernel
theorem dX8_next_149 : decode cX8_next 149 = .ok (.aload_n 0, 1) := by decide +kernel
theorem dX8_next_150 : decode cX8_next 150 = .ok (.sipush 10000, 3) := by decide +kernel
theorem dX8_next_153 : decode cX8_next 153 = .ok (.bipush 10, 2) := by decide +kernel
theorem dX8_next_155 : decode cX8_next 155 = .ok (.aload_n 0, 1) := by decide +kernel
theorem dX8_next_156 : decode cX8_next 156 = .ok (.getfield 246, 3) := by decide +kernel
theorem dX8_next_159 : decode cX8_next 159 = .ok (.imul, 1) := by decide +kernel
theorem dX8_next_160 : decode cX8_next 160 = .ok (.aload_n 0, 1) := by decide +kernel
theorem dX8_next_161 : decode cX8_next 161 = .ok (.aload_n 0, 1) := by decide +kernel
theorem dX8_next_162 : decode cX8_next 162 = .ok (.getfield 237, 3) := by decide +kernel
theorem dX8_next_165 : decode cX8_next 165 = .ok (.invokevirtual 243, 3) := by decide +kernel
theorem dX8_next_168 : decode cX8_next 168 = .ok (.iadd, 1) := by decide +kernel
theorem dX8_next_169 : decode cX8_next 169 = .ok (.bipush 48, 2) := by decide +kernel
theorem dX8_next_171 : decode cX8_next 171 = .ok (.isub, 1) := by decide +kernel
theorem dX8_next_172 : decode cX8_next 172 = .ok (.invokestatic 145, 3) := by decide +kernel
theorem dX8_next_175 : decode cX8_next 175 = .ok (.putfield 246, 3) := by decide +kernel
theorem dX8_next_178 : decode cX8_next 178 = .ok (.aload_n 0, 1) := by decide +kernel
theorem dX8_next_179 : decode cX8_next 179 = .ok (.dup, 1) := by decide +kernel
theorem dX8_next_180 : decode cX8_next 180 = .ok (.getfield 237, 3) := by decide +kernel
theorem dX8_next_183 : decode cX8_next 183 = .ok (.iconst 1, 1) := by decide +kernel
theorem dX8_next_184 : decode cX8_next 184 = .ok (.iadd, 1) := by decide +kernel
theorem dX8_next_185 : decode cX8_next 185 = .ok (.putfield 237, 3) := by decide +kernel
theorem dX8_next_188 : decode cX8_next 188 = .ok (.goto (-57), 3) := by decide +kernel
theorem dX8_next_191 : decode cX8_next 191 = .ok (.aload_n 0, 1) := by decide +kernel
theorem dX8_next_192 : decode cX8_next 192 = .ok (.iconst 3, 1) := by decide +kernel
theorem dX8_next_193 : decode cX8_next 193 = .ok (.putfield 249, 3) := by decide +kernel
theorem dX8_next_196 : decode cX8_next 196 = .ok (.aload_n 0, 1) := by decide +kernel
theorem dX8_next_197 : decode cX8_next 197 = .ok (.dup, 1) := by decide +kernel
theorem dX8_next_198 : decode cX8_next 198 = .ok (.getfield 237, 3) := by decide +kernel
theorem dX8_next_201 : decode cX8_next 201 = .ok (.iconst 1, 1) := by decide +kernel
theorem dX8_next_202 : decode cX8_next 202 = .ok (.iadd, 1) := by decide +kernel
theorem dX8_next_203 : decode cX8_next 203 = .ok (.putfield 237, 3) := by decide +kernel
theorem dX8_next_206 : decode cX8_next 206 = .ok (.return_, 1) := by decide +kernel
set_option maxRecDepth 20000 in
theorem ggX8_isWord_J0_length_8abf5 : GoodIn wsX8_isWord wsJ0_length_8abf5 := goodIn_r _ [9, 10, 11, 12, 13, 8, 14, 15, 16] (by decide +kernel) (by decide +kernel)
set_option maxRecDepth 20000 in
theorem gX8_isWord_J0_length_8abf5 : GoodIn wsX8_isWord (wsV RX8 252 RJ0 yJ0_length_8abf5 wsJ0_length_8abf5) := goodIn_app (goodIn_of _ (by decide +kernel)) ggX8_isWord_J0_length_8abf5
set_option maxRecDepth 20000 in
theorem ggX8_isWord_J0_charAt_5068e : GoodIn wsX8_isWord wsJ0_charAt_5068e := goodIn_r _ [20, 10, 21, 22, 23, 8, 24, 15, 16, 25, 26, 27, 28, 29, 30, 31, 32, 33, 34, 35, 36, 37, 38, 39, 40, 41, 42, 43, 44, 45, 46, 47, 48, 49, 50, 51, 52, 53] (by decide +kernel) (by decide +kernel)
set_option maxRecDepth 20000 in
theorem gX8_isWord_J0_charAt_5068e : GoodIn wsX8_isWord (wsV RX8 255 RJ0 yJ0_charAt_5068e wsJ0_charAt_5068e) := goodIn_app (goodIn_of _ (by decide +kernel)) ggX8_isWord_J0_charAt_5068e
theorem dX8_isWord_0 : decode cX8_isWord 0 = .ok (.aload_n 0, 1) := by decide +kernel
theorem dX8_isWord_1 : decode cX8_isWord 1 = .ok (.getfield 249, 3) := by decide +kernel
theorem dX8_isWord_4 : decode cX8_isWord 4 = .ok (.iconst 1, 1) := by decide +kernel
theorem dX8_isWord_5 : decode cX8_isWord 5 = .ok (.if_icmp .ne 23, 3) := by decide +kernel
theorem dX8_isWord_8 : decode cX8_isWord 8 = .ok (.aload_n 0, 1) := by decide +kernel
theorem dX8_isWord_9 : decode cX8_isWord 9 = .ok (.getfield 237, 3) := by decide +kernel
theorem dX8_isWord_12 : decode cX8_isWord 12 = .ok (.aload_n 0, 1) := by decide +kernel
theorem dX8_isWord_13 : decode cX8_isWord 13 = .ok (.getfield 240, 3) := by decide +kernel
theorem dX8_isWord_16 : decode cX8_isWord 16 = .ok (.isub, 1) := by decide +kernel
theorem dX8_isWord_17 : decode cX8_isWord 17 = .ok (.aload_n 1, 1) := by decide +kernel
theorem dX8_isWord_18 : decode cX8_isWord 18 = .ok (.invokevirtual 252, 3) := by decide +kernel
theorem dX8_isWord_21 : decode cX8_isWord 21 = .ok (.if_icmp .ne 7, 3) := by decide +kernel
theorem dX8_isWord_24 : decode cX8_isWord 24 = .ok (.iconst 1, 1) := by decide +kernel
theorem dX8_isWord_25 : decode cX8_isWord 25 = .ok (.goto 4, 3) := by decide +kernel
theorem dX8_isWord_28 : decode cX8_isWord 28 = .ok (.iconst 0, 1) := by decide +kernel
theorem dX8_isWord_29 : decode cX8_isWord 29 = .ok (.istore_n 2, 1) := by decide +kernel
theorem dX8_isWord_30 : decode cX8_isWord 30 = .ok (.iconst 0, 1) := by decide +kernel
theorem dX8_isWord_31 : decode cX8_isWord 31 = .ok (.istore_n 3, 1) := by decide +kernel
theorem dX8_isWord_32 : decode cX8_isWord 32 = .ok (.iload_n 3, 1) := by decide +kernel
theorem dX8_isWord_33 : decode cX8_isWord 33 = .ok (.aload_n 1, 1) := by decide +kernel
theorem dX8_isWord_34 : decode cX8_isWord 34 = .ok (.invokevirtual 252, 3) := by decide +kernel
theorem dX8_isWord_37 : decode cX8_isWord 37 = .ok (.if_icmp .ge 38, 3) := by decide +kernel
theorem dX8_isWord_40 : decode cX8_isWord 40 = .ok (.iload_n 2, 1) := by decide +kernel
theorem dX8_isWord_41 : decode cX8_isWord 41 = .ok (.ifCond .eq 34, 3) := by decide +kernel
theorem dX8_isWord_44 : decode cX8_isWord 44 = .ok (.aload_n 0, 1) := by decide +kernel
theorem dX8_isWord_45 : decode cX8_isWord 45 = .ok (.getfield 41, 3) := by decide +kernel
theorem dX8_isWord_48 : decode cX8_isWord 48 = .ok (.aload_n 0, 1) := by decide +kernel
theorem dX8_isWord_49 : decode cX8_isWord 49 = .ok (.getfield 240, 3) := by decide +kernel
theorem dX8_isWord_52 : decode cX8_isWord 52 = .ok (.iload_n 3, 1) := by decide +kernel
theorem dX8_isWord_53 : decode cX8_isWord 53 = .ok (.iadd, 1) := by decide +kernel
theorem dX8_isWord_54 : decode cX8_isWord 54 = .ok (.iaload, 1) := by decide +kernel
theorem dX8_isWord_55 : decode cX8_isWord 55 = .ok (.aload_n 1, 1) := by decide +kernel
theorem dX8_isWord_56 : decode cX8_isWord 56 = .ok (.iload_n 3, 1) := by decide +kernel
theorem dX8_isWord_57 : decode cX8_isWord 57 = .ok (.invokevirtual 255, 3) := by decide +kernel
theorem dX8_isWord_60 : decode cX8_isWord 60 = .ok (.if_icmp .ne 7, 3) := by decide +kernel
theorem dX8_isWord_63 : decode cX8_isWord 63 = .ok (.iconst 1, 1) := by decide +kernel
theorem dX8_isWord_64 : decode cX8_isWord 64 = .ok (.goto 4, 3) := by decide +kernel
theorem dX8_isWord_67 : decode cX8_isWord 67 = .ok (.iconst 0, 1) := by decide +kernel
theorem dX8_isWord_68 : decode cX8_isWord 68 = .ok (.istore_n 2, 1) := by decide +kernel
theorem dX8_isWord_69 : decode cX8_isWord 69 = .ok (.iinc 3 1, 3) := by decide +kernel
theorem dX8_isWord_72 : decode cX8_isWord 72 = .ok (.goto (-40), 3) := by decide +kernel
theorem dX8_isWord_75 : decode cX8_isWord 75 = .ok (.iload_n 2, 1) := by decide +kernel
theorem dX8_isWord_76 : decode cX8_isWord 76 = .ok (.ireturn, 1) := by decide +kernel
set_option maxRecDepth 20000 in
theorem ggX8_must_X8_next : GoodIn wsX8_must wsX8_next := goodIn_r _ [6, 7, 8, 9, 10, 11, 12, 13, 14, 15, 16, 17, 5, 18, 19, 20, 21, 22, 23, 24, 25, 26, 27, 28, 29, 30, 31, 32, 33, 34, 35, 36, 37, 38, 39, 40, 41, 42, 43, 44, 45, 46, 47, 48, 49, 50, 51, 52, 53, 54, 55] (by decide +kernel) (by decide +kernel)
set_option maxRecDepth 20000 in
theorem gX8_must_X8_next : GoodIn wsX8_must (wsV RX8 262 RX8 yX8_next wsX8_next) := goodIn_app (goodIn_of _ (by decide +kernel)) ggX8_must_X8_next
theorem dX8_must_0 : decode cX8_must 0 = .ok (.aload_n 0, 1) := by decide +kernel
theorem dX8_must_1 : decode cX8_must 1 = .ok (.aload_n 0, 1) := by decide +kernel
theorem dX8_must_2 : decode cX8_must 2 = .ok (.getfield 259, 3) := by decide +kernel
theorem dX8_must_5 : decode cX8_must 5 = .ok (.ifCond .ne 7, 3) := by decide +kernel
theorem dX8_must_8 : decode cX8_must 8 = .ok (.iload_n 1, 1) := by decide +kernel
theorem dX8_must_9 : decode cX8_must 9 = .ok (.ifCond .ne 7, 3) := by decide +kernel
theorem dX8_must_12 : decode cX8_must 12 = .ok (.iconst 1, 1) := by decide +kernel
theorem dX8_must_13 : decode cX8_must 13 = .ok (.goto 4, 3) := by decide +kernel
theorem dX8_must_16 : decode cX8_must 16 = .ok (.iconst 0, 1) := by decide +kernel
theorem dX8_must_17 : decode cX8_must 17 = .ok (.putfield 259, 3) := by decide +kernel
theorem dX8_must_20 : decode cX8_must 20 = .ok (.aload_n 0, 1) := by decide +kernel
theorem dX8_must_21 : decode cX8_must 21 = .ok (.getfield 259, 3) := by decide +kernel
theorem dX8_must_24 : decode cX8_must 24 = .ok (.ifCond .ne 7, 3) := by decide +kernel
theorem dX8_must_27 : decode cX8_must 27 = .ok (.aload_n 0, 1) := by decide +kernel
theorem dX8_must_28 : decode cX8_must 28 = .ok (.invokevirtual 262, 3) := by decide +kernel
theorem dX8_must_31 : decode cX8_must 31 = .ok (.return_, 1) := by decide +kernel
set_option maxRecDepth 20000 in
theorem ggX8_number_X8_within : GoodIn wsX8_number wsX8_within := goodIn_r _ [6] (by decide +kernel) (by decide +kernel)
set_option maxRecDepth 20000 in
theorem gX8_number_X8_within : GoodIn wsX8_number (va_wsS RX8 78 yX8_within wsX8_within) := goodIn_app (goodIn_of _ (by decide +kernel)) ggX8_number_X8_within
set_option maxRecDepth 20000 in
theorem ggX8_number_X8_must : GoodIn wsX8_number wsX8_must := goodIn_r _ [10, 11, 12, 13, 14, 5, 15, 16, 17, 1, 2, 18, 19, 20, 21, 22, 23, 24, 25, 26, 27, 3, 4, 6, 28, 29, 30, 31, 32, 33, 34, 35, 36, 37, 38, 39, 40, 41, 42, 43, 44, 45, 46, 47, 48, 49, 50, 51, 52, 53, 54, 55, 56, 57, 58, 59] (by decide +kernel) (by decide +kernel)
set_option maxRecDepth 20000 in
theorem gX8_number_X8_must : GoodIn wsX8_number (wsV RX8 265 RX8 yX8_must wsX8_must) := goodIn_app (goodIn_of _ (by decide +kernel)) ggX8_number_X8_must
theorem dX8_number_0 : decode cX8_number 0 = .ok (.aload_n 0, 1) := by decide +kernel
theorem dX8_number_1 : decode cX8_number 1 = .ok (.getfield 246, 3) := by decide +kernel
theorem dX8_number_4 : decode cX8_number 4 = .ok (.istore_n 3, 1) := by decide +kernel
theorem dX8_number_5 : decode cX8_number 5 = .ok (.aload_n 0, 1) := by decide +kernel
theorem dX8_number_6 : decode cX8_number 6 = .ok (.aload_n 0, 1) := by decide +kernel
theorem dX8_number_7 : decode cX8_number 7 = .ok (.getfield 249, 3) := by decide +kernel
theorem dX8_number_10 : decode cX8_number 10 = .ok (.iconst 2, 1) := by decide +kernel
theorem dX8_number_11 : decode cX8_number 11 = .ok (.if_icmp .ne 16, 3) := by decide +kernel
theorem dX8_number_14 : decode cX8_number 14 = .ok (.iload_n 3, 1) := by decide +kernel
theorem dX8_number_15 : decode cX8_number 15 = .ok (.iload_n 1, 1) := by decide +kernel
theorem dX8_number_16 : decode cX8_number 16 = .ok (.iload_n 2, 1) := by decide +kernel
theorem dX8_number_17 : decode cX8_number 17 = .ok (.invokestatic 78, 3) := by decide +kernel
theorem dX8_number_20 : decode cX8_number 20 = .ok (.ifCond .eq 7, 3) := by decide +kernel
theorem dX8_number_23 : decode cX8_number 23 = .ok (.iconst 1, 1) := by decide +kernel
theorem dX8_number_24 : decode cX8_number 24 = .ok (.goto 4, 3) := by decide +kernel
theorem dX8_number_27 : decode cX8_number 27 = .ok (.iconst 0, 1) := by decide +kernel
theorem dX8_number_28 : decode cX8_number 28 = .ok (.invokevirtual 265, 3) := by decide +kernel
theorem dX8_number_31 : decode cX8_number 31 = .ok (.iload_n 3, 1) := by decide +kernel
theorem dX8_number_32 : decode cX8_number 32 = .ok (.ireturn, 1) := by decide +kernel
theorem dX8_item_0 : decode cX8_item 0 = .ok (.bipush 6, 2) := by decide +kernel
theorem dX8_item_2 : decode cX8_item 2 = .ok (.aload_n 0, 1) := by decide +kernel
theorem dX8_item_3 : decode cX8_item 3 = .ok (.getfield 269, 3) := by decide +kernel
theorem dX8_item_6 : decode cX8_item 6 = .ok (.imul, 1) := by decide +kernel
theorem dX8_item_7 : decode cX8_item 7 = .ok (.istore 7, 2) := by decide +kernel
theorem dX8_item_9 : decode cX8_item 9 = .ok (.aload_n 0, 1) := by decide +kernel
theorem dX8_item_10 : decode cX8_item 10 = .ok (.getfield 62, 3) := by decide +kernel
theorem dX8_item_13 : decode cX8_item 13 = .ok (.iload 7, 2) := by decide +kernel
theorem dX8_item_15 : decode cX8_item 15 = .ok (.iload_n 1, 1) := by decide +kernel
theorem dX8_item_16 : decode cX8_item 16 = .ok (.iastore, 1) := by decide +kernel
theorem dX8_item_17 : decode cX8_item 17 = .ok (.aload_n 0, 1) := by decide +kernel
theorem dX8_item_18 : decode cX8_item 18 = .ok (.getfield 62, 3) := by decide +kernel
theorem dX8_item_21 : decode cX8_item 21 = .ok (.iload 7, 2) := by decide +kernel
theorem dX8_item_23 : decode cX8_item 23 = .ok (.iconst 1, 1) := by decide +kernel
theorem dX8_item_24 : decode cX8_item 24 = .ok (.iadd, 1) := by decide +kernel
theorem dX8_item_25 : decode cX8_item 25 = .ok (.iload_n 2, 1) := by decide +kernel
theorem dX8_item_26 : decode cX8_item 26 = .ok (.iastore, 1) := by decide +kernel
theorem dX8_item_27 : decode cX8_item 27 = .ok (.aload_n 0, 1) := by decide +kernel
theorem dX8_item_28 : decode cX8_item 28 = .ok (.getfield 62, 3) := by decide +kernel
theorem dX8_item_31 : decode cX8_item 31 = .ok (.iload 7, 2) := by decide +kernel
theorem dX8_item_33 : decode cX8_item 33 = .ok (.iconst 2, 1) := by decide +kernel
theorem dX8_item_34 : decode cX8_item 34 = .ok (.iadd, 1) := by decide +kernel
theorem dX8_item_35 : decode cX8_item 35 = .ok (.iload_n 3, 1) := by decide +kernel
theorem dX8_item_36 : decode cX8_item 36 = .ok (.iastore, 1) := by decide +kernel
theorem dX8_item_37 : decode cX8_item 37 = .ok (.aload_n 0, 1) := by decide +kernel
theorem dX8_item_38 : decode cX8_item 38 = .ok (.getfield 62, 3) := by decide +kernel
theorem dX8_item_41 : decode cX8_item 41 = .ok (.iload 7, 2) := by decide +kernel
theorem dX8_item_43 : decode cX8_item 43 = .ok (.iconst 3, 1) := by decide +kernel
theorem dX8_item_44 : decode cX8_item 44 = .ok (.iadd, 1) := by decide +kernel
theorem dX8_item_45 : decode cX8_item 45 = .ok (.iload 4, 2) := by decide +kernel
theorem dX8_item_47 : decode cX8_item 47 = .ok (.iastore, 1) := by decide +kernel
theorem dX8_item_48 : decode cX8_item 48 = .ok (.aload_n 0, 1) := by decide +kernel
theorem dX8_item_49 : decode cX8_item 49 = .ok (.getfield 62, 3) := by decide +kernel
theorem dX8_item_52 : decode cX8_item 52 = .ok (.iload 7, 2) := by decide +kernel
theorem dX8_item_54 : decode cX8_item 54 = .ok (.iconst 4, 1) := by decide +kernel
theorem dX8_item_55 : decode cX8_item 55 = .ok (.iadd, 1) := by decide +kernel
theorem dX8_item_56 : decode cX8_item 56 = .ok (.iload 5, 2) := by decide +kernel
theorem dX8_item_58 : decode cX8_item 58 = .ok (.iastore, 1) := by decide +kernel
theorem dX8_item_59 : decode cX8_item 59 = .ok (.aload_n 0, 1) := by decide +kernel
theorem dX8_item_60 : decode cX8_item 60 = .ok (.getfield 62, 3) := by decide +kernel
theorem dX8_item_63 : decode cX8_item 63 = .ok (.iload 7, 2) := by decide +kernel
theorem dX8_item_65 : decode cX8_item 65 = .ok (.iconst 5, 1) := by decide +kernel
theorem dX8_item_66 : decode cX8_item 66 = .ok (.iadd, 1) := by decide +kernel
theorem dX8_item_67 : decode cX8_item 67 = .ok (.iload 6, 2) := by decide +kernel
theorem dX8_item_69 : decode cX8_item 69 = .ok (.iastore, 1) := by decide +kernel
theorem dX8_item_70 : decode cX8_item 70 = .ok (.aload_n 0, 1) := by decide +kernel
theorem dX8_item_71 : decode cX8_item 71 = .ok (.dup, 1) := by decide +kernel
theorem dX8_item_72 : decode cX8_item 72 = .ok (.getfield 269, 3) := by decide +kernel
theorem dX8_item_75 : decode cX8_item 75 = .ok (.iconst 1, 1) := by decide +kernel
theorem dX8_item_76 : decode cX8_item 76 = .ok (.iadd, 1) := by decide +kernel
theorem dX8_item_77 : decode cX8_item 77 = .ok (.putfield 269, 3) := by decide +kernel
theorem dX8_item_80 : decode cX8_item 80 = .ok (.return_, 1) := by decide +kernel
set_option maxRecDepth 20000 in
theorem ggX8_kindTold_X8_isWord : GoodIn wsX8_kindTold wsX8_isWord := goodIn_r _ [6, 7, 8, 9, 10, 11, 12, 13, 14, 15, 16, 17, 18, 19, 20, 21, 22, 23, 24, 25, 26, 27, 28, 29, 30, 31, 32, 33, 34, 35, 36, 37, 38, 39, 40, 41, 42, 43, 44, 45, 46, 47, 48, 49, 50, 51, 52, 53, 54, 55, 56, 57, 58, 59, 60, 61, 62, 63, 64, 65, 66, 67, 68, 69, 70, 71, 72, 73, 74, 75, 76, 77, 78, 79, 80, 81, 82, 83, 84, 85, 86, 87, 88, 89, 90, 91] (by decide +kernel) (by decide +kernel)
set_option maxRecDepth 20000 in
theorem gX8_kindTold_X8_isWord : GoodIn wsX8_kindTold (wsV RX8 272 RX8 yX8_isWord wsX8_isWord) := goodIn_app (goodIn_of _ (by decide +kernel)) ggX8_kindTold_X8_isWord
theorem dX8_kindTold_0 : decode cX8_kindTold 0 = .ok (.iconst (-1), 1) := by decide +kernel
theorem dX8_kindTold_1 : decode cX8_kindTold 1 = .ok (.istore_n 1, 1) := by decide +kernel
theorem dX8_kindTold_2 : decode cX8_kindTold 2 = .ok (.iconst 0, 1) := by decide +kernel
theorem dX8_kindTold_3 : decode cX8_kindTold 3 = .ok (.istore_n 2, 1) := by decide +kernel
theorem dX8_kindTold_4 : decode cX8_kindTold 4 = .ok (.iload_n 2, 1) := by decide +kernel
theorem dX8_kindTold_5 : decode cX8_kindTold 5 = .ok (.aload_n 0, 1) := by decide +kernel
theorem dX8_kindTold_6 : decode cX8_kindTold 6 = .ok (.getfield 58, 3) := by decide +kernel
theorem dX8_kindTold_9 : decode cX8_kindTold 9 = .ok (.arraylength, 1) := by decide +kernel
theorem dX8_kindTold_10 : decode cX8_kindTold 10 = .ok (.if_icmp .ge 28, 3) := by decide +kernel
theorem dX8_kindTold_13 : decode cX8_kindTold 13 = .ok (.aload_n 0, 1) := by decide +kernel
theorem dX8_kindTold_14 : decode cX8_kindTold 14 = .ok (.aload_n 0, 1) := by decide +kernel
theorem dX8_kindTold_15 : decode cX8_kindTold 15 = .ok (.getfield 58, 3) := by decide +kernel
theorem dX8_kindTold_18 : decode cX8_kindTold 18 = .ok (.iload_n 2, 1) := by decide +kernel
theorem dX8_kindTold_19 : decode cX8_kindTold 19 = .ok (.aaload, 1) := by decide +kernel
theorem dX8_kindTold_20 : decode cX8_kindTold 20 = .ok (.invokevirtual 272, 3) := by decide +kernel
theorem dX8_kindTold_23 : decode cX8_kindTold 23 = .ok (.ifCond .eq 7, 3) := by decide +kernel
theorem dX8_kindTold_26 : decode cX8_kindTold 26 = .ok (.iload_n 2, 1) := by decide +kernel
theorem dX8_kindTold_27 : decode cX8_kindTold 27 = .ok (.goto 4, 3) := by decide +kernel
theorem dX8_kindTold_30 : decode cX8_kindTold 30 = .ok (.iload_n 1, 1) := by decide +kernel
theorem dX8_kindTold_31 : decode cX8_kindTold 31 = .ok (.istore_n 1, 1) := by decide +kernel
theorem dX8_kindTold_32 : decode cX8_kindTold 32 = .ok (.iinc 2 1, 3) := by decide +kernel
theorem dX8_kindTold_35 : decode cX8_kindTold 35 = .ok (.goto (-31), 3) := by decide +kernel
theorem dX8_kindTold_38 : decode cX8_kindTold 38 = .ok (.iload_n 1, 1) := by decide +kernel
theorem dX8_kindTold_39 : decode cX8_kindTold 39 = .ok (.ireturn, 1) := by decide +kernel
set_option maxRecDepth 20000 in
theorem ggX8_mask_X8_number : GoodIn wsX8_mask wsX8_number := goodIn_r _ [6, 7, 8, 9, 10, 5, 11, 12, 13, 14, 15, 16, 17, 18, 19, 20, 21, 22, 23, 24, 25, 26, 27, 28, 29, 30, 31, 32, 33, 34, 35, 36, 37, 38, 39, 40, 41, 42, 43, 44, 45, 46, 47, 48, 49, 50, 51, 52, 53, 54, 55, 56, 57, 58, 59, 60, 61, 62, 63, 64] (by decide +kernel) (by decide +kernel)
set_option maxRecDepth 20000 in
theorem gX8_mask_X8_number : GoodIn wsX8_mask (wsV RX8 276 RX8 yX8_number wsX8_number) := goodIn_app (goodIn_of _ (by decide +kernel)) ggX8_mask_X8_number
theorem dX8_mask_0 : decode cX8_mask 0 = .ok (.aload_n 0, 1) := by decide +kernel
theorem dX8_mask_1 : decode cX8_mask 1 = .ok (.iconst 0, 1) := by decide +kernel
theorem dX8_mask_2 : decode cX8_mask 2 = .ok (.aload_n 0, 1) := by decide +kernel
theorem dX8_mask_3 : decode cX8_mask 3 = .ok (.getfield 9, 3) := by decide +kernel
theorem dX8_mask_6 : decode cX8_mask 6 = .ok (.iconst 0, 1) := by decide +kernel
theorem dX8_mask_7 : decode cX8_mask 7 = .ok (.iaload, 1) := by decide +kernel
theorem dX8_mask_8 : decode cX8_mask 8 = .ok (.iconst 1, 1) := by decide +kernel
theorem dX8_mask_9 : decode cX8_mask 9 = .ok (.isub, 1) := by decide +kernel
theorem dX8_mask_10 : decode cX8_mask 10 = .ok (.invokevirtual 276, 3) := by decide +kernel
theorem dX8_mask_13 : decode cX8_mask 13 = .ok (.ireturn, 1) := by decide +kernel
set_option maxRecDepth 20000 in
theorem ggX8_otherMask_X8_isOne : GoodIn wsX8_otherMask wsX8_isOne := goodIn_r _ [7, 8, 9, 10, 6, 11, 33, 34, 35, 36, 37, 38, 39, 40, 41, 42, 43, 44, 45, 46, 47, 48, 49, 50, 51, 52, 53, 54, 55, 56, 57, 58, 59, 60, 61, 62, 63, 64] (by decide +kernel) (by decide +kernel)
set_option maxRecDepth 20000 in
theorem gX8_otherMask_X8_isOne : GoodIn wsX8_otherMask (wsV RX8 82 RX8 yX8_isOne wsX8_isOne) := goodIn_app (goodIn_of _ (by decide +kernel)) ggX8_otherMask_X8_isOne
set_option maxRecDepth 20000 in
theorem ggX8_otherMask_X8_must : GoodIn wsX8_otherMask wsX8_must := goodIn_r _ [15, 16, 17, 18, 19, 6, 20, 21, 22, 1, 2, 23, 24, 25, 26, 27, 28, 29, 30, 31, 32, 9, 10, 11, 33, 34, 35, 36, 37, 38, 39, 40, 41, 42, 43, 44, 45, 46, 47, 48, 49, 50, 51, 52, 53, 54, 55, 56, 57, 58, 59, 60, 61, 62, 63, 64] (by decide +kernel) (by decide +kernel)
set_option maxRecDepth 20000 in
theorem gX8_otherMask_X8_must : GoodIn wsX8_otherMask (wsV RX8 265 RX8 yX8_must wsX8_must) := goodIn_app (goodIn_of _ (by decide +kernel)) ggX8_otherMask_X8_must
theorem dX8_otherMask_0 : decode cX8_otherMask 0 = .ok (.aload_n 0, 1) := by decide +kernel
theorem dX8_otherMask_1 : decode cX8_otherMask 1 = .ok (.getfield 246, 3) := by decide +kernel
theorem dX8_otherMask_4 : decode cX8_otherMask 4 = .ok (.istore_n 2, 1) := by decide +kernel
theorem dX8_otherMask_5 : decode cX8_otherMask 5 = .ok (.aload_n 0, 1) := by decide +kernel
theorem dX8_otherMask_6 : decode cX8_otherMask 6 = .ok (.aload_n 0, 1) := by decide +kernel
theorem dX8_otherMask_7 : decode cX8_otherMask 7 = .ok (.getfield 249, 3) := by decide +kernel
theorem dX8_otherMask_10 : decode cX8_otherMask 10 = .ok (.iconst 2, 1) := by decide +kernel
theorem dX8_otherMask_11 : decode cX8_otherMask 11 = .ok (.if_icmp .ne 20, 3) := by decide +kernel
theorem dX8_otherMask_14 : decode cX8_otherMask 14 = .ok (.aload_n 0, 1) := by decide +kernel
theorem dX8_otherMask_15 : decode cX8_otherMask 15 = .ok (.iload_n 2, 1) := by decide +kernel
theorem dX8_otherMask_16 : decode cX8_otherMask 16 = .ok (.invokevirtual 82, 3) := by decide +kernel
theorem dX8_otherMask_19 : decode cX8_otherMask 19 = .ok (.ifCond .eq 12, 3) := by decide +kernel
theorem dX8_otherMask_22 : decode cX8_otherMask 22 = .ok (.iload_n 2, 1) := by decide +kernel
theorem dX8_otherMask_23 : decode cX8_otherMask 23 = .ok (.iload_n 1, 1) := by decide +kernel
theorem dX8_otherMask_24 : decode cX8_otherMask 24 = .ok (.if_icmp .eq 7, 3) := by decide +kernel
theorem dX8_otherMask_27 : decode cX8_otherMask 27 = .ok (.iconst 1, 1) := by decide +kernel
theorem dX8_otherMask_28 : decode cX8_otherMask 28 = .ok (.goto 4, 3) := by decide +kernel
theorem dX8_otherMask_31 : decode cX8_otherMask 31 = .ok (.iconst 0, 1) := by decide +kernel
theorem dX8_otherMask_32 : decode cX8_otherMask 32 = .ok (.invokevirtual 265, 3) := by decide +kernel
theorem dX8_otherMask_35 : decode cX8_otherMask 35 = .ok (.iload_n 2, 1) := by decide +kernel
theorem dX8_otherMask_36 : decode cX8_otherMask 36 = .ok (.ireturn, 1) := by decide +kernel
set_option maxRecDepth 20000 in
theorem ggX8_readItem_X8_kindTold : GoodIn wsX8_readItem wsX8_kindTold := goodIn_r _ [5, 6, 7, 8, 9, 4, 10, 11, 12, 13, 14, 15, 16, 17, 18, 19, 20, 21, 22, 23, 24, 25, 26, 27, 28, 29, 30, 31, 32, 33, 34, 35, 36, 37, 38, 39, 40, 41, 42, 43, 44, 45, 46, 47, 48, 49, 50, 51, 52, 53, 54, 55, 56, 57, 58, 59, 60, 61, 62, 63, 125, 126, 127, 128, 129, 130, 131, 132, 133, 134, 135, 136, 137, 138, 139, 140, 141, 142, 143, 144, 145, 146, 147, 148, 149, 150, 151, 152, 153, 154, 155, 156] (by decide +kernel) (by decide +kernel)
set_option maxRecDepth 20000 in
theorem gX8_readItem_X8_kindTold : GoodIn wsX8_readItem (wsV RX8 279 RX8 yX8_kindTold wsX8_kindTold) := goodIn_app (goodIn_of _ (by decide +kernel)) ggX8_readItem_X8_kindTold
set_option maxRecDepth 20000 in
theorem ggX8_readItem_X8_readDeed : GoodIn wsX8_readItem wsX8_readDeed := goodIn_r _ [67, 68, 69, 70, 71, 72, 4, 73, 74, 75, 76, 77, 12, 13, 78, 11, 79, 80, 81, 82, 83, 84, 85, 86, 87, 14, 88, 89, 90, 91, 92, 93, 94, 95, 96, 97, 98, 99, 7, 8, 9, 10, 15, 16, 17, 18, 19, 20, 21, 22, 23, 24, 25, 26, 27, 28, 29, 30, 31, 32, 33, 34, 35, 36, 37, 38, 39, 40, 41, 42, 43, 44, 45, 46, 47, 48, 49, 50, 51, 52, 53, 54, 55, 56, 57, 58, 59, 60, 61, 62, 63, 100, 101, 102, 103, 104, 105, 106, 107, 108, 109, 110, 111, 112, 113, 125, 126, 127, 128, 129, 130, 131, 132, 133, 134, 135, 136, 137, 138, 139, 140, 141, 142, 143, 144, 145, 146, 147, 148, 149, 150, 151, 152, 153, 154, 155, 156] (by decide +kernel) (by decide +kernel)
set_option maxRecDepth 20000 in
theorem gX8_readItem_X8_readDeed : GoodIn wsX8_readItem (wsV RX8 282 RX8 yX8_readDeed wsX8_readDeed) := goodIn_app (goodIn_of _ (by decide +kernel)) ggX8_readItem_X8_readDeed
set_option maxRecDepth 20000 in
theorem ggX8_readItem_X8_isWord : GoodIn wsX8_readItem wsX8_isWord := goodIn_r _ [10, 11, 12, 13, 14, 15, 16, 17, 18, 19, 20, 21, 22, 23, 24, 25, 26, 27, 28, 29, 30, 31, 32, 33, 34, 35, 36, 37, 38, 39, 40, 41, 42, 43, 44, 45, 46, 47, 48, 49, 50, 51, 52, 53, 54, 55, 56, 57, 58, 59, 60, 61, 62, 63, 125, 126, 127, 128, 129, 130, 131, 132, 133, 134, 135, 136, 137, 138, 139, 140, 141, 142, 143, 144, 145, 146, 147, 148, 149, 150, 151, 152, 153, 154, 155, 156] (by decide +kernel) (by decide +kernel)
set_option maxRecDepth 20000 in
theorem gX8_readItem_X8_isWord : GoodIn wsX8_readItem (wsV RX8 272 RX8 yX8_isWord wsX8_isWord) := goodIn_app (goodIn_of _ (by decide +kernel)) ggX8_readItem_X8_isWord
set_option maxRecDepth 20000 in
theorem ggX8_readItem_X8_readBow : GoodIn wsX8_readItem wsX8_readBow := goodIn_r _ [117, 118, 69, 119, 70, 71, 72, 4, 73, 74, 75, 76, 77, 12, 13, 78, 11, 79, 80, 81, 82, 83, 84, 85, 86, 87, 14, 88, 89, 90, 91, 92, 93, 94, 95, 96, 97, 98, 99, 100, 101, 102, 103, 104, 105, 106, 107, 7, 8, 9, 10, 15, 16, 17, 18, 19, 20, 21, 22, 23, 24, 25, 26, 27, 28, 29, 30, 31, 32, 33, 34, 35, 36, 37, 38, 39, 40, 41, 42, 43, 44, 45, 46, 47, 48, 49, 50, 51, 52, 53, 54, 55, 56, 57, 58, 59, 60, 61, 62, 63, 108, 109, 110, 111, 112, 113, 125, 126, 127, 128, 129, 130, 131, 132, 133, 134, 135, 136, 137, 138, 139, 140, 141, 142, 143, 144, 145, 146, 147, 148, 149, 150, 151, 152, 153, 154, 155, 156] (by decide +kernel) (by decide +kernel)
set_option maxRecDepth 20000 in
theorem gX8_readItem_X8_readBow : GoodIn wsX8_readItem (wsV RX8 287 RX8 yX8_readBow wsX8_readBow) := goodIn_app (goodIn_of _ (by decide +kernel)) ggX8_readItem_X8_readBow
set_option maxRecDepth 20000 in
theorem ggX8_readItem_X8_readSaying : GoodIn wsX8_readItem wsX8_readSaying := goodIn_r _ [123, 124, 70, 71, 72, 4, 73, 69, 74, 75, 76, 77, 12, 13, 78, 11, 79, 80, 81, 82, 83, 84, 85, 86, 87, 14, 88, 89, 90, 91, 92, 93, 94, 95, 96, 97, 98, 99, 7, 8, 9, 10, 15, 16, 17, 18, 19, 20, 21, 22, 23, 24, 25, 26, 27, 28, 29, 30, 31, 32, 33, 34, 35, 36, 37, 38, 39, 40, 41, 42, 43, 44, 45, 46, 47, 48, 49, 50, 51, 52, 53, 54, 55, 56, 57, 58, 59, 60, 61, 62, 63, 108, 109, 110, 111, 112, 113, 125, 126, 127, 128, 129, 130, 131, 132, 133, 134, 135, 136, 137, 138, 139, 140, 141, 142, 143, 144, 145, 146, 147, 148, 149, 150, 151, 152, 153, 154, 155, 156] (by decide +kernel) (by decide +kernel)
set_option maxRecDepth 20000 in
theorem gX8_readItem_X8_readSaying : GoodIn wsX8_readItem (wsV RX8 292 RX8 yX8_readSaying wsX8_readSaying) := goodIn_app (goodIn_of _ (by decide +kernel)) ggX8_readItem_X8_readSaying
set_option maxRecDepth 20000 in
theorem ggX8_readItem_X8_must : GoodIn wsX8_readItem wsX8_must := goodIn_r _ [73, 69, 74, 75, 76, 4, 77, 12, 13, 78, 11, 79, 80, 81, 82, 83, 84, 85, 86, 87, 14, 88, 89, 90, 125, 126, 127, 128, 129, 130, 131, 132, 133, 134, 135, 136, 137, 138, 139, 140, 141, 142, 143, 144, 145, 146, 147, 148, 149, 150, 151, 152, 153, 154, 155, 156] (by decide +kernel) (by decide +kernel)
set_option maxRecDepth 20000 in
theorem gX8_readItem_X8_must : GoodIn wsX8_readItem (wsV RX8 265 RX8 yX8_must wsX8_must) := goodIn_app (goodIn_of _ (by decide +kernel)) ggX8_readItem_X8_must
set_option maxRecDepth 20000 in
theorem ggX8_readItem_X8_item : GoodIn wsX8_readItem wsX8_item := goodIn_r _ [111, 112, 113, 125, 126, 127, 128, 129, 130, 131, 132, 133, 134, 135, 136, 137, 138, 139, 140, 141, 142, 143, 144, 145, 146, 147, 148, 149, 150, 151, 152, 153, 154, 155, 156] (by decide +kernel) (by decide +kernel)
set_option maxRecDepth 20000 in
theorem gX8_readItem_X8_item : GoodIn wsX8_readItem (wsV RX8 303 RX8 yX8_item wsX8_item) := goodIn_app (goodIn_of _ (by decide +kernel)) ggX8_readItem_X8_item
theorem dX8_readItem_0 : decode cX8_readItem 0 = .ok (.aload_n 0, 1) := by decide +kernel
theorem dX8_readItem_1 : decode cX8_readItem 1 = .ok (.invokevirtual 279, 3) := by decide +kernel
theorem dX8_readItem_4 : decode cX8_readItem 4 = .ok (.istore_n 1, 1) := by decide +kernel
theorem dX8_readItem_5 : decode cX8_readItem 5 = .ok (.iload_n 1, 1) := by decide +kernel
theorem dX8_readItem_6 : decode cX8_readItem 6 = .ok (.ifCond .lt 11, 3) := by decide +kernel
theorem dX8_readItem_9 : decode cX8_readItem 9 = .ok (.aload_n 0, 1) := by decide +kernel
theorem dX8_readItem_10 : decode cX8_readItem 10 = .ok (.iload_n 1, 1) := by decide +kernel
theorem dX8_readItem_11 : decode cX8_readItem 11 = .ok (.invokevirtual 282, 3) := by decide +kernel
theorem dX8_readItem_14 : decode cX8_readItem 14 = .ok (.goto 138, 3) := by decide +kernel
theorem dX8_readItem_17 : decode cX8_readItem 17 = .ok (.aload_n 0, 1) := by decide +kernel
theorem dX8_readItem_18 : decode cX8_readItem 18 = .ok (.ldc_w 285, 3) := by decide +kernel
theorem dX8_readItem_21 : decode cX8_readItem 21 = .ok (.invokevirtual 272, 3) := by decide +kernel
theorem dX8_readItem_24 : decode cX8_readItem 24 = .ok (.ifCond .eq 10, 3) := by decide +kernel
theorem dX8_readItem_27 : decode cX8_readItem 27 = .ok (.aload_n 0, 1) := by decide +kernel
theorem dX8_readItem_28 : decode cX8_readItem 28 = .ok (.invokevirtual 287, 3) := by decide +kernel
theorem dX8_readItem_31 : decode cX8_readItem 31 = .ok (.goto 121, 3) := by decide +kernel
theorem dX8_readItem_34 : decode cX8_readItem 34 = .ok (.aload_n 0, 1) := by decide +kernel
theorem dX8_readItem_35 : decode cX8_readItem 35 = .ok (.ldc_w 290, 3) := by decide +kernel
theorem dX8_readItem_38 : decode cX8_readItem 38 = .ok (.invokevirtual 272, 3) := by decide +kernel
theorem dX8_readItem_41 : decode cX8_readItem 41 = .ok (.ifCond .eq 10, 3) := by decide +kernel
theorem dX8_readItem_44 : decode cX8_readItem 44 = .ok (.aload_n 0, 1) := by decide +kernel
theorem dX8_readItem_45 : decode cX8_readItem 45 = .ok (.invokevirtual 292, 3) := by decide +kernel
theorem dX8_readItem_48 : decode cX8_readItem 48 = .ok (.goto 104, 3) := by decide +kernel
theorem dX8_readItem_51 : decode cX8_readItem 51 = .ok (.aload_n 0, 1) := by decide +kernel
theorem dX8_readItem_52 : decode cX8_readItem 52 = .ok (.ldc_w 295, 3) := by decide +kernel
theorem dX8_readItem_55 : decode cX8_readItem 55 = .ok (.invokevirtual 272, 3) := by decide +kernel
theorem dX8_readItem_58 : decode cX8_readItem 58 = .ok (.ifCond .eq 7, 3) := by decide +kernel
theorem dX8_readItem_61 : decode cX8_readItem 61 = .ok (.iconst 1, 1) := by decide +kernel
theorem dX8_readItem_62 : decode cX8_readItem 62 = .ok (.goto 4, 3) := by decide +kernel
theorem dX8_readItem_65 : decode cX8_readItem 65 = .ok (.iconst 0, 1) := by decide +kernel
theorem dX8_readItem_66 : decode cX8_readItem 66 = .ok (.istore_n 2, 1) := by decide +kernel
theorem dX8_readItem_67 : decode cX8_readItem 67 = .ok (.aload_n 0, 1) := by decide +kernel
theorem dX8_readItem_68 : decode cX8_readItem 68 = .ok (.aload_n 0, 1) := by decide +kernel
theorem dX8_readItem_69 : decode cX8_readItem 69 = .ok (.ldc_w 297, 3) := by decide +kernel
theorem dX8_readItem_72 : decode cX8_readItem 72 = .ok (.invokevirtual 272, 3) := by decide +kernel
theorem dX8_readItem_75 : decode cX8_readItem 75 = .ok (.ifCond .ne 13, 3) := by decide +kernel
theorem dX8_readItem_78 : decode cX8_readItem 78 = .ok (.aload_n 0, 1) := by decide +kernel
theorem dX8_readItem_79 : decode cX8_readItem 79 = .ok (.ldc_w 295, 3) := by decide +kernel
theorem dX8_readItem_82 : decode cX8_readItem 82 = .ok (.invokevirtual 272, 3) := by decide +kernel
theorem dX8_readItem_85 : decode cX8_readItem 85 = .ok (.ifCond .eq 7, 3) := by decide +kernel
theorem dX8_readItem_88 : decode cX8_readItem 88 = .ok (.iconst 1, 1) := by decide +kernel
theorem dX8_readItem_89 : decode cX8_readItem 89 = .ok (.goto 4, 3) := by decide +kernel
theorem dX8_readItem_92 : decode cX8_readItem 92 = .ok (.iconst 0, 1) := by decide +kernel
theorem dX8_readItem_93 : decode cX8_readItem 93 = .ok (.invokevirtual 265, 3) := by decide +kernel
theorem dX8_readItem_96 : decode cX8_readItem 96 = .ok (.aload_n 0, 1) := by decide +kernel
theorem dX8_readItem_97 : decode cX8_readItem 97 = .ok (.ldc_w 299, 3) := by decide +kernel
theorem dX8_readItem_100 : decode cX8_readItem 100 = .ok (.invokevirtual 272, 3) := by decide +kernel
theorem dX8_readItem_103 : decode cX8_readItem 103 = .ok (.ifCond .eq 7, 3) := by decide +kernel
theorem dX8_readItem_106 : decode cX8_readItem 106 = .ok (.iconst 1, 1) := by decide +kernel
theorem dX8_readItem_107 : decode cX8_readItem 107 = .ok (.goto 4, 3) := by decide +kernel
theorem dX8_readItem_110 : decode cX8_readItem 110 = .ok (.iconst 0, 1) := by decide +kernel
theorem dX8_readItem_111 : decode cX8_readItem 111 = .ok (.istore_n 3, 1) := by decide +kernel
theorem dX8_readItem_112 : decode cX8_readItem 112 = .ok (.aload_n 0, 1) := by decide +kernel
theorem dX8_readItem_113 : decode cX8_readItem 113 = .ok (.aload_n 0, 1) := by decide +kernel
theorem dX8_readItem_114 : decode cX8_readItem 114 = .ok (.ldc_w 299, 3) := by decide +kernel
theorem dX8_readItem_117 : decode cX8_readItem 117 = .ok (.invokevirtual 272, 3) := by decide +kernel
theorem dX8_readItem_120 : decode cX8_readItem 120 = .ok (.ifCond .ne 13, 3) := by decide +kernel
theorem dX8_readItem_123 : decode cX8_readItem 123 = .ok (.aload_n 0, 1) := by decide +kernel
theorem dX8_readItem_124 : decode cX8_readItem 124 = .ok (.ldc_w 301, 3) := by decide +kernel
theorem dX8_readItem_127 : decode cX8_readItem 127 = .ok (.invokevirtual 272, 3) := by decide +kernel
theorem dX8_readItem_130 : decode cX8_readItem 130 = .ok (.ifCond .eq 7, 3) := by decide +kernel
theorem dX8_readItem_133 : decode cX8_readItem 133 = .ok (.iconst 1, 1) := by decide +kernel
theorem dX8_readItem_134 : decode cX8_readItem 134 = .ok (.goto 4, 3) := by decide +kernel
theorem dX8_readItem_137 : decode cX8_readItem 137 = .ok (.iconst 0, 1) := by decide +kernel
theorem dX8_readItem_138 : decode cX8_readItem 138 = .ok (.invokevirtual 265, 3) := by decide +kernel
theorem dX8_readItem_141 : decode cX8_readItem 141 = .ok (.aload_n 0, 1) := by decide +kernel
theorem dX8_readItem_142 : decode cX8_readItem 142 = .ok (.bipush 12, 2) := by decide +kernel
theorem dX8_readItem_144 : decode cX8_readItem 144 = .ok (.iload_n 2, 1) := by decide +kernel
theorem dX8_readItem_145 : decode cX8_readItem 145 = .ok (.iload_n 3, 1) := by decide +kernel
theorem dX8_readItem_146 : decode cX8_readItem 146 = .ok (.iconst 0, 1) := by decide +kernel
theorem dX8_readItem_147 : decode cX8_readItem 147 = .ok (.iconst 0, 1) := by decide +kernel
theorem dX8_readItem_148 : decode cX8_readItem 148 = .ok (.iconst 0, 1) := by decide +kernel
theorem dX8_readItem_149 : decode cX8_readItem 149 = .ok (.invokevirtual 303, 3) := by decide +kernel
theorem dX8_readItem_152 : decode cX8_readItem 152 = .ok (.return_, 1) := by decide +kernel
set_option maxRecDepth 20000 in
theorem ggX8_readBow_X8_must : GoodIn wsX8_readBow wsX8_must := goodIn_r _ [8, 2, 9, 10, 11, 7, 12, 13, 14, 15, 16, 17, 18, 19, 20, 21, 22, 23, 24, 25, 26, 27, 28, 29, 106, 107, 108, 109, 110, 111, 112, 113, 114, 115, 116, 117, 118, 119, 120, 121, 122, 123, 124, 125, 126, 127, 128, 129, 130, 131, 132, 133, 134, 135, 136, 137] (by decide +kernel) (by decide +kernel)
set_option maxRecDepth 20000 in
theorem gX8_readBow_X8_must : GoodIn wsX8_readBow (wsV RX8 265 RX8 yX8_must wsX8_must) := goodIn_app (goodIn_of _ (by decide +kernel)) ggX8_readBow_X8_must
set_option maxRecDepth 20000 in
theorem ggX8_readBow_X8_number : GoodIn wsX8_readBow wsX8_number := goodIn_r _ [33, 15, 16, 27, 28, 7, 29, 4, 5, 6, 8, 2, 9, 10, 11, 12, 13, 14, 17, 18, 19, 20, 21, 22, 23, 24, 25, 26, 106, 107, 108, 109, 110, 111, 112, 113, 114, 115, 116, 117, 118, 119, 120, 121, 122, 123, 124, 125, 126, 127, 128, 129, 130, 131, 132, 133, 134, 135, 136, 137] (by decide +kernel) (by decide +kernel)
set_option maxRecDepth 20000 in
theorem gX8_readBow_X8_number : GoodIn wsX8_readBow (wsV RX8 276 RX8 yX8_number wsX8_number) := goodIn_app (goodIn_of _ (by decide +kernel)) ggX8_readBow_X8_number
set_option maxRecDepth 20000 in
theorem ggX8_readBow_X8_mask : GoodIn wsX8_readBow wsX8_mask := goodIn_r _ [37, 38, 30, 31, 32, 7, 33, 15, 16, 27, 28, 29, 4, 5, 6, 8, 2, 9, 10, 11, 12, 13, 14, 17, 18, 19, 20, 21, 22, 23, 24, 25, 26, 106, 107, 108, 109, 110, 111, 112, 113, 114, 115, 116, 117, 118, 119, 120, 121, 122, 123, 124, 125, 126, 127, 128, 129, 130, 131, 132, 133, 134, 135, 136, 137] (by decide +kernel) (by decide +kernel)
set_option maxRecDepth 20000 in
theorem gX8_readBow_X8_mask : GoodIn wsX8_readBow (wsV RX8 310 RX8 yX8_mask wsX8_mask) := goodIn_app (goodIn_of _ (by decide +kernel)) ggX8_readBow_X8_mask
set_option maxRecDepth 20000 in
theorem ggX8_readBow_X8_otherMask : GoodIn wsX8_readBow wsX8_otherMask := goodIn_r _ [42, 15, 16, 43, 44, 45, 7, 46, 38, 27, 28, 29, 4, 5, 6, 8, 2, 9, 10, 11, 12, 13, 14, 17, 18, 19, 20, 21, 22, 23, 24, 25, 26, 106, 107, 108, 109, 110, 111, 112, 113, 114, 115, 116, 117, 118, 119, 120, 121, 122, 123, 124, 125, 126, 127, 128, 129, 130, 131, 132, 133, 134, 135, 136, 137] (by decide +kernel) (by decide +kernel)
set_option maxRecDepth 20000 in
theorem gX8_readBow_X8_otherMask : GoodIn wsX8_readBow (wsV RX8 313 RX8 yX8_otherMask wsX8_otherMask) := goodIn_app (goodIn_of _ (by decide +kernel)) ggX8_readBow_X8_otherMask
set_option maxRecDepth 20000 in
theorem ggX8_readBow_X8_isWord : GoodIn wsX8_readBow wsX8_isWord := goodIn_r _ [50, 16, 13, 14, 26, 51, 52, 53, 54, 55, 56, 57, 58, 59, 60, 61, 62, 63, 64, 65, 66, 67, 68, 69, 70, 71, 72, 73, 74, 75, 76, 77, 78, 79, 80, 81, 82, 83, 84, 85, 86, 87, 88, 89, 90, 91, 92, 93, 94, 95, 96, 97, 98, 99, 106, 107, 108, 109, 110, 111, 112, 113, 114, 115, 116, 117, 118, 119, 120, 121, 122, 123, 124, 125, 126, 127, 128, 129, 130, 131, 132, 133, 134, 135, 136, 137] (by decide +kernel) (by decide +kernel)
set_option maxRecDepth 20000 in
theorem gX8_readBow_X8_isWord : GoodIn wsX8_readBow (wsV RX8 272 RX8 yX8_isWord wsX8_isWord) := goodIn_app (goodIn_of _ (by decide +kernel)) ggX8_readBow_X8_isWord
set_option maxRecDepth 20000 in
theorem ggX8_readBow_X8_item : GoodIn wsX8_readBow wsX8_item := goodIn_r _ [103, 104, 105, 106, 107, 108, 109, 110, 111, 112, 113, 114, 115, 116, 117, 118, 119, 120, 121, 122, 123, 124, 125, 126, 127, 128, 129, 130, 131, 132, 133, 134, 135, 136, 137] (by decide +kernel) (by decide +kernel)
set_option maxRecDepth 20000 in
theorem gX8_readBow_X8_item : GoodIn wsX8_readBow (wsV RX8 303 RX8 yX8_item wsX8_item) := goodIn_app (goodIn_of _ (by decide +kernel)) ggX8_readBow_X8_item
theorem dX8_readBow_0 : decode cX8_readBow 0 = .ok (.aload_n 0, 1) := by decide +kernel
theorem dX8_readBow_1 : decode cX8_readBow 1 = .ok (.aload_n 0, 1) := by decide +kernel
theorem dX8_readBow_2 : decode cX8_readBow 2 = .ok (.getfield 307, 3) := by decide +kernel
theorem dX8_readBow_5 : decode cX8_readBow 5 = .ok (.bipush 20, 2) := by decide +kernel
theorem dX8_readBow_7 : decode cX8_readBow 7 = .ok (.if_icmp .ge 7, 3) := by decide +kernel
theorem dX8_readBow_10 : decode cX8_readBow 10 = .ok (.iconst 1, 1) := by decide +kernel
theorem dX8_readBow_11 : decode cX8_readBow 11 = .ok (.goto 4, 3) := by decide +kernel
theorem dX8_readBow_14 : decode cX8_readBow 14 = .ok (.iconst 0, 1) := by decide +kernel
theorem dX8_readBow_15 : decode cX8_readBow 15 = .ok (.invokevirtual 265, 3) := by decide +kernel
theorem dX8_readBow_18 : decode cX8_readBow 18 = .ok (.aload_n 0, 1) := by decide +kernel
theorem dX8_readBow_19 : decode cX8_readBow 19 = .ok (.dup, 1) := by decide +kernel
theorem dX8_readBow_20 : decode cX8_readBow 20 = .ok (.getfield 307, 3) := by decide +kernel
theorem dX8_readBow_23 : decode cX8_readBow 23 = .ok (.iconst 1, 1) := by decide +kernel
theorem dX8_readBow_24 : decode cX8_readBow 24 = .ok (.iadd, 1) := by decide +kernel
theorem dX8_readBow_25 : decode cX8_readBow 25 = .ok (.putfield 307, 3) := by decide +kernel
theorem dX8_readBow_28 : decode cX8_readBow 28 = .ok (.aload_n 0, 1) := by decide +kernel
theorem dX8_readBow_29 : decode cX8_readBow 29 = .ok (.iconst 0, 1) := by decide +kernel
theorem dX8_readBow_30 : decode cX8_readBow 30 = .ok (.bipush 99, 2) := by decide +kernel
theorem dX8_readBow_32 : decode cX8_readBow 32 = .ok (.invokevirtual 276, 3) := by decide +kernel
theorem dX8_readBow_35 : decode cX8_readBow 35 = .ok (.istore_n 1, 1) := by decide +kernel
theorem dX8_readBow_36 : decode cX8_readBow 36 = .ok (.aload_n 0, 1) := by decide +kernel
theorem dX8_readBow_37 : decode cX8_readBow 37 = .ok (.invokevirtual 310, 3) := by decide +kernel
theorem dX8_readBow_40 : decode cX8_readBow 40 = .ok (.istore_n 2, 1) := by decide +kernel
theorem dX8_readBow_41 : decode cX8_readBow 41 = .ok (.aload_n 0, 1) := by decide +kernel
theorem dX8_readBow_42 : decode cX8_readBow 42 = .ok (.iload_n 2, 1) := by decide +kernel
theorem dX8_readBow_43 : decode cX8_readBow 43 = .ok (.invokevirtual 313, 3) := by decide +kernel
theorem dX8_readBow_46 : decode cX8_readBow 46 = .ok (.istore_n 3, 1) := by decide +kernel
theorem dX8_readBow_47 : decode cX8_readBow 47 = .ok (.bipush 10, 2) := by decide +kernel
theorem dX8_readBow_49 : decode cX8_readBow 49 = .ok (.istore 4, 2) := by decide +kernel
theorem dX8_readBow_51 : decode cX8_readBow 51 = .ok (.aload_n 0, 1) := by decide +kernel
theorem dX8_readBow_52 : decode cX8_readBow 52 = .ok (.getfield 259, 3) := by decide +kernel
theorem dX8_readBow_55 : decode cX8_readBow 55 = .ok (.ifCond .ne 50, 3) := by decide +kernel
theorem dX8_readBow_58 : decode cX8_readBow 58 = .ok (.aload_n 0, 1) := by decide +kernel
theorem dX8_readBow_59 : decode cX8_readBow 59 = .ok (.ldc_w 316, 3) := by decide +kernel
theorem dX8_readBow_62 : decode cX8_readBow 62 = .ok (.invokevirtual 272, 3) := by decide +kernel
theorem dX8_readBow_65 : decode cX8_readBow 65 = .ok (.ifCond .eq 40, 3) := by decide +kernel
theorem dX8_readBow_68 : decode cX8_readBow 68 = .ok (.aload_n 0, 1) := by decide +kernel
theorem dX8_readBow_69 : decode cX8_readBow 69 = .ok (.aload_n 0, 1) := by decide +kernel
theorem dX8_readBow_70 : decode cX8_readBow 70 = .ok (.getfield 318, 3) := by decide +kernel
theorem dX8_readBow_73 : decode cX8_readBow 73 = .ok (.bipush 6, 2) := by decide +kernel
theorem dX8_readBow_75 : decode cX8_readBow 75 = .ok (.if_icmp .ge 7, 3) := by decide +kernel
theorem dX8_readBow_78 : decode cX8_readBow 78 = .ok (.iconst 1, 1) := by decide +kernel
theorem dX8_readBow_79 : decode cX8_readBow 79 = .ok (.goto 4, 3) := by decide +kernel
theorem dX8_readBow_82 : decode cX8_readBow 82 = .ok (.iconst 0, 1) := by decide +kernel
theorem dX8_readBow_83 : decode cX8_readBow 83 = .ok (.invokevirtual 265, 3) := by decide +kernel
theorem dX8_readBow_86 : decode cX8_readBow 86 = .ok (.aload_n 0, 1) := by decide +kernel
theorem dX8_readBow_87 : decode cX8_readBow 87 = .ok (.dup, 1) := by decide +kernel
theorem dX8_readBow_88 : decode cX8_readBow 88 = .ok (.getfield 318, 3) := by decide +kernel
theorem dX8_readBow_91 : decode cX8_readBow 91 = .ok (.iconst 1, 1) := by decide +kernel
theorem dX8_readBow_92 : decode cX8_readBow 92 = .ok (.iadd, 1) := by decide +kernel
theorem dX8_readBow_93 : decode cX8_readBow 93 = .ok (.putfield 318, 3) := by decide +kernel
theorem dX8_readBow_96 : decode cX8_readBow 96 = .ok (.aload_n 0, 1) := by decide +kernel
theorem dX8_readBow_97 : decode cX8_readBow 97 = .ok (.iconst 0, 1) := by decide +kernel
theorem dX8_readBow_98 : decode cX8_readBow 98 = .ok (.bipush 9, 2) := by decide +kernel
theorem dX8_readBow_100 : decode cX8_readBow 100 = .ok (.invokevirtual 276, 3) := by decide +kernel
theorem dX8_readBow_103 : decode cX8_readBow 103 = .ok (.istore 4, 2) := by decide +kernel
theorem dX8_readBow_105 : decode cX8_readBow 105 = .ok (.aload_n 0, 1) := by decide +kernel
theorem dX8_readBow_106 : decode cX8_readBow 106 = .ok (.bipush 10, 2) := by decide +kernel
theorem dX8_readBow_108 : decode cX8_readBow 108 = .ok (.iload_n 1, 1) := by decide +kernel
theorem dX8_readBow_109 : decode cX8_readBow 109 = .ok (.iload_n 2, 1) := by decide +kernel
theorem dX8_readBow_110 : decode cX8_readBow 110 = .ok (.iload_n 3, 1) := by decide +kernel
theorem dX8_readBow_111 : decode cX8_readBow 111 = .ok (.iload 4, 2) := by decide +kernel
theorem dX8_readBow_113 : decode cX8_readBow 113 = .ok (.iconst 0, 1) := by decide +kernel
theorem dX8_readBow_114 : decode cX8_readBow 114 = .ok (.invokevirtual 303, 3) := by decide +kernel
theorem dX8_readBow_117 : decode cX8_readBow 117 = .ok (.return_, 1) := by decide +kernel
set_option maxRecDepth 20000 in
theorem ggX8_readDeed_X8_must : GoodIn wsX8_readDeed wsX8_must := goodIn_r _ [7, 2, 8, 9, 10, 6, 11, 12, 13, 14, 15, 16, 17, 18, 19, 20, 21, 22, 23, 24, 25, 26, 27, 28, 105, 106, 107, 108, 109, 110, 111, 112, 113, 114, 115, 116, 117, 118, 119, 120, 121, 122, 123, 124, 125, 126, 127, 128, 129, 130, 131, 132, 133, 134, 135, 136] (by decide +kernel) (by decide +kernel)
set_option maxRecDepth 20000 in
theorem gX8_readDeed_X8_must : GoodIn wsX8_readDeed (wsV RX8 265 RX8 yX8_must wsX8_must) := goodIn_app (goodIn_of _ (by decide +kernel)) ggX8_readDeed_X8_must
set_option maxRecDepth 20000 in
theorem ggX8_readDeed_X8_number : GoodIn wsX8_readDeed wsX8_number := goodIn_r _ [32, 14, 15, 26, 27, 6, 28, 3, 4, 5, 7, 2, 8, 9, 10, 11, 12, 13, 16, 17, 18, 19, 20, 21, 22, 23, 24, 25, 105, 106, 107, 108, 109, 110, 111, 112, 113, 114, 115, 116, 117, 118, 119, 120, 121, 122, 123, 124, 125, 126, 127, 128, 129, 130, 131, 132, 133, 134, 135, 136] (by decide +kernel) (by decide +kernel)
set_option maxRecDepth 20000 in
theorem gX8_readDeed_X8_number : GoodIn wsX8_readDeed (wsV RX8 276 RX8 yX8_number wsX8_number) := goodIn_app (goodIn_of _ (by decide +kernel)) ggX8_readDeed_X8_number
set_option maxRecDepth 20000 in
theorem ggX8_readDeed_X8_mask : GoodIn wsX8_readDeed wsX8_mask := goodIn_r _ [36, 37, 29, 30, 31, 6, 32, 14, 15, 26, 27, 28, 3, 4, 5, 7, 2, 8, 9, 10, 11, 12, 13, 16, 17, 18, 19, 20, 21, 22, 23, 24, 25, 105, 106, 107, 108, 109, 110, 111, 112, 113, 114, 115, 116, 117, 118, 119, 120, 121, 122, 123, 124, 125, 126, 127, 128, 129, 130, 131, 132, 133, 134, 135, 136] (by decide +kernel) (by decide +kernel)
set_option maxRecDepth 20000 in
theorem gX8_readDeed_X8_mask : GoodIn wsX8_readDeed (wsV RX8 310 RX8 yX8_mask wsX8_mask) := goodIn_app (goodIn_of _ (by decide +kernel)) ggX8_readDeed_X8_mask
set_option maxRecDepth 20000 in
theorem ggX8_readDeed_X8_isWord : GoodIn wsX8_readDeed wsX8_isWord := goodIn_r _ [41, 15, 12, 13, 25, 42, 43, 44, 45, 46, 47, 48, 49, 50, 51, 52, 53, 54, 55, 56, 57, 58, 59, 60, 61, 62, 63, 64, 65, 66, 67, 68, 69, 70, 71, 72, 73, 74, 75, 76, 77, 78, 79, 80, 81, 82, 83, 84, 85, 86, 87, 88, 89, 90, 105, 106, 107, 108, 109, 110, 111, 112, 113, 114, 115, 116, 117, 118, 119, 120, 121, 122, 123, 124, 125, 126, 127, 128, 129, 130, 131, 132, 133, 134, 135, 136] (by decide +kernel) (by decide +kernel)
set_option maxRecDepth 20000 in
theorem gX8_readDeed_X8_isWord : GoodIn wsX8_readDeed (wsV RX8 272 RX8 yX8_isWord wsX8_isWord) := goodIn_app (goodIn_of _ (by decide +kernel)) ggX8_readDeed_X8_isWord
set_option maxRecDepth 20000 in
theorem ggX8_readDeed_X8_otherMask : GoodIn wsX8_readDeed wsX8_otherMask := goodIn_r _ [94, 14, 15, 95, 96, 97, 6, 98, 37, 26, 27, 28, 3, 4, 5, 7, 2, 8, 9, 10, 11, 12, 13, 16, 17, 18, 19, 20, 21, 22, 23, 24, 25, 105, 106, 107, 108, 109, 110, 111, 112, 113, 114, 115, 116, 117, 118, 119, 120, 121, 122, 123, 124, 125, 126, 127, 128, 129, 130, 131, 132, 133, 134, 135, 136] (by decide +kernel) (by decide +kernel)
set_option maxRecDepth 20000 in
theorem gX8_readDeed_X8_otherMask : GoodIn wsX8_readDeed (wsV RX8 313 RX8 yX8_otherMask wsX8_otherMask) := goodIn_app (goodIn_of _ (by decide +kernel)) ggX8_readDeed_X8_otherMask
set_option maxRecDepth 20000 in
theorem ggX8_readDeed_X8_item : GoodIn wsX8_readDeed wsX8_item := goodIn_r _ [102, 103, 104, 105, 106, 107, 108, 109, 110, 111, 112, 113, 114, 115, 116, 117, 118, 119, 120, 121, 122, 123, 124, 125, 126, 127, 128, 129, 130, 131, 132, 133, 134, 135, 136] (by decide +kernel) (by decide +kernel)
set_option maxRecDepth 20000 in
theorem gX8_readDeed_X8_item : GoodIn wsX8_readDeed (wsV RX8 303 RX8 yX8_item wsX8_item) := goodIn_app (goodIn_of _ (by decide +kernel)) ggX8_readDeed_X8_item
theorem dX8_readDeed_0 : decode cX8_readDeed 0 = .ok (.aload_n 0, 1) := by decide +kernel
theorem dX8_readDeed_1 : decode cX8_readDeed 1 = .ok (.aload_n 0, 1) := by decide +kernel
theorem dX8_readDeed_2 : decode cX8_readDeed 2 = .ok (.getfield 321, 3) := by decide +kernel
theorem dX8_readDeed_5 : decode cX8_readDeed 5 = .ok (.bipush 12, 2) := by decide +kernel
theorem dX8_readDeed_7 : decode cX8_readDeed 7 = .ok (.if_icmp .ge 7, 3) := by decide +kernel
theorem dX8_readDeed_10 : decode cX8_readDeed 10 = .ok (.iconst 1, 1) := by decide +kernel
theorem dX8_readDeed_11 : decode cX8_readDeed 11 = .ok (.goto 4, 3) := by decide +kernel
theorem dX8_readDeed_14 : decode cX8_readDeed 14 = .ok (.iconst 0, 1) := by decide +kernel
theorem dX8_readDeed_15 : decode cX8_readDeed 15 = .ok (.invokevirtual 265, 3) := by decide +kernel
theorem dX8_readDeed_18 : decode cX8_readDeed 18 = .ok (.aload_n 0, 1) := by decide +kernel
theorem dX8_readDeed_19 : decode cX8_readDeed 19 = .ok (.dup, 1) := by decide +kernel
theorem dX8_readDeed_20 : decode cX8_readDeed 20 = .ok (.getfield 321, 3) := by decide +kernel
theorem dX8_readDeed_23 : decode cX8_readDeed 23 = .ok (.iconst 1, 1) := by decide +kernel
theorem dX8_readDeed_24 : decode cX8_readDeed 24 = .ok (.iadd, 1) := by decide +kernel
theorem dX8_readDeed_25 : decode cX8_readDeed 25 = .ok (.putfield 321, 3) := by decide +kernel
theorem dX8_readDeed_28 : decode cX8_readDeed 28 = .ok (.aload_n 0, 1) := by decide +kernel
theorem dX8_readDeed_29 : decode cX8_readDeed 29 = .ok (.iconst 0, 1) := by decide +kernel
theorem dX8_readDeed_30 : decode cX8_readDeed 30 = .ok (.bipush 99, 2) := by decide +kernel
theorem dX8_readDeed_32 : decode cX8_readDeed 32 = .ok (.invokevirtual 276, 3) := by decide +kernel
theorem dX8_readDeed_35 : decode cX8_readDeed 35 = .ok (.istore_n 2, 1) := by decide +kernel
theorem dX8_readDeed_36 : decode cX8_readDeed 36 = .ok (.aload_n 0, 1) := by decide +kernel
theorem dX8_readDeed_37 : decode cX8_readDeed 37 = .ok (.invokevirtual 310, 3) := by decide +kernel
theorem dX8_readDeed_40 : decode cX8_readDeed 40 = .ok (.istore_n 3, 1) := by decide +kernel
theorem dX8_readDeed_41 : decode cX8_readDeed 41 = .ok (.aload_n 0, 1) := by decide +kernel
theorem dX8_readDeed_42 : decode cX8_readDeed 42 = .ok (.aload_n 0, 1) := by decide +kernel
theorem dX8_readDeed_43 : decode cX8_readDeed 43 = .ok (.ldc_w 324, 3) := by decide +kernel
theorem dX8_readDeed_46 : decode cX8_readDeed 46 = .ok (.invokevirtual 272, 3) := by decide +kernel
theorem dX8_readDeed_49 : decode cX8_readDeed 49 = .ok (.invokevirtual 265, 3) := by decide +kernel
theorem dX8_readDeed_52 : decode cX8_readDeed 52 = .ok (.aload_n 0, 1) := by decide +kernel
theorem dX8_readDeed_53 : decode cX8_readDeed 53 = .ok (.iload_n 3, 1) := by decide +kernel
theorem dX8_readDeed_54 : decode cX8_readDeed 54 = .ok (.invokevirtual 313, 3) := by decide +kernel
theorem dX8_readDeed_57 : decode cX8_readDeed 57 = .ok (.istore 4, 2) := by decide +kernel
theorem dX8_readDeed_59 : decode cX8_readDeed 59 = .ok (.bipush 10, 2) := by decide +kernel
theorem dX8_readDeed_61 : decode cX8_readDeed 61 = .ok (.istore 5, 2) := by decide +kernel
theorem dX8_readDeed_63 : decode cX8_readDeed 63 = .ok (.aload_n 0, 1) := by decide +kernel
theorem dX8_readDeed_64 : decode cX8_readDeed 64 = .ok (.getfield 259, 3) := by decide +kernel
theorem dX8_readDeed_67 : decode cX8_readDeed 67 = .ok (.ifCond .ne 28, 3) := by decide +kernel
theorem dX8_readDeed_70 : decode cX8_readDeed 70 = .ok (.aload_n 0, 1) := by decide +kernel
theorem dX8_readDeed_71 : decode cX8_readDeed 71 = .ok (.ldc_w 326, 3) := by decide +kernel
theorem dX8_readDeed_74 : decode cX8_readDeed 74 = .ok (.invokevirtual 272, 3) := by decide +kernel
theorem dX8_readDeed_77 : decode cX8_readDeed 77 = .ok (.ifCond .eq 18, 3) := by decide +kernel
theorem dX8_readDeed_80 : decode cX8_readDeed 80 = .ok (.aload_n 0, 1) := by decide +kernel
theorem dX8_readDeed_81 : decode cX8_readDeed 81 = .ok (.iconst 1, 1) := by decide +kernel
theorem dX8_readDeed_82 : decode cX8_readDeed 82 = .ok (.invokevirtual 265, 3) := by decide +kernel
theorem dX8_readDeed_85 : decode cX8_readDeed 85 = .ok (.aload_n 0, 1) := by decide +kernel
theorem dX8_readDeed_86 : decode cX8_readDeed 86 = .ok (.iconst 0, 1) := by decide +kernel
theorem dX8_readDeed_87 : decode cX8_readDeed 87 = .ok (.sipush 999, 3) := by decide +kernel
theorem dX8_readDeed_90 : decode cX8_readDeed 90 = .ok (.invokevirtual 276, 3) := by decide +kernel
theorem dX8_readDeed_93 : decode cX8_readDeed 93 = .ok (.istore 5, 2) := by decide +kernel
theorem dX8_readDeed_95 : decode cX8_readDeed 95 = .ok (.aload_n 0, 1) := by decide +kernel
theorem dX8_readDeed_96 : decode cX8_readDeed 96 = .ok (.iload_n 1, 1) := by decide +kernel
theorem dX8_readDeed_97 : decode cX8_readDeed 97 = .ok (.iload_n 2, 1) := by decide +kernel
theorem dX8_readDeed_98 : decode cX8_readDeed 98 = .ok (.iload_n 3, 1) := by decide +kernel
theorem dX8_readDeed_99 : decode cX8_readDeed 99 = .ok (.iload 4, 2) := by decide +kernel
theorem dX8_readDeed_101 : decode cX8_readDeed 101 = .ok (.iload 5, 2) := by decide +kernel
theorem dX8_readDeed_103 : decode cX8_readDeed 103 = .ok (.iconst 0, 1) := by decide +kernel
theorem dX8_readDeed_104 : decode cX8_readDeed 104 = .ok (.invokevirtual 303, 3) := by decide +kernel
theorem dX8_readDeed_107 : decode cX8_readDeed 107 = .ok (.return_, 1) := by decide +kernel
set_option maxRecDepth 20000 in
theorem ggX8_readSaying_X8_must : GoodIn wsX8_readSaying wsX8_must := goodIn_r _ [6, 7, 8, 9, 10, 5, 11, 12, 13, 14, 15, 16, 17, 18, 19, 20, 21, 22, 23, 24, 25, 26, 27, 28, 97, 98, 99, 100, 101, 102, 103, 104, 105, 106, 107, 108, 109, 110, 111, 112, 113, 114, 115, 116, 117, 118, 119, 120, 121, 122, 123, 124, 125, 126, 127, 128] (by decide +kernel) (by decide +kernel)
set_option maxRecDepth 20000 in
theorem gX8_readSaying_X8_must : GoodIn wsX8_readSaying (wsV RX8 265 RX8 yX8_must wsX8_must) := goodIn_app (goodIn_of _ (by decide +kernel)) ggX8_readSaying_X8_must
set_option maxRecDepth 20000 in
theorem ggX8_readSaying_X8_number : GoodIn wsX8_readSaying wsX8_number := goodIn_r _ [32, 14, 15, 26, 27, 5, 28, 2, 3, 4, 6, 7, 8, 9, 10, 11, 12, 13, 16, 17, 18, 19, 20, 21, 22, 23, 24, 25, 97, 98, 99, 100, 101, 102, 103, 104, 105, 106, 107, 108, 109, 110, 111, 112, 113, 114, 115, 116, 117, 118, 119, 120, 121, 122, 123, 124, 125, 126, 127, 128] (by decide +kernel) (by decide +kernel)
set_option maxRecDepth 20000 in
theorem gX8_readSaying_X8_number : GoodIn wsX8_readSaying (wsV RX8 276 RX8 yX8_number wsX8_number) := goodIn_app (goodIn_of _ (by decide +kernel)) ggX8_readSaying_X8_number
set_option maxRecDepth 20000 in
theorem ggX8_readSaying_X8_mask : GoodIn wsX8_readSaying wsX8_mask := goodIn_r _ [36, 37, 29, 30, 31, 5, 32, 14, 15, 26, 27, 28, 2, 3, 4, 6, 7, 8, 9, 10, 11, 12, 13, 16, 17, 18, 19, 20, 21, 22, 23, 24, 25, 97, 98, 99, 100, 101, 102, 103, 104, 105, 106, 107, 108, 109, 110, 111, 112, 113, 114, 115, 116, 117, 118, 119, 120, 121, 122, 123, 124, 125, 126, 127, 128] (by decide +kernel) (by decide +kernel)
set_option maxRecDepth 20000 in
theorem gX8_readSaying_X8_mask : GoodIn wsX8_readSaying (wsV RX8 310 RX8 yX8_mask wsX8_mask) := goodIn_app (goodIn_of _ (by decide +kernel)) ggX8_readSaying_X8_mask
set_option maxRecDepth 20000 in
theorem ggX8_readSaying_X8_isWord : GoodIn wsX8_readSaying wsX8_isWord := goodIn_r _ [41, 15, 12, 13, 25, 42, 43, 44, 45, 46, 47, 48, 49, 50, 51, 52, 53, 54, 55, 56, 57, 58, 59, 60, 61, 62, 63, 64, 65, 66, 67, 68, 69, 70, 71, 72, 73, 74, 75, 76, 77, 78, 79, 80, 81, 82, 83, 84, 85, 86, 87, 88, 89, 90, 97, 98, 99, 100, 101, 102, 103, 104, 105, 106, 107, 108, 109, 110, 111, 112, 113, 114, 115, 116, 117, 118, 119, 120, 121, 122, 123, 124, 125, 126, 127, 128] (by decide +kernel) (by decide +kernel)
set_option maxRecDepth 20000 in
theorem gX8_readSaying_X8_isWord : GoodIn wsX8_readSaying (wsV RX8 272 RX8 yX8_isWord wsX8_isWord) := goodIn_app (goodIn_of _ (by decide +kernel)) ggX8_readSaying_X8_isWord
set_option maxRecDepth 20000 in
theorem ggX8_readSaying_X8_item : GoodIn wsX8_readSaying wsX8_item := goodIn_r _ [94, 95, 96, 97, 98, 99, 100, 101, 102, 103, 104, 105, 106, 107, 108, 109, 110, 111, 112, 113, 114, 115, 116, 117, 118, 119, 120, 121, 122, 123, 124, 125, 126, 127, 128] (by decide +kernel) (by decide +kernel)
set_option maxRecDepth 20000 in
theorem gX8_readSaying_X8_item : GoodIn wsX8_readSaying (wsV RX8 303 RX8 yX8_item wsX8_item) := goodIn_app (goodIn_of _ (by decide +kernel)) ggX8_readSaying_X8_item
theorem dX8_readSaying_0 : decode cX8_readSaying 0 = .ok (.aload_n 0, 1) := by decide +kernel
theorem dX8_readSaying_1 : decode cX8_readSaying 1 = .ok (.aload_n 0, 1) := by decide +kernel
theorem dX8_readSaying_2 : decode cX8_readSaying 2 = .ok (.getfield 328, 3) := by decide +kernel
theorem dX8_readSaying_5 : decode cX8_readSaying 5 = .ok (.bipush 10, 2) := by decide +kernel
theorem dX8_readSaying_7 : decode cX8_readSaying 7 = .ok (.if_icmp .ge 7, 3) := by decide +kernel
theorem dX8_readSaying_10 : decode cX8_readSaying 10 = .ok (.iconst 1, 1) := by decide +kernel
theorem dX8_readSaying_11 : decode cX8_readSaying 11 = .ok (.goto 4, 3) := by decide +kernel
theorem dX8_readSaying_14 : decode cX8_readSaying 14 = .ok (.iconst 0, 1) := by decide +kernel
theorem dX8_readSaying_15 : decode cX8_readSaying 15 = .ok (.invokevirtual 265, 3) := by decide +kernel
theorem dX8_readSaying_18 : decode cX8_readSaying 18 = .ok (.aload_n 0, 1) := by decide +kernel
theorem dX8_readSaying_19 : decode cX8_readSaying 19 = .ok (.dup, 1) := by decide +kernel
theorem dX8_readSaying_20 : decode cX8_readSaying 20 = .ok (.getfield 328, 3) := by decide +kernel
theorem dX8_readSaying_23 : decode cX8_readSaying 23 = .ok (.iconst 1, 1) := by decide +kernel
theorem dX8_readSaying_24 : decode cX8_readSaying 24 = .ok (.iadd, 1) := by decide +kernel
theorem dX8_readSaying_25 : decode cX8_readSaying 25 = .ok (.putfield 328, 3) := by decide +kernel
theorem dX8_readSaying_28 : decode cX8_readSaying 28 = .ok (.aload_n 0, 1) := by decide +kernel
theorem dX8_readSaying_29 : decode cX8_readSaying 29 = .ok (.iconst 0, 1) := by decide +kernel
theorem dX8_readSaying_30 : decode cX8_readSaying 30 = .ok (.bipush 99, 2) := by decide +kernel
theorem dX8_readSaying_32 : decode cX8_readSaying 32 = .ok (.invokevirtual 276, 3) := by decide +kernel
theorem dX8_readSaying_35 : decode cX8_readSaying 35 = .ok (.istore_n 1, 1) := by decide +kernel
theorem dX8_readSaying_36 : decode cX8_readSaying 36 = .ok (.aload_n 0, 1) := by decide +kernel
theorem dX8_readSaying_37 : decode cX8_readSaying 37 = .ok (.invokevirtual 310, 3) := by decide +kernel
theorem dX8_readSaying_40 : decode cX8_readSaying 40 = .ok (.istore_n 2, 1) := by decide +kernel
theorem dX8_readSaying_41 : decode cX8_readSaying 41 = .ok (.aload_n 0, 1) := by decide +kernel
theorem dX8_readSaying_42 : decode cX8_readSaying 42 = .ok (.ldc_w 331, 3) := by decide +kernel
theorem dX8_readSaying_45 : decode cX8_readSaying 45 = .ok (.invokevirtual 272, 3) := by decide +kernel
theorem dX8_readSaying_48 : decode cX8_readSaying 48 = .ok (.ifCond .eq 7, 3) := by decide +kernel
theorem dX8_readSaying_51 : decode cX8_readSaying 51 = .ok (.iconst 1, 1) := by decide +kernel
theorem dX8_readSaying_52 : decode cX8_readSaying 52 = .ok (.goto 4, 3) := by decide +kernel
theorem dX8_readSaying_55 : decode cX8_readSaying 55 = .ok (.iconst 0, 1) := by decide +kernel
theorem dX8_readSaying_56 : decode cX8_readSaying 56 = .ok (.istore_n 3, 1) := by decide +kernel
theorem dX8_readSaying_57 : decode cX8_readSaying 57 = .ok (.aload_n 0, 1) := by decide +kernel
theorem dX8_readSaying_58 : decode cX8_readSaying 58 = .ok (.aload_n 0, 1) := by decide +kernel
theorem dX8_readSaying_59 : decode cX8_readSaying 59 = .ok (.ldc_w 331, 3) := by decide +kernel
theorem dX8_readSaying_62 : decode cX8_readSaying 62 = .ok (.invokevirtual 272, 3) := by decide +kernel
theorem dX8_readSaying_65 : decode cX8_readSaying 65 = .ok (.ifCond .ne 13, 3) := by decide +kernel
theorem dX8_readSaying_68 : decode cX8_readSaying 68 = .ok (.aload_n 0, 1) := by decide +kernel
theorem dX8_readSaying_69 : decode cX8_readSaying 69 = .ok (.ldc_w 333, 3) := by decide +kernel
theorem dX8_readSaying_72 : decode cX8_readSaying 72 = .ok (.invokevirtual 272, 3) := by decide +kernel
theorem dX8_readSaying_75 : decode cX8_readSaying 75 = .ok (.ifCond .eq 7, 3) := by decide +kernel
theorem dX8_readSaying_78 : decode cX8_readSaying 78 = .ok (.iconst 1, 1) := by decide +kernel
theorem dX8_readSaying_79 : decode cX8_readSaying 79 = .ok (.goto 4, 3) := by decide +kernel
theorem dX8_readSaying_82 : decode cX8_readSaying 82 = .ok (.iconst 0, 1) := by decide +kernel
theorem dX8_readSaying_83 : decode cX8_readSaying 83 = .ok (.invokevirtual 265, 3) := by decide +kernel
theorem dX8_readSaying_86 : decode cX8_readSaying 86 = .ok (.aload_n 0, 1) := by decide +kernel
theorem dX8_readSaying_87 : decode cX8_readSaying 87 = .ok (.bipush 11, 2) := by decide +kernel
theorem dX8_readSaying_89 : decode cX8_readSaying 89 = .ok (.iload_n 1, 1) := by decide +kernel
theorem dX8_readSaying_90 : decode cX8_readSaying 90 = .ok (.iload_n 2, 1) := by decide +kernel
theorem dX8_readSaying_91 : decode cX8_readSaying 91 = .ok (.aload_n 0, 1) := by decide +kernel
theorem dX8_readSaying_92 : decode cX8_readSaying 92 = .ok (.invokevirtual 310, 3) := by decide +kernel
theorem dX8_readSaying_95 : decode cX8_readSaying 95 = .ok (.iload_n 3, 1) := by decide +kernel
theorem dX8_readSaying_96 : decode cX8_readSaying 96 = .ok (.iconst 0, 1) := by decide +kernel
theorem dX8_readSaying_97 : decode cX8_readSaying 97 = .ok (.invokevirtual 303, 3) := by decide +kernel
theorem dX8_readSaying_100 : decode cX8_readSaying 100 = .ok (.return_, 1) := by decide +kernel
set_option maxRecDepth 20000 in
theorem ggX8_isSo_X8_bowed : GoodIn wsX8_isSo wsX8_bowed := goodIn_r _ [7, 2, 16, 17, 18, 19, 20, 21, 22, 23, 24, 25, 26, 27, 28, 29, 30, 31, 32, 33, 34, 35, 36, 37, 38, 39, 40, 41, 42, 43, 44, 45, 46, 47] (by decide +kernel) (by decide +kernel)
set_option maxRecDepth 20000 in
theorem gX8_isSo_X8_bowed : GoodIn wsX8_isSo (wsV RX8 110 RX8 yX8_bowed wsX8_bowed) := goodIn_app (goodIn_of _ (by decide +kernel)) ggX8_isSo_X8_bowed
set_option maxRecDepth 20000 in
theorem ggX8_isSo_X8_said : GoodIn wsX8_isSo wsX8_said := goodIn_r _ [11, 2, 16, 17, 18, 19, 20, 21, 22, 23, 24, 25, 26, 27, 28, 29, 30, 31, 32, 33, 34, 35, 36, 37, 38, 39, 40, 41, 42, 43, 44, 45, 46, 47] (by decide +kernel) (by decide +kernel)
set_option maxRecDepth 20000 in
theorem gX8_isSo_X8_said : GoodIn wsX8_isSo (wsV RX8 120 RX8 yX8_said wsX8_said) := goodIn_app (goodIn_of _ (by decide +kernel)) ggX8_isSo_X8_said
set_option maxRecDepth 20000 in
theorem ggX8_isSo_X8_done : GoodIn wsX8_isSo wsX8_done := goodIn_r _ [15, 2, 16, 17, 18, 19, 20, 21, 22, 23, 24, 25, 26, 27, 28, 29, 30, 31, 32, 33, 34, 35, 36, 37, 38, 39, 40, 41, 42, 43, 44, 45, 46, 47] (by decide +kernel) (by decide +kernel)
set_option maxRecDepth 20000 in
theorem gX8_isSo_X8_done : GoodIn wsX8_isSo (wsV RX8 192 RX8 yX8_done wsX8_done) := goodIn_app (goodIn_of _ (by decide +kernel)) ggX8_isSo_X8_done
theorem dX8_isSo_0 : decode cX8_isSo 0 = .ok (.aload_n 0, 1) := by decide +kernel
theorem dX8_isSo_1 : decode cX8_isSo 1 = .ok (.getfield 62, 3) := by decide +kernel
theorem dX8_isSo_4 : decode cX8_isSo 4 = .ok (.iload_n 1, 1) := by decide +kernel
theorem dX8_isSo_5 : decode cX8_isSo 5 = .ok (.iconst 1, 1) := by decide +kernel
theorem dX8_isSo_6 : decode cX8_isSo 6 = .ok (.iadd, 1) := by decide +kernel
theorem dX8_isSo_7 : decode cX8_isSo 7 = .ok (.iaload, 1) := by decide +kernel
theorem dX8_isSo_8 : decode cX8_isSo 8 = .ok (.istore_n 2, 1) := by decide +kernel
theorem dX8_isSo_9 : decode cX8_isSo 9 = .ok (.aload_n 0, 1) := by decide +kernel
theorem dX8_isSo_10 : decode cX8_isSo 10 = .ok (.getfield 62, 3) := by decide +kernel
theorem dX8_isSo_13 : decode cX8_isSo 13 = .ok (.iload_n 1, 1) := by decide +kernel
theorem dX8_isSo_14 : decode cX8_isSo 14 = .ok (.iconst 2, 1) := by decide +kernel
theorem dX8_isSo_15 : decode cX8_isSo 15 = .ok (.iadd, 1) := by decide +kernel
theorem dX8_isSo_16 : decode cX8_isSo 16 = .ok (.iaload, 1) := by decide +kernel
theorem dX8_isSo_17 : decode cX8_isSo 17 = .ok (.istore_n 3, 1) := by decide +kernel
theorem dX8_isSo_18 : decode cX8_isSo 18 = .ok (.aload_n 0, 1) := by decide +kernel
theorem dX8_isSo_19 : decode cX8_isSo 19 = .ok (.getfield 62, 3) := by decide +kernel
theorem dX8_isSo_22 : decode cX8_isSo 22 = .ok (.iload_n 1, 1) := by decide +kernel
theorem dX8_isSo_23 : decode cX8_isSo 23 = .ok (.iconst 3, 1) := by decide +kernel
theorem dX8_isSo_24 : decode cX8_isSo 24 = .ok (.iadd, 1) := by decide +kernel
theorem dX8_isSo_25 : decode cX8_isSo 25 = .ok (.iaload, 1) := by decide +kernel
theorem dX8_isSo_26 : decode cX8_isSo 26 = .ok (.istore 4, 2) := by decide +kernel
theorem dX8_isSo_28 : decode cX8_isSo 28 = .ok (.aload_n 0, 1) := by decide +kernel
theorem dX8_isSo_29 : decode cX8_isSo 29 = .ok (.getfield 62, 3) := by decide +kernel
theorem dX8_isSo_32 : decode cX8_isSo 32 = .ok (.iload_n 1, 1) := by decide +kernel
theorem dX8_isSo_33 : decode cX8_isSo 33 = .ok (.iconst 4, 1) := by decide +kernel
theorem dX8_isSo_34 : decode cX8_isSo 34 = .ok (.iadd, 1) := by decide +kernel
theorem dX8_isSo_35 : decode cX8_isSo 35 = .ok (.iaload, 1) := by decide +kernel
theorem dX8_isSo_36 : decode cX8_isSo 36 = .ok (.istore 5, 2) := by decide +kernel
theorem dX8_isSo_38 : decode cX8_isSo 38 = .ok (.aload_n 0, 1) := by decide +kernel
theorem dX8_isSo_39 : decode cX8_isSo 39 = .ok (.getfield 62, 3) := by decide +kernel
theorem dX8_isSo_42 : decode cX8_isSo 42 = .ok (.iload_n 1, 1) := by decide +kernel
theorem dX8_isSo_43 : decode cX8_isSo 43 = .ok (.iaload, 1) := by decide +kernel
theorem dX8_isSo_44 : decode cX8_isSo 44 = .ok (.tableswitch 70 10 12 #[28, 43, 58], 28) := by decide +kernel
theorem dX8_isSo_72 : decode cX8_isSo 72 = .ok (.aload_n 0, 1) := by decide +kernel
theorem dX8_isSo_73 : decode cX8_isSo 73 = .ok (.iload_n 2, 1) := by decide +kernel
theorem dX8_isSo_74 : decode cX8_isSo 74 = .ok (.iload_n 3, 1) := by decide +kernel
theorem dX8_isSo_75 : decode cX8_isSo 75 = .ok (.iload 4, 2) := by decide +kernel
theorem dX8_isSo_77 : decode cX8_isSo 77 = .ok (.iload 5, 2) := by decide +kernel
theorem dX8_isSo_79 : decode cX8_isSo 79 = .ok (.invokevirtual 110, 3) := by decide +kernel
theorem dX8_isSo_82 : decode cX8_isSo 82 = .ok (.istore 6, 2) := by decide +kernel
theorem dX8_isSo_84 : decode cX8_isSo 84 = .ok (.goto 48, 3) := by decide +kernel
theorem dX8_isSo_87 : decode cX8_isSo 87 = .ok (.aload_n 0, 1) := by decide +kernel
theorem dX8_isSo_88 : decode cX8_isSo 88 = .ok (.iload_n 2, 1) := by decide +kernel
theorem dX8_isSo_89 : decode cX8_isSo 89 = .ok (.iload_n 3, 1) := by decide +kernel
theorem dX8_isSo_90 : decode cX8_isSo 90 = .ok (.iload 4, 2) := by decide +kernel
theorem dX8_isSo_92 : decode cX8_isSo 92 = .ok (.iload 5, 2) := by decide +kernel
theorem dX8_isSo_94 : decode cX8_isSo 94 = .ok (.invokevirtual 120, 3) := by decide +kernel
theorem dX8_isSo_97 : decode cX8_isSo 97 = .ok (.istore 6, 2) := by decide +kernel
theorem dX8_isSo_99 : decode cX8_isSo 99 = .ok (.goto 33, 3) := by decide +kernel
theorem dX8_isSo_102 : decode cX8_isSo 102 = .ok (.aload_n 0, 1) := by decide +kernel
theorem dX8_isSo_103 : decode cX8_isSo 103 = .ok (.getfield 9, 3) := by decide +kernel
theorem dX8_isSo_106 : decode cX8_isSo 106 = .ok (.iconst 1, 1) := by decide +kernel
theorem dX8_isSo_107 : decode cX8_isSo 107 = .ok (.iload_n 2, 1) := by decide +kernel
theorem dX8_isSo_108 : decode cX8_isSo 108 = .ok (.iadd, 1) := by decide +kernel
theorem dX8_isSo_109 : decode cX8_isSo 109 = .ok (.iload_n 3, 1) := by decide +kernel
theorem dX8_isSo_110 : decode cX8_isSo 110 = .ok (.iastore, 1) := by decide +kernel
theorem dX8_isSo_111 : decode cX8_isSo 111 = .ok (.goto 21, 3) := by decide +kernel
theorem dX8_isSo_114 : decode cX8_isSo 114 = .ok (.aload_n 0, 1) := by decide +kernel
theorem dX8_isSo_115 : decode cX8_isSo 115 = .ok (.aload_n 0, 1) := by decide +kernel
theorem dX8_isSo_116 : decode cX8_isSo 116 = .ok (.getfield 62, 3) := by decide +kernel
theorem dX8_isSo_119 : decode cX8_isSo 119 = .ok (.iload_n 1, 1) := by decide +kernel
theorem dX8_isSo_120 : decode cX8_isSo 120 = .ok (.iaload, 1) := by decide +kernel
theorem dX8_isSo_121 : decode cX8_isSo 121 = .ok (.iload_n 2, 1) := by decide +kernel
theorem dX8_isSo_122 : decode cX8_isSo 122 = .ok (.iload_n 3, 1) := by decide +kernel
theorem dX8_isSo_123 : decode cX8_isSo 123 = .ok (.iload 4, 2) := by decide +kernel
theorem dX8_isSo_125 : decode cX8_isSo 125 = .ok (.iload 5, 2) := by decide +kernel
theorem dX8_isSo_127 : decode cX8_isSo 127 = .ok (.invokevirtual 192, 3) := by decide +kernel
theorem dX8_isSo_130 : decode cX8_isSo 130 = .ok (.istore 6, 2) := by decide +kernel
theorem dX8_isSo_132 : decode cX8_isSo 132 = .ok (.return_, 1) := by decide +kernel
set_option maxRecDepth 20000 in
theorem ggX8_carnival_X8_doubtedOnes : GoodIn wsX8_carnival wsX8_doubtedOnes := goodIn_r _ [17, 4, 18, 19, 20, 16, 21, 153, 154, 155, 156, 157, 158, 159, 160, 161, 162, 163, 164, 165, 166, 167, 168, 169, 170, 171, 172, 173, 174, 175, 176, 177, 178, 179, 180, 181, 182, 183, 184] (by decide +kernel) (by decide +kernel)
set_option maxRecDepth 20000 in
theorem gX8_carnival_X8_doubtedOnes : GoodIn wsX8_carnival (wsV RX8 105 RX8 yX8_doubtedOnes wsX8_doubtedOnes) := goodIn_app (goodIn_of _ (by decide +kernel)) ggX8_carnival_X8_doubtedOnes
set_option maxRecDepth 20000 in
theorem ggX8_carnival_X8_next : GoodIn wsX8_carnival wsX8_next := goodIn_r _ [25, 1, 11, 26, 9, 27, 28, 29, 30, 31, 32, 33, 16, 34, 12, 10, 35, 36, 37, 153, 154, 155, 156, 157, 158, 159, 160, 161, 162, 163, 164, 165, 166, 167, 168, 169, 170, 171, 172, 173, 174, 175, 176, 177, 178, 179, 180, 181, 182, 183, 184] (by decide +kernel) (by decide +kernel)
set_option maxRecDepth 20000 in
theorem gX8_carnival_X8_next : GoodIn wsX8_carnival (wsV RX8 262 RX8 yX8_next wsX8_next) := goodIn_app (goodIn_of _ (by decide +kernel)) ggX8_carnival_X8_next
set_option maxRecDepth 20000 in
theorem ggX8_carnival_X8_readItem : GoodIn wsX8_carnival wsX8_readItem := goodIn_r _ [41, 42, 43, 44, 16, 45, 46, 47, 48, 49, 50, 9, 1, 11, 10, 51, 52, 53, 54, 55, 56, 57, 58, 59, 60, 61, 62, 63, 64, 65, 66, 67, 68, 69, 70, 71, 72, 73, 74, 75, 76, 77, 78, 79, 80, 81, 82, 83, 84, 85, 86, 87, 88, 89, 90, 91, 92, 93, 94, 95, 96, 97, 98, 99, 100, 101, 102, 103, 7, 2, 104, 105, 106, 107, 22, 23, 24, 25, 26, 27, 28, 29, 30, 31, 32, 33, 34, 12, 35, 36, 37, 108, 109, 110, 111, 112, 113, 114, 115, 4, 116, 117, 118, 119, 120, 121, 122, 123, 124, 125, 126, 127, 3, 128, 129, 130, 131, 132, 5, 6, 133, 134, 135, 136, 8, 153, 154, 155, 156, 157, 158, 159, 160, 161, 162, 163, 164, 165, 166, 167, 168, 169, 170, 171, 172, 173, 174, 175, 176, 177, 178, 179, 180, 181, 182, 183, 184] (by decide +kernel) (by decide +kernel)
set_option maxRecDepth 20000 in
theorem gX8_carnival_X8_readItem : GoodIn wsX8_carnival (wsV RX8 335 RX8 yX8_readItem wsX8_readItem) := goodIn_app (goodIn_of _ (by decide +kernel)) ggX8_carnival_X8_readItem
set_option maxRecDepth 20000 in
theorem ggX8_carnival_X8_must : GoodIn wsX8_carnival wsX8_must := goodIn_r _ [107, 2, 22, 23, 24, 16, 25, 1, 11, 26, 9, 27, 28, 29, 30, 31, 32, 33, 34, 12, 10, 35, 36, 37, 153, 154, 155, 156, 157, 158, 159, 160, 161, 162, 163, 164, 165, 166, 167, 168, 169, 170, 171, 172, 173, 174, 175, 176, 177, 178, 179, 180, 181, 182, 183, 184] (by decide +kernel) (by decide +kernel)
set_option maxRecDepth 20000 in
theorem gX8_carnival_X8_must : GoodIn wsX8_carnival (wsV RX8 265 RX8 yX8_must wsX8_must) := goodIn_app (goodIn_of _ (by decide +kernel)) ggX8_carnival_X8_must
set_option maxRecDepth 20000 in
theorem ggX8_carnival_X8_isSo : GoodIn wsX8_carnival wsX8_isSo := goodIn_r _ [140, 128, 4, 141, 142, 143, 16, 144, 145, 146, 147, 148, 149, 150, 151, 152, 153, 154, 155, 156, 157, 158, 159, 160, 161, 162, 163, 164, 165, 166, 167, 168, 169, 170, 171, 172, 173, 174, 175, 176, 177, 178, 179, 180, 181, 182, 183, 184] (by decide +kernel) (by decide +kernel)
set_option maxRecDepth 20000 in
theorem gX8_carnival_X8_isSo : GoodIn wsX8_carnival (wsV RX8 338 RX8 yX8_isSo wsX8_isSo) := goodIn_app (goodIn_of _ (by decide +kernel)) ggX8_carnival_X8_isSo
theorem dX8_carnival_0 : decode cX8_carnival 0 = .ok (.aload_n 0, 1) := by decide +kernel
theorem dX8_carnival_1 : decode cX8_carnival 1 = .ok (.iconst 0, 1) := by decide +kernel
theorem dX8_carnival_2 : decode cX8_carnival 2 = .ok (.putfield 237, 3) := by decide +kernel
theorem dX8_carnival_5 : decode cX8_carnival 5 = .ok (.aload_n 0, 1) := by decide +kernel
theorem dX8_carnival_6 : decode cX8_carnival 6 = .ok (.iconst 0, 1) := by decide +kernel
theorem dX8_carnival_7 : decode cX8_carnival 7 = .ok (.putfield 259, 3) := by decide +kernel
theorem dX8_carnival_10 : decode cX8_carnival 10 = .ok (.aload_n 0, 1) := by decide +kernel
theorem dX8_carnival_11 : decode cX8_carnival 11 = .ok (.iconst 0, 1) := by decide +kernel
theorem dX8_carnival_12 : decode cX8_carnival 12 = .ok (.putfield 269, 3) := by decide +kernel
theorem dX8_carnival_15 : decode cX8_carnival 15 = .ok (.aload_n 0, 1) := by decide +kernel
theorem dX8_carnival_16 : decode cX8_carnival 16 = .ok (.aload_n 0, 1) := by decide +kernel
theorem dX8_carnival_17 : decode cX8_carnival 17 = .ok (.getfield 9, 3) := by decide +kernel
theorem dX8_carnival_20 : decode cX8_carnival 20 = .ok (.iconst 3, 1) := by decide +kernel
theorem dX8_carnival_21 : decode cX8_carnival 21 = .ok (.iaload, 1) := by decide +kernel
theorem dX8_carnival_22 : decode cX8_carnival 22 = .ok (.putfield 307, 3) := by decide +kernel
theorem dX8_carnival_25 : decode cX8_carnival 25 = .ok (.aload_n 0, 1) := by decide +kernel
theorem dX8_carnival_26 : decode cX8_carnival 26 = .ok (.aload_n 0, 1) := by decide +kernel
theorem dX8_carnival_27 : decode cX8_carnival 27 = .ok (.invokevirtual 105, 3) := by decide +kernel
theorem dX8_carnival_30 : decode cX8_carnival 30 = .ok (.putfield 318, 3) := by decide +kernel
theorem dX8_carnival_33 : decode cX8_carnival 33 = .ok (.aload_n 0, 1) := by decide +kernel
theorem dX8_carnival_34 : decode cX8_carnival 34 = .ok (.aload_n 0, 1) := by decide +kernel
theorem dX8_carnival_35 : decode cX8_carnival 35 = .ok (.getfield 9, 3) := by decide +kernel
theorem dX8_carnival_38 : decode cX8_carnival 38 = .ok (.iconst 4, 1) := by decide +kernel
theorem dX8_carnival_39 : decode cX8_carnival 39 = .ok (.iaload, 1) := by decide +kernel
theorem dX8_carnival_40 : decode cX8_carnival 40 = .ok (.putfield 321, 3) := by decide +kernel
theorem dX8_carnival_43 : decode cX8_carnival 43 = .ok (.aload_n 0, 1) := by decide +kernel
theorem dX8_carnival_44 : decode cX8_carnival 44 = .ok (.aload_n 0, 1) := by decide +kernel
theorem dX8_carnival_45 : decode cX8_carnival 45 = .ok (.getfield 9, 3) := by decide +kernel
theorem dX8_carnival_48 : decode cX8_carnival 48 = .ok (.iconst 5, 1) := by decide +kernel
theorem dX8_carnival_49 : decode cX8_carnival 49 = .ok (.iaload, 1) := by decide +kernel
theorem dX8_carnival_50 : decode cX8_carnival 50 = .ok (.putfield 328, 3) := by decide +kernel
theorem dX8_carnival_53 : decode cX8_carnival 53 = .ok (.aload_n 0, 1) := by decide +kernel
theorem dX8_carnival_54 : decode cX8_carnival 54 = .ok (.invokevirtual 262, 3) := by decide +kernel
theorem dX8_carnival_57 : decode cX8_carnival 57 = .ok (.aload_n 0, 1) := by decide +kernel
theorem dX8_carnival_58 : decode cX8_carnival 58 = .ok (.invokevirtual 335, 3) := by decide +kernel
theorem dX8_carnival_61 : decode cX8_carnival 61 = .ok (.aload_n 0, 1) := by decide +kernel
theorem dX8_carnival_62 : decode cX8_carnival 62 = .ok (.getfield 259, 3) := by decide +kernel
theorem dX8_carnival_65 : decode cX8_carnival 65 = .ok (.ifCond .ne 37, 3) := by decide +kernel
theorem dX8_carnival_68 : decode cX8_carnival 68 = .ok (.aload_n 0, 1) := by decide +kernel
theorem dX8_carnival_69 : decode cX8_carnival 69 = .ok (.getfield 249, 3) := by decide +kernel
theorem dX8_carnival_72 : decode cX8_carnival 72 = .ok (.iconst 3, 1) := by decide +kernel
theorem dX8_carnival_73 : decode cX8_carnival 73 = .ok (.if_icmp .ne 29, 3) := by decide +kernel
theorem dX8_carnival_76 : decode cX8_carnival 76 = .ok (.aload_n 0, 1) := by decide +kernel
theorem dX8_carnival_77 : decode cX8_carnival 77 = .ok (.getfield 41, 3) := by decide +kernel
theorem dX8_carnival_80 : decode cX8_carnival 80 = .ok (.aload_n 0, 1) := by decide +kernel
theorem dX8_carnival_81 : decode cX8_carnival 81 = .ok (.getfield 240, 3) := by decide +kernel
theorem dX8_carnival_84 : decode cX8_carnival 84 = .ok (.iaload, 1) := by decide +kernel
theorem dX8_carnival_85 : decode cX8_carnival 85 = .ok (.bipush 59, 2) := by decide +kernel
theorem dX8_carnival_87 : decode cX8_carnival 87 = .ok (.if_icmp .ne 15, 3) := by decide +kernel
theorem dX8_carnival_90 : decode cX8_carnival 90 = .ok (.aload_n 0, 1) := by decide +kernel
theorem dX8_carnival_91 : decode cX8_carnival 91 = .ok (.iconst 1, 1) := by decide +kernel
theorem dX8_carnival_92 : decode cX8_carnival 92 = .ok (.invokevirtual 265, 3) := by decide +kernel
theorem dX8_carnival_95 : decode cX8_carnival 95 = .ok (.aload_n 0, 1) := by decide +kernel
theorem dX8_carnival_96 : decode cX8_carnival 96 = .ok (.invokevirtual 335, 3) := by decide +kernel
theorem dX8_carnival_99 : decode cX8_carnival 99 = .ok (.goto (-38), 3) := by decide +kernel
theorem dX8_carnival_102 : decode cX8_carnival 102 = .ok (.aload_n 0, 1) := by decide +kernel
theorem dX8_carnival_103 : decode cX8_carnival 103 = .ok (.aload_n 0, 1) := by decide +kernel
theorem dX8_carnival_104 : decode cX8_carnival 104 = .ok (.getfield 249, 3) := by decide +kernel
theorem dX8_carnival_107 : decode cX8_carnival 107 = .ok (.ifCond .ne 7, 3) := by decide +kernel
theorem dX8_carnival_110 : decode cX8_carnival 110 = .ok (.iconst 1, 1) := by decide +kernel
theorem dX8_carnival_111 : decode cX8_carnival 111 = .ok (.goto 4, 3) := by decide +kernel
theorem dX8_carnival_114 : decode cX8_carnival 114 = .ok (.iconst 0, 1) := by decide +kernel
theorem dX8_carnival_115 : decode cX8_carnival 115 = .ok (.invokevirtual 265, 3) := by decide +kernel
theorem dX8_carnival_118 : decode cX8_carnival 118 = .ok (.aload_n 0, 1) := by decide +kernel
theorem dX8_carnival_119 : decode cX8_carnival 119 = .ok (.iconst 0, 1) := by decide +kernel
theorem dX8_carnival_120 : decode cX8_carnival 120 = .ok (.putfield 234, 3) := by decide +kernel
theorem dX8_carnival_123 : decode cX8_carnival 123 = .ok (.aload_n 0, 1) := by decide +kernel
theorem dX8_carnival_124 : decode cX8_carnival 124 = .ok (.getfield 259, 3) := by decide +kernel
theorem dX8_carnival_127 : decode cX8_carnival 127 = .ok (.ifCond .eq 10, 3) := by decide +kernel
theorem dX8_carnival_130 : decode cX8_carnival 130 = .ok (.iconst (-1), 1) := by decide +kernel
theorem dX8_carnival_131 : decode cX8_carnival 131 = .ok (.aload_n 0, 1) := by decide +kernel
theorem dX8_carnival_132 : decode cX8_carnival 132 = .ok (.getfield 240, 3) := by decide +kernel
theorem dX8_carnival_135 : decode cX8_carnival 135 = .ok (.isub, 1) := by decide +kernel
theorem dX8_carnival_136 : decode cX8_carnival 136 = .ok (.ireturn, 1) := by decide +kernel
theorem dX8_carnival_137 : decode cX8_carnival 137 = .ok (.iconst 0, 1) := by decide +kernel
theorem dX8_carnival_138 : decode cX8_carnival 138 = .ok (.istore_n 1, 1) := by decide +kernel
theorem dX8_carnival_139 : decode cX8_carnival 139 = .ok (.iload_n 1, 1) := by decide +kernel
theorem dX8_carnival_140 : decode cX8_carnival 140 = .ok (.aload_n 0, 1) := by decide +kernel
theorem dX8_carnival_141 : decode cX8_carnival 141 = .ok (.getfield 269, 3) := by decide +kernel
theorem dX8_carnival_144 : decode cX8_carnival 144 = .ok (.if_icmp .ge 17, 3) := by decide +kernel
theorem dX8_carnival_147 : decode cX8_carnival 147 = .ok (.aload_n 0, 1) := by decide +kernel
theorem dX8_carnival_148 : decode cX8_carnival 148 = .ok (.bipush 6, 2) := by decide +kernel
theorem dX8_carnival_150 : decode cX8_carnival 150 = .ok (.iload_n 1, 1) := by decide +kernel
theorem dX8_carnival_151 : decode cX8_carnival 151 = .ok (.imul, 1) := by decide +kernel
theorem dX8_carnival_152 : decode cX8_carnival 152 = .ok (.invokevirtual 338, 3) := by decide +kernel
theorem dX8_carnival_155 : decode cX8_carnival 155 = .ok (.iinc 1 1, 3) := by decide +kernel
theorem dX8_carnival_158 : decode cX8_carnival 158 = .ok (.goto (-19), 3) := by decide +kernel
theorem dX8_carnival_161 : decode cX8_carnival 161 = .ok (.aload_n 0, 1) := by decide +kernel
theorem dX8_carnival_162 : decode cX8_carnival 162 = .ok (.getfield 269, 3) := by decide +kernel
theorem dX8_carnival_165 : decode cX8_carnival 165 = .ok (.ireturn, 1) := by decide +kernel
set_option maxRecDepth 20000 in
theorem ggX8_isSheet_X8_within : GoodIn wsX8_isSheet wsX8_within := goodIn_r _ [4] (by decide +kernel) (by decide +kernel)
set_option maxRecDepth 20000 in
theorem gX8_isSheet_X8_within : GoodIn wsX8_isSheet (va_wsS RX8 78 yX8_within wsX8_within) := goodIn_app (goodIn_of _ (by decide +kernel)) ggX8_isSheet_X8_within
theorem dX8_isSheet_0 : decode cX8_isSheet 0 = .ok (.iload_n 0, 1) := by decide +kernel
theorem dX8_isSheet_1 : decode cX8_isSheet 1 = .ok (.iconst 0, 1) := by decide +kernel
theorem dX8_isSheet_2 : decode cX8_isSheet 2 = .ok (.iconst 3, 1) := by decide +kernel
theorem dX8_isSheet_3 : decode cX8_isSheet 3 = .ok (.invokestatic 78, 3) := by decide +kernel
theorem dX8_isSheet_6 : decode cX8_isSheet 6 = .ok (.ireturn, 1) := by decide +kernel
theorem dX8_cutTo_0 : decode cX8_cutTo 0 = .ok (.iload_n 2, 1) := by decide +kernel
theorem dX8_cutTo_1 : decode cX8_cutTo 1 = .ok (.bipush 8, 2) := by decide +kernel
theorem dX8_cutTo_3 : decode cX8_cutTo 3 = .ok (.if_icmp .ne 10, 3) := by decide +kernel
theorem dX8_cutTo_6 : decode cX8_cutTo 6 = .ok (.lload_n 0, 1) := by decide +kernel
theorem dX8_cutTo_7 : decode cX8_cutTo 7 = .ok (.l2i, 1) := by decide +kernel
theorem dX8_cutTo_8 : decode cX8_cutTo 8 = .ok (.i2b, 1) := by decide +kernel
theorem dX8_cutTo_9 : decode cX8_cutTo 9 = .ok (.i2l, 1) := by decide +kernel
theorem dX8_cutTo_10 : decode cX8_cutTo 10 = .ok (.goto 17, 3) := by decide +kernel
theorem dX8_cutTo_13 : decode cX8_cutTo 13 = .ok (.iload_n 2, 1) := by decide +kernel
theorem dX8_cutTo_14 : decode cX8_cutTo 14 = .ok (.bipush 16, 2) := by decide +kernel
theorem dX8_cutTo_16 : decode cX8_cutTo 16 = .ok (.if_icmp .ne 10, 3) := by decide +kernel
theorem dX8_cutTo_19 : decode cX8_cutTo 19 = .ok (.lload_n 0, 1) := by decide +kernel
theorem dX8_cutTo_20 : decode cX8_cutTo 20 = .ok (.l2i, 1) := by decide +kernel
theorem dX8_cutTo_21 : decode cX8_cutTo 21 = .ok (.i2s, 1) := by decide +kernel
theorem dX8_cutTo_22 : decode cX8_cutTo 22 = .ok (.i2l, 1) := by decide +kernel
theorem dX8_cutTo_23 : decode cX8_cutTo 23 = .ok (.goto 4, 3) := by decide +kernel
theorem dX8_cutTo_26 : decode cX8_cutTo 26 = .ok (.lload_n 0, 1) := by decide +kernel
theorem dX8_cutTo_27 : decode cX8_cutTo 27 = .ok (.lreturn, 1) := by decide +kernel
set_option maxRecDepth 20000 in
theorem ggX8_sheet_X8_isSheet : GoodIn wsX8_sheet wsX8_isSheet := goodIn_r _ [9, 10, 11, 8, 12] (by decide +kernel) (by decide +kernel)
set_option maxRecDepth 20000 in
theorem gX8_sheet_X8_isSheet : GoodIn wsX8_sheet (va_wsS RX8 341 yX8_isSheet wsX8_isSheet) := goodIn_app (goodIn_of _ (by decide +kernel)) ggX8_sheet_X8_isSheet
set_option maxRecDepth 20000 in
theorem ggX8_sheet_X8_finding : GoodIn wsX8_sheet wsX8_finding := goodIn_r _ [16, 17, 1, 18, 19, 20, 21, 22, 23, 24, 25, 26, 27, 28, 29, 30, 31, 32, 33, 34, 35, 36, 37, 38, 39, 40, 41, 42, 43, 44, 45, 46, 47, 48, 49] (by decide +kernel) (by decide +kernel)
set_option maxRecDepth 20000 in
theorem gX8_sheet_X8_finding : GoodIn wsX8_sheet (wsV RX8 86 RX8 yX8_finding wsX8_finding) := goodIn_app (goodIn_of _ (by decide +kernel)) ggX8_sheet_X8_finding
theorem dX8_sheet_0 : decode cX8_sheet 0 = .ok (.iload_n 1, 1) := by decide +kernel
theorem dX8_sheet_1 : decode cX8_sheet 1 = .ok (.invokestatic 341, 3) := by decide +kernel
theorem dX8_sheet_4 : decode cX8_sheet 4 = .ok (.ifCond .eq 25, 3) := by decide +kernel
theorem dX8_sheet_7 : decode cX8_sheet 7 = .ok (.iload_n 2, 1) := by decide +kernel
theorem dX8_sheet_8 : decode cX8_sheet 8 = .ok (.ifCond .eq 28, 3) := by decide +kernel
theorem dX8_sheet_11 : decode cX8_sheet 11 = .ok (.iload_n 2, 1) := by decide +kernel
theorem dX8_sheet_12 : decode cX8_sheet 12 = .ok (.bipush 8, 2) := by decide +kernel
theorem dX8_sheet_14 : decode cX8_sheet 14 = .ok (.if_icmp .eq 22, 3) := by decide +kernel
theorem dX8_sheet_17 : decode cX8_sheet 17 = .ok (.iload_n 2, 1) := by decide +kernel
theorem dX8_sheet_18 : decode cX8_sheet 18 = .ok (.bipush 16, 2) := by decide +kernel
theorem dX8_sheet_20 : decode cX8_sheet 20 = .ok (.if_icmp .eq 16, 3) := by decide +kernel
theorem dX8_sheet_23 : decode cX8_sheet 23 = .ok (.iload_n 2, 1) := by decide +kernel
theorem dX8_sheet_24 : decode cX8_sheet 24 = .ok (.bipush 64, 2) := by decide +kernel
theorem dX8_sheet_26 : decode cX8_sheet 26 = .ok (.if_icmp .eq 10, 3) := by decide +kernel
theorem dX8_sheet_29 : decode cX8_sheet 29 = .ok (.aload_n 0, 1) := by decide +kernel
theorem dX8_sheet_30 : decode cX8_sheet 30 = .ok (.ldc 77, 2) := by decide +kernel
theorem dX8_sheet_32 : decode cX8_sheet 32 = .ok (.invokevirtual 86, 3) := by decide +kernel
theorem dX8_sheet_35 : decode cX8_sheet 35 = .ok (.ireturn, 1) := by decide +kernel
theorem dX8_sheet_36 : decode cX8_sheet 36 = .ok (.iload_n 3, 1) := by decide +kernel
theorem dX8_sheet_37 : decode cX8_sheet 37 = .ok (.ifCond .ge 11, 3) := by decide +kernel
theorem dX8_sheet_40 : decode cX8_sheet 40 = .ok (.aload_n 0, 1) := by decide +kernel
theorem dX8_sheet_41 : decode cX8_sheet 41 = .ok (.ldc_w 344, 3) := by decide +kernel
theorem dX8_sheet_44 : decode cX8_sheet 44 = .ok (.invokevirtual 86, 3) := by decide +kernel
theorem dX8_sheet_47 : decode cX8_sheet 47 = .ok (.ireturn, 1) := by decide +kernel
theorem dX8_sheet_48 : decode cX8_sheet 48 = .ok (.iload_n 3, 1) := by decide +kernel
theorem dX8_sheet_49 : decode cX8_sheet 49 = .ok (.bipush 40, 2) := by decide +kernel
theorem dX8_sheet_51 : decode cX8_sheet 51 = .ok (.if_icmp .le 10, 3) := by decide +kernel
theorem dX8_sheet_54 : decode cX8_sheet 54 = .ok (.aload_n 0, 1) := by decide +kernel
theorem dX8_sheet_55 : decode cX8_sheet 55 = .ok (.ldc 77, 2) := by decide +kernel
theorem dX8_sheet_57 : decode cX8_sheet 57 = .ok (.invokevirtual 86, 3) := by decide +kernel
theorem dX8_sheet_60 : decode cX8_sheet 60 = .ok (.ireturn, 1) := by decide +kernel
theorem dX8_sheet_61 : decode cX8_sheet 61 = .ok (.aload_n 0, 1) := by decide +kernel
theorem dX8_sheet_62 : decode cX8_sheet 62 = .ok (.getfield 65, 3) := by decide +kernel
theorem dX8_sheet_65 : decode cX8_sheet 65 = .ok (.iload_n 1, 1) := by decide +kernel
theorem dX8_sheet_66 : decode cX8_sheet 66 = .ok (.iload_n 2, 1) := by decide +kernel
theorem dX8_sheet_67 : decode cX8_sheet 67 = .ok (.iastore, 1) := by decide +kernel
theorem dX8_sheet_68 : decode cX8_sheet 68 = .ok (.aload_n 0, 1) := by decide +kernel
theorem dX8_sheet_69 : decode cX8_sheet 69 = .ok (.getfield 68, 3) := by decide +kernel
theorem dX8_sheet_72 : decode cX8_sheet 72 = .ok (.iload_n 1, 1) := by decide +kernel
theorem dX8_sheet_73 : decode cX8_sheet 73 = .ok (.iload_n 2, 1) := by decide +kernel
theorem dX8_sheet_74 : decode cX8_sheet 74 = .ok (.ifCond .ne 7, 3) := by decide +kernel
theorem dX8_sheet_77 : decode cX8_sheet 77 = .ok (.iconst 0, 1) := by decide +kernel
theorem dX8_sheet_78 : decode cX8_sheet 78 = .ok (.goto 4, 3) := by decide +kernel
theorem dX8_sheet_81 : decode cX8_sheet 81 = .ok (.iload_n 3, 1) := by decide +kernel
theorem dX8_sheet_82 : decode cX8_sheet 82 = .ok (.iastore, 1) := by decide +kernel
theorem dX8_sheet_83 : decode cX8_sheet 83 = .ok (.iconst 0, 1) := by decide +kernel
theorem dX8_sheet_84 : decode cX8_sheet 84 = .ok (.istore 4, 2) := by decide +kernel
theorem dX8_sheet_86 : decode cX8_sheet 86 = .ok (.iload 4, 2) := by decide +kernel
theorem dX8_sheet_88 : decode cX8_sheet 88 = .ok (.bipush 40, 2) := by decide +kernel
theorem dX8_sheet_90 : decode cX8_sheet 90 = .ok (.if_icmp .ge 22, 3) := by decide +kernel
theorem dX8_sheet_93 : decode cX8_sheet 93 = .ok (.aload_n 0, 1) := by decide +kernel
theorem dX8_sheet_94 : decode cX8_sheet 94 = .ok (.getfield 71, 3) := by decide +kernel
theorem dX8_sheet_97 : decode cX8_sheet 97 = .ok (.bipush 40, 2) := by decide +kernel
theorem dX8_sheet_99 : decode cX8_sheet 99 = .ok (.iload_n 1, 1) := by decide +kernel
theorem dX8_sheet_100 : decode cX8_sheet 100 = .ok (.imul, 1) := by decide +kernel
theorem dX8_sheet_101 : decode cX8_sheet 101 = .ok (.iload 4, 2) := by decide +kernel
theorem dX8_sheet_103 : decode cX8_sheet 103 = .ok (.iadd, 1) := by decide +kernel
theorem dX8_sheet_104 : decode cX8_sheet 104 = .ok (.lconst 0, 1) := by decide +kernel
theorem dX8_sheet_105 : decode cX8_sheet 105 = .ok (.lastore, 1) := by decide +kernel
theorem dX8_sheet_106 : decode cX8_sheet 106 = .ok (.iinc 4 1, 3) := by decide +kernel
theorem dX8_sheet_109 : decode cX8_sheet 109 = .ok (.goto (-23), 3) := by decide +kernel
theorem dX8_sheet_112 : decode cX8_sheet 112 = .ok (.aload_n 0, 1) := by decide +kernel
theorem dX8_sheet_113 : decode cX8_sheet 113 = .ok (.getfield 68, 3) := by decide +kernel
theorem dX8_sheet_116 : decode cX8_sheet 116 = .ok (.iload_n 1, 1) := by decide +kernel
theorem dX8_sheet_117 : decode cX8_sheet 117 = .ok (.iaload, 1) := by decide +kernel
theorem dX8_sheet_118 : decode cX8_sheet 118 = .ok (.ireturn, 1) := by decide +kernel
set_option maxRecDepth 20000 in
theorem ggX8_write_X8_isSheet : GoodIn wsX8_write wsX8_isSheet := goodIn_r _ [9, 10, 11, 8, 12] (by decide +kernel) (by decide +kernel)
set_option maxRecDepth 20000 in
theorem gX8_write_X8_isSheet : GoodIn wsX8_write (va_wsS RX8 341 yX8_isSheet wsX8_isSheet) := goodIn_app (goodIn_of _ (by decide +kernel)) ggX8_write_X8_isSheet
set_option maxRecDepth 20000 in
theorem ggX8_write_X8_finding : GoodIn wsX8_write wsX8_finding := goodIn_r _ [16, 17, 1, 21, 22, 23, 24, 25, 26, 27, 28, 29, 30, 31, 32, 33, 34, 35, 36, 37, 38, 39, 40, 41, 42, 43, 44, 45, 46, 47, 48, 49, 50, 51, 52] (by decide +kernel) (by decide +kernel)
set_option maxRecDepth 20000 in
theorem gX8_write_X8_finding : GoodIn wsX8_write (wsV RX8 86 RX8 yX8_finding wsX8_finding) := goodIn_app (goodIn_of _ (by decide +kernel)) ggX8_write_X8_finding
set_option maxRecDepth 20000 in
theorem ggX8_write_X8_within : GoodIn wsX8_write wsX8_within := goodIn_r _ [12] (by decide +kernel) (by decide +kernel)
set_option maxRecDepth 20000 in
theorem gX8_write_X8_within : GoodIn wsX8_write (va_wsS RX8 78 yX8_within wsX8_within) := goodIn_app (goodIn_of _ (by decide +kernel)) ggX8_write_X8_within
set_option maxRecDepth 20000 in
theorem ggX8_write_X8_cutTo : GoodIn wsX8_write wsX8_cutTo := goodIn_r _ [20] (by decide +kernel) (by decide +kernel)
set_option maxRecDepth 20000 in
theorem gX8_write_X8_cutTo : GoodIn wsX8_write (va_wsS RX8 346 yX8_cutTo wsX8_cutTo) := goodIn_app (goodIn_of _ (by decide +kernel)) ggX8_write_X8_cutTo
theorem dX8_write_0 : decode cX8_write 0 = .ok (.iload_n 1, 1) := by decide +kernel
theorem dX8_write_1 : decode cX8_write 1 = .ok (.invokestatic 341, 3) := by decide +kernel
theorem dX8_write_4 : decode cX8_write 4 = .ok (.ifCond .ne 11, 3) := by decide +kernel
theorem dX8_write_7 : decode cX8_write 7 = .ok (.aload_n 0, 1) := by decide +kernel
theorem dX8_write_8 : decode cX8_write 8 = .ok (.ldc 77, 2) := by decide +kernel
theorem dX8_write_10 : decode cX8_write 10 = .ok (.invokevirtual 86, 3) := by decide +kernel
theorem dX8_write_13 : decode cX8_write 13 = .ok (.i2l, 1) := by decide +kernel
theorem dX8_write_14 : decode cX8_write 14 = .ok (.lreturn, 1) := by decide +kernel
theorem dX8_write_15 : decode cX8_write 15 = .ok (.aload_n 0, 1) := by decide +kernel
theorem dX8_write_16 : decode cX8_write 16 = .ok (.getfield 65, 3) := by decide +kernel
theorem dX8_write_19 : decode cX8_write 19 = .ok (.iload_n 1, 1) := by decide +kernel
theorem dX8_write_20 : decode cX8_write 20 = .ok (.iaload, 1) := by decide +kernel
theorem dX8_write_21 : decode cX8_write 21 = .ok (.ifCond .ne 12, 3) := by decide +kernel
theorem dX8_write_24 : decode cX8_write 24 = .ok (.aload_n 0, 1) := by decide +kernel
theorem dX8_write_25 : decode cX8_write 25 = .ok (.ldc_w 345, 3) := by decide +kernel
theorem dX8_write_28 : decode cX8_write 28 = .ok (.invokevirtual 86, 3) := by decide +kernel
theorem dX8_write_31 : decode cX8_write 31 = .ok (.i2l, 1) := by decide +kernel
theorem dX8_write_32 : decode cX8_write 32 = .ok (.lreturn, 1) := by decide +kernel
theorem dX8_write_33 : decode cX8_write 33 = .ok (.iload_n 2, 1) := by decide +kernel
theorem dX8_write_34 : decode cX8_write 34 = .ok (.iconst 0, 1) := by decide +kernel
theorem dX8_write_35 : decode cX8_write 35 = .ok (.aload_n 0, 1) := by decide +kernel
theorem dX8_write_36 : decode cX8_write 36 = .ok (.getfield 68, 3) := by decide +kernel
theorem dX8_write_39 : decode cX8_write 39 = .ok (.iload_n 1, 1) := by decide +kernel
theorem dX8_write_40 : decode cX8_write 40 = .ok (.iaload, 1) := by decide +kernel
theorem dX8_write_41 : decode cX8_write 41 = .ok (.iconst 1, 1) := by decide +kernel
theorem dX8_write_42 : decode cX8_write 42 = .ok (.isub, 1) := by decide +kernel
theorem dX8_write_43 : decode cX8_write 43 = .ok (.invokestatic 78, 3) := by decide +kernel
theorem dX8_write_46 : decode cX8_write 46 = .ok (.ifCond .ne 11, 3) := by decide +kernel
theorem dX8_write_49 : decode cX8_write 49 = .ok (.aload_n 0, 1) := by decide +kernel
theorem dX8_write_50 : decode cX8_write 50 = .ok (.ldc 77, 2) := by decide +kernel
theorem dX8_write_52 : decode cX8_write 52 = .ok (.invokevirtual 86, 3) := by decide +kernel
theorem dX8_write_55 : decode cX8_write 55 = .ok (.i2l, 1) := by decide +kernel
theorem dX8_write_56 : decode cX8_write 56 = .ok (.lreturn, 1) := by decide +kernel
theorem dX8_write_57 : decode cX8_write 57 = .ok (.aload_n 0, 1) := by decide +kernel
theorem dX8_write_58 : decode cX8_write 58 = .ok (.getfield 71, 3) := by decide +kernel
theorem dX8_write_61 : decode cX8_write 61 = .ok (.bipush 40, 2) := by decide +kernel
theorem dX8_write_63 : decode cX8_write 63 = .ok (.iload_n 1, 1) := by decide +kernel
theorem dX8_write_64 : decode cX8_write 64 = .ok (.imul, 1) := by decide +kernel
theorem dX8_write_65 : decode cX8_write 65 = .ok (.iload_n 2, 1) := by decide +kernel
theorem dX8_write_66 : decode cX8_write 66 = .ok (.iadd, 1) := by decide +kernel
theorem dX8_write_67 : decode cX8_write 67 = .ok (.laload, 1) := by decide +kernel
theorem dX8_write_68 : decode cX8_write 68 = .ok (.lstore 5, 2) := by decide +kernel
theorem dX8_write_70 : decode cX8_write 70 = .ok (.aload_n 0, 1) := by decide +kernel
theorem dX8_write_71 : decode cX8_write 71 = .ok (.getfield 71, 3) := by decide +kernel
theorem dX8_write_74 : decode cX8_write 74 = .ok (.bipush 40, 2) := by decide +kernel
theorem dX8_write_76 : decode cX8_write 76 = .ok (.iload_n 1, 1) := by decide +kernel
theorem dX8_write_77 : decode cX8_write 77 = .ok (.imul, 1) := by decide +kernel
theorem dX8_write_78 : decode cX8_write 78 = .ok (.iload_n 2, 1) := by decide +kernel
theorem dX8_write_79 : decode cX8_write 79 = .ok (.iadd, 1) := by decide +kernel
theorem dX8_write_80 : decode cX8_write 80 = .ok (.lload_n 3, 1) := by decide +kernel
theorem dX8_write_81 : decode cX8_write 81 = .ok (.aload_n 0, 1) := by decide +kernel
theorem dX8_write_82 : decode cX8_write 82 = .ok (.getfield 65, 3) := by decide +kernel
theorem dX8_write_85 : decode cX8_write 85 = .ok (.iload_n 1, 1) := by decide +kernel
theorem dX8_write_86 : decode cX8_write 86 = .ok (.iaload, 1) := by decide +kernel
theorem dX8_write_87 : decode cX8_write 87 = .ok (.invokestatic 346, 3) := by decide +kernel
theorem dX8_write_90 : decode cX8_write 90 = .ok (.lastore, 1) := by decide +kernel
theorem dX8_write_91 : decode cX8_write 91 = .ok (.lload 5, 2) := by decide +kernel
theorem dX8_write_93 : decode cX8_write 93 = .ok (.lreturn, 1) := by decide +kernel
set_option maxRecDepth 20000 in
theorem ggX8_copy_X8_isSheet : GoodIn wsX8_copy wsX8_isSheet := goodIn_r _ [11, 12, 13, 10, 14] (by decide +kernel) (by decide +kernel)
set_option maxRecDepth 20000 in
theorem gX8_copy_X8_isSheet : GoodIn wsX8_copy (va_wsS RX8 341 yX8_isSheet wsX8_isSheet) := goodIn_app (goodIn_of _ (by decide +kernel)) ggX8_copy_X8_isSheet
set_option maxRecDepth 20000 in
theorem ggX8_copy_X8_finding : GoodIn wsX8_copy wsX8_finding := goodIn_r _ [18, 19, 1, 20, 21, 22, 23, 24, 25, 26, 27, 28, 29, 30, 31, 32, 33, 34, 35, 36, 37, 38, 39, 40, 41, 42, 43, 44, 45, 46, 47, 48, 49, 50, 51] (by decide +kernel) (by decide +kernel)
set_option maxRecDepth 20000 in
theorem gX8_copy_X8_finding : GoodIn wsX8_copy (wsV RX8 86 RX8 yX8_finding wsX8_finding) := goodIn_app (goodIn_of _ (by decide +kernel)) ggX8_copy_X8_finding
theorem dX8_copy_0 : decode cX8_copy 0 = .ok (.iload_n 1, 1) := by decide +kernel
theorem dX8_copy_1 : decode cX8_copy 1 = .ok (.invokestatic 341, 3) := by decide +kernel
theorem dX8_copy_4 : decode cX8_copy 4 = .ok (.ifCond .eq 10, 3) := by decide +kernel
theorem dX8_copy_7 : decode cX8_copy 7 = .ok (.iload_n 3, 1) := by decide +kernel
theorem dX8_copy_8 : decode cX8_copy 8 = .ok (.invokestatic 341, 3) := by decide +kernel
theorem dX8_copy_11 : decode cX8_copy 11 = .ok (.ifCond .ne 10, 3) := by decide +kernel
theorem dX8_copy_14 : decode cX8_copy 14 = .ok (.aload_n 0, 1) := by decide +kernel
theorem dX8_copy_15 : decode cX8_copy 15 = .ok (.ldc 77, 2) := by decide +kernel
theorem dX8_copy_17 : decode cX8_copy 17 = .ok (.invokevirtual 86, 3) := by decide +kernel
theorem dX8_copy_20 : decode cX8_copy 20 = .ok (.ireturn, 1) := by decide +kernel
theorem dX8_copy_21 : decode cX8_copy 21 = .ok (.aload_n 0, 1) := by decide +kernel
theorem dX8_copy_22 : decode cX8_copy 22 = .ok (.getfield 65, 3) := by decide +kernel
theorem dX8_copy_25 : decode cX8_copy 25 = .ok (.iload_n 1, 1) := by decide +kernel
theorem dX8_copy_26 : decode cX8_copy 26 = .ok (.iaload, 1) := by decide +kernel
theorem dX8_copy_27 : decode cX8_copy 27 = .ok (.ifCond .eq 12, 3) := by decide +kernel
theorem dX8_copy_30 : decode cX8_copy 30 = .ok (.aload_n 0, 1) := by decide +kernel
theorem dX8_copy_31 : decode cX8_copy 31 = .ok (.getfield 65, 3) := by decide +kernel
theorem dX8_copy_34 : decode cX8_copy 34 = .ok (.iload_n 3, 1) := by decide +kernel
theorem dX8_copy_35 : decode cX8_copy 35 = .ok (.iaload, 1) := by decide +kernel
theorem dX8_copy_36 : decode cX8_copy 36 = .ok (.ifCond .ne 11, 3) := by decide +kernel
theorem dX8_copy_39 : decode cX8_copy 39 = .ok (.aload_n 0, 1) := by decide +kernel
theorem dX8_copy_40 : decode cX8_copy 40 = .ok (.ldc_w 345, 3) := by decide +kernel
theorem dX8_copy_43 : decode cX8_copy 43 = .ok (.invokevirtual 86, 3) := by decide +kernel
theorem dX8_copy_46 : decode cX8_copy 46 = .ok (.ireturn, 1) := by decide +kernel
theorem dX8_copy_47 : decode cX8_copy 47 = .ok (.aload_n 0, 1) := by decide +kernel
theorem dX8_copy_48 : decode cX8_copy 48 = .ok (.getfield 65, 3) := by decide +kernel
theorem dX8_copy_51 : decode cX8_copy 51 = .ok (.iload_n 1, 1) := by decide +kernel
theorem dX8_copy_52 : decode cX8_copy 52 = .ok (.iaload, 1) := by decide +kernel
theorem dX8_copy_53 : decode cX8_copy 53 = .ok (.aload_n 0, 1) := by decide +kernel
theorem dX8_copy_54 : decode cX8_copy 54 = .ok (.getfield 65, 3) := by decide +kernel
theorem dX8_copy_57 : decode cX8_copy 57 = .ok (.iload_n 3, 1) := by decide +kernel
theorem dX8_copy_58 : decode cX8_copy 58 = .ok (.iaload, 1) := by decide +kernel
theorem dX8_copy_59 : decode cX8_copy 59 = .ok (.if_icmp .eq 10, 3) := by decide +kernel
theorem dX8_copy_62 : decode cX8_copy 62 = .ok (.aload_n 0, 1) := by decide +kernel
theorem dX8_copy_63 : decode cX8_copy 63 = .ok (.ldc 208, 2) := by decide +kernel
theorem dX8_copy_65 : decode cX8_copy 65 = .ok (.invokevirtual 86, 3) := by decide +kernel
theorem dX8_copy_68 : decode cX8_copy 68 = .ok (.ireturn, 1) := by decide +kernel
theorem dX8_copy_69 : decode cX8_copy 69 = .ok (.iload_n 2, 1) := by decide +kernel
theorem dX8_copy_70 : decode cX8_copy 70 = .ok (.ifCond .lt 48, 3) := by decide +kernel
theorem dX8_copy_73 : decode cX8_copy 73 = .ok (.iload 4, 2) := by decide +kernel
theorem dX8_copy_75 : decode cX8_copy 75 = .ok (.ifCond .lt 43, 3) := by decide +kernel
theorem dX8_copy_78 : decode cX8_copy 78 = .ok (.iload 5, 2) := by decide +kernel
theorem dX8_copy_80 : decode cX8_copy 80 = .ok (.ifCond .lt 38, 3) := by decide +kernel
theorem dX8_copy_83 : decode cX8_copy 83 = .ok (.iload_n 2, 1) := by decide +kernel
theorem dX8_copy_84 : decode cX8_copy 84 = .ok (.i2l, 1) := by decide +kernel
theorem dX8_copy_85 : decode cX8_copy 85 = .ok (.iload 5, 2) := by decide +kernel
theorem dX8_copy_87 : decode cX8_copy 87 = .ok (.i2l, 1) := by decide +kernel
theorem dX8_copy_88 : decode cX8_copy 88 = .ok (.ladd, 1) := by decide +kernel
theorem dX8_copy_89 : decode cX8_copy 89 = .ok (.aload_n 0, 1) := by decide +kernel
theorem dX8_copy_90 : decode cX8_copy 90 = .ok (.getfield 68, 3) := by decide +kernel
theorem dX8_copy_93 : decode cX8_copy 93 = .ok (.iload_n 1, 1) := by decide +kernel
theorem dX8_copy_94 : decode cX8_copy 94 = .ok (.iaload, 1) := by decide +kernel
theorem dX8_copy_95 : decode cX8_copy 95 = .ok (.i2l, 1) := by decide +kernel
theorem dX8_copy_96 : decode cX8_copy 96 = .ok (.lcmp, 1) := by decide +kernel
theorem dX8_copy_97 : decode cX8_copy 97 = .ok (.ifCond .gt 21, 3) := by decide +kernel
theorem dX8_copy_100 : decode cX8_copy 100 = .ok (.iload 4, 2) := by decide +kernel
theorem dX8_copy_102 : decode cX8_copy 102 = .ok (.i2l, 1) := by decide +kernel
theorem dX8_copy_103 : decode cX8_copy 103 = .ok (.iload 5, 2) := by decide +kernel
theorem dX8_copy_105 : decode cX8_copy 105 = .ok (.i2l, 1) := by decide +kernel
theorem dX8_copy_106 : decode cX8_copy 106 = .ok (.ladd, 1) := by decide +kernel
theorem dX8_copy_107 : decode cX8_copy 107 = .ok (.aload_n 0, 1) := by decide +kernel
theorem dX8_copy_108 : decode cX8_copy 108 = .ok (.getfield 68, 3) := by decide +kernel
theorem dX8_copy_111 : decode cX8_copy 111 = .ok (.iload_n 3, 1) := by decide +kernel
theorem dX8_copy_112 : decode cX8_copy 112 = .ok (.iaload, 1) := by decide +kernel
theorem dX8_copy_113 : decode cX8_copy 113 = .ok (.i2l, 1) := by decide +kernel
theorem dX8_copy_114 : decode cX8_copy 114 = .ok (.lcmp, 1) := by decide +kernel
theorem dX8_copy_115 : decode cX8_copy 115 = .ok (.ifCond .le 10, 3) := by decide +kernel
theorem dX8_copy_118 : decode cX8_copy 118 = .ok (.aload_n 0, 1) := by decide +kernel
theorem dX8_copy_119 : decode cX8_copy 119 = .ok (.ldc 77, 2) := by decide +kernel
theorem dX8_copy_121 : decode cX8_copy 121 = .ok (.invokevirtual 86, 3) := by decide +kernel
theorem dX8_copy_124 : decode cX8_copy 124 = .ok (.ireturn, 1) := by decide +kernel
theorem dX8_copy_125 : decode cX8_copy 125 = .ok (.iconst 0, 1) := by decide +kernel
theorem dX8_copy_126 : decode cX8_copy 126 = .ok (.istore 6, 2) := by decide +kernel
theorem dX8_copy_128 : decode cX8_copy 128 = .ok (.iload 6, 2) := by decide +kernel
theorem dX8_copy_130 : decode cX8_copy 130 = .ok (.iload 5, 2) := by decide +kernel
theorem dX8_copy_132 : decode cX8_copy 132 = .ok (.if_icmp .ge 30, 3) := by decide +kernel
theorem dX8_copy_135 : decode cX8_copy 135 = .ok (.aload_n 0, 1) := by decide +kernel
theorem dX8_copy_136 : decode cX8_copy 136 = .ok (.getfield 74, 3) := by decide +kernel
theorem dX8_copy_139 : decode cX8_copy 139 = .ok (.iload 6, 2) := by decide +kernel
theorem dX8_copy_141 : decode cX8_copy 141 = .ok (.aload_n 0, 1) := by decide +kernel
theorem dX8_copy_142 : decode cX8_copy 142 = .ok (.getfield 71, 3) := by decide +kernel
theorem dX8_copy_145 : decode cX8_copy 145 = .ok (.bipush 40, 2) := by decide +kernel
theorem dX8_copy_147 : decode cX8_copy 147 = .ok (.iload_n 1, 1) := by decide +kernel
theorem dX8_copy_148 : decode cX8_copy 148 = .ok (.imul, 1) := by decide +kernel
theorem dX8_copy_149 : decode cX8_copy 149 = .ok (.iload_n 2, 1) := by decide +kernel
theorem dX8_copy_150 : decode cX8_copy 150 = .ok (.iadd, 1) := by decide +kernel
theorem dX8_copy_151 : decode cX8_copy 151 = .ok (.iload 6, 2) := by decide +kernel
theorem dX8_copy_153 : decode cX8_copy 153 = .ok (.iadd, 1) := by decide +kernel
theorem dX8_copy_154 : decode cX8_copy 154 = .ok (.laload, 1) := by decide +kernel
theorem dX8_copy_155 : decode cX8_copy 155 = .ok (.lastore, 1) := by decide +kernel
theorem dX8_copy_156 : decode cX8_copy 156 = .ok (.iinc 6 1, 3) := by decide +kernel
theorem dX8_copy_159 : decode cX8_copy 159 = .ok (.goto (-31), 3) := by decide +kernel
theorem dX8_copy_162 : decode cX8_copy 162 = .ok (.iconst 0, 1) := by decide +kernel
theorem dX8_copy_163 : decode cX8_copy 163 = .ok (.istore 6, 2) := by decide +kernel
theorem dX8_copy_165 : decode cX8_copy 165 = .ok (.iload 6, 2) := by decide +kernel
theorem dX8_copy_167 : decode cX8_copy 167 = .ok (.iload 5, 2) := by decide +kernel
theorem dX8_copy_169 : decode cX8_copy 169 = .ok (.if_icmp .ge 31, 3) := by decide +kernel
theorem dX8_copy_172 : decode cX8_copy 172 = .ok (.aload_n 0, 1) := by decide +kernel
theorem dX8_copy_173 : decode cX8_copy 173 = .ok (.getfield 71, 3) := by decide +kernel
theorem dX8_copy_176 : decode cX8_copy 176 = .ok (.bipush 40, 2) := by decide +kernel
theorem dX8_copy_178 : decode cX8_copy 178 = .ok (.iload_n 3, 1) := by decide +kernel
theorem dX8_copy_179 : decode cX8_copy 179 = .ok (.imul, 1) := by decide +kernel
theorem dX8_copy_180 : decode cX8_copy 180 = .ok (.iload 4, 2) := by decide +kernel
theorem dX8_copy_182 : decode cX8_copy 182 = .ok (.iadd, 1) := by decide +kernel
theorem dX8_copy_183 : decode cX8_copy 183 = .ok (.iload 6, 2) := by decide +kernel
theorem dX8_copy_185 : decode cX8_copy 185 = .ok (.iadd, 1) := by decide +kernel
theorem dX8_copy_186 : decode cX8_copy 186 = .ok (.aload_n 0, 1) := by decide +kernel
theorem dX8_copy_187 : decode cX8_copy 187 = .ok (.getfield 74, 3) := by decide +kernel
theorem dX8_copy_190 : decode cX8_copy 190 = .ok (.iload 6, 2) := by decide +kernel
theorem dX8_copy_192 : decode cX8_copy 192 = .ok (.laload, 1) := by decide +kernel
theorem dX8_copy_193 : decode cX8_copy 193 = .ok (.lastore, 1) := by decide +kernel
theorem dX8_copy_194 : decode cX8_copy 194 = .ok (.iinc 6 1, 3) := by decide +kernel
theorem dX8_copy_197 : decode cX8_copy 197 = .ok (.goto (-32), 3) := by decide +kernel
theorem dX8_copy_200 : decode cX8_copy 200 = .ok (.iload 5, 2) := by decide +kernel
theorem dX8_copy_202 : decode cX8_copy 202 = .ok (.ireturn, 1) := by decide +kernel
set_option maxRecDepth 20000 in
theorem ggX8_lays_X8_isSheet : GoodIn wsX8_lays wsX8_isSheet := goodIn_r _ [11, 12, 13, 10, 14] (by decide +kernel) (by decide +kernel)
set_option maxRecDepth 20000 in
theorem gX8_lays_X8_isSheet : GoodIn wsX8_lays (va_wsS RX8 341 yX8_isSheet wsX8_isSheet) := goodIn_app (goodIn_of _ (by decide +kernel)) ggX8_lays_X8_isSheet
set_option maxRecDepth 20000 in
theorem ggX8_lays_X8_finding : GoodIn wsX8_lays wsX8_finding := goodIn_r _ [18, 19, 1, 32, 33, 34, 35, 36, 37, 38, 39, 40, 41, 42, 43, 44, 45, 46, 47, 48, 49, 50, 51, 52, 53, 54, 55, 56, 57, 58, 59, 60, 61, 62, 63] (by decide +kernel) (by decide +kernel)
set_option maxRecDepth 20000 in
theorem gX8_lays_X8_finding : GoodIn wsX8_lays (wsV RX8 86 RX8 yX8_finding wsX8_finding) := goodIn_app (goodIn_of _ (by decide +kernel)) ggX8_lays_X8_finding
set_option maxRecDepth 20000 in
theorem ggX8_lays_X8_wouldBeOneTooMany : GoodIn wsX8_lays wsX8_wouldBeOneTooMany := goodIn_r _ [23, 24, 25, 26, 10, 27, 5, 28, 29, 30, 31, 32, 33, 34, 35, 36, 37, 38, 39, 40, 41, 42, 43, 44, 45, 46, 47, 48, 49, 50, 51, 52, 53, 54, 55, 56, 57, 58, 59, 60, 61, 62, 63] (by decide +kernel) (by decide +kernel)
set_option maxRecDepth 20000 in
theorem gX8_lays_X8_wouldBeOneTooMany : GoodIn wsX8_lays (wsV RX8 117 RX8 yX8_wouldBeOneTooMany wsX8_wouldBeOneTooMany) := goodIn_app (goodIn_of _ (by decide +kernel)) ggX8_lays_X8_wouldBeOneTooMany
theorem dX8_lays_0 : decode cX8_lays 0 = .ok (.iload_n 1, 1) := by decide +kernel
theorem dX8_lays_1 : decode cX8_lays 1 = .ok (.invokestatic 341, 3) := by decide +kernel
theorem dX8_lays_4 : decode cX8_lays 4 = .ok (.ifCond .ne 10, 3) := by decide +kernel
theorem dX8_lays_7 : decode cX8_lays 7 = .ok (.aload_n 0, 1) := by decide +kernel
theorem dX8_lays_8 : decode cX8_lays 8 = .ok (.ldc 77, 2) := by decide +kernel
theorem dX8_lays_10 : decode cX8_lays 10 = .ok (.invokevirtual 86, 3) := by decide +kernel
theorem dX8_lays_13 : decode cX8_lays 13 = .ok (.ireturn, 1) := by decide +kernel
theorem dX8_lays_14 : decode cX8_lays 14 = .ok (.aload_n 0, 1) := by decide +kernel
theorem dX8_lays_15 : decode cX8_lays 15 = .ok (.getfield 65, 3) := by decide +kernel
theorem dX8_lays_18 : decode cX8_lays 18 = .ok (.iload_n 1, 1) := by decide +kernel
theorem dX8_lays_19 : decode cX8_lays 19 = .ok (.iaload, 1) := by decide +kernel
theorem dX8_lays_20 : decode cX8_lays 20 = .ok (.ifCond .ne 11, 3) := by decide +kernel
theorem dX8_lays_23 : decode cX8_lays 23 = .ok (.aload_n 0, 1) := by decide +kernel
theorem dX8_lays_24 : decode cX8_lays 24 = .ok (.ldc_w 345, 3) := by decide +kernel
theorem dX8_lays_27 : decode cX8_lays 27 = .ok (.invokevirtual 86, 3) := by decide +kernel
theorem dX8_lays_30 : decode cX8_lays 30 = .ok (.ireturn, 1) := by decide +kernel
theorem dX8_lays_31 : decode cX8_lays 31 = .ok (.iconst 0, 1) := by decide +kernel
theorem dX8_lays_32 : decode cX8_lays 32 = .ok (.istore_n 2, 1) := by decide +kernel
theorem dX8_lays_33 : decode cX8_lays 33 = .ok (.iconst 0, 1) := by decide +kernel
theorem dX8_lays_34 : decode cX8_lays 34 = .ok (.istore_n 3, 1) := by decide +kernel
theorem dX8_lays_35 : decode cX8_lays 35 = .ok (.iload_n 3, 1) := by decide +kernel
theorem dX8_lays_36 : decode cX8_lays 36 = .ok (.aload_n 0, 1) := by decide +kernel
theorem dX8_lays_37 : decode cX8_lays 37 = .ok (.getfield 68, 3) := by decide +kernel
theorem dX8_lays_40 : decode cX8_lays 40 = .ok (.iload_n 1, 1) := by decide +kernel
theorem dX8_lays_41 : decode cX8_lays 41 = .ok (.iaload, 1) := by decide +kernel
theorem dX8_lays_42 : decode cX8_lays 42 = .ok (.if_icmp .ge 78, 3) := by decide +kernel
theorem dX8_lays_45 : decode cX8_lays 45 = .ok (.iload_n 3, 1) := by decide +kernel
theorem dX8_lays_46 : decode cX8_lays 46 = .ok (.aload_n 0, 1) := by decide +kernel
theorem dX8_lays_47 : decode cX8_lays 47 = .ok (.getfield 9, 3) := by decide +kernel
theorem dX8_lays_50 : decode cX8_lays 50 = .ok (.iconst 3, 1) := by decide +kernel
theorem dX8_lays_51 : decode cX8_lays 51 = .ok (.iaload, 1) := by decide +kernel
theorem dX8_lays_52 : decode cX8_lays 52 = .ok (.if_icmp .ge 68, 3) := by decide +kernel
theorem dX8_lays_55 : decode cX8_lays 55 = .ok (.aload_n 0, 1) := by decide +kernel
theorem dX8_lays_56 : decode cX8_lays 56 = .ok (.getfield 71, 3) := by decide +kernel
theorem dX8_lays_59 : decode cX8_lays 59 = .ok (.bipush 40, 2) := by decide +kernel
theorem dX8_lays_61 : decode cX8_lays 61 = .ok (.iload_n 1, 1) := by decide +kernel
theorem dX8_lays_62 : decode cX8_lays 62 = .ok (.imul, 1) := by decide +kernel
theorem dX8_lays_63 : decode cX8_lays 63 = .ok (.iload_n 3, 1) := by decide +kernel
theorem dX8_lays_64 : decode cX8_lays 64 = .ok (.iadd, 1) := by decide +kernel
theorem dX8_lays_65 : decode cX8_lays 65 = .ok (.laload, 1) := by decide +kernel
theorem dX8_lays_66 : decode cX8_lays 66 = .ok (.lstore 4, 2) := by decide +kernel
theorem dX8_lays_68 : decode cX8_lays 68 = .ok (.lload 4, 2) := by decide +kernel
theorem dX8_lays_70 : decode cX8_lays 70 = .ok (.lconst 0, 1) := by decide +kernel
theorem dX8_lays_71 : decode cX8_lays 71 = .ok (.lcmp, 1) := by decide +kernel
theorem dX8_lays_72 : decode cX8_lays 72 = .ok (.ifCond .lt 42, 3) := by decide +kernel
theorem dX8_lays_75 : decode cX8_lays 75 = .ok (.lload 4, 2) := by decide +kernel
theorem dX8_lays_77 : decode cX8_lays 77 = .ok (.ldc2_w 350, 3) := by decide +kernel
theorem dX8_lays_80 : decode cX8_lays 80 = .ok (.lcmp, 1) := by decide +kernel
theorem dX8_lays_81 : decode cX8_lays 81 = .ok (.ifCond .gt 33, 3) := by decide +kernel
theorem dX8_lays_84 : decode cX8_lays 84 = .ok (.aload_n 0, 1) := by decide +kernel
theorem dX8_lays_85 : decode cX8_lays 85 = .ok (.iload_n 3, 1) := by decide +kernel
theorem dX8_lays_86 : decode cX8_lays 86 = .ok (.lload 4, 2) := by decide +kernel
theorem dX8_lays_88 : decode cX8_lays 88 = .ok (.l2i, 1) := by decide +kernel
theorem dX8_lays_89 : decode cX8_lays 89 = .ok (.invokevirtual 117, 3) := by decide +kernel
theorem dX8_lays_92 : decode cX8_lays 92 = .ok (.ifCond .ne 22, 3) := by decide +kernel
theorem dX8_lays_95 : decode cX8_lays 95 = .ok (.aload_n 0, 1) := by decide +kernel
theorem dX8_lays_96 : decode cX8_lays 96 = .ok (.getfield 9, 3) := by decide +kernel
theorem dX8_lays_99 : decode cX8_lays 99 = .ok (.bipush 6, 2) := by decide +kernel
theorem dX8_lays_101 : decode cX8_lays 101 = .ok (.iconst 4, 1) := by decide +kernel
theorem dX8_lays_102 : decode cX8_lays 102 = .ok (.iload_n 3, 1) := by decide +kernel
theorem dX8_lays_103 : decode cX8_lays 103 = .ok (.imul, 1) := by decide +kernel
theorem dX8_lays_104 : decode cX8_lays 104 = .ok (.iadd, 1) := by decide +kernel
theorem dX8_lays_105 : decode cX8_lays 105 = .ok (.iconst 3, 1) := by decide +kernel
theorem dX8_lays_106 : decode cX8_lays 106 = .ok (.iadd, 1) := by decide +kernel
theorem dX8_lays_107 : decode cX8_lays 107 = .ok (.lload 4, 2) := by decide +kernel
theorem dX8_lays_109 : decode cX8_lays 109 = .ok (.l2i, 1) := by decide +kernel
theorem dX8_lays_110 : decode cX8_lays 110 = .ok (.iastore, 1) := by decide +kernel
theorem dX8_lays_111 : decode cX8_lays 111 = .ok (.iinc 2 1, 3) := by decide +kernel
theorem dX8_lays_114 : decode cX8_lays 114 = .ok (.iinc 3 1, 3) := by decide +kernel
theorem dX8_lays_117 : decode cX8_lays 117 = .ok (.goto (-82), 3) := by decide +kernel
theorem dX8_lays_120 : decode cX8_lays 120 = .ok (.iload_n 2, 1) := by decide +kernel
theorem dX8_lays_121 : decode cX8_lays 121 = .ok (.ireturn, 1) := by decide +kernel
set_option maxRecDepth 20000 in
theorem ggX8_refuses_X8_isSheet : GoodIn wsX8_refuses wsX8_isSheet := goodIn_r _ [7, 8, 9, 6, 10] (by decide +kernel) (by decide +kernel)
set_option maxRecDepth 20000 in
theorem gX8_refuses_X8_isSheet : GoodIn wsX8_refuses (va_wsS RX8 341 yX8_isSheet wsX8_isSheet) := goodIn_app (goodIn_of _ (by decide +kernel)) ggX8_refuses_X8_isSheet
set_option maxRecDepth 20000 in
theorem ggX8_refuses_X8_isHour : GoodIn wsX8_refuses wsX8_isHour := goodIn_r _ [13, 8, 9, 6, 10] (by decide +kernel) (by decide +kernel)
set_option maxRecDepth 20000 in
theorem gX8_refuses_X8_isHour : GoodIn wsX8_refuses (va_wsS RX8 98 yX8_isHour wsX8_isHour) := goodIn_app (goodIn_of _ (by decide +kernel)) ggX8_refuses_X8_isHour
theorem dX8_refuses_0 : decode cX8_refuses 0 = .ok (.iload_n 1, 1) := by decide +kernel
theorem dX8_refuses_1 : decode cX8_refuses 1 = .ok (.invokestatic 341, 3) := by decide +kernel
theorem dX8_refuses_4 : decode cX8_refuses 4 = .ok (.ifCond .ne 6, 3) := by decide +kernel
theorem dX8_refuses_7 : decode cX8_refuses 7 = .ok (.ldc 77, 2) := by decide +kernel
theorem dX8_refuses_9 : decode cX8_refuses 9 = .ok (.ireturn, 1) := by decide +kernel
theorem dX8_refuses_10 : decode cX8_refuses 10 = .ok (.aload_n 0, 1) := by decide +kernel
theorem dX8_refuses_11 : decode cX8_refuses 11 = .ok (.getfield 65, 3) := by decide +kernel
theorem dX8_refuses_14 : decode cX8_refuses 14 = .ok (.iload_n 1, 1) := by decide +kernel
theorem dX8_refuses_15 : decode cX8_refuses 15 = .ok (.iaload, 1) := by decide +kernel
theorem dX8_refuses_16 : decode cX8_refuses 16 = .ok (.ifCond .ne 9, 3) := by decide +kernel
theorem dX8_refuses_19 : decode cX8_refuses 19 = .ok (.ldc_w 345, 3) := by decide +kernel
theorem dX8_refuses_22 : decode cX8_refuses 22 = .ok (.goto 16, 3) := by decide +kernel
theorem dX8_refuses_25 : decode cX8_refuses 25 = .ok (.iload_n 2, 1) := by decide +kernel
theorem dX8_refuses_26 : decode cX8_refuses 26 = .ok (.invokestatic 98, 3) := by decide +kernel
theorem dX8_refuses_29 : decode cX8_refuses 29 = .ok (.ifCond .eq 7, 3) := by decide +kernel
theorem dX8_refuses_32 : decode cX8_refuses 32 = .ok (.iconst 0, 1) := by decide +kernel
theorem dX8_refuses_33 : decode cX8_refuses 33 = .ok (.goto 5, 3) := by decide +kernel
theorem dX8_refuses_36 : decode cX8_refuses 36 = .ok (.ldc 77, 2) := by decide +kernel
theorem dX8_refuses_38 : decode cX8_refuses 38 = .ok (.ireturn, 1) := by decide +kernel
set_option maxRecDepth 20000 in
theorem ggX8_ledger_X8_refuses : GoodIn wsX8_ledger wsX8_refuses := goodIn_r _ [14, 15, 16, 17, 18, 19, 13, 20, 21, 22, 23, 24, 25, 26, 93, 94, 95, 96, 97, 98, 99, 100, 101, 102, 103, 104, 105, 106, 107, 108, 109, 110, 111, 112, 113, 114, 115, 116, 117, 118, 119, 120, 121, 122, 123, 124] (by decide +kernel) (by decide +kernel)
set_option maxRecDepth 20000 in
theorem gX8_ledger_X8_refuses : GoodIn wsX8_ledger (wsV RX8 352 RX8 yX8_refuses wsX8_refuses) := goodIn_app (goodIn_of _ (by decide +kernel)) ggX8_ledger_X8_refuses
set_option maxRecDepth 20000 in
theorem ggX8_ledger_X8_finding : GoodIn wsX8_ledger wsX8_finding := goodIn_r _ [30, 31, 15, 93, 94, 95, 96, 97, 98, 99, 100, 101, 102, 103, 104, 105, 106, 107, 108, 109, 110, 111, 112, 113, 114, 115, 116, 117, 118, 119, 120, 121, 122, 123, 124] (by decide +kernel) (by decide +kernel)
set_option maxRecDepth 20000 in
theorem gX8_ledger_X8_finding : GoodIn wsX8_ledger (wsV RX8 86 RX8 yX8_finding wsX8_finding) := goodIn_app (goodIn_of _ (by decide +kernel)) ggX8_ledger_X8_finding
set_option maxRecDepth 20000 in
theorem ggX8_ledger_X8_goesLikeliest : GoodIn wsX8_ledger wsX8_goesLikeliest := goodIn_r _ [35, 36, 37, 38, 13, 39, 40, 41, 42, 43, 44, 3, 45, 46, 47, 48, 49, 50, 51, 52, 53, 54, 55, 56, 57, 58, 59, 60, 61, 62, 63, 64, 65, 66, 67, 68, 9, 69, 70, 71, 72, 73, 74, 75, 76, 77, 4, 5, 6, 7, 78, 79, 80, 81, 82, 83, 84, 85, 86, 87, 88, 89, 90, 91, 92, 93, 94, 95, 96, 97, 98, 99, 100, 101, 102, 103, 104, 105, 106, 107, 108, 109, 110, 111, 112, 113, 114, 115, 116, 117, 118, 119, 120, 121, 122, 123, 124] (by decide +kernel) (by decide +kernel)
set_option maxRecDepth 20000 in
theorem gX8_ledger_X8_goesLikeliest : GoodIn wsX8_ledger (wsV RX8 225 RX8 yX8_goesLikeliest wsX8_goesLikeliest) := goodIn_app (goodIn_of _ (by decide +kernel)) ggX8_ledger_X8_goesLikeliest
theorem dX8_ledger_0 : decode cX8_ledger 0 = .ok (.aload_n 0, 1) := by decide +kernel
theorem dX8_ledger_1 : decode cX8_ledger 1 = .ok (.iload_n 1, 1) := by decide +kernel
theorem dX8_ledger_2 : decode cX8_ledger 2 = .ok (.iload_n 2, 1) := by decide +kernel
theorem dX8_ledger_3 : decode cX8_ledger 3 = .ok (.invokevirtual 352, 3) := by decide +kernel
theorem dX8_ledger_6 : decode cX8_ledger 6 = .ok (.istore_n 3, 1) := by decide +kernel
theorem dX8_ledger_7 : decode cX8_ledger 7 = .ok (.iload_n 3, 1) := by decide +kernel
theorem dX8_ledger_8 : decode cX8_ledger 8 = .ok (.ifCond .eq 9, 3) := by decide +kernel
theorem dX8_ledger_11 : decode cX8_ledger 11 = .ok (.aload_n 0, 1) := by decide +kernel
theorem dX8_ledger_12 : decode cX8_ledger 12 = .ok (.iload_n 3, 1) := by decide +kernel
theorem dX8_ledger_13 : decode cX8_ledger 13 = .ok (.invokevirtual 86, 3) := by decide +kernel
theorem dX8_ledger_16 : decode cX8_ledger 16 = .ok (.ireturn, 1) := by decide +kernel
theorem dX8_ledger_17 : decode cX8_ledger 17 = .ok (.aload_n 0, 1) := by decide +kernel
theorem dX8_ledger_18 : decode cX8_ledger 18 = .ok (.iload_n 2, 1) := by decide +kernel
theorem dX8_ledger_19 : decode cX8_ledger 19 = .ok (.invokevirtual 225, 3) := by decide +kernel
theorem dX8_ledger_22 : decode cX8_ledger 22 = .ok (.ifCond .ne 10, 3) := by decide +kernel
theorem dX8_ledger_25 : decode cX8_ledger 25 = .ok (.aload_n 0, 1) := by decide +kernel
theorem dX8_ledger_26 : decode cX8_ledger 26 = .ok (.ldc 179, 2) := by decide +kernel
theorem dX8_ledger_28 : decode cX8_ledger 28 = .ok (.invokevirtual 86, 3) := by decide +kernel
theorem dX8_ledger_31 : decode cX8_ledger 31 = .ok (.ireturn, 1) := by decide +kernel
theorem dX8_ledger_32 : decode cX8_ledger 32 = .ok (.aload_n 0, 1) := by decide +kernel
theorem dX8_ledger_33 : decode cX8_ledger 33 = .ok (.getfield 68, 3) := by decide +kernel
theorem dX8_ledger_36 : decode cX8_ledger 36 = .ok (.iload_n 1, 1) := by decide +kernel
theorem dX8_ledger_37 : decode cX8_ledger 37 = .ok (.iaload, 1) := by decide +kernel
theorem dX8_ledger_38 : decode cX8_ledger 38 = .ok (.aload_n 0, 1) := by decide +kernel
theorem dX8_ledger_39 : decode cX8_ledger 39 = .ok (.getfield 9, 3) := by decide +kernel
theorem dX8_ledger_42 : decode cX8_ledger 42 = .ok (.iconst 0, 1) := by decide +kernel
theorem dX8_ledger_43 : decode cX8_ledger 43 = .ok (.iaload, 1) := by decide +kernel
theorem dX8_ledger_44 : decode cX8_ledger 44 = .ok (.invokestatic 145, 3) := by decide +kernel
theorem dX8_ledger_47 : decode cX8_ledger 47 = .ok (.istore 4, 2) := by decide +kernel
theorem dX8_ledger_49 : decode cX8_ledger 49 = .ok (.iconst 0, 1) := by decide +kernel
theorem dX8_ledger_50 : decode cX8_ledger 50 = .ok (.istore 5, 2) := by decide +kernel
theorem dX8_ledger_52 : decode cX8_ledger 52 = .ok (.iload 5, 2) := by decide +kernel
theorem dX8_ledger_54 : decode cX8_ledger 54 = .ok (.iload 4, 2) := by decide +kernel
theorem dX8_ledger_56 : decode cX8_ledger 56 = .ok (.if_icmp .ge 29, 3) := by decide +kernel
theorem dX8_ledger_59 : decode cX8_ledger 59 = .ok (.aload_n 0, 1) := by decide +kernel
theorem dX8_ledger_60 : decode cX8_ledger 60 = .ok (.getfield 71, 3) := by decide +kernel
theorem dX8_ledger_63 : decode cX8_ledger 63 = .ok (.bipush 40, 2) := by decide +kernel
theorem dX8_ledger_65 : decode cX8_ledger 65 = .ok (.iload_n 1, 1) := by decide +kernel
theorem dX8_ledger_66 : decode cX8_ledger 66 = .ok (.imul, 1) := by decide +kernel
theorem dX8_ledger_67 : decode cX8_ledger 67 = .ok (.iload 5, 2) := by decide +kernel
theorem dX8_ledger_69 : decode cX8_ledger 69 = .ok (.iadd, 1) := by decide +kernel
theorem dX8_ledger_70 : decode cX8_ledger 70 = .ok (.aload_n 0, 1) := by decide +kernel
theorem dX8_ledger_71 : decode cX8_ledger 71 = .ok (.getfield 29, 3) := by decide +kernel
theorem dX8_ledger_74 : decode cX8_ledger 74 = .ok (.iload 5, 2) := by decide +kernel
theorem dX8_ledger_76 : decode cX8_ledger 76 = .ok (.iaload, 1) := by decide +kernel
theorem dX8_ledger_77 : decode cX8_ledger 77 = .ok (.i2l, 1) := by decide +kernel
theorem dX8_ledger_78 : decode cX8_ledger 78 = .ok (.lastore, 1) := by decide +kernel
theorem dX8_ledger_79 : decode cX8_ledger 79 = .ok (.iinc 5 1, 3) := by decide +kernel
theorem dX8_ledger_82 : decode cX8_ledger 82 = .ok (.goto (-30), 3) := by decide +kernel
theorem dX8_ledger_85 : decode cX8_ledger 85 = .ok (.iload 4, 2) := by decide +kernel
theorem dX8_ledger_87 : decode cX8_ledger 87 = .ok (.ireturn, 1) := by decide +kernel
set_option maxRecDepth 20000 in
theorem ggX8_read_X8_refuses : GoodIn wsX8_read wsX8_refuses := goodIn_r _ [10, 11, 12, 13, 14, 15, 9, 16, 17, 18, 19, 20, 21, 22, 84, 85, 86, 87, 88, 89, 90, 91, 92, 93, 94, 95, 96, 97, 98, 99, 100, 101, 102, 103, 104, 105, 106, 107, 108, 109, 110, 111, 112, 113, 114, 115] (by decide +kernel) (by decide +kernel)
set_option maxRecDepth 20000 in
theorem gX8_read_X8_refuses : GoodIn wsX8_read (wsV RX8 352 RX8 yX8_refuses wsX8_refuses) := goodIn_app (goodIn_of _ (by decide +kernel)) ggX8_read_X8_refuses
set_option maxRecDepth 20000 in
theorem ggX8_read_X8_finding : GoodIn wsX8_read wsX8_finding := goodIn_r _ [26, 27, 11, 84, 85, 86, 87, 88, 89, 90, 91, 92, 93, 94, 95, 96, 97, 98, 99, 100, 101, 102, 103, 104, 105, 106, 107, 108, 109, 110, 111, 112, 113, 114, 115] (by decide +kernel) (by decide +kernel)
set_option maxRecDepth 20000 in
theorem gX8_read_X8_finding : GoodIn wsX8_read (wsV RX8 86 RX8 yX8_finding wsX8_finding) := goodIn_app (goodIn_of _ (by decide +kernel)) ggX8_read_X8_finding
set_option maxRecDepth 20000 in
theorem ggX8_read_X8_weigh : GoodIn wsX8_read wsX8_weigh := goodIn_r _ [31, 2, 5, 32, 33, 34, 9, 35, 36, 37, 38, 39, 40, 41, 42, 43, 44, 45, 46, 47, 48, 49, 50, 51, 52, 53, 54, 55, 4, 56, 57, 58, 59, 60, 61, 62, 63, 64, 65, 66, 67, 68, 69, 70, 71, 72, 73, 74, 75, 76, 77, 78, 79, 80, 81, 82, 83, 84, 85, 86, 87, 88, 89, 90, 91, 92, 93, 94, 95, 96, 97, 98, 99, 100, 101, 102, 103, 104, 105, 106, 107, 108, 109, 110, 111, 112, 113, 114, 115] (by decide +kernel) (by decide +kernel)
set_option maxRecDepth 20000 in
theorem gX8_read_X8_weigh : GoodIn wsX8_read (wsV RX8 172 RX8 yX8_weigh wsX8_weigh) := goodIn_app (goodIn_of _ (by decide +kernel)) ggX8_read_X8_weigh
set_option maxRecDepth 20000 in
theorem ggX8_read_X8_nightsThere : GoodIn wsX8_read wsX8_nightsThere := goodIn_r _ [46, 36, 84, 85, 86, 87, 88, 89, 90, 91, 92, 93, 94, 95, 96, 97, 98, 99, 100, 101, 102, 103, 104, 105, 106, 107, 108, 109, 110, 111, 112, 113, 114, 115] (by decide +kernel) (by decide +kernel)
set_option maxRecDepth 20000 in
theorem gX8_read_X8_nightsThere : GoodIn wsX8_read (wsV RX8 159 RX8 yX8_nightsThere wsX8_nightsThere) := goodIn_app (goodIn_of _ (by decide +kernel)) ggX8_read_X8_nightsThere
set_option maxRecDepth 20000 in
theorem ggX8_read_X8_goes : GoodIn wsX8_read wsX8_goes := goodIn_r _ [55, 4, 56, 51, 2, 38, 39, 40, 41, 9, 42, 57, 58, 59, 60, 36, 37, 61, 62, 63, 64, 65, 66, 67, 68, 69, 70, 71, 84, 85, 86, 87, 88, 89, 90, 91, 92, 93, 94, 95, 96, 97, 98, 99, 100, 101, 102, 103, 104, 105, 106, 107, 108, 109, 110, 111, 112, 113, 114, 115] (by decide +kernel) (by decide +kernel)
set_option maxRecDepth 20000 in
theorem gX8_read_X8_goes : GoodIn wsX8_read (wsV RX8 153 RX8 yX8_goes wsX8_goes) := goodIn_app (goodIn_of _ (by decide +kernel)) ggX8_read_X8_goes
theorem dX8_read_0 : decode cX8_read 0 = .ok (.aload_n 0, 1) := by decide +kernel
theorem dX8_read_1 : decode cX8_read 1 = .ok (.iload_n 1, 1) := by decide +kernel
theorem dX8_read_2 : decode cX8_read 2 = .ok (.iload_n 2, 1) := by decide +kernel
theorem dX8_read_3 : decode cX8_read 3 = .ok (.invokevirtual 352, 3) := by decide +kernel
theorem dX8_read_6 : decode cX8_read 6 = .ok (.istore_n 3, 1) := by decide +kernel
theorem dX8_read_7 : decode cX8_read 7 = .ok (.iload_n 3, 1) := by decide +kernel
theorem dX8_read_8 : decode cX8_read 8 = .ok (.ifCond .eq 10, 3) := by decide +kernel
theorem dX8_read_11 : decode cX8_read 11 = .ok (.aload_n 0, 1) := by decide +kernel
theorem dX8_read_12 : decode cX8_read 12 = .ok (.iload_n 3, 1) := by decide +kernel
theorem dX8_read_13 : decode cX8_read 13 = .ok (.invokevirtual 86, 3) := by decide +kernel
theorem dX8_read_16 : decode cX8_read 16 = .ok (.i2l, 1) := by decide +kernel
theorem dX8_read_17 : decode cX8_read 17 = .ok (.lreturn, 1) := by decide +kernel
theorem dX8_read_18 : decode cX8_read 18 = .ok (.aload_n 0, 1) := by decide +kernel
theorem dX8_read_19 : decode cX8_read 19 = .ok (.invokevirtual 172, 3) := by decide +kernel
theorem dX8_read_22 : decode cX8_read 22 = .ok (.pop2, 1) := by decide +kernel
theorem dX8_read_23 : decode cX8_read 23 = .ok (.lconst 0, 1) := by decide +kernel
theorem dX8_read_24 : decode cX8_read 24 = .ok (.lstore 4, 2) := by decide +kernel
theorem dX8_read_26 : decode cX8_read 26 = .ok (.iconst 0, 1) := by decide +kernel
theorem dX8_read_27 : decode cX8_read 27 = .ok (.istore 6, 2) := by decide +kernel
theorem dX8_read_29 : decode cX8_read 29 = .ok (.iload 6, 2) := by decide +kernel
theorem dX8_read_31 : decode cX8_read 31 = .ok (.aload_n 0, 1) := by decide +kernel
theorem dX8_read_32 : decode cX8_read 32 = .ok (.invokevirtual 159, 3) := by decide +kernel
theorem dX8_read_35 : decode cX8_read 35 = .ok (.if_icmp .ge 107, 3) := by decide +kernel
theorem dX8_read_38 : decode cX8_read 38 = .ok (.aload_n 0, 1) := by decide +kernel
theorem dX8_read_39 : decode cX8_read 39 = .ok (.iload 6, 2) := by decide +kernel
theorem dX8_read_41 : decode cX8_read 41 = .ok (.iload_n 2, 1) := by decide +kernel
theorem dX8_read_42 : decode cX8_read 42 = .ok (.invokevirtual 153, 3) := by decide +kernel
theorem dX8_read_45 : decode cX8_read 45 = .ok (.iconst 1, 1) := by decide +kernel
theorem dX8_read_46 : decode cX8_read 46 = .ok (.istore 7, 2) := by decide +kernel
theorem dX8_read_48 : decode cX8_read 48 = .ok (.iconst 0, 1) := by decide +kernel
theorem dX8_read_49 : decode cX8_read 49 = .ok (.istore 8, 2) := by decide +kernel
theorem dX8_read_51 : decode cX8_read 51 = .ok (.iload 8, 2) := by decide +kernel
theorem dX8_read_53 : decode cX8_read 53 = .ok (.aload_n 0, 1) := by decide +kernel
theorem dX8_read_54 : decode cX8_read 54 = .ok (.getfield 68, 3) := by decide +kernel
theorem dX8_read_57 : decode cX8_read 57 = .ok (.iload_n 1, 1) := by decide +kernel
theorem dX8_read_58 : decode cX8_read 58 = .ok (.iaload, 1) := by decide +kernel
theorem dX8_read_59 : decode cX8_read 59 = .ok (.if_icmp .ge 56, 3) := by decide +kernel
theorem dX8_read_62 : decode cX8_read 62 = .ok (.iload 8, 2) := by decide +kernel
theorem dX8_read_64 : decode cX8_read 64 = .ok (.aload_n 0, 1) := by decide +kernel
theorem dX8_read_65 : decode cX8_read 65 = .ok (.getfield 9, 3) := by decide +kernel
theorem dX8_read_68 : decode cX8_read 68 = .ok (.iconst 0, 1) := by decide +kernel
theorem dX8_read_69 : decode cX8_read 69 = .ok (.iaload, 1) := by decide +kernel
theorem dX8_read_70 : decode cX8_read 70 = .ok (.if_icmp .ge 45, 3) := by decide +kernel
theorem dX8_read_73 : decode cX8_read 73 = .ok (.iload 7, 2) := by decide +kernel
theorem dX8_read_75 : decode cX8_read 75 = .ok (.ifCond .eq 31, 3) := by decide +kernel
theorem dX8_read_78 : decode cX8_read 78 = .ok (.aload_n 0, 1) := by decide +kernel
theorem dX8_read_79 : decode cX8_read 79 = .ok (.getfield 71, 3) := by decide +kernel
theorem dX8_read_82 : decode cX8_read 82 = .ok (.bipush 40, 2) := by decide +kernel
theorem dX8_read_84 : decode cX8_read 84 = .ok (.iload_n 1, 1) := by decide +kernel
theorem dX8_read_85 : decode cX8_read 85 = .ok (.imul, 1) := by decide +kernel
theorem dX8_read_86 : decode cX8_read 86 = .ok (.iload 8, 2) := by decide +kernel
theorem dX8_read_88 : decode cX8_read 88 = .ok (.iadd, 1) := by decide +kernel
theorem dX8_read_89 : decode cX8_read 89 = .ok (.laload, 1) := by decide +kernel
theorem dX8_read_90 : decode cX8_read 90 = .ok (.aload_n 0, 1) := by decide +kernel
theorem dX8_read_91 : decode cX8_read 91 = .ok (.getfield 29, 3) := by decide +kernel
theorem dX8_read_94 : decode cX8_read 94 = .ok (.iload 8, 2) := by decide +kernel
theorem dX8_read_96 : decode cX8_read 96 = .ok (.iaload, 1) := by decide +kernel
theorem dX8_read_97 : decode cX8_read 97 = .ok (.i2l, 1) := by decide +kernel
theorem dX8_read_98 : decode cX8_read 98 = .ok (.lcmp, 1) := by decide +kernel
theorem dX8_read_99 : decode cX8_read 99 = .ok (.ifCond .ne 7, 3) := by decide +kernel
theorem dX8_read_102 : decode cX8_read 102 = .ok (.iconst 1, 1) := by decide +kernel
theorem dX8_read_103 : decode cX8_read 103 = .ok (.goto 4, 3) := by decide +kernel
theorem dX8_read_106 : decode cX8_read 106 = .ok (.iconst 0, 1) := by decide +kernel
theorem dX8_read_107 : decode cX8_read 107 = .ok (.istore 7, 2) := by decide +kernel
theorem dX8_read_109 : decode cX8_read 109 = .ok (.iinc 8 1, 3) := by decide +kernel
theorem dX8_read_112 : decode cX8_read 112 = .ok (.goto (-61), 3) := by decide +kernel
theorem dX8_read_115 : decode cX8_read 115 = .ok (.lload 4, 2) := by decide +kernel
theorem dX8_read_117 : decode cX8_read 117 = .ok (.iload 7, 2) := by decide +kernel
theorem dX8_read_119 : decode cX8_read 119 = .ok (.ifCond .eq 13, 3) := by decide +kernel
theorem dX8_read_122 : decode cX8_read 122 = .ok (.aload_n 0, 1) := by decide +kernel
theorem dX8_read_123 : decode cX8_read 123 = .ok (.getfield 25, 3) := by decide +kernel
theorem dX8_read_126 : decode cX8_read 126 = .ok (.iload 6, 2) := by decide +kernel
theorem dX8_read_128 : decode cX8_read 128 = .ok (.laload, 1) := by decide +kernel
theorem dX8_read_129 : decode cX8_read 129 = .ok (.goto 4, 3) := by decide +kernel
theorem dX8_read_132 : decode cX8_read 132 = .ok (.lconst 0, 1) := by decide +kernel
theorem dX8_read_133 : decode cX8_read 133 = .ok (.ladd, 1) := by decide +kernel
theorem dX8_read_134 : decode cX8_read 134 = .ok (.lstore 4, 2) := by decide +kernel
theorem dX8_read_136 : decode cX8_read 136 = .ok (.iinc 6 1, 3) := by decide +kernel
theorem dX8_read_139 : decode cX8_read 139 = .ok (.goto (-110), 3) := by decide +kernel
theorem dX8_read_142 : decode cX8_read 142 = .ok (.lload 4, 2) := by decide +kernel
theorem dX8_read_144 : decode cX8_read 144 = .ok (.lreturn, 1) := by decide +kernel
set_option maxRecDepth 20000 in
theorem ggX8_image_X8_copyRow : GoodIn wsX8_image wsX8_copyRow := goodIn_r _ [7] (by decide +kernel) (by decide +kernel)
set_option maxRecDepth 20000 in
theorem gX8_image_X8_copyRow : GoodIn wsX8_image (va_wsS RX8 355 yX8_copyRow wsX8_copyRow) := goodIn_app (goodIn_of _ (by decide +kernel)) ggX8_image_X8_copyRow
theorem dX8_image_0 : decode cX8_image 0 = .ok (.aload_n 0, 1) := by decide +kernel
theorem dX8_image_1 : decode cX8_image 1 = .ok (.getfield 9, 3) := by decide +kernel
theorem dX8_image_4 : decode cX8_image 4 = .ok (.aload_n 0, 1) := by decide +kernel
theorem dX8_image_5 : decode cX8_image 5 = .ok (.getfield 13, 3) := by decide +kernel
theorem dX8_image_8 : decode cX8_image 8 = .ok (.invokestatic 355, 3) := by decide +kernel
theorem dX8_image_11 : decode cX8_image 11 = .ok (.aload_n 0, 1) := by decide +kernel
theorem dX8_image_12 : decode cX8_image 12 = .ok (.iconst 1, 1) := by decide +kernel
theorem dX8_image_13 : decode cX8_image 13 = .ok (.putfield 359, 3) := by decide +kernel
theorem dX8_image_16 : decode cX8_image 16 = .ok (.iconst 1, 1) := by decide +kernel
theorem dX8_image_17 : decode cX8_image 17 = .ok (.ireturn, 1) := by decide +kernel
set_option maxRecDepth 20000 in
theorem ggX8_undo_X8_finding : GoodIn wsX8_undo wsX8_finding := goodIn_r _ [9, 10, 11, 15, 16, 17, 18, 19, 20, 21, 22, 23, 24, 25, 26, 27, 28, 29, 30, 31, 32, 33, 34, 35, 36, 37, 38, 39, 40, 41, 42, 43, 44, 45, 46] (by decide +kernel) (by decide +kernel)
set_option maxRecDepth 20000 in
theorem gX8_undo_X8_finding : GoodIn wsX8_undo (wsV RX8 86 RX8 yX8_finding wsX8_finding) := goodIn_app (goodIn_of _ (by decide +kernel)) ggX8_undo_X8_finding
set_option maxRecDepth 20000 in
theorem ggX8_undo_X8_copyRow : GoodIn wsX8_undo wsX8_copyRow := goodIn_r _ [14] (by decide +kernel) (by decide +kernel)
set_option maxRecDepth 20000 in
theorem gX8_undo_X8_copyRow : GoodIn wsX8_undo (va_wsS RX8 355 yX8_copyRow wsX8_copyRow) := goodIn_app (goodIn_of _ (by decide +kernel)) ggX8_undo_X8_copyRow
theorem dX8_undo_0 : decode cX8_undo 0 = .ok (.aload_n 0, 1) := by decide +kernel
theorem dX8_undo_1 : decode cX8_undo 1 = .ok (.getfield 359, 3) := by decide +kernel
theorem dX8_undo_4 : decode cX8_undo 4 = .ok (.ifCond .ne 10, 3) := by decide +kernel
theorem dX8_undo_7 : decode cX8_undo 7 = .ok (.aload_n 0, 1) := by decide +kernel
theorem dX8_undo_8 : decode cX8_undo 8 = .ok (.ldc 179, 2) := by decide +kernel
theorem dX8_undo_10 : decode cX8_undo 10 = .ok (.invokevirtual 86, 3) := by decide +kernel
theorem dX8_undo_13 : decode cX8_undo 13 = .ok (.ireturn, 1) := by decide +kernel
theorem dX8_undo_14 : decode cX8_undo 14 = .ok (.aload_n 0, 1) := by decide +kernel
theorem dX8_undo_15 : decode cX8_undo 15 = .ok (.getfield 13, 3) := by decide +kernel
theorem dX8_undo_18 : decode cX8_undo 18 = .ok (.aload_n 0, 1) := by decide +kernel
theorem dX8_undo_19 : decode cX8_undo 19 = .ok (.getfield 9, 3) := by decide +kernel
theorem dX8_undo_22 : decode cX8_undo 22 = .ok (.invokestatic 355, 3) := by decide +kernel
theorem dX8_undo_25 : decode cX8_undo 25 = .ok (.aload_n 0, 1) := by decide +kernel
theorem dX8_undo_26 : decode cX8_undo 26 = .ok (.getfield 9, 3) := by decide +kernel
theorem dX8_undo_29 : decode cX8_undo 29 = .ok (.iconst 3, 1) := by decide +kernel
theorem dX8_undo_30 : decode cX8_undo 30 = .ok (.iaload, 1) := by decide +kernel
theorem dX8_undo_31 : decode cX8_undo 31 = .ok (.ireturn, 1) := by decide +kernel
theorem dX8_tear_0 : decode cX8_tear 0 = .ok (.aload_n 0, 1) := by decide +kernel
theorem dX8_tear_1 : decode cX8_tear 1 = .ok (.getfield 359, 3) := by decide +kernel
theorem dX8_tear_4 : decode cX8_tear 4 = .ok (.ifCond .eq 7, 3) := by decide +kernel
theorem dX8_tear_7 : decode cX8_tear 7 = .ok (.iconst 1, 1) := by decide +kernel
theorem dX8_tear_8 : decode cX8_tear 8 = .ok (.goto 4, 3) := by decide +kernel
theorem dX8_tear_11 : decode cX8_tear 11 = .ok (.iconst 0, 1) := by decide +kernel
theorem dX8_tear_12 : decode cX8_tear 12 = .ok (.istore_n 1, 1) := by decide +kernel
theorem dX8_tear_13 : decode cX8_tear 13 = .ok (.aload_n 0, 1) := by decide +kernel
theorem dX8_tear_14 : decode cX8_tear 14 = .ok (.iconst 0, 1) := by decide +kernel
theorem dX8_tear_15 : decode cX8_tear 15 = .ok (.putfield 359, 3) := by decide +kernel
theorem dX8_tear_18 : decode cX8_tear 18 = .ok (.iload_n 1, 1) := by decide +kernel
theorem dX8_tear_19 : decode cX8_tear 19 = .ok (.ireturn, 1) := by decide +kernel
set_option maxRecDepth 20000 in
theorem ggX8_count_X8_doubtedOnes : GoodIn wsX8_count wsX8_doubtedOnes := goodIn_r _ [8, 1, 9, 10, 11, 7, 12, 18, 19, 20, 21, 22, 23, 24, 25, 26, 27, 28, 29, 30, 31, 32, 33, 34, 35, 36, 37, 38, 39, 40, 41, 42, 43, 44, 45, 46, 47, 48, 49] (by decide +kernel) (by decide +kernel)
set_option maxRecDepth 20000 in
theorem gX8_count_X8_doubtedOnes : GoodIn wsX8_count (wsV RX8 105 RX8 yX8_doubtedOnes wsX8_doubtedOnes) := goodIn_app (goodIn_of _ (by decide +kernel)) ggX8_count_X8_doubtedOnes
set_option maxRecDepth 20000 in
theorem ggX8_count_X8_finding : GoodIn wsX8_count wsX8_finding := goodIn_r _ [16, 17, 3, 18, 19, 20, 21, 22, 23, 24, 25, 26, 27, 28, 29, 30, 31, 32, 33, 34, 35, 36, 37, 38, 39, 40, 41, 42, 43, 44, 45, 46, 47, 48, 49] (by decide +kernel) (by decide +kernel)
set_option maxRecDepth 20000 in
theorem gX8_count_X8_finding : GoodIn wsX8_count (wsV RX8 86 RX8 yX8_finding wsX8_finding) := goodIn_app (goodIn_of _ (by decide +kernel)) ggX8_count_X8_finding
theorem dX8_count_0 : decode cX8_count 0 = .ok (.iload_n 1, 1) := by decide +kernel
theorem dX8_count_1 : decode cX8_count 1 = .ok (.tableswitch 77 0 5 #[39, 46, 53, 58, 65, 72], 39) := by decide +kernel
theorem dX8_count_40 : decode cX8_count 40 = .ok (.aload_n 0, 1) := by decide +kernel
theorem dX8_count_41 : decode cX8_count 41 = .ok (.getfield 9, 3) := by decide +kernel
theorem dX8_count_44 : decode cX8_count 44 = .ok (.iconst 0, 1) := by decide +kernel
theorem dX8_count_45 : decode cX8_count 45 = .ok (.iaload, 1) := by decide +kernel
theorem dX8_count_46 : decode cX8_count 46 = .ok (.ireturn, 1) := by decide +kernel
theorem dX8_count_47 : decode cX8_count 47 = .ok (.aload_n 0, 1) := by decide +kernel
theorem dX8_count_48 : decode cX8_count 48 = .ok (.getfield 9, 3) := by decide +kernel
theorem dX8_count_51 : decode cX8_count 51 = .ok (.iconst 3, 1) := by decide +kernel
theorem dX8_count_52 : decode cX8_count 52 = .ok (.iaload, 1) := by decide +kernel
theorem dX8_count_53 : decode cX8_count 53 = .ok (.ireturn, 1) := by decide +kernel
theorem dX8_count_54 : decode cX8_count 54 = .ok (.aload_n 0, 1) := by decide +kernel
theorem dX8_count_55 : decode cX8_count 55 = .ok (.invokevirtual 105, 3) := by decide +kernel
theorem dX8_count_58 : decode cX8_count 58 = .ok (.ireturn, 1) := by decide +kernel
theorem dX8_count_59 : decode cX8_count 59 = .ok (.aload_n 0, 1) := by decide +kernel
theorem dX8_count_60 : decode cX8_count 60 = .ok (.getfield 9, 3) := by decide +kernel
theorem dX8_count_63 : decode cX8_count 63 = .ok (.iconst 4, 1) := by decide +kernel
theorem dX8_count_64 : decode cX8_count 64 = .ok (.iaload, 1) := by decide +kernel
theorem dX8_count_65 : decode cX8_count 65 = .ok (.ireturn, 1) := by decide +kernel
theorem dX8_count_66 : decode cX8_count 66 = .ok (.aload_n 0, 1) := by decide +kernel
theorem dX8_count_67 : decode cX8_count 67 = .ok (.getfield 9, 3) := by decide +kernel
theorem dX8_count_70 : decode cX8_count 70 = .ok (.iconst 5, 1) := by decide +kernel
theorem dX8_count_71 : decode cX8_count 71 = .ok (.iaload, 1) := by decide +kernel
theorem dX8_count_72 : decode cX8_count 72 = .ok (.ireturn, 1) := by decide +kernel
theorem dX8_count_73 : decode cX8_count 73 = .ok (.aload_n 0, 1) := by decide +kernel
theorem dX8_count_74 : decode cX8_count 74 = .ok (.getfield 234, 3) := by decide +kernel
theorem dX8_count_77 : decode cX8_count 77 = .ok (.ireturn, 1) := by decide +kernel
theorem dX8_count_78 : decode cX8_count 78 = .ok (.aload_n 0, 1) := by decide +kernel
theorem dX8_count_79 : decode cX8_count 79 = .ok (.ldc 77, 2) := by decide +kernel
theorem dX8_count_81 : decode cX8_count 81 = .ok (.invokevirtual 86, 3) := by decide +kernel
theorem dX8_count_84 : decode cX8_count 84 = .ok (.ireturn, 1) := by decide +kernel
set_option maxRecDepth 20000 in
theorem ggX8_status_X8_within : GoodIn wsX8_status wsX8_within := goodIn_r _ [6] (by decide +kernel) (by decide +kernel)
set_option maxRecDepth 20000 in
theorem gX8_status_X8_within : GoodIn wsX8_status (va_wsS RX8 78 yX8_within wsX8_within) := goodIn_app (goodIn_of _ (by decide +kernel)) ggX8_status_X8_within
set_option maxRecDepth 20000 in
theorem ggX8_status_X8_finding : GoodIn wsX8_status wsX8_finding := goodIn_r _ [10, 1, 2, 11, 12, 13, 14, 15, 16, 17, 18, 19, 20, 21, 22, 23, 24, 25, 26, 27, 28, 29, 30, 31, 32, 33, 34, 35, 36, 37, 38, 39, 40, 41, 42] (by decide +kernel) (by decide +kernel)
set_option maxRecDepth 20000 in
theorem gX8_status_X8_finding : GoodIn wsX8_status (wsV RX8 86 RX8 yX8_finding wsX8_finding) := goodIn_app (goodIn_of _ (by decide +kernel)) ggX8_status_X8_finding
theorem dX8_status_0 : decode cX8_status 0 = .ok (.iload_n 1, 1) := by decide +kernel
theorem dX8_status_1 : decode cX8_status 1 = .ok (.iconst (-1), 1) := by decide +kernel
theorem dX8_status_2 : decode cX8_status 2 = .ok (.bipush 6, 2) := by decide +kernel
theorem dX8_status_4 : decode cX8_status 4 = .ok (.invokestatic 78, 3) := by decide +kernel
theorem dX8_status_7 : decode cX8_status 7 = .ok (.ifCond .eq 14, 3) := by decide +kernel
theorem dX8_status_10 : decode cX8_status 10 = .ok (.aload_n 0, 1) := by decide +kernel
theorem dX8_status_11 : decode cX8_status 11 = .ok (.getfield 16, 3) := by decide +kernel
theorem dX8_status_14 : decode cX8_status 14 = .ok (.iload_n 1, 1) := by decide +kernel
theorem dX8_status_15 : decode cX8_status 15 = .ok (.iconst 1, 1) := by decide +kernel
theorem dX8_status_16 : decode cX8_status 16 = .ok (.iadd, 1) := by decide +kernel
theorem dX8_status_17 : decode cX8_status 17 = .ok (.iaload, 1) := by decide +kernel
theorem dX8_status_18 : decode cX8_status 18 = .ok (.goto 9, 3) := by decide +kernel
theorem dX8_status_21 : decode cX8_status 21 = .ok (.aload_n 0, 1) := by decide +kernel
theorem dX8_status_22 : decode cX8_status 22 = .ok (.ldc 77, 2) := by decide +kernel
theorem dX8_status_24 : decode cX8_status 24 = .ok (.invokevirtual 86, 3) := by decide +kernel
theorem dX8_status_27 : decode cX8_status 27 = .ok (.ireturn, 1) := by decide +kernel
