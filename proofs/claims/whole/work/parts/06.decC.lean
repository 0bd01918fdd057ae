theorem dX6_init_0 : decode cX6_init 0 = .ok (.aload_n 0, 1) := by decide +kernel
theorem dX6_init_1 : decode cX6_init 1 = .ok (.invokespecial 1, 3) := by decide +kernel
theorem dX6_init_4 : decode cX6_init 4 = .ok (.aload_n 0, 1) := by decide +kernel
theorem dX6_init_5 : decode cX6_init 5 = .ok (.bipush 10, 2) := by decide +kernel
theorem dX6_init_7 : decode cX6_init 7 = .ok (.newarray .int, 2) := by decide +kernel
theorem dX6_init_9 : decode cX6_init 9 = .ok (.putfield 9, 3) := by decide +kernel
theorem dX6_init_12 : decode cX6_init 12 = .ok (.aload_n 0, 1) := by decide +kernel
theorem dX6_init_13 : decode cX6_init 13 = .ok (.bipush 10, 2) := by decide +kernel
theorem dX6_init_15 : decode cX6_init 15 = .ok (.newarray .boolean, 2) := by decide +kernel
theorem dX6_init_17 : decode cX6_init 17 = .ok (.putfield 13, 3) := by decide +kernel
theorem dX6_init_20 : decode cX6_init 20 = .ok (.aload_n 0, 1) := by decide +kernel
theorem dX6_init_21 : decode cX6_init 21 = .ok (.iconst 1, 1) := by decide +kernel
theorem dX6_init_22 : decode cX6_init 22 = .ok (.putfield 17, 3) := by decide +kernel
theorem dX6_init_25 : decode cX6_init 25 = .ok (.aload_n 0, 1) := by decide +kernel
theorem dX6_init_26 : decode cX6_init 26 = .ok (.bipush 16, 2) := by decide +kernel
theorem dX6_init_28 : decode cX6_init 28 = .ok (.newarray .boolean, 2) := by decide +kernel
theorem dX6_init_30 : decode cX6_init 30 = .ok (.putfield 21, 3) := by decide +kernel
theorem dX6_init_33 : decode cX6_init 33 = .ok (.aload_n 0, 1) := by decide +kernel
theorem dX6_init_34 : decode cX6_init 34 = .ok (.sipush 2000, 3) := by decide +kernel
theorem dX6_init_37 : decode cX6_init 37 = .ok (.newarray .long, 2) := by decide +kernel
theorem dX6_init_39 : decode cX6_init 39 = .ok (.putfield 24, 3) := by decide +kernel
theorem dX6_init_42 : decode cX6_init 42 = .ok (.aload_n 0, 1) := by decide +kernel
theorem dX6_init_43 : decode cX6_init 43 = .ok (.sipush 2000, 3) := by decide +kernel
theorem dX6_init_46 : decode cX6_init 46 = .ok (.newarray .int, 2) := by decide +kernel
theorem dX6_init_48 : decode cX6_init 48 = .ok (.putfield 28, 3) := by decide +kernel
theorem dX6_init_51 : decode cX6_init 51 = .ok (.aload_n 0, 1) := by decide +kernel
theorem dX6_init_52 : decode cX6_init 52 = .ok (.sipush 2000, 3) := by decide +kernel
theorem dX6_init_55 : decode cX6_init 55 = .ok (.newarray .int, 2) := by decide +kernel
theorem dX6_init_57 : decode cX6_init 57 = .ok (.putfield 31, 3) := by decide +kernel
theorem dX6_init_60 : decode cX6_init 60 = .ok (.aload_n 0, 1) := by decide +kernel
theorem dX6_init_61 : decode cX6_init 61 = .ok (.sipush 2000, 3) := by decide +kernel
theorem dX6_init_64 : decode cX6_init 64 = .ok (.newarray .int, 2) := by decide +kernel
theorem dX6_init_66 : decode cX6_init 66 = .ok (.putfield 34, 3) := by decide +kernel
theorem dX6_init_69 : decode cX6_init 69 = .ok (.aload_n 0, 1) := by decide +kernel
theorem dX6_init_70 : decode cX6_init 70 = .ok (.sipush 2000, 3) := by decide +kernel
theorem dX6_init_73 : decode cX6_init 73 = .ok (.newarray .int, 2) := by decide +kernel
theorem dX6_init_75 : decode cX6_init 75 = .ok (.putfield 37, 3) := by decide +kernel
theorem dX6_init_78 : decode cX6_init 78 = .ok (.aload_n 0, 1) := by decide +kernel
theorem dX6_init_79 : decode cX6_init 79 = .ok (.sipush 1024, 3) := by decide +kernel
theorem dX6_init_82 : decode cX6_init 82 = .ok (.newarray .int, 2) := by decide +kernel
theorem dX6_init_84 : decode cX6_init 84 = .ok (.putfield 40, 3) := by decide +kernel
theorem dX6_init_87 : decode cX6_init 87 = .ok (.aload_n 0, 1) := by decide +kernel
theorem dX6_init_88 : decode cX6_init 88 = .ok (.sipush 2000, 3) := by decide +kernel
theorem dX6_init_91 : decode cX6_init 91 = .ok (.newarray .int, 2) := by decide +kernel
theorem dX6_init_93 : decode cX6_init 93 = .ok (.putfield 43, 3) := by decide +kernel
theorem dX6_init_96 : decode cX6_init 96 = .ok (.aload_n 0, 1) := by decide +kernel
theorem dX6_init_97 : decode cX6_init 97 = .ok (.bipush 8, 2) := by decide +kernel
theorem dX6_init_99 : decode cX6_init 99 = .ok (.newarray .int, 2) := by decide +kernel
theorem dX6_init_101 : decode cX6_init 101 = .ok (.putfield 46, 3) := by decide +kernel
theorem dX6_init_104 : decode cX6_init 104 = .ok (.aload_n 0, 1) := by decide +kernel
theorem dX6_init_105 : decode cX6_init 105 = .ok (.sipush 400, 3) := by decide +kernel
theorem dX6_init_108 : decode cX6_init 108 = .ok (.newarray .int, 2) := by decide +kernel
theorem dX6_init_110 : decode cX6_init 110 = .ok (.putfield 49, 3) := by decide +kernel
theorem dX6_init_113 : decode cX6_init 113 = .ok (.aload_n 0, 1) := by decide +kernel
theorem dX6_init_114 : decode cX6_init 114 = .ok (.sipush 300, 3) := by decide +kernel
theorem dX6_init_117 : decode cX6_init 117 = .ok (.newarray .int, 2) := by decide +kernel
theorem dX6_init_119 : decode cX6_init 119 = .ok (.putfield 52, 3) := by decide +kernel
theorem dX6_init_122 : decode cX6_init 122 = .ok (.iconst 0, 1) := by decide +kernel
theorem dX6_init_123 : decode cX6_init 123 = .ok (.istore_n 1, 1) := by decide +kernel
theorem dX6_init_124 : decode cX6_init 124 = .ok (.iload_n 1, 1) := by decide +kernel
theorem dX6_init_125 : decode cX6_init 125 = .ok (.bipush 10, 2) := by decide +kernel
theorem dX6_init_127 : decode cX6_init 127 = .ok (.if_icmp .ge 33, 3) := by decide +kernel
theorem dX6_init_130 : decode cX6_init 130 = .ok (.aload_n 0, 1) := by decide +kernel
theorem dX6_init_131 : decode cX6_init 131 = .ok (.getfield 9, 3) := by decide +kernel
theorem dX6_init_134 : decode cX6_init 134 = .ok (.iload_n 1, 1) := by decide +kernel
theorem dX6_init_135 : decode cX6_init 135 = .ok (.iconst 1, 1) := by decide +kernel
theorem dX6_init_136 : decode cX6_init 136 = .ok (.iastore, 1) := by decide +kernel
theorem dX6_init_137 : decode cX6_init 137 = .ok (.aload_n 0, 1) := by decide +kernel
theorem dX6_init_138 : decode cX6_init 138 = .ok (.getfield 13, 3) := by decide +kernel
theorem dX6_init_141 : decode cX6_init 141 = .ok (.iload_n 1, 1) := by decide +kernel
theorem dX6_init_142 : decode cX6_init 142 = .ok (.iload_n 1, 1) := by decide +kernel
theorem dX6_init_143 : decode cX6_init 143 = .ok (.bipush 9, 2) := by decide +kernel
theorem dX6_init_145 : decode cX6_init 145 = .ok (.if_icmp .ge 7, 3) := by decide +kernel
theorem dX6_init_148 : decode cX6_init 148 = .ok (.iconst 1, 1) := by decide +kernel
theorem dX6_init_149 : decode cX6_init 149 = .ok (.goto 4, 3) := by decide +kernel
theorem dX6_init_152 : decode cX6_init 152 = .ok (.iconst 0, 1) := by decide +kernel
theorem dX6_init_153 : decode cX6_init 153 = .ok (.bastore, 1) := by decide +kernel
theorem dX6_init_154 : decode cX6_init 154 = .ok (.iinc 1 1, 3) := by decide +kernel
theorem dX6_init_157 : decode cX6_init 157 = .ok (.goto (-33), 3) := by decide +kernel
theorem dX6_init_160 : decode cX6_init 160 = .ok (.aload_n 0, 1) := by decide +kernel
theorem dX6_init_161 : decode cX6_init 161 = .ok (.getfield 21, 3) := by decide +kernel
theorem dX6_init_164 : decode cX6_init 164 = .ok (.iconst 1, 1) := by decide +kernel
theorem dX6_init_165 : decode cX6_init 165 = .ok (.iconst 1, 1) := by decide +kernel
theorem dX6_init_166 : decode cX6_init 166 = .ok (.bastore, 1) := by decide +kernel
theorem dX6_init_167 : decode cX6_init 167 = .ok (.return_, 1) := by decide +kernel
theorem dX6_thrown_0 : decode cX6_thrown 0 = .ok (.aload_n 0, 1) := by decide +kernel
theorem dX6_thrown_1 : decode cX6_thrown 1 = .ok (.getfield 55, 3) := by decide +kernel
theorem dX6_thrown_4 : decode cX6_thrown 4 = .ok (.ireturn, 1) := by decide +kernel
theorem dX6_no_0 : decode cX6_no 0 = .ok (.aload_n 0, 1) := by decide +kernel
theorem dX6_no_1 : decode cX6_no 1 = .ok (.iload_n 1, 1) := by decide +kernel
theorem dX6_no_2 : decode cX6_no 2 = .ok (.putfield 55, 3) := by decide +kernel
theorem dX6_no_5 : decode cX6_no 5 = .ok (.iconst 0, 1) := by decide +kernel
theorem dX6_no_6 : decode cX6_no 6 = .ok (.ireturn, 1) := by decide +kernel
theorem dX6_isIn_0 : decode cX6_isIn 0 = .ok (.iload_n 0, 1) := by decide +kernel
theorem dX6_isIn_1 : decode cX6_isIn 1 = .ok (.iload_n 1, 1) := by decide +kernel
theorem dX6_isIn_2 : decode cX6_isIn 2 = .ok (.if_icmp .lt 12, 3) := by decide +kernel
theorem dX6_isIn_5 : decode cX6_isIn 5 = .ok (.iload_n 0, 1) := by decide +kernel
theorem dX6_isIn_6 : decode cX6_isIn 6 = .ok (.iload_n 2, 1) := by decide +kernel
theorem dX6_isIn_7 : decode cX6_isIn 7 = .ok (.if_icmp .gt 7, 3) := by decide +kernel
theorem dX6_isIn_10 : decode cX6_isIn 10 = .ok (.iconst 1, 1) := by decide +kernel
theorem dX6_isIn_11 : decode cX6_isIn 11 = .ok (.goto 4, 3) := by decide +kernel
theorem dX6_isIn_14 : decode cX6_isIn 14 = .ok (.iconst 0, 1) := by decide +kernel
theorem dX6_isIn_15 : decode cX6_isIn 15 = .ok (.ireturn, 1) := by decide +kernel
theorem dX6_count_0 : decode cX6_count 0 = .ok (.iconst 0, 1) := by decide +kernel
theorem dX6_count_1 : decode cX6_count 1 = .ok (.istore_n 1, 1) := by decide +kernel
theorem dX6_count_2 : decode cX6_count 2 = .ok (.aload_n 0, 1) := by decide +kernel
theorem dX6_count_3 : decode cX6_count 3 = .ok (.astore_n 2, 1) := by decide +kernel
theorem dX6_count_4 : decode cX6_count 4 = .ok (.aload_n 2, 1) := by decide +kernel
theorem dX6_count_5 : decode cX6_count 5 = .ok (.arraylength, 1) := by decide +kernel
theorem dX6_count_6 : decode cX6_count 6 = .ok (.istore_n 3, 1) := by decide +kernel
theorem dX6_count_7 : decode cX6_count 7 = .ok (.iconst 0, 1) := by decide +kernel
theorem dX6_count_8 : decode cX6_count 8 = .ok (.istore 4, 2) := by decide +kernel
theorem dX6_count_10 : decode cX6_count 10 = .ok (.iload 4, 2) := by decide +kernel
theorem dX6_count_12 : decode cX6_count 12 = .ok (.iload_n 3, 1) := by decide +kernel
theorem dX6_count_13 : decode cX6_count 13 = .ok (.if_icmp .ge 28, 3) := by decide +kernel
theorem dX6_count_16 : decode cX6_count 16 = .ok (.aload_n 2, 1) := by decide +kernel
theorem dX6_count_17 : decode cX6_count 17 = .ok (.iload 4, 2) := by decide +kernel
theorem dX6_count_19 : decode cX6_count 19 = .ok (.baload, 1) := by decide +kernel
theorem dX6_count_20 : decode cX6_count 20 = .ok (.istore 5, 2) := by decide +kernel
theorem dX6_count_22 : decode cX6_count 22 = .ok (.iload_n 1, 1) := by decide +kernel
theorem dX6_count_23 : decode cX6_count 23 = .ok (.iload 5, 2) := by decide +kernel
theorem dX6_count_25 : decode cX6_count 25 = .ok (.ifCond .eq 7, 3) := by decide +kernel
theorem dX6_count_28 : decode cX6_count 28 = .ok (.iconst 1, 1) := by decide +kernel
theorem dX6_count_29 : decode cX6_count 29 = .ok (.goto 4, 3) := by decide +kernel
theorem dX6_count_32 : decode cX6_count 32 = .ok (.iconst 0, 1) := by decide +kernel
theorem dX6_count_33 : decode cX6_count 33 = .ok (.iadd, 1) := by decide +kernel
theorem dX6_count_34 : decode cX6_count 34 = .ok (.istore_n 1, 1) := by decide +kernel
theorem dX6_count_35 : decode cX6_count 35 = .ok (.iinc 4 1, 3) := by decide +kernel
theorem dX6_count_38 : decode cX6_count 38 = .ok (.goto (-28), 3) := by decide +kernel
theorem dX6_count_41 : decode cX6_count 41 = .ok (.iload_n 1, 1) := by decide +kernel
theorem dX6_count_42 : decode cX6_count 42 = .ok (.ireturn, 1) := by decide +kernel
set_option maxRecDepth 20000 in
theorem ggX6_allow_X6_isIn : GoodIn wsX6_allow wsX6_isIn := goodIn_r _ [6] (by decide +kernel) (by decide +kernel)
set_option maxRecDepth 20000 in
theorem gX6_allow_X6_isIn : GoodIn wsX6_allow (va_wsS RX6 58 yX6_isIn wsX6_isIn) := goodIn_app (goodIn_of _ (by decide +kernel)) ggX6_allow_X6_isIn
set_option maxRecDepth 20000 in
theorem ggX6_allow_X6_no : GoodIn wsX6_allow wsX6_no := goodIn_r _ [10, 1, 14, 15, 16, 17, 18, 19, 20, 21, 22, 23, 24, 25, 26, 27, 28, 29, 30, 31, 32, 33, 34] (by decide +kernel) (by decide +kernel)
set_option maxRecDepth 20000 in
theorem gX6_allow_X6_no : GoodIn wsX6_allow (wsV RX6 62 RX6 yX6_no wsX6_no) := goodIn_app (goodIn_of _ (by decide +kernel)) ggX6_allow_X6_no
set_option maxRecDepth 20000 in
theorem ggX6_allow_X6_count : GoodIn wsX6_allow wsX6_count := goodIn_r _ [13] (by decide +kernel) (by decide +kernel)
set_option maxRecDepth 20000 in
theorem gX6_allow_X6_count : GoodIn wsX6_allow (va_wsS RX6 66 yX6_count wsX6_count) := goodIn_app (goodIn_of _ (by decide +kernel)) ggX6_allow_X6_count
theorem dX6_allow_0 : decode cX6_allow 0 = .ok (.aload_n 0, 1) := by decide +kernel
theorem dX6_allow_1 : decode cX6_allow 1 = .ok (.iconst 0, 1) := by decide +kernel
theorem dX6_allow_2 : decode cX6_allow 2 = .ok (.putfield 55, 3) := by decide +kernel
theorem dX6_allow_5 : decode cX6_allow 5 = .ok (.iload_n 1, 1) := by decide +kernel
theorem dX6_allow_6 : decode cX6_allow 6 = .ok (.iconst 0, 1) := by decide +kernel
theorem dX6_allow_7 : decode cX6_allow 7 = .ok (.bipush 9, 2) := by decide +kernel
theorem dX6_allow_9 : decode cX6_allow 9 = .ok (.invokestatic 58, 3) := by decide +kernel
theorem dX6_allow_12 : decode cX6_allow 12 = .ok (.ifCond .ne 9, 3) := by decide +kernel
theorem dX6_allow_15 : decode cX6_allow 15 = .ok (.aload_n 0, 1) := by decide +kernel
theorem dX6_allow_16 : decode cX6_allow 16 = .ok (.iconst 1, 1) := by decide +kernel
theorem dX6_allow_17 : decode cX6_allow 17 = .ok (.invokevirtual 62, 3) := by decide +kernel
theorem dX6_allow_20 : decode cX6_allow 20 = .ok (.ireturn, 1) := by decide +kernel
theorem dX6_allow_21 : decode cX6_allow 21 = .ok (.aload_n 0, 1) := by decide +kernel
theorem dX6_allow_22 : decode cX6_allow 22 = .ok (.getfield 13, 3) := by decide +kernel
theorem dX6_allow_25 : decode cX6_allow 25 = .ok (.iload_n 1, 1) := by decide +kernel
theorem dX6_allow_26 : decode cX6_allow 26 = .ok (.iload_n 2, 1) := by decide +kernel
theorem dX6_allow_27 : decode cX6_allow 27 = .ok (.bastore, 1) := by decide +kernel
theorem dX6_allow_28 : decode cX6_allow 28 = .ok (.aload_n 0, 1) := by decide +kernel
theorem dX6_allow_29 : decode cX6_allow 29 = .ok (.getfield 13, 3) := by decide +kernel
theorem dX6_allow_32 : decode cX6_allow 32 = .ok (.invokestatic 66, 3) := by decide +kernel
theorem dX6_allow_35 : decode cX6_allow 35 = .ok (.ireturn, 1) := by decide +kernel
set_option maxRecDepth 20000 in
theorem ggX6_setPrice_X6_isIn : GoodIn wsX6_setPrice wsX6_isIn := goodIn_r _ [7] (by decide +kernel) (by decide +kernel)
set_option maxRecDepth 20000 in
theorem gX6_setPrice_X6_isIn : GoodIn wsX6_setPrice (va_wsS RX6 58 yX6_isIn wsX6_isIn) := goodIn_app (goodIn_of _ (by decide +kernel)) ggX6_setPrice_X6_isIn
set_option maxRecDepth 20000 in
theorem ggX6_setPrice_X6_no : GoodIn wsX6_setPrice wsX6_no := goodIn_r _ [11, 1, 12, 13, 14, 15, 16, 17, 18, 19, 20, 21, 22, 23, 24, 25, 26, 27, 28, 29, 30, 31, 32] (by decide +kernel) (by decide +kernel)
set_option maxRecDepth 20000 in
theorem gX6_setPrice_X6_no : GoodIn wsX6_setPrice (wsV RX6 62 RX6 yX6_no wsX6_no) := goodIn_app (goodIn_of _ (by decide +kernel)) ggX6_setPrice_X6_no
theorem dX6_setPrice_0 : decode cX6_setPrice 0 = .ok (.aload_n 0, 1) := by decide +kernel
theorem dX6_setPrice_1 : decode cX6_setPrice 1 = .ok (.iconst 0, 1) := by decide +kernel
theorem dX6_setPrice_2 : decode cX6_setPrice 2 = .ok (.putfield 55, 3) := by decide +kernel
theorem dX6_setPrice_5 : decode cX6_setPrice 5 = .ok (.iload_n 1, 1) := by decide +kernel
theorem dX6_setPrice_6 : decode cX6_setPrice 6 = .ok (.iconst 0, 1) := by decide +kernel
theorem dX6_setPrice_7 : decode cX6_setPrice 7 = .ok (.bipush 10, 2) := by decide +kernel
theorem dX6_setPrice_9 : decode cX6_setPrice 9 = .ok (.invokestatic 58, 3) := by decide +kernel
theorem dX6_setPrice_12 : decode cX6_setPrice 12 = .ok (.ifCond .ne 9, 3) := by decide +kernel
theorem dX6_setPrice_15 : decode cX6_setPrice 15 = .ok (.aload_n 0, 1) := by decide +kernel
theorem dX6_setPrice_16 : decode cX6_setPrice 16 = .ok (.iconst 1, 1) := by decide +kernel
theorem dX6_setPrice_17 : decode cX6_setPrice 17 = .ok (.invokevirtual 62, 3) := by decide +kernel
theorem dX6_setPrice_20 : decode cX6_setPrice 20 = .ok (.ireturn, 1) := by decide +kernel
theorem dX6_setPrice_21 : decode cX6_setPrice 21 = .ok (.iload_n 2, 1) := by decide +kernel
theorem dX6_setPrice_22 : decode cX6_setPrice 22 = .ok (.iload_n 1, 1) := by decide +kernel
theorem dX6_setPrice_23 : decode cX6_setPrice 23 = .ok (.bipush 10, 2) := by decide +kernel
theorem dX6_setPrice_25 : decode cX6_setPrice 25 = .ok (.if_icmp .ne 7, 3) := by decide +kernel
theorem dX6_setPrice_28 : decode cX6_setPrice 28 = .ok (.iconst 0, 1) := by decide +kernel
theorem dX6_setPrice_29 : decode cX6_setPrice 29 = .ok (.goto 4, 3) := by decide +kernel
theorem dX6_setPrice_32 : decode cX6_setPrice 32 = .ok (.iconst 1, 1) := by decide +kernel
theorem dX6_setPrice_33 : decode cX6_setPrice 33 = .ok (.iconst 5, 1) := by decide +kernel
theorem dX6_setPrice_34 : decode cX6_setPrice 34 = .ok (.invokestatic 58, 3) := by decide +kernel
theorem dX6_setPrice_37 : decode cX6_setPrice 37 = .ok (.ifCond .ne 9, 3) := by decide +kernel
theorem dX6_setPrice_40 : decode cX6_setPrice 40 = .ok (.aload_n 0, 1) := by decide +kernel
theorem dX6_setPrice_41 : decode cX6_setPrice 41 = .ok (.iconst 2, 1) := by decide +kernel
theorem dX6_setPrice_42 : decode cX6_setPrice 42 = .ok (.invokevirtual 62, 3) := by decide +kernel
theorem dX6_setPrice_45 : decode cX6_setPrice 45 = .ok (.ireturn, 1) := by decide +kernel
theorem dX6_setPrice_46 : decode cX6_setPrice 46 = .ok (.iload_n 1, 1) := by decide +kernel
theorem dX6_setPrice_47 : decode cX6_setPrice 47 = .ok (.bipush 10, 2) := by decide +kernel
theorem dX6_setPrice_49 : decode cX6_setPrice 49 = .ok (.if_icmp .ne 10, 3) := by decide +kernel
theorem dX6_setPrice_52 : decode cX6_setPrice 52 = .ok (.aload_n 0, 1) := by decide +kernel
theorem dX6_setPrice_53 : decode cX6_setPrice 53 = .ok (.getfield 17, 3) := by decide +kernel
theorem dX6_setPrice_56 : decode cX6_setPrice 56 = .ok (.goto 9, 3) := by decide +kernel
theorem dX6_setPrice_59 : decode cX6_setPrice 59 = .ok (.aload_n 0, 1) := by decide +kernel
theorem dX6_setPrice_60 : decode cX6_setPrice 60 = .ok (.getfield 9, 3) := by decide +kernel
theorem dX6_setPrice_63 : decode cX6_setPrice 63 = .ok (.iload_n 1, 1) := by decide +kernel
theorem dX6_setPrice_64 : decode cX6_setPrice 64 = .ok (.iaload, 1) := by decide +kernel
theorem dX6_setPrice_65 : decode cX6_setPrice 65 = .ok (.istore_n 3, 1) := by decide +kernel
theorem dX6_setPrice_66 : decode cX6_setPrice 66 = .ok (.iload_n 1, 1) := by decide +kernel
theorem dX6_setPrice_67 : decode cX6_setPrice 67 = .ok (.bipush 10, 2) := by decide +kernel
theorem dX6_setPrice_69 : decode cX6_setPrice 69 = .ok (.if_icmp .ne 11, 3) := by decide +kernel
theorem dX6_setPrice_72 : decode cX6_setPrice 72 = .ok (.aload_n 0, 1) := by decide +kernel
theorem dX6_setPrice_73 : decode cX6_setPrice 73 = .ok (.iload_n 2, 1) := by decide +kernel
theorem dX6_setPrice_74 : decode cX6_setPrice 74 = .ok (.putfield 17, 3) := by decide +kernel
theorem dX6_setPrice_77 : decode cX6_setPrice 77 = .ok (.goto 10, 3) := by decide +kernel
theorem dX6_setPrice_80 : decode cX6_setPrice 80 = .ok (.aload_n 0, 1) := by decide +kernel
theorem dX6_setPrice_81 : decode cX6_setPrice 81 = .ok (.getfield 9, 3) := by decide +kernel
theorem dX6_setPrice_84 : decode cX6_setPrice 84 = .ok (.iload_n 1, 1) := by decide +kernel
theorem dX6_setPrice_85 : decode cX6_setPrice 85 = .ok (.iload_n 2, 1) := by decide +kernel
theorem dX6_setPrice_86 : decode cX6_setPrice 86 = .ok (.iastore, 1) := by decide +kernel
theorem dX6_setPrice_87 : decode cX6_setPrice 87 = .ok (.iload_n 3, 1) := by decide +kernel
theorem dX6_setPrice_88 : decode cX6_setPrice 88 = .ok (.ireturn, 1) := by decide +kernel
set_option maxRecDepth 20000 in
theorem ggX6_setConstant_X6_isIn : GoodIn wsX6_setConstant wsX6_isIn := goodIn_r _ [6] (by decide +kernel) (by decide +kernel)
set_option maxRecDepth 20000 in
theorem gX6_setConstant_X6_isIn : GoodIn wsX6_setConstant (va_wsS RX6 58 yX6_isIn wsX6_isIn) := goodIn_app (goodIn_of _ (by decide +kernel)) ggX6_setConstant_X6_isIn
set_option maxRecDepth 20000 in
theorem ggX6_setConstant_X6_no : GoodIn wsX6_setConstant wsX6_no := goodIn_r _ [10, 1, 14, 15, 16, 17, 18, 19, 20, 21, 22, 23, 24, 25, 26, 27, 28, 29, 30, 31, 32, 33, 34] (by decide +kernel) (by decide +kernel)
set_option maxRecDepth 20000 in
theorem gX6_setConstant_X6_no : GoodIn wsX6_setConstant (wsV RX6 62 RX6 yX6_no wsX6_no) := goodIn_app (goodIn_of _ (by decide +kernel)) ggX6_setConstant_X6_no
set_option maxRecDepth 20000 in
theorem ggX6_setConstant_X6_count : GoodIn wsX6_setConstant wsX6_count := goodIn_r _ [13] (by decide +kernel) (by decide +kernel)
set_option maxRecDepth 20000 in
theorem gX6_setConstant_X6_count : GoodIn wsX6_setConstant (va_wsS RX6 66 yX6_count wsX6_count) := goodIn_app (goodIn_of _ (by decide +kernel)) ggX6_setConstant_X6_count
theorem dX6_setConstant_0 : decode cX6_setConstant 0 = .ok (.aload_n 0, 1) := by decide +kernel
theorem dX6_setConstant_1 : decode cX6_setConstant 1 = .ok (.iconst 0, 1) := by decide +kernel
theorem dX6_setConstant_2 : decode cX6_setConstant 2 = .ok (.putfield 55, 3) := by decide +kernel
theorem dX6_setConstant_5 : decode cX6_setConstant 5 = .ok (.iload_n 1, 1) := by decide +kernel
theorem dX6_setConstant_6 : decode cX6_setConstant 6 = .ok (.iconst 0, 1) := by decide +kernel
theorem dX6_setConstant_7 : decode cX6_setConstant 7 = .ok (.bipush 15, 2) := by decide +kernel
theorem dX6_setConstant_9 : decode cX6_setConstant 9 = .ok (.invokestatic 58, 3) := by decide +kernel
theorem dX6_setConstant_12 : decode cX6_setConstant 12 = .ok (.ifCond .ne 9, 3) := by decide +kernel
theorem dX6_setConstant_15 : decode cX6_setConstant 15 = .ok (.aload_n 0, 1) := by decide +kernel
theorem dX6_setConstant_16 : decode cX6_setConstant 16 = .ok (.iconst 1, 1) := by decide +kernel
theorem dX6_setConstant_17 : decode cX6_setConstant 17 = .ok (.invokevirtual 62, 3) := by decide +kernel
theorem dX6_setConstant_20 : decode cX6_setConstant 20 = .ok (.ireturn, 1) := by decide +kernel
theorem dX6_setConstant_21 : decode cX6_setConstant 21 = .ok (.aload_n 0, 1) := by decide +kernel
theorem dX6_setConstant_22 : decode cX6_setConstant 22 = .ok (.getfield 21, 3) := by decide +kernel
theorem dX6_setConstant_25 : decode cX6_setConstant 25 = .ok (.iload_n 1, 1) := by decide +kernel
theorem dX6_setConstant_26 : decode cX6_setConstant 26 = .ok (.iload_n 2, 1) := by decide +kernel
theorem dX6_setConstant_27 : decode cX6_setConstant 27 = .ok (.bastore, 1) := by decide +kernel
theorem dX6_setConstant_28 : decode cX6_setConstant 28 = .ok (.aload_n 0, 1) := by decide +kernel
theorem dX6_setConstant_29 : decode cX6_setConstant 29 = .ok (.getfield 21, 3) := by decide +kernel
theorem dX6_setConstant_32 : decode cX6_setConstant 32 = .ok (.invokestatic 66, 3) := by decide +kernel
theorem dX6_setConstant_35 : decode cX6_setConstant 35 = .ok (.ireturn, 1) := by decide +kernel
theorem dX6_at_0 : decode cX6_at 0 = .ok (.lload_n 0, 1) := by decide +kernel
theorem dX6_at_1 : decode cX6_at 1 = .ok (.iconst 4, 1) := by decide +kernel
theorem dX6_at_2 : decode cX6_at 2 = .ok (.iload_n 2, 1) := by decide +kernel
theorem dX6_at_3 : decode cX6_at 3 = .ok (.imul, 1) := by decide +kernel
theorem dX6_at_4 : decode cX6_at 4 = .ok (.lushr, 1) := by decide +kernel
theorem dX6_at_5 : decode cX6_at 5 = .ok (.l2i, 1) := by decide +kernel
theorem dX6_at_6 : decode cX6_at 6 = .ok (.bipush 15, 2) := by decide +kernel
theorem dX6_at_8 : decode cX6_at 8 = .ok (.iand, 1) := by decide +kernel
theorem dX6_at_9 : decode cX6_at 9 = .ok (.ireturn, 1) := by decide +kernel
set_option maxRecDepth 20000 in
theorem ggX6_value_X6_isIn : GoodIn wsX6_value wsX6_isIn := goodIn_r _ [5] (by decide +kernel) (by decide +kernel)
set_option maxRecDepth 20000 in
theorem gX6_value_X6_isIn : GoodIn wsX6_value (va_wsS RX6 58 yX6_isIn wsX6_isIn) := goodIn_app (goodIn_of _ (by decide +kernel)) ggX6_value_X6_isIn
set_option maxRecDepth 20000 in
theorem ggX6_value_X6_at : GoodIn wsX6_value wsX6_at := goodIn_r _ [8] (by decide +kernel) (by decide +kernel)
set_option maxRecDepth 20000 in
theorem gX6_value_X6_at : GoodIn wsX6_value (va_wsS RX6 70 yX6_at wsX6_at) := goodIn_app (goodIn_of _ (by decide +kernel)) ggX6_value_X6_at
set_option maxRecDepth 20000 in
theorem ggX6_value_X6_no : GoodIn wsX6_value wsX6_no := goodIn_r _ [12, 1, 13, 14, 15, 16, 17, 18, 19, 20, 21, 22, 23, 24, 25, 26, 27, 28, 29, 30, 31, 32, 33] (by decide +kernel) (by decide +kernel)
set_option maxRecDepth 20000 in
theorem gX6_value_X6_no : GoodIn wsX6_value (wsV RX6 62 RX6 yX6_no wsX6_no) := goodIn_app (goodIn_of _ (by decide +kernel)) ggX6_value_X6_no
theorem dX6_value_0 : decode cX6_value 0 = .ok (.aload_n 0, 1) := by decide +kernel
theorem dX6_value_1 : decode cX6_value 1 = .ok (.iconst 0, 1) := by decide +kernel
theorem dX6_value_2 : decode cX6_value 2 = .ok (.putfield 55, 3) := by decide +kernel
theorem dX6_value_5 : decode cX6_value 5 = .ok (.iload_n 3, 1) := by decide +kernel
theorem dX6_value_6 : decode cX6_value 6 = .ok (.iconst 0, 1) := by decide +kernel
theorem dX6_value_7 : decode cX6_value 7 = .ok (.bipush 15, 2) := by decide +kernel
theorem dX6_value_9 : decode cX6_value 9 = .ok (.invokestatic 58, 3) := by decide +kernel
theorem dX6_value_12 : decode cX6_value 12 = .ok (.ifCond .eq 11, 3) := by decide +kernel
theorem dX6_value_15 : decode cX6_value 15 = .ok (.lload_n 1, 1) := by decide +kernel
theorem dX6_value_16 : decode cX6_value 16 = .ok (.iload_n 3, 1) := by decide +kernel
theorem dX6_value_17 : decode cX6_value 17 = .ok (.invokestatic 70, 3) := by decide +kernel
theorem dX6_value_20 : decode cX6_value 20 = .ok (.goto 8, 3) := by decide +kernel
theorem dX6_value_23 : decode cX6_value 23 = .ok (.aload_n 0, 1) := by decide +kernel
theorem dX6_value_24 : decode cX6_value 24 = .ok (.iconst 1, 1) := by decide +kernel
theorem dX6_value_25 : decode cX6_value 25 = .ok (.invokevirtual 62, 3) := by decide +kernel
theorem dX6_value_28 : decode cX6_value 28 = .ok (.ireturn, 1) := by decide +kernel
theorem dX6_reckon_0 : decode cX6_reckon 0 = .ok (.iload_n 0, 1) := by decide +kernel
theorem dX6_reckon_1 : decode cX6_reckon 1 = .ok (.tableswitch 92 0 8 #[51, 56, 61, 65, 69, 73, 77, 81, 85], 51) := by decide +kernel
theorem dX6_reckon_52 : decode cX6_reckon 52 = .ok (.bipush 15, 2) := by decide +kernel
theorem dX6_reckon_54 : decode cX6_reckon 54 = .ok (.iload_n 1, 1) := by decide +kernel
theorem dX6_reckon_55 : decode cX6_reckon 55 = .ok (.isub, 1) := by decide +kernel
theorem dX6_reckon_56 : decode cX6_reckon 56 = .ok (.ireturn, 1) := by decide +kernel
theorem dX6_reckon_57 : decode cX6_reckon 57 = .ok (.bipush 16, 2) := by decide +kernel
theorem dX6_reckon_59 : decode cX6_reckon 59 = .ok (.iload_n 1, 1) := by decide +kernel
theorem dX6_reckon_60 : decode cX6_reckon 60 = .ok (.isub, 1) := by decide +kernel
theorem dX6_reckon_61 : decode cX6_reckon 61 = .ok (.ireturn, 1) := by decide +kernel
theorem dX6_reckon_62 : decode cX6_reckon 62 = .ok (.iconst 2, 1) := by decide +kernel
theorem dX6_reckon_63 : decode cX6_reckon 63 = .ok (.iload_n 1, 1) := by decide +kernel
theorem dX6_reckon_64 : decode cX6_reckon 64 = .ok (.imul, 1) := by decide +kernel
theorem dX6_reckon_65 : decode cX6_reckon 65 = .ok (.ireturn, 1) := by decide +kernel
theorem dX6_reckon_66 : decode cX6_reckon 66 = .ok (.iload_n 1, 1) := by decide +kernel
theorem dX6_reckon_67 : decode cX6_reckon 67 = .ok (.iconst 2, 1) := by decide +kernel
theorem dX6_reckon_68 : decode cX6_reckon 68 = .ok (.idiv, 1) := by decide +kernel
theorem dX6_reckon_69 : decode cX6_reckon 69 = .ok (.ireturn, 1) := by decide +kernel
theorem dX6_reckon_70 : decode cX6_reckon 70 = .ok (.iload_n 1, 1) := by decide +kernel
theorem dX6_reckon_71 : decode cX6_reckon 71 = .ok (.iload_n 2, 1) := by decide +kernel
theorem dX6_reckon_72 : decode cX6_reckon 72 = .ok (.iand, 1) := by decide +kernel
theorem dX6_reckon_73 : decode cX6_reckon 73 = .ok (.ireturn, 1) := by decide +kernel
theorem dX6_reckon_74 : decode cX6_reckon 74 = .ok (.iload_n 1, 1) := by decide +kernel
theorem dX6_reckon_75 : decode cX6_reckon 75 = .ok (.iload_n 2, 1) := by decide +kernel
theorem dX6_reckon_76 : decode cX6_reckon 76 = .ok (.ior, 1) := by decide +kernel
theorem dX6_reckon_77 : decode cX6_reckon 77 = .ok (.ireturn, 1) := by decide +kernel
theorem dX6_reckon_78 : decode cX6_reckon 78 = .ok (.iload_n 1, 1) := by decide +kernel
theorem dX6_reckon_79 : decode cX6_reckon 79 = .ok (.iload_n 2, 1) := by decide +kernel
theorem dX6_reckon_80 : decode cX6_reckon 80 = .ok (.ixor, 1) := by decide +kernel
theorem dX6_reckon_81 : decode cX6_reckon 81 = .ok (.ireturn, 1) := by decide +kernel
theorem dX6_reckon_82 : decode cX6_reckon 82 = .ok (.iload_n 1, 1) := by decide +kernel
theorem dX6_reckon_83 : decode cX6_reckon 83 = .ok (.iload_n 2, 1) := by decide +kernel
theorem dX6_reckon_84 : decode cX6_reckon 84 = .ok (.iadd, 1) := by decide +kernel
theorem dX6_reckon_85 : decode cX6_reckon 85 = .ok (.ireturn, 1) := by decide +kernel
theorem dX6_reckon_86 : decode cX6_reckon 86 = .ok (.bipush 16, 2) := by decide +kernel
theorem dX6_reckon_88 : decode cX6_reckon 88 = .ok (.iload_n 1, 1) := by decide +kernel
theorem dX6_reckon_89 : decode cX6_reckon 89 = .ok (.iadd, 1) := by decide +kernel
theorem dX6_reckon_90 : decode cX6_reckon 90 = .ok (.iload_n 2, 1) := by decide +kernel
theorem dX6_reckon_91 : decode cX6_reckon 91 = .ok (.isub, 1) := by decide +kernel
theorem dX6_reckon_92 : decode cX6_reckon 92 = .ok (.ireturn, 1) := by decide +kernel
theorem dX6_reckon_93 : decode cX6_reckon 93 = .ok (.iload_n 1, 1) := by decide +kernel
theorem dX6_reckon_94 : decode cX6_reckon 94 = .ok (.iload_n 2, 1) := by decide +kernel
theorem dX6_reckon_95 : decode cX6_reckon 95 = .ok (.imul, 1) := by decide +kernel
theorem dX6_reckon_96 : decode cX6_reckon 96 = .ok (.ireturn, 1) := by decide +kernel
set_option maxRecDepth 20000 in
theorem ggX6_made_X6_at : GoodIn wsX6_made wsX6_at := goodIn_r _ [4] (by decide +kernel) (by decide +kernel)
set_option maxRecDepth 20000 in
theorem gX6_made_X6_at : GoodIn wsX6_made (va_wsS RX6 70 yX6_at wsX6_at) := goodIn_app (goodIn_of _ (by decide +kernel)) ggX6_made_X6_at
set_option maxRecDepth 20000 in
theorem ggX6_made_X6_reckon : GoodIn wsX6_made wsX6_reckon := goodIn_r _ [7] (by decide +kernel) (by decide +kernel)
set_option maxRecDepth 20000 in
theorem gX6_made_X6_reckon : GoodIn wsX6_made (va_wsS RX6 74 yX6_reckon wsX6_reckon) := goodIn_app (goodIn_of _ (by decide +kernel)) ggX6_made_X6_reckon
theorem dX6_made_0 : decode cX6_made 0 = .ok (.lconst 0, 1) := by decide +kernel
theorem dX6_made_1 : decode cX6_made 1 = .ok (.lstore 5, 2) := by decide +kernel
theorem dX6_made_3 : decode cX6_made 3 = .ok (.iconst 0, 1) := by decide +kernel
theorem dX6_made_4 : decode cX6_made 4 = .ok (.istore 7, 2) := by decide +kernel
theorem dX6_made_6 : decode cX6_made 6 = .ok (.iload 7, 2) := by decide +kernel
theorem dX6_made_8 : decode cX6_made 8 = .ok (.bipush 16, 2) := by decide +kernel
theorem dX6_made_10 : decode cX6_made 10 = .ok (.if_icmp .ge 39, 3) := by decide +kernel
theorem dX6_made_13 : decode cX6_made 13 = .ok (.lload 5, 2) := by decide +kernel
theorem dX6_made_15 : decode cX6_made 15 = .ok (.iload_n 0, 1) := by decide +kernel
theorem dX6_made_16 : decode cX6_made 16 = .ok (.lload_n 1, 1) := by decide +kernel
theorem dX6_made_17 : decode cX6_made 17 = .ok (.iload 7, 2) := by decide +kernel
theorem dX6_made_19 : decode cX6_made 19 = .ok (.invokestatic 70, 3) := by decide +kernel
theorem dX6_made_22 : decode cX6_made 22 = .ok (.lload_n 3, 1) := by decide +kernel
theorem dX6_made_23 : decode cX6_made 23 = .ok (.iload 7, 2) := by decide +kernel
theorem dX6_made_25 : decode cX6_made 25 = .ok (.invokestatic 70, 3) := by decide +kernel
theorem dX6_made_28 : decode cX6_made 28 = .ok (.invokestatic 74, 3) := by decide +kernel
theorem dX6_made_31 : decode cX6_made 31 = .ok (.bipush 16, 2) := by decide +kernel
theorem dX6_made_33 : decode cX6_made 33 = .ok (.irem, 1) := by decide +kernel
theorem dX6_made_34 : decode cX6_made 34 = .ok (.i2l, 1) := by decide +kernel
theorem dX6_made_35 : decode cX6_made 35 = .ok (.iconst 4, 1) := by decide +kernel
theorem dX6_made_36 : decode cX6_made 36 = .ok (.iload 7, 2) := by decide +kernel
theorem dX6_made_38 : decode cX6_made 38 = .ok (.imul, 1) := by decide +kernel
theorem dX6_made_39 : decode cX6_made 39 = .ok (.lshl, 1) := by decide +kernel
theorem dX6_made_40 : decode cX6_made 40 = .ok (.lor, 1) := by decide +kernel
theorem dX6_made_41 : decode cX6_made 41 = .ok (.lstore 5, 2) := by decide +kernel
theorem dX6_made_43 : decode cX6_made 43 = .ok (.iinc 7 1, 3) := by decide +kernel
theorem dX6_made_46 : decode cX6_made 46 = .ok (.goto (-40), 3) := by decide +kernel
theorem dX6_made_49 : decode cX6_made 49 = .ok (.lload 5, 2) := by decide +kernel
theorem dX6_made_51 : decode cX6_made 51 = .ok (.lreturn, 1) := by decide +kernel
set_option maxRecDepth 20000 in
theorem ggX6_apply_X6_isIn : GoodIn wsX6_apply wsX6_isIn := goodIn_r _ [5] (by decide +kernel) (by decide +kernel)
set_option maxRecDepth 20000 in
theorem gX6_apply_X6_isIn : GoodIn wsX6_apply (va_wsS RX6 58 yX6_isIn wsX6_isIn) := goodIn_app (goodIn_of _ (by decide +kernel)) ggX6_apply_X6_isIn
set_option maxRecDepth 20000 in
theorem ggX6_apply_X6_made : GoodIn wsX6_apply wsX6_made := goodIn_r _ [8, 9, 10, 4, 11, 12, 13, 14] (by decide +kernel) (by decide +kernel)
set_option maxRecDepth 20000 in
theorem gX6_apply_X6_made : GoodIn wsX6_apply (va_wsS RX6 78 yX6_made wsX6_made) := goodIn_app (goodIn_of _ (by decide +kernel)) ggX6_apply_X6_made
theorem dX6_apply_0 : decode cX6_apply 0 = .ok (.aload_n 0, 1) := by decide +kernel
theorem dX6_apply_1 : decode cX6_apply 1 = .ok (.iload_n 1, 1) := by decide +kernel
theorem dX6_apply_2 : decode cX6_apply 2 = .ok (.iconst 0, 1) := by decide +kernel
theorem dX6_apply_3 : decode cX6_apply 3 = .ok (.bipush 9, 2) := by decide +kernel
theorem dX6_apply_5 : decode cX6_apply 5 = .ok (.invokestatic 58, 3) := by decide +kernel
theorem dX6_apply_8 : decode cX6_apply 8 = .ok (.ifCond .eq 7, 3) := by decide +kernel
theorem dX6_apply_11 : decode cX6_apply 11 = .ok (.iconst 0, 1) := by decide +kernel
theorem dX6_apply_12 : decode cX6_apply 12 = .ok (.goto 4, 3) := by decide +kernel
theorem dX6_apply_15 : decode cX6_apply 15 = .ok (.iconst 1, 1) := by decide +kernel
theorem dX6_apply_16 : decode cX6_apply 16 = .ok (.putfield 55, 3) := by decide +kernel
theorem dX6_apply_19 : decode cX6_apply 19 = .ok (.aload_n 0, 1) := by decide +kernel
theorem dX6_apply_20 : decode cX6_apply 20 = .ok (.getfield 55, 3) := by decide +kernel
theorem dX6_apply_23 : decode cX6_apply 23 = .ok (.ifCond .ne 13, 3) := by decide +kernel
theorem dX6_apply_26 : decode cX6_apply 26 = .ok (.iload_n 1, 1) := by decide +kernel
theorem dX6_apply_27 : decode cX6_apply 27 = .ok (.lload_n 2, 1) := by decide +kernel
theorem dX6_apply_28 : decode cX6_apply 28 = .ok (.lload 4, 2) := by decide +kernel
theorem dX6_apply_30 : decode cX6_apply 30 = .ok (.invokestatic 78, 3) := by decide +kernel
theorem dX6_apply_33 : decode cX6_apply 33 = .ok (.goto 4, 3) := by decide +kernel
theorem dX6_apply_36 : decode cX6_apply 36 = .ok (.lconst 0, 1) := by decide +kernel
theorem dX6_apply_37 : decode cX6_apply 37 = .ok (.lreturn, 1) := by decide +kernel
set_option maxRecDepth 20000 in
theorem ggX6_compose_X6_at : GoodIn wsX6_compose wsX6_at := goodIn_r _ [5] (by decide +kernel) (by decide +kernel)
set_option maxRecDepth 20000 in
theorem gX6_compose_X6_at : GoodIn wsX6_compose (va_wsS RX6 70 yX6_at wsX6_at) := goodIn_app (goodIn_of _ (by decide +kernel)) ggX6_compose_X6_at
theorem dX6_compose_0 : decode cX6_compose 0 = .ok (.aload_n 0, 1) := by decide +kernel
theorem dX6_compose_1 : decode cX6_compose 1 = .ok (.iconst 0, 1) := by decide +kernel
theorem dX6_compose_2 : decode cX6_compose 2 = .ok (.putfield 55, 3) := by decide +kernel
theorem dX6_compose_5 : decode cX6_compose 5 = .ok (.lconst 0, 1) := by decide +kernel
theorem dX6_compose_6 : decode cX6_compose 6 = .ok (.lstore 5, 2) := by decide +kernel
theorem dX6_compose_8 : decode cX6_compose 8 = .ok (.iconst 0, 1) := by decide +kernel
theorem dX6_compose_9 : decode cX6_compose 9 = .ok (.istore 7, 2) := by decide +kernel
theorem dX6_compose_11 : decode cX6_compose 11 = .ok (.iload 7, 2) := by decide +kernel
theorem dX6_compose_13 : decode cX6_compose 13 = .ok (.bipush 16, 2) := by decide +kernel
theorem dX6_compose_15 : decode cX6_compose 15 = .ok (.if_icmp .ge 30, 3) := by decide +kernel
theorem dX6_compose_18 : decode cX6_compose 18 = .ok (.lload 5, 2) := by decide +kernel
theorem dX6_compose_20 : decode cX6_compose 20 = .ok (.lload_n 1, 1) := by decide +kernel
theorem dX6_compose_21 : decode cX6_compose 21 = .ok (.lload_n 3, 1) := by decide +kernel
theorem dX6_compose_22 : decode cX6_compose 22 = .ok (.iload 7, 2) := by decide +kernel
theorem dX6_compose_24 : decode cX6_compose 24 = .ok (.invokestatic 70, 3) := by decide +kernel
theorem dX6_compose_27 : decode cX6_compose 27 = .ok (.invokestatic 70, 3) := by decide +kernel
theorem dX6_compose_30 : decode cX6_compose 30 = .ok (.i2l, 1) := by decide +kernel
theorem dX6_compose_31 : decode cX6_compose 31 = .ok (.iconst 4, 1) := by decide +kernel
theorem dX6_compose_32 : decode cX6_compose 32 = .ok (.iload 7, 2) := by decide +kernel
theorem dX6_compose_34 : decode cX6_compose 34 = .ok (.imul, 1) := by decide +kernel
theorem dX6_compose_35 : decode cX6_compose 35 = .ok (.lshl, 1) := by decide +kernel
theorem dX6_compose_36 : decode cX6_compose 36 = .ok (.lor, 1) := by decide +kernel
theorem dX6_compose_37 : decode cX6_compose 37 = .ok (.lstore 5, 2) := by decide +kernel
theorem dX6_compose_39 : decode cX6_compose 39 = .ok (.iinc 7 1, 3) := by decide +kernel
theorem dX6_compose_42 : decode cX6_compose 42 = .ok (.goto (-31), 3) := by decide +kernel
theorem dX6_compose_45 : decode cX6_compose 45 = .ok (.lload 5, 2) := by decide +kernel
theorem dX6_compose_47 : decode cX6_compose 47 = .ok (.lreturn, 1) := by decide +kernel
set_option maxRecDepth 20000 in
theorem ggX6_values_X6_at : GoodIn wsX6_values wsX6_at := goodIn_r _ [4] (by decide +kernel) (by decide +kernel)
set_option maxRecDepth 20000 in
theorem gX6_values_X6_at : GoodIn wsX6_values (va_wsS RX6 70 yX6_at wsX6_at) := goodIn_app (goodIn_of _ (by decide +kernel)) ggX6_values_X6_at
set_option maxRecDepth 20000 in
theorem ggX6_values_J6_bitCount_0f7a4 : GoodIn wsX6_values wsJ6_bitCount_0f7a4 := goodIn_r _ [8, 9, 10, 11] (by decide +kernel) (by decide +kernel)
set_option maxRecDepth 20000 in
theorem gX6_values_J6_bitCount_0f7a4 : GoodIn wsX6_values (va_wsS RX6 82 yJ6_bitCount_0f7a4 wsJ6_bitCount_0f7a4) := goodIn_app (goodIn_of _ (by decide +kernel)) ggX6_values_J6_bitCount_0f7a4
theorem dX6_values_0 : decode cX6_values 0 = .ok (.iconst 0, 1) := by decide +kernel
theorem dX6_values_1 : decode cX6_values 1 = .ok (.istore_n 2, 1) := by decide +kernel
theorem dX6_values_2 : decode cX6_values 2 = .ok (.iconst 0, 1) := by decide +kernel
theorem dX6_values_3 : decode cX6_values 3 = .ok (.istore_n 3, 1) := by decide +kernel
theorem dX6_values_4 : decode cX6_values 4 = .ok (.iload_n 3, 1) := by decide +kernel
theorem dX6_values_5 : decode cX6_values 5 = .ok (.bipush 16, 2) := by decide +kernel
theorem dX6_values_7 : decode cX6_values 7 = .ok (.if_icmp .ge 19, 3) := by decide +kernel
theorem dX6_values_10 : decode cX6_values 10 = .ok (.iload_n 2, 1) := by decide +kernel
theorem dX6_values_11 : decode cX6_values 11 = .ok (.iconst 1, 1) := by decide +kernel
theorem dX6_values_12 : decode cX6_values 12 = .ok (.lload_n 0, 1) := by decide +kernel
theorem dX6_values_13 : decode cX6_values 13 = .ok (.iload_n 3, 1) := by decide +kernel
theorem dX6_values_14 : decode cX6_values 14 = .ok (.invokestatic 70, 3) := by decide +kernel
theorem dX6_values_17 : decode cX6_values 17 = .ok (.ishl, 1) := by decide +kernel
theorem dX6_values_18 : decode cX6_values 18 = .ok (.ior, 1) := by decide +kernel
theorem dX6_values_19 : decode cX6_values 19 = .ok (.istore_n 2, 1) := by decide +kernel
theorem dX6_values_20 : decode cX6_values 20 = .ok (.iinc 3 1, 3) := by decide +kernel
theorem dX6_values_23 : decode cX6_values 23 = .ok (.goto (-19), 3) := by decide +kernel
theorem dX6_values_26 : decode cX6_values 26 = .ok (.iload_n 2, 1) := by decide +kernel
theorem dX6_values_27 : decode cX6_values 27 = .ok (.invokestatic 82, 3) := by decide +kernel
theorem dX6_values_30 : decode cX6_values 30 = .ok (.ireturn, 1) := by decide +kernel
set_option maxRecDepth 20000 in
theorem ggX6_inverse_X6_values : GoodIn wsX6_inverse wsX6_values := goodIn_r _ [5, 6, 7, 4, 8, 9, 10, 11, 12, 13, 14, 15] (by decide +kernel) (by decide +kernel)
set_option maxRecDepth 20000 in
theorem gX6_inverse_X6_values : GoodIn wsX6_inverse (va_wsS RX6 87 yX6_values wsX6_values) := goodIn_app (goodIn_of _ (by decide +kernel)) ggX6_inverse_X6_values
set_option maxRecDepth 20000 in
theorem ggX6_inverse_X6_at : GoodIn wsX6_inverse wsX6_at := goodIn_r _ [8] (by decide +kernel) (by decide +kernel)
set_option maxRecDepth 20000 in
theorem gX6_inverse_X6_at : GoodIn wsX6_inverse (va_wsS RX6 70 yX6_at wsX6_at) := goodIn_app (goodIn_of _ (by decide +kernel)) ggX6_inverse_X6_at
theorem dX6_inverse_0 : decode cX6_inverse 0 = .ok (.aload_n 0, 1) := by decide +kernel
theorem dX6_inverse_1 : decode cX6_inverse 1 = .ok (.lload_n 1, 1) := by decide +kernel
theorem dX6_inverse_2 : decode cX6_inverse 2 = .ok (.invokestatic 87, 3) := by decide +kernel
theorem dX6_inverse_5 : decode cX6_inverse 5 = .ok (.bipush 16, 2) := by decide +kernel
theorem dX6_inverse_7 : decode cX6_inverse 7 = .ok (.if_icmp .ne 7, 3) := by decide +kernel
theorem dX6_inverse_10 : decode cX6_inverse 10 = .ok (.iconst 0, 1) := by decide +kernel
theorem dX6_inverse_11 : decode cX6_inverse 11 = .ok (.goto 4, 3) := by decide +kernel
theorem dX6_inverse_14 : decode cX6_inverse 14 = .ok (.iconst 1, 1) := by decide +kernel
theorem dX6_inverse_15 : decode cX6_inverse 15 = .ok (.putfield 55, 3) := by decide +kernel
theorem dX6_inverse_18 : decode cX6_inverse 18 = .ok (.aload_n 0, 1) := by decide +kernel
theorem dX6_inverse_19 : decode cX6_inverse 19 = .ok (.getfield 55, 3) := by decide +kernel
theorem dX6_inverse_22 : decode cX6_inverse 22 = .ok (.ifCond .eq 5, 3) := by decide +kernel
theorem dX6_inverse_25 : decode cX6_inverse 25 = .ok (.lconst 0, 1) := by decide +kernel
theorem dX6_inverse_26 : decode cX6_inverse 26 = .ok (.lreturn, 1) := by decide +kernel
theorem dX6_inverse_27 : decode cX6_inverse 27 = .ok (.lconst 0, 1) := by decide +kernel
theorem dX6_inverse_28 : decode cX6_inverse 28 = .ok (.lstore_n 3, 1) := by decide +kernel
theorem dX6_inverse_29 : decode cX6_inverse 29 = .ok (.iconst 0, 1) := by decide +kernel
theorem dX6_inverse_30 : decode cX6_inverse 30 = .ok (.istore 5, 2) := by decide +kernel
theorem dX6_inverse_32 : decode cX6_inverse 32 = .ok (.iload 5, 2) := by decide +kernel
theorem dX6_inverse_34 : decode cX6_inverse 34 = .ok (.bipush 16, 2) := by decide +kernel
theorem dX6_inverse_36 : decode cX6_inverse 36 = .ok (.if_icmp .ge 24, 3) := by decide +kernel
theorem dX6_inverse_39 : decode cX6_inverse 39 = .ok (.lload_n 3, 1) := by decide +kernel
theorem dX6_inverse_40 : decode cX6_inverse 40 = .ok (.iload 5, 2) := by decide +kernel
theorem dX6_inverse_42 : decode cX6_inverse 42 = .ok (.i2l, 1) := by decide +kernel
theorem dX6_inverse_43 : decode cX6_inverse 43 = .ok (.iconst 4, 1) := by decide +kernel
theorem dX6_inverse_44 : decode cX6_inverse 44 = .ok (.lload_n 1, 1) := by decide +kernel
theorem dX6_inverse_45 : decode cX6_inverse 45 = .ok (.iload 5, 2) := by decide +kernel
theorem dX6_inverse_47 : decode cX6_inverse 47 = .ok (.invokestatic 70, 3) := by decide +kernel
theorem dX6_inverse_50 : decode cX6_inverse 50 = .ok (.imul, 1) := by decide +kernel
theorem dX6_inverse_51 : decode cX6_inverse 51 = .ok (.lshl, 1) := by decide +kernel
theorem dX6_inverse_52 : decode cX6_inverse 52 = .ok (.lor, 1) := by decide +kernel
theorem dX6_inverse_53 : decode cX6_inverse 53 = .ok (.lstore_n 3, 1) := by decide +kernel
theorem dX6_inverse_54 : decode cX6_inverse 54 = .ok (.iinc 5 1, 3) := by decide +kernel
theorem dX6_inverse_57 : decode cX6_inverse 57 = .ok (.goto (-25), 3) := by decide +kernel
theorem dX6_inverse_60 : decode cX6_inverse 60 = .ok (.lload_n 3, 1) := by decide +kernel
theorem dX6_inverse_61 : decode cX6_inverse 61 = .ok (.lreturn, 1) := by decide +kernel
set_option maxRecDepth 20000 in
theorem ggX6_returning_X6_through : GoodIn wsX6_returning wsX6_through := goodIn_r _ [5, 6, 7, 4, 8] (by decide +kernel) (by decide +kernel)
set_option maxRecDepth 20000 in
theorem gX6_returning_X6_through : GoodIn wsX6_returning (va_wsS RX6 92 yX6_through wsX6_through) := goodIn_app (goodIn_of _ (by decide +kernel)) ggX6_returning_X6_through
theorem dX6_returning_0 : decode cX6_returning 0 = .ok (.ldc 91, 2) := by decide +kernel
theorem dX6_returning_2 : decode cX6_returning 2 = .ok (.istore_n 2, 1) := by decide +kernel
theorem dX6_returning_3 : decode cX6_returning 3 = .ok (.iconst 0, 1) := by decide +kernel
theorem dX6_returning_4 : decode cX6_returning 4 = .ok (.istore_n 3, 1) := by decide +kernel
theorem dX6_returning_5 : decode cX6_returning 5 = .ok (.iload_n 3, 1) := by decide +kernel
theorem dX6_returning_6 : decode cX6_returning 6 = .ok (.bipush 16, 2) := by decide +kernel
theorem dX6_returning_8 : decode cX6_returning 8 = .ok (.if_icmp .ge 15, 3) := by decide +kernel
theorem dX6_returning_11 : decode cX6_returning 11 = .ok (.lload_n 0, 1) := by decide +kernel
theorem dX6_returning_12 : decode cX6_returning 12 = .ok (.iload_n 2, 1) := by decide +kernel
theorem dX6_returning_13 : decode cX6_returning 13 = .ok (.invokestatic 92, 3) := by decide +kernel
theorem dX6_returning_16 : decode cX6_returning 16 = .ok (.istore_n 2, 1) := by decide +kernel
theorem dX6_returning_17 : decode cX6_returning 17 = .ok (.iinc 3 1, 3) := by decide +kernel
theorem dX6_returning_20 : decode cX6_returning 20 = .ok (.goto (-15), 3) := by decide +kernel
theorem dX6_returning_23 : decode cX6_returning 23 = .ok (.iload_n 2, 1) := by decide +kernel
theorem dX6_returning_24 : decode cX6_returning 24 = .ok (.ireturn, 1) := by decide +kernel
set_option maxRecDepth 20000 in
theorem ggX6_through_X6_at : GoodIn wsX6_through wsX6_at := goodIn_r _ [4] (by decide +kernel) (by decide +kernel)
set_option maxRecDepth 20000 in
theorem gX6_through_X6_at : GoodIn wsX6_through (va_wsS RX6 70 yX6_at wsX6_at) := goodIn_app (goodIn_of _ (by decide +kernel)) ggX6_through_X6_at
theorem dX6_through_0 : decode cX6_through 0 = .ok (.iconst 0, 1) := by decide +kernel
theorem dX6_through_1 : decode cX6_through 1 = .ok (.istore_n 3, 1) := by decide +kernel
theorem dX6_through_2 : decode cX6_through 2 = .ok (.iconst 0, 1) := by decide +kernel
theorem dX6_through_3 : decode cX6_through 3 = .ok (.istore 4, 2) := by decide +kernel
theorem dX6_through_5 : decode cX6_through 5 = .ok (.iload 4, 2) := by decide +kernel
theorem dX6_through_7 : decode cX6_through 7 = .ok (.bipush 16, 2) := by decide +kernel
theorem dX6_through_9 : decode cX6_through 9 = .ok (.if_icmp .ge 30, 3) := by decide +kernel
theorem dX6_through_12 : decode cX6_through 12 = .ok (.iload_n 2, 1) := by decide +kernel
theorem dX6_through_13 : decode cX6_through 13 = .ok (.iload 4, 2) := by decide +kernel
theorem dX6_through_15 : decode cX6_through 15 = .ok (.ishr, 1) := by decide +kernel
theorem dX6_through_16 : decode cX6_through 16 = .ok (.iconst 1, 1) := by decide +kernel
theorem dX6_through_17 : decode cX6_through 17 = .ok (.iand, 1) := by decide +kernel
theorem dX6_through_18 : decode cX6_through 18 = .ok (.iconst 1, 1) := by decide +kernel
theorem dX6_through_19 : decode cX6_through 19 = .ok (.if_icmp .ne 14, 3) := by decide +kernel
theorem dX6_through_22 : decode cX6_through 22 = .ok (.iload_n 3, 1) := by decide +kernel
theorem dX6_through_23 : decode cX6_through 23 = .ok (.iconst 1, 1) := by decide +kernel
theorem dX6_through_24 : decode cX6_through 24 = .ok (.lload_n 0, 1) := by decide +kernel
theorem dX6_through_25 : decode cX6_through 25 = .ok (.iload 4, 2) := by decide +kernel
theorem dX6_through_27 : decode cX6_through 27 = .ok (.invokestatic 70, 3) := by decide +kernel
theorem dX6_through_30 : decode cX6_through 30 = .ok (.ishl, 1) := by decide +kernel
theorem dX6_through_31 : decode cX6_through 31 = .ok (.ior, 1) := by decide +kernel
theorem dX6_through_32 : decode cX6_through 32 = .ok (.istore_n 3, 1) := by decide +kernel
theorem dX6_through_33 : decode cX6_through 33 = .ok (.iinc 4 1, 3) := by decide +kernel
theorem dX6_through_36 : decode cX6_through 36 = .ok (.goto (-31), 3) := by decide +kernel
theorem dX6_through_39 : decode cX6_through 39 = .ok (.iload_n 3, 1) := by decide +kernel
theorem dX6_through_40 : decode cX6_through 40 = .ok (.ireturn, 1) := by decide +kernel
set_option maxRecDepth 20000 in
theorem ggX6_tail_X6_returning : GoodIn wsX6_tail wsX6_returning := goodIn_r _ [5, 1, 6, 7, 4, 8, 9, 10, 11] (by decide +kernel) (by decide +kernel)
set_option maxRecDepth 20000 in
theorem gX6_tail_X6_returning : GoodIn wsX6_tail (va_wsS RX6 95 yX6_returning wsX6_returning) := goodIn_app (goodIn_of _ (by decide +kernel)) ggX6_tail_X6_returning
set_option maxRecDepth 20000 in
theorem ggX6_tail_X6_through : GoodIn wsX6_tail wsX6_through := goodIn_r _ [8, 9, 10, 4, 11] (by decide +kernel) (by decide +kernel)
set_option maxRecDepth 20000 in
theorem gX6_tail_X6_through : GoodIn wsX6_tail (va_wsS RX6 92 yX6_through wsX6_through) := goodIn_app (goodIn_of _ (by decide +kernel)) ggX6_tail_X6_through
theorem dX6_tail_0 : decode cX6_tail 0 = .ok (.ldc 91, 2) := by decide +kernel
theorem dX6_tail_2 : decode cX6_tail 2 = .ok (.istore_n 2, 1) := by decide +kernel
theorem dX6_tail_3 : decode cX6_tail 3 = .ok (.iconst 0, 1) := by decide +kernel
theorem dX6_tail_4 : decode cX6_tail 4 = .ok (.istore_n 3, 1) := by decide +kernel
theorem dX6_tail_5 : decode cX6_tail 5 = .ok (.iload_n 2, 1) := by decide +kernel
theorem dX6_tail_6 : decode cX6_tail 6 = .ok (.lload_n 0, 1) := by decide +kernel
theorem dX6_tail_7 : decode cX6_tail 7 = .ok (.invokestatic 95, 3) := by decide +kernel
theorem dX6_tail_10 : decode cX6_tail 10 = .ok (.if_icmp .eq 15, 3) := by decide +kernel
theorem dX6_tail_13 : decode cX6_tail 13 = .ok (.lload_n 0, 1) := by decide +kernel
theorem dX6_tail_14 : decode cX6_tail 14 = .ok (.iload_n 2, 1) := by decide +kernel
theorem dX6_tail_15 : decode cX6_tail 15 = .ok (.invokestatic 92, 3) := by decide +kernel
theorem dX6_tail_18 : decode cX6_tail 18 = .ok (.istore_n 2, 1) := by decide +kernel
theorem dX6_tail_19 : decode cX6_tail 19 = .ok (.iinc 3 1, 3) := by decide +kernel
theorem dX6_tail_22 : decode cX6_tail 22 = .ok (.goto (-17), 3) := by decide +kernel
theorem dX6_tail_25 : decode cX6_tail 25 = .ok (.iload_n 3, 1) := by decide +kernel
theorem dX6_tail_26 : decode cX6_tail 26 = .ok (.ireturn, 1) := by decide +kernel
set_option maxRecDepth 20000 in
theorem ggX6_measure_X6_isIn : GoodIn wsX6_measure wsX6_isIn := goodIn_r _ [5] (by decide +kernel) (by decide +kernel)
set_option maxRecDepth 20000 in
theorem gX6_measure_X6_isIn : GoodIn wsX6_measure (va_wsS RX6 58 yX6_isIn wsX6_isIn) := goodIn_app (goodIn_of _ (by decide +kernel)) ggX6_measure_X6_isIn
set_option maxRecDepth 20000 in
theorem ggX6_measure_X6_no : GoodIn wsX6_measure wsX6_no := goodIn_r _ [9, 1, 33, 34, 35, 36, 37, 38, 39, 40, 41, 42, 43, 44, 45, 46, 47, 48, 49, 50, 51, 52, 53] (by decide +kernel) (by decide +kernel)
set_option maxRecDepth 20000 in
theorem gX6_measure_X6_no : GoodIn wsX6_measure (wsV RX6 62 RX6 yX6_no wsX6_no) := goodIn_app (goodIn_of _ (by decide +kernel)) ggX6_measure_X6_no
set_option maxRecDepth 20000 in
theorem ggX6_measure_X6_values : GoodIn wsX6_measure wsX6_values := goodIn_r _ [12, 13, 14, 4, 15, 16, 17, 18, 19, 20, 21, 22] (by decide +kernel) (by decide +kernel)
set_option maxRecDepth 20000 in
theorem gX6_measure_X6_values : GoodIn wsX6_measure (va_wsS RX6 87 yX6_values wsX6_values) := goodIn_app (goodIn_of _ (by decide +kernel)) ggX6_measure_X6_values
set_option maxRecDepth 20000 in
theorem ggX6_measure_X6_returning : GoodIn wsX6_measure wsX6_returning := goodIn_r _ [25, 26, 27, 28, 4, 29, 13, 14, 15] (by decide +kernel) (by decide +kernel)
set_option maxRecDepth 20000 in
theorem gX6_measure_X6_returning : GoodIn wsX6_measure (va_wsS RX6 95 yX6_returning wsX6_returning) := goodIn_app (goodIn_of _ (by decide +kernel)) ggX6_measure_X6_returning
set_option maxRecDepth 20000 in
theorem ggX6_measure_J6_bitCount_0f7a4 : GoodIn wsX6_measure wsJ6_bitCount_0f7a4 := goodIn_r _ [19, 20, 21, 22] (by decide +kernel) (by decide +kernel)
set_option maxRecDepth 20000 in
theorem gX6_measure_J6_bitCount_0f7a4 : GoodIn wsX6_measure (va_wsS RX6 82 yJ6_bitCount_0f7a4 wsJ6_bitCount_0f7a4) := goodIn_app (goodIn_of _ (by decide +kernel)) ggX6_measure_J6_bitCount_0f7a4
set_option maxRecDepth 20000 in
theorem ggX6_measure_X6_tail : GoodIn wsX6_measure wsX6_tail := goodIn_r _ [32, 26, 23, 24, 4, 25, 27, 28, 29, 13, 14, 15] (by decide +kernel) (by decide +kernel)
set_option maxRecDepth 20000 in
theorem gX6_measure_X6_tail : GoodIn wsX6_measure (va_wsS RX6 98 yX6_tail wsX6_tail) := goodIn_app (goodIn_of _ (by decide +kernel)) ggX6_measure_X6_tail
set_option maxRecDepth 20000 in
theorem ggX6_measure_X6_at : GoodIn wsX6_measure wsX6_at := goodIn_r _ [15] (by decide +kernel) (by decide +kernel)
set_option maxRecDepth 20000 in
theorem gX6_measure_X6_at : GoodIn wsX6_measure (va_wsS RX6 70 yX6_at wsX6_at) := goodIn_app (goodIn_of _ (by decide +kernel)) ggX6_measure_X6_at
theorem dX6_measure_0 : decode cX6_measure 0 = .ok (.aload_n 0, 1) := by decide +kernel
theorem dX6_measure_1 : decode cX6_measure 1 = .ok (.iconst 0, 1) := by decide +kernel
theorem dX6_measure_2 : decode cX6_measure 2 = .ok (.putfield 55, 3) := by decide +kernel
theorem dX6_measure_5 : decode cX6_measure 5 = .ok (.iload_n 3, 1) := by decide +kernel
theorem dX6_measure_6 : decode cX6_measure 6 = .ok (.iconst 0, 1) := by decide +kernel
theorem dX6_measure_7 : decode cX6_measure 7 = .ok (.iconst 4, 1) := by decide +kernel
theorem dX6_measure_8 : decode cX6_measure 8 = .ok (.invokestatic 58, 3) := by decide +kernel
theorem dX6_measure_11 : decode cX6_measure 11 = .ok (.ifCond .ne 9, 3) := by decide +kernel
theorem dX6_measure_14 : decode cX6_measure 14 = .ok (.aload_n 0, 1) := by decide +kernel
theorem dX6_measure_15 : decode cX6_measure 15 = .ok (.iconst 1, 1) := by decide +kernel
theorem dX6_measure_16 : decode cX6_measure 16 = .ok (.invokevirtual 62, 3) := by decide +kernel
theorem dX6_measure_19 : decode cX6_measure 19 = .ok (.ireturn, 1) := by decide +kernel
theorem dX6_measure_20 : decode cX6_measure 20 = .ok (.iload_n 3, 1) := by decide +kernel
theorem dX6_measure_21 : decode cX6_measure 21 = .ok (.iconst 1, 1) := by decide +kernel
theorem dX6_measure_22 : decode cX6_measure 22 = .ok (.if_icmp .ne 8, 3) := by decide +kernel
theorem dX6_measure_25 : decode cX6_measure 25 = .ok (.lload_n 1, 1) := by decide +kernel
theorem dX6_measure_26 : decode cX6_measure 26 = .ok (.invokestatic 87, 3) := by decide +kernel
theorem dX6_measure_29 : decode cX6_measure 29 = .ok (.ireturn, 1) := by decide +kernel
theorem dX6_measure_30 : decode cX6_measure 30 = .ok (.iload_n 3, 1) := by decide +kernel
theorem dX6_measure_31 : decode cX6_measure 31 = .ok (.iconst 3, 1) := by decide +kernel
theorem dX6_measure_32 : decode cX6_measure 32 = .ok (.if_icmp .ne 11, 3) := by decide +kernel
theorem dX6_measure_35 : decode cX6_measure 35 = .ok (.lload_n 1, 1) := by decide +kernel
theorem dX6_measure_36 : decode cX6_measure 36 = .ok (.invokestatic 95, 3) := by decide +kernel
theorem dX6_measure_39 : decode cX6_measure 39 = .ok (.invokestatic 82, 3) := by decide +kernel
theorem dX6_measure_42 : decode cX6_measure 42 = .ok (.ireturn, 1) := by decide +kernel
theorem dX6_measure_43 : decode cX6_measure 43 = .ok (.iload_n 3, 1) := by decide +kernel
theorem dX6_measure_44 : decode cX6_measure 44 = .ok (.iconst 4, 1) := by decide +kernel
theorem dX6_measure_45 : decode cX6_measure 45 = .ok (.if_icmp .ne 8, 3) := by decide +kernel
theorem dX6_measure_48 : decode cX6_measure 48 = .ok (.lload_n 1, 1) := by decide +kernel
theorem dX6_measure_49 : decode cX6_measure 49 = .ok (.invokestatic 98, 3) := by decide +kernel
theorem dX6_measure_52 : decode cX6_measure 52 = .ok (.ireturn, 1) := by decide +kernel
theorem dX6_measure_53 : decode cX6_measure 53 = .ok (.iconst 0, 1) := by decide +kernel
theorem dX6_measure_54 : decode cX6_measure 54 = .ok (.istore 4, 2) := by decide +kernel
theorem dX6_measure_56 : decode cX6_measure 56 = .ok (.iconst 0, 1) := by decide +kernel
theorem dX6_measure_57 : decode cX6_measure 57 = .ok (.istore 5, 2) := by decide +kernel
theorem dX6_measure_59 : decode cX6_measure 59 = .ok (.iload 5, 2) := by decide +kernel
theorem dX6_measure_61 : decode cX6_measure 61 = .ok (.bipush 16, 2) := by decide +kernel
theorem dX6_measure_63 : decode cX6_measure 63 = .ok (.if_icmp .ge 49, 3) := by decide +kernel
theorem dX6_measure_66 : decode cX6_measure 66 = .ok (.iload 4, 2) := by decide +kernel
theorem dX6_measure_68 : decode cX6_measure 68 = .ok (.iload_n 3, 1) := by decide +kernel
theorem dX6_measure_69 : decode cX6_measure 69 = .ok (.ifCond .ne 22, 3) := by decide +kernel
theorem dX6_measure_72 : decode cX6_measure 72 = .ok (.lload_n 1, 1) := by decide +kernel
theorem dX6_measure_73 : decode cX6_measure 73 = .ok (.iload 5, 2) := by decide +kernel
theorem dX6_measure_75 : decode cX6_measure 75 = .ok (.invokestatic 70, 3) := by decide +kernel
theorem dX6_measure_78 : decode cX6_measure 78 = .ok (.iload 5, 2) := by decide +kernel
theorem dX6_measure_80 : decode cX6_measure 80 = .ok (.if_icmp .ne 7, 3) := by decide +kernel
theorem dX6_measure_83 : decode cX6_measure 83 = .ok (.iconst 1, 1) := by decide +kernel
theorem dX6_measure_84 : decode cX6_measure 84 = .ok (.goto 19, 3) := by decide +kernel
theorem dX6_measure_87 : decode cX6_measure 87 = .ok (.iconst 0, 1) := by decide +kernel
theorem dX6_measure_88 : decode cX6_measure 88 = .ok (.goto 15, 3) := by decide +kernel
theorem dX6_measure_91 : decode cX6_measure 91 = .ok (.lload_n 1, 1) := by decide +kernel
theorem dX6_measure_92 : decode cX6_measure 92 = .ok (.iload 5, 2) := by decide +kernel
theorem dX6_measure_94 : decode cX6_measure 94 = .ok (.invokestatic 70, 3) := by decide +kernel
theorem dX6_measure_97 : decode cX6_measure 97 = .ok (.iload 5, 2) := by decide +kernel
theorem dX6_measure_99 : decode cX6_measure 99 = .ok (.ixor, 1) := by decide +kernel
theorem dX6_measure_100 : decode cX6_measure 100 = .ok (.invokestatic 82, 3) := by decide +kernel
theorem dX6_measure_103 : decode cX6_measure 103 = .ok (.iadd, 1) := by decide +kernel
theorem dX6_measure_104 : decode cX6_measure 104 = .ok (.istore 4, 2) := by decide +kernel
theorem dX6_measure_106 : decode cX6_measure 106 = .ok (.iinc 5 1, 3) := by decide +kernel
theorem dX6_measure_109 : decode cX6_measure 109 = .ok (.goto (-50), 3) := by decide +kernel
theorem dX6_measure_112 : decode cX6_measure 112 = .ok (.iload 4, 2) := by decide +kernel
theorem dX6_measure_114 : decode cX6_measure 114 = .ok (.ireturn, 1) := by decide +kernel
set_option maxRecDepth 20000 in
theorem ggX6_isFor_X6_at : GoodIn wsX6_isFor wsX6_at := goodIn_r _ [4] (by decide +kernel) (by decide +kernel)
set_option maxRecDepth 20000 in
theorem gX6_isFor_X6_at : GoodIn wsX6_isFor (va_wsS RX6 70 yX6_at wsX6_at) := goodIn_app (goodIn_of _ (by decide +kernel)) ggX6_isFor_X6_at
theorem dX6_isFor_0 : decode cX6_isFor 0 = .ok (.iload_n 2, 1) := by decide +kernel
theorem dX6_isFor_1 : decode cX6_isFor 1 = .ok (.ifCond .ne 32, 3) := by decide +kernel
theorem dX6_isFor_4 : decode cX6_isFor 4 = .ok (.lload_n 0, 1) := by decide +kernel
theorem dX6_isFor_5 : decode cX6_isFor 5 = .ok (.iload_n 3, 1) := by decide +kernel
theorem dX6_isFor_6 : decode cX6_isFor 6 = .ok (.iload 4, 2) := by decide +kernel
theorem dX6_isFor_8 : decode cX6_isFor 8 = .ok (.ixor, 1) := by decide +kernel
theorem dX6_isFor_9 : decode cX6_isFor 9 = .ok (.invokestatic 70, 3) := by decide +kernel
theorem dX6_isFor_12 : decode cX6_isFor 12 = .ok (.lload_n 0, 1) := by decide +kernel
theorem dX6_isFor_13 : decode cX6_isFor 13 = .ok (.iload_n 3, 1) := by decide +kernel
theorem dX6_isFor_14 : decode cX6_isFor 14 = .ok (.invokestatic 70, 3) := by decide +kernel
theorem dX6_isFor_17 : decode cX6_isFor 17 = .ok (.lload_n 0, 1) := by decide +kernel
theorem dX6_isFor_18 : decode cX6_isFor 18 = .ok (.iload 4, 2) := by decide +kernel
theorem dX6_isFor_20 : decode cX6_isFor 20 = .ok (.invokestatic 70, 3) := by decide +kernel
theorem dX6_isFor_23 : decode cX6_isFor 23 = .ok (.ixor, 1) := by decide +kernel
theorem dX6_isFor_24 : decode cX6_isFor 24 = .ok (.if_icmp .ne 7, 3) := by decide +kernel
theorem dX6_isFor_27 : decode cX6_isFor 27 = .ok (.iconst 1, 1) := by decide +kernel
theorem dX6_isFor_28 : decode cX6_isFor 28 = .ok (.goto 4, 3) := by decide +kernel
theorem dX6_isFor_31 : decode cX6_isFor 31 = .ok (.iconst 0, 1) := by decide +kernel
theorem dX6_isFor_32 : decode cX6_isFor 32 = .ok (.ireturn, 1) := by decide +kernel
theorem dX6_isFor_33 : decode cX6_isFor 33 = .ok (.iload_n 2, 1) := by decide +kernel
theorem dX6_isFor_34 : decode cX6_isFor 34 = .ok (.iconst 1, 1) := by decide +kernel
theorem dX6_isFor_35 : decode cX6_isFor 35 = .ok (.if_icmp .ne 29, 3) := by decide +kernel
theorem dX6_isFor_38 : decode cX6_isFor 38 = .ok (.iload_n 3, 1) := by decide +kernel
theorem dX6_isFor_39 : decode cX6_isFor 39 = .ok (.iload 4, 2) := by decide +kernel
theorem dX6_isFor_41 : decode cX6_isFor 41 = .ok (.if_icmp .le 17, 3) := by decide +kernel
theorem dX6_isFor_44 : decode cX6_isFor 44 = .ok (.lload_n 0, 1) := by decide +kernel
theorem dX6_isFor_45 : decode cX6_isFor 45 = .ok (.iload_n 3, 1) := by decide +kernel
theorem dX6_isFor_46 : decode cX6_isFor 46 = .ok (.invokestatic 70, 3) := by decide +kernel
theorem dX6_isFor_49 : decode cX6_isFor 49 = .ok (.lload_n 0, 1) := by decide +kernel
theorem dX6_isFor_50 : decode cX6_isFor 50 = .ok (.iload 4, 2) := by decide +kernel
theorem dX6_isFor_52 : decode cX6_isFor 52 = .ok (.invokestatic 70, 3) := by decide +kernel
theorem dX6_isFor_55 : decode cX6_isFor 55 = .ok (.if_icmp .lt 7, 3) := by decide +kernel
theorem dX6_isFor_58 : decode cX6_isFor 58 = .ok (.iconst 1, 1) := by decide +kernel
theorem dX6_isFor_59 : decode cX6_isFor 59 = .ok (.goto 4, 3) := by decide +kernel
theorem dX6_isFor_62 : decode cX6_isFor 62 = .ok (.iconst 0, 1) := by decide +kernel
theorem dX6_isFor_63 : decode cX6_isFor 63 = .ok (.ireturn, 1) := by decide +kernel
theorem dX6_isFor_64 : decode cX6_isFor 64 = .ok (.iload_n 2, 1) := by decide +kernel
theorem dX6_isFor_65 : decode cX6_isFor 65 = .ok (.iconst 2, 1) := by decide +kernel
theorem dX6_isFor_66 : decode cX6_isFor 66 = .ok (.if_icmp .ne 26, 3) := by decide +kernel
theorem dX6_isFor_69 : decode cX6_isFor 69 = .ok (.lload_n 0, 1) := by decide +kernel
theorem dX6_isFor_70 : decode cX6_isFor 70 = .ok (.lload_n 0, 1) := by decide +kernel
theorem dX6_isFor_71 : decode cX6_isFor 71 = .ok (.iload_n 3, 1) := by decide +kernel
theorem dX6_isFor_72 : decode cX6_isFor 72 = .ok (.invokestatic 70, 3) := by decide +kernel
theorem dX6_isFor_75 : decode cX6_isFor 75 = .ok (.invokestatic 70, 3) := by decide +kernel
theorem dX6_isFor_78 : decode cX6_isFor 78 = .ok (.lload_n 0, 1) := by decide +kernel
theorem dX6_isFor_79 : decode cX6_isFor 79 = .ok (.iload_n 3, 1) := by decide +kernel
theorem dX6_isFor_80 : decode cX6_isFor 80 = .ok (.invokestatic 70, 3) := by decide +kernel
theorem dX6_isFor_83 : decode cX6_isFor 83 = .ok (.if_icmp .ne 7, 3) := by decide +kernel
theorem dX6_isFor_86 : decode cX6_isFor 86 = .ok (.iconst 1, 1) := by decide +kernel
theorem dX6_isFor_87 : decode cX6_isFor 87 = .ok (.goto 4, 3) := by decide +kernel
theorem dX6_isFor_90 : decode cX6_isFor 90 = .ok (.iconst 0, 1) := by decide +kernel
theorem dX6_isFor_91 : decode cX6_isFor 91 = .ok (.ireturn, 1) := by decide +kernel
theorem dX6_isFor_92 : decode cX6_isFor 92 = .ok (.iconst 1, 1) := by decide +kernel
theorem dX6_isFor_93 : decode cX6_isFor 93 = .ok (.istore 5, 2) := by decide +kernel
theorem dX6_isFor_95 : decode cX6_isFor 95 = .ok (.iconst 0, 1) := by decide +kernel
theorem dX6_isFor_96 : decode cX6_isFor 96 = .ok (.istore 6, 2) := by decide +kernel
theorem dX6_isFor_98 : decode cX6_isFor 98 = .ok (.iload 6, 2) := by decide +kernel
theorem dX6_isFor_100 : decode cX6_isFor 100 = .ok (.iconst 4, 1) := by decide +kernel
theorem dX6_isFor_101 : decode cX6_isFor 101 = .ok (.if_icmp .ge 57, 3) := by decide +kernel
theorem dX6_isFor_104 : decode cX6_isFor 104 = .ok (.iload 5, 2) := by decide +kernel
theorem dX6_isFor_106 : decode cX6_isFor 106 = .ok (.ifCond .eq 43, 3) := by decide +kernel
theorem dX6_isFor_109 : decode cX6_isFor 109 = .ok (.iload_n 3, 1) := by decide +kernel
theorem dX6_isFor_110 : decode cX6_isFor 110 = .ok (.iload 4, 2) := by decide +kernel
theorem dX6_isFor_112 : decode cX6_isFor 112 = .ok (.ixor, 1) := by decide +kernel
theorem dX6_isFor_113 : decode cX6_isFor 113 = .ok (.iconst 2, 1) := by decide +kernel
theorem dX6_isFor_114 : decode cX6_isFor 114 = .ok (.iload 6, 2) := by decide +kernel
theorem dX6_isFor_116 : decode cX6_isFor 116 = .ok (.ishl, 1) := by decide +kernel
theorem dX6_isFor_117 : decode cX6_isFor 117 = .ok (.irem, 1) := by decide +kernel
theorem dX6_isFor_118 : decode cX6_isFor 118 = .ok (.ifCond .ne 27, 3) := by decide +kernel
theorem dX6_isFor_121 : decode cX6_isFor 121 = .ok (.lload_n 0, 1) := by decide +kernel
theorem dX6_isFor_122 : decode cX6_isFor 122 = .ok (.iload_n 3, 1) := by decide +kernel
theorem dX6_isFor_123 : decode cX6_isFor 123 = .ok (.invokestatic 70, 3) := by decide +kernel
theorem dX6_isFor_126 : decode cX6_isFor 126 = .ok (.iload 6, 2) := by decide +kernel
theorem dX6_isFor_128 : decode cX6_isFor 128 = .ok (.ishr, 1) := by decide +kernel
theorem dX6_isFor_129 : decode cX6_isFor 129 = .ok (.iconst 1, 1) := by decide +kernel
theorem dX6_isFor_130 : decode cX6_isFor 130 = .ok (.iand, 1) := by decide +kernel
theorem dX6_isFor_131 : decode cX6_isFor 131 = .ok (.lload_n 0, 1) := by decide +kernel
theorem dX6_isFor_132 : decode cX6_isFor 132 = .ok (.iload 4, 2) := by decide +kernel
theorem dX6_isFor_134 : decode cX6_isFor 134 = .ok (.invokestatic 70, 3) := by decide +kernel
theorem dX6_isFor_137 : decode cX6_isFor 137 = .ok (.iload 6, 2) := by decide +kernel
theorem dX6_isFor_139 : decode cX6_isFor 139 = .ok (.ishr, 1) := by decide +kernel
theorem dX6_isFor_140 : decode cX6_isFor 140 = .ok (.iconst 1, 1) := by decide +kernel
theorem dX6_isFor_141 : decode cX6_isFor 141 = .ok (.iand, 1) := by decide +kernel
theorem dX6_isFor_142 : decode cX6_isFor 142 = .ok (.if_icmp .ne 7, 3) := by decide +kernel
theorem dX6_isFor_145 : decode cX6_isFor 145 = .ok (.iconst 1, 1) := by decide +kernel
theorem dX6_isFor_146 : decode cX6_isFor 146 = .ok (.goto 4, 3) := by decide +kernel
theorem dX6_isFor_149 : decode cX6_isFor 149 = .ok (.iconst 0, 1) := by decide +kernel
theorem dX6_isFor_150 : decode cX6_isFor 150 = .ok (.istore 5, 2) := by decide +kernel
theorem dX6_isFor_152 : decode cX6_isFor 152 = .ok (.iinc 6 1, 3) := by decide +kernel
theorem dX6_isFor_155 : decode cX6_isFor 155 = .ok (.goto (-57), 3) := by decide +kernel
theorem dX6_isFor_158 : decode cX6_isFor 158 = .ok (.iload 5, 2) := by decide +kernel
theorem dX6_isFor_160 : decode cX6_isFor 160 = .ok (.ireturn, 1) := by decide +kernel
set_option maxRecDepth 20000 in
theorem ggX6_is_X6_isIn : GoodIn wsX6_is wsX6_isIn := goodIn_r _ [5] (by decide +kernel) (by decide +kernel)
set_option maxRecDepth 20000 in
theorem gX6_is_X6_isIn : GoodIn wsX6_is (va_wsS RX6 58 yX6_isIn wsX6_isIn) := goodIn_app (goodIn_of _ (by decide +kernel)) ggX6_is_X6_isIn
set_option maxRecDepth 20000 in
theorem ggX6_is_X6_isFor : GoodIn wsX6_is wsX6_isFor := goodIn_r _ [8, 9, 10, 4, 11] (by decide +kernel) (by decide +kernel)
set_option maxRecDepth 20000 in
theorem gX6_is_X6_isFor : GoodIn wsX6_is (va_wsS RX6 101 yX6_isFor wsX6_isFor) := goodIn_app (goodIn_of _ (by decide +kernel)) ggX6_is_X6_isFor
theorem dX6_is_0 : decode cX6_is 0 = .ok (.aload_n 0, 1) := by decide +kernel
theorem dX6_is_1 : decode cX6_is 1 = .ok (.iload_n 3, 1) := by decide +kernel
theorem dX6_is_2 : decode cX6_is 2 = .ok (.iconst 0, 1) := by decide +kernel
theorem dX6_is_3 : decode cX6_is 3 = .ok (.iconst 3, 1) := by decide +kernel
theorem dX6_is_4 : decode cX6_is 4 = .ok (.invokestatic 58, 3) := by decide +kernel
theorem dX6_is_7 : decode cX6_is 7 = .ok (.ifCond .eq 7, 3) := by decide +kernel
theorem dX6_is_10 : decode cX6_is 10 = .ok (.iconst 0, 1) := by decide +kernel
theorem dX6_is_11 : decode cX6_is 11 = .ok (.goto 4, 3) := by decide +kernel
theorem dX6_is_14 : decode cX6_is 14 = .ok (.iconst 1, 1) := by decide +kernel
theorem dX6_is_15 : decode cX6_is 15 = .ok (.putfield 55, 3) := by decide +kernel
theorem dX6_is_18 : decode cX6_is 18 = .ok (.aload_n 0, 1) := by decide +kernel
theorem dX6_is_19 : decode cX6_is 19 = .ok (.getfield 55, 3) := by decide +kernel
theorem dX6_is_22 : decode cX6_is 22 = .ok (.ifCond .ne 7, 3) := by decide +kernel
theorem dX6_is_25 : decode cX6_is 25 = .ok (.iconst 1, 1) := by decide +kernel
theorem dX6_is_26 : decode cX6_is 26 = .ok (.goto 4, 3) := by decide +kernel
theorem dX6_is_29 : decode cX6_is 29 = .ok (.iconst 0, 1) := by decide +kernel
theorem dX6_is_30 : decode cX6_is 30 = .ok (.istore 4, 2) := by decide +kernel
theorem dX6_is_32 : decode cX6_is 32 = .ok (.iconst 0, 1) := by decide +kernel
theorem dX6_is_33 : decode cX6_is 33 = .ok (.istore 5, 2) := by decide +kernel
theorem dX6_is_35 : decode cX6_is 35 = .ok (.iload 5, 2) := by decide +kernel
theorem dX6_is_37 : decode cX6_is 37 = .ok (.sipush 256, 3) := by decide +kernel
theorem dX6_is_40 : decode cX6_is 40 = .ok (.if_icmp .ge 31, 3) := by decide +kernel
theorem dX6_is_43 : decode cX6_is 43 = .ok (.iload 4, 2) := by decide +kernel
theorem dX6_is_45 : decode cX6_is 45 = .ok (.ifCond .eq 26, 3) := by decide +kernel
theorem dX6_is_48 : decode cX6_is 48 = .ok (.lload_n 1, 1) := by decide +kernel
theorem dX6_is_49 : decode cX6_is 49 = .ok (.iload_n 3, 1) := by decide +kernel
theorem dX6_is_50 : decode cX6_is 50 = .ok (.iload 5, 2) := by decide +kernel
theorem dX6_is_52 : decode cX6_is 52 = .ok (.bipush 16, 2) := by decide +kernel
theorem dX6_is_54 : decode cX6_is 54 = .ok (.idiv, 1) := by decide +kernel
theorem dX6_is_55 : decode cX6_is 55 = .ok (.iload 5, 2) := by decide +kernel
theorem dX6_is_57 : decode cX6_is 57 = .ok (.bipush 16, 2) := by decide +kernel
theorem dX6_is_59 : decode cX6_is 59 = .ok (.irem, 1) := by decide +kernel
theorem dX6_is_60 : decode cX6_is 60 = .ok (.invokestatic 101, 3) := by decide +kernel
theorem dX6_is_63 : decode cX6_is 63 = .ok (.istore 4, 2) := by decide +kernel
theorem dX6_is_65 : decode cX6_is 65 = .ok (.iinc 5 1, 3) := by decide +kernel
theorem dX6_is_68 : decode cX6_is 68 = .ok (.goto (-33), 3) := by decide +kernel
theorem dX6_is_71 : decode cX6_is 71 = .ok (.iload 4, 2) := by decide +kernel
theorem dX6_is_73 : decode cX6_is 73 = .ok (.ireturn, 1) := by decide +kernel
theorem dX6_chain_0 : decode cX6_chain 0 = .ok (.lload_n 0, 1) := by decide +kernel
theorem dX6_chain_1 : decode cX6_chain 1 = .ok (.lload_n 0, 1) := by decide +kernel
theorem dX6_chain_2 : decode cX6_chain 2 = .ok (.bipush 17, 2) := by decide +kernel
theorem dX6_chain_4 : decode cX6_chain 4 = .ok (.lushr, 1) := by decide +kernel
theorem dX6_chain_5 : decode cX6_chain 5 = .ok (.lxor, 1) := by decide +kernel
theorem dX6_chain_6 : decode cX6_chain 6 = .ok (.lload_n 0, 1) := by decide +kernel
theorem dX6_chain_7 : decode cX6_chain 7 = .ok (.bipush 34, 2) := by decide +kernel
theorem dX6_chain_9 : decode cX6_chain 9 = .ok (.lushr, 1) := by decide +kernel
theorem dX6_chain_10 : decode cX6_chain 10 = .ok (.lxor, 1) := by decide +kernel
theorem dX6_chain_11 : decode cX6_chain 11 = .ok (.lload_n 0, 1) := by decide +kernel
theorem dX6_chain_12 : decode cX6_chain 12 = .ok (.bipush 51, 2) := by decide +kernel
theorem dX6_chain_14 : decode cX6_chain 14 = .ok (.lushr, 1) := by decide +kernel
theorem dX6_chain_15 : decode cX6_chain 15 = .ok (.lxor, 1) := by decide +kernel
theorem dX6_chain_16 : decode cX6_chain 16 = .ok (.ldc2_w 105, 3) := by decide +kernel
theorem dX6_chain_19 : decode cX6_chain 19 = .ok (.land, 1) := by decide +kernel
theorem dX6_chain_20 : decode cX6_chain 20 = .ok (.l2i, 1) := by decide +kernel
theorem dX6_chain_21 : decode cX6_chain 21 = .ok (.ireturn, 1) := by decide +kernel
set_option maxRecDepth 20000 in
theorem ggX6_entryOf_X6_chain : GoodIn wsX6_entryOf wsX6_chain := goodIn_r _ [7, 8] (by decide +kernel) (by decide +kernel)
set_option maxRecDepth 20000 in
theorem gX6_entryOf_X6_chain : GoodIn wsX6_entryOf (va_wsS RX6 107 yX6_chain wsX6_chain) := goodIn_app (goodIn_of _ (by decide +kernel)) ggX6_entryOf_X6_chain
theorem dX6_entryOf_0 : decode cX6_entryOf 0 = .ok (.aload_n 0, 1) := by decide +kernel
theorem dX6_entryOf_1 : decode cX6_entryOf 1 = .ok (.getfield 40, 3) := by decide +kernel
theorem dX6_entryOf_4 : decode cX6_entryOf 4 = .ok (.lload_n 1, 1) := by decide +kernel
theorem dX6_entryOf_5 : decode cX6_entryOf 5 = .ok (.invokestatic 107, 3) := by decide +kernel
theorem dX6_entryOf_8 : decode cX6_entryOf 8 = .ok (.iaload, 1) := by decide +kernel
theorem dX6_entryOf_9 : decode cX6_entryOf 9 = .ok (.iconst 1, 1) := by decide +kernel
theorem dX6_entryOf_10 : decode cX6_entryOf 10 = .ok (.isub, 1) := by decide +kernel
theorem dX6_entryOf_11 : decode cX6_entryOf 11 = .ok (.istore_n 3, 1) := by decide +kernel
theorem dX6_entryOf_12 : decode cX6_entryOf 12 = .ok (.iload_n 3, 1) := by decide +kernel
theorem dX6_entryOf_13 : decode cX6_entryOf 13 = .ok (.ifCond .lt 26, 3) := by decide +kernel
theorem dX6_entryOf_16 : decode cX6_entryOf 16 = .ok (.aload_n 0, 1) := by decide +kernel
theorem dX6_entryOf_17 : decode cX6_entryOf 17 = .ok (.getfield 24, 3) := by decide +kernel
theorem dX6_entryOf_20 : decode cX6_entryOf 20 = .ok (.iload_n 3, 1) := by decide +kernel
theorem dX6_entryOf_21 : decode cX6_entryOf 21 = .ok (.laload, 1) := by decide +kernel
theorem dX6_entryOf_22 : decode cX6_entryOf 22 = .ok (.lload_n 1, 1) := by decide +kernel
theorem dX6_entryOf_23 : decode cX6_entryOf 23 = .ok (.lcmp, 1) := by decide +kernel
theorem dX6_entryOf_24 : decode cX6_entryOf 24 = .ok (.ifCond .eq 15, 3) := by decide +kernel
theorem dX6_entryOf_27 : decode cX6_entryOf 27 = .ok (.aload_n 0, 1) := by decide +kernel
theorem dX6_entryOf_28 : decode cX6_entryOf 28 = .ok (.getfield 43, 3) := by decide +kernel
theorem dX6_entryOf_31 : decode cX6_entryOf 31 = .ok (.iload_n 3, 1) := by decide +kernel
theorem dX6_entryOf_32 : decode cX6_entryOf 32 = .ok (.iaload, 1) := by decide +kernel
theorem dX6_entryOf_33 : decode cX6_entryOf 33 = .ok (.iconst 1, 1) := by decide +kernel
theorem dX6_entryOf_34 : decode cX6_entryOf 34 = .ok (.isub, 1) := by decide +kernel
theorem dX6_entryOf_35 : decode cX6_entryOf 35 = .ok (.istore_n 3, 1) := by decide +kernel
theorem dX6_entryOf_36 : decode cX6_entryOf 36 = .ok (.goto (-24), 3) := by decide +kernel
theorem dX6_entryOf_39 : decode cX6_entryOf 39 = .ok (.iload_n 3, 1) := by decide +kernel
theorem dX6_entryOf_40 : decode cX6_entryOf 40 = .ok (.ireturn, 1) := by decide +kernel
set_option maxRecDepth 20000 in
theorem ggX6_add_X6_entryOf : GoodIn wsX6_add wsX6_entryOf := goodIn_r _ [13, 8, 2, 7, 14, 15, 12, 16, 17, 18, 19, 20, 21, 22, 23, 24, 25, 26, 27, 28, 29, 30, 31, 32, 33, 34, 35, 36, 37, 38] (by decide +kernel) (by decide +kernel)
set_option maxRecDepth 20000 in
theorem gX6_add_X6_entryOf : GoodIn wsX6_add (wsV RX6 113 RX6 yX6_entryOf wsX6_entryOf) := goodIn_app (goodIn_of _ (by decide +kernel)) ggX6_add_X6_entryOf
set_option maxRecDepth 20000 in
theorem ggX6_add_X6_chain : GoodIn wsX6_add wsX6_chain := goodIn_r _ [16, 17] (by decide +kernel) (by decide +kernel)
set_option maxRecDepth 20000 in
theorem gX6_add_X6_chain : GoodIn wsX6_add (va_wsS RX6 107 yX6_chain wsX6_chain) := goodIn_app (goodIn_of _ (by decide +kernel)) ggX6_add_X6_chain
theorem dX6_add_0 : decode cX6_add 0 = .ok (.aload_n 0, 1) := by decide +kernel
theorem dX6_add_1 : decode cX6_add 1 = .ok (.getfield 110, 3) := by decide +kernel
theorem dX6_add_4 : decode cX6_add 4 = .ok (.sipush 2000, 3) := by decide +kernel
theorem dX6_add_7 : decode cX6_add 7 = .ok (.if_icmp .eq 11, 3) := by decide +kernel
theorem dX6_add_10 : decode cX6_add 10 = .ok (.aload_n 0, 1) := by decide +kernel
theorem dX6_add_11 : decode cX6_add 11 = .ok (.lload_n 1, 1) := by decide +kernel
theorem dX6_add_12 : decode cX6_add 12 = .ok (.invokevirtual 113, 3) := by decide +kernel
theorem dX6_add_15 : decode cX6_add 15 = .ok (.ifCond .lt 4, 3) := by decide +kernel
theorem dX6_add_18 : decode cX6_add 18 = .ok (.return_, 1) := by decide +kernel
theorem dX6_add_19 : decode cX6_add 19 = .ok (.aload_n 0, 1) := by decide +kernel
theorem dX6_add_20 : decode cX6_add 20 = .ok (.getfield 24, 3) := by decide +kernel
theorem dX6_add_23 : decode cX6_add 23 = .ok (.aload_n 0, 1) := by decide +kernel
theorem dX6_add_24 : decode cX6_add 24 = .ok (.getfield 110, 3) := by decide +kernel
theorem dX6_add_27 : decode cX6_add 27 = .ok (.lload_n 1, 1) := by decide +kernel
theorem dX6_add_28 : decode cX6_add 28 = .ok (.lastore, 1) := by decide +kernel
theorem dX6_add_29 : decode cX6_add 29 = .ok (.aload_n 0, 1) := by decide +kernel
theorem dX6_add_30 : decode cX6_add 30 = .ok (.getfield 28, 3) := by decide +kernel
theorem dX6_add_33 : decode cX6_add 33 = .ok (.aload_n 0, 1) := by decide +kernel
theorem dX6_add_34 : decode cX6_add 34 = .ok (.getfield 110, 3) := by decide +kernel
theorem dX6_add_37 : decode cX6_add 37 = .ok (.iload_n 3, 1) := by decide +kernel
theorem dX6_add_38 : decode cX6_add 38 = .ok (.iastore, 1) := by decide +kernel
theorem dX6_add_39 : decode cX6_add 39 = .ok (.aload_n 0, 1) := by decide +kernel
theorem dX6_add_40 : decode cX6_add 40 = .ok (.getfield 31, 3) := by decide +kernel
theorem dX6_add_43 : decode cX6_add 43 = .ok (.aload_n 0, 1) := by decide +kernel
theorem dX6_add_44 : decode cX6_add 44 = .ok (.getfield 110, 3) := by decide +kernel
theorem dX6_add_47 : decode cX6_add 47 = .ok (.iload 4, 2) := by decide +kernel
theorem dX6_add_49 : decode cX6_add 49 = .ok (.iastore, 1) := by decide +kernel
theorem dX6_add_50 : decode cX6_add 50 = .ok (.aload_n 0, 1) := by decide +kernel
theorem dX6_add_51 : decode cX6_add 51 = .ok (.getfield 34, 3) := by decide +kernel
theorem dX6_add_54 : decode cX6_add 54 = .ok (.aload_n 0, 1) := by decide +kernel
theorem dX6_add_55 : decode cX6_add 55 = .ok (.getfield 110, 3) := by decide +kernel
theorem dX6_add_58 : decode cX6_add 58 = .ok (.iload 5, 2) := by decide +kernel
theorem dX6_add_60 : decode cX6_add 60 = .ok (.iastore, 1) := by decide +kernel
theorem dX6_add_61 : decode cX6_add 61 = .ok (.aload_n 0, 1) := by decide +kernel
theorem dX6_add_62 : decode cX6_add 62 = .ok (.getfield 37, 3) := by decide +kernel
theorem dX6_add_65 : decode cX6_add 65 = .ok (.aload_n 0, 1) := by decide +kernel
theorem dX6_add_66 : decode cX6_add 66 = .ok (.getfield 110, 3) := by decide +kernel
theorem dX6_add_69 : decode cX6_add 69 = .ok (.iload 6, 2) := by decide +kernel
theorem dX6_add_71 : decode cX6_add 71 = .ok (.iastore, 1) := by decide +kernel
theorem dX6_add_72 : decode cX6_add 72 = .ok (.aload_n 0, 1) := by decide +kernel
theorem dX6_add_73 : decode cX6_add 73 = .ok (.getfield 43, 3) := by decide +kernel
theorem dX6_add_76 : decode cX6_add 76 = .ok (.aload_n 0, 1) := by decide +kernel
theorem dX6_add_77 : decode cX6_add 77 = .ok (.getfield 110, 3) := by decide +kernel
theorem dX6_add_80 : decode cX6_add 80 = .ok (.aload_n 0, 1) := by decide +kernel
theorem dX6_add_81 : decode cX6_add 81 = .ok (.getfield 40, 3) := by decide +kernel
theorem dX6_add_84 : decode cX6_add 84 = .ok (.lload_n 1, 1) := by decide +kernel
theorem dX6_add_85 : decode cX6_add 85 = .ok (.invokestatic 107, 3) := by decide +kernel
theorem dX6_add_88 : decode cX6_add 88 = .ok (.iaload, 1) := by decide +kernel
theorem dX6_add_89 : decode cX6_add 89 = .ok (.iastore, 1) := by decide +kernel
theorem dX6_add_90 : decode cX6_add 90 = .ok (.aload_n 0, 1) := by decide +kernel
theorem dX6_add_91 : decode cX6_add 91 = .ok (.getfield 40, 3) := by decide +kernel
theorem dX6_add_94 : decode cX6_add 94 = .ok (.lload_n 1, 1) := by decide +kernel
theorem dX6_add_95 : decode cX6_add 95 = .ok (.invokestatic 107, 3) := by decide +kernel
theorem dX6_add_98 : decode cX6_add 98 = .ok (.aload_n 0, 1) := by decide +kernel
theorem dX6_add_99 : decode cX6_add 99 = .ok (.getfield 110, 3) := by decide +kernel
theorem dX6_add_102 : decode cX6_add 102 = .ok (.iconst 1, 1) := by decide +kernel
theorem dX6_add_103 : decode cX6_add 103 = .ok (.iadd, 1) := by decide +kernel
theorem dX6_add_104 : decode cX6_add 104 = .ok (.iastore, 1) := by decide +kernel
theorem dX6_add_105 : decode cX6_add 105 = .ok (.aload_n 0, 1) := by decide +kernel
theorem dX6_add_106 : decode cX6_add 106 = .ok (.dup, 1) := by decide +kernel
theorem dX6_add_107 : decode cX6_add 107 = .ok (.getfield 110, 3) := by decide +kernel
theorem dX6_add_110 : decode cX6_add 110 = .ok (.iconst 1, 1) := by decide +kernel
theorem dX6_add_111 : decode cX6_add 111 = .ok (.iadd, 1) := by decide +kernel
theorem dX6_add_112 : decode cX6_add 112 = .ok (.putfield 110, 3) := by decide +kernel
theorem dX6_add_115 : decode cX6_add 115 = .ok (.return_, 1) := by decide +kernel
theorem dX6_constant_0 : decode cX6_constant 0 = .ok (.ldc2_w 116, 3) := by decide +kernel
theorem dX6_constant_3 : decode cX6_constant 3 = .ok (.iload_n 0, 1) := by decide +kernel
theorem dX6_constant_4 : decode cX6_constant 4 = .ok (.i2l, 1) := by decide +kernel
theorem dX6_constant_5 : decode cX6_constant 5 = .ok (.lmul, 1) := by decide +kernel
theorem dX6_constant_6 : decode cX6_constant 6 = .ok (.lreturn, 1) := by decide +kernel
set_option maxRecDepth 20000 in
theorem ggX6_addAll_X6_made : GoodIn wsX6_addAll wsX6_made := goodIn_r _ [8, 9, 10, 7, 11, 12, 13, 14] (by decide +kernel) (by decide +kernel)
set_option maxRecDepth 20000 in
theorem gX6_addAll_X6_made : GoodIn wsX6_addAll (va_wsS RX6 78 yX6_made wsX6_made) := goodIn_app (goodIn_of _ (by decide +kernel)) ggX6_addAll_X6_made
set_option maxRecDepth 20000 in
theorem ggX6_addAll_X6_add : GoodIn wsX6_addAll wsX6_add := goodIn_r _ [18, 4, 3, 19, 20, 21, 22, 23, 24, 25, 26, 27, 7, 28, 29, 30, 31, 32, 33, 34, 35, 36, 37, 38, 39, 40, 41, 42, 43, 44, 45, 46, 47, 48, 49, 50, 51, 52, 53] (by decide +kernel) (by decide +kernel)
set_option maxRecDepth 20000 in
theorem gX6_addAll_X6_add : GoodIn wsX6_addAll (wsV RX6 118 RX6 yX6_add wsX6_add) := goodIn_app (goodIn_of _ (by decide +kernel)) ggX6_addAll_X6_add
theorem dX6_addAll_0 : decode cX6_addAll 0 = .ok (.iload_n 1, 1) := by decide +kernel
theorem dX6_addAll_1 : decode cX6_addAll 1 = .ok (.aload_n 0, 1) := by decide +kernel
theorem dX6_addAll_2 : decode cX6_addAll 2 = .ok (.getfield 9, 3) := by decide +kernel
theorem dX6_addAll_5 : decode cX6_addAll 5 = .ok (.iload_n 2, 1) := by decide +kernel
theorem dX6_addAll_6 : decode cX6_addAll 6 = .ok (.iaload, 1) := by decide +kernel
theorem dX6_addAll_7 : decode cX6_addAll 7 = .ok (.isub, 1) := by decide +kernel
theorem dX6_addAll_8 : decode cX6_addAll 8 = .ok (.istore_n 3, 1) := by decide +kernel
theorem dX6_addAll_9 : decode cX6_addAll 9 = .ok (.iload_n 2, 1) := by decide +kernel
theorem dX6_addAll_10 : decode cX6_addAll 10 = .ok (.iconst 4, 1) := by decide +kernel
theorem dX6_addAll_11 : decode cX6_addAll 11 = .ok (.if_icmp .ge 52, 3) := by decide +kernel
theorem dX6_addAll_14 : decode cX6_addAll 14 = .ok (.aload_n 0, 1) := by decide +kernel
theorem dX6_addAll_15 : decode cX6_addAll 15 = .ok (.getfield 46, 3) := by decide +kernel
theorem dX6_addAll_18 : decode cX6_addAll 18 = .ok (.iload_n 3, 1) := by decide +kernel
theorem dX6_addAll_19 : decode cX6_addAll 19 = .ok (.iaload, 1) := by decide +kernel
theorem dX6_addAll_20 : decode cX6_addAll 20 = .ok (.istore 4, 2) := by decide +kernel
theorem dX6_addAll_22 : decode cX6_addAll 22 = .ok (.iload 4, 2) := by decide +kernel
theorem dX6_addAll_24 : decode cX6_addAll 24 = .ok (.aload_n 0, 1) := by decide +kernel
theorem dX6_addAll_25 : decode cX6_addAll 25 = .ok (.getfield 46, 3) := by decide +kernel
theorem dX6_addAll_28 : decode cX6_addAll 28 = .ok (.iload_n 3, 1) := by decide +kernel
theorem dX6_addAll_29 : decode cX6_addAll 29 = .ok (.iconst 1, 1) := by decide +kernel
theorem dX6_addAll_30 : decode cX6_addAll 30 = .ok (.iadd, 1) := by decide +kernel
theorem dX6_addAll_31 : decode cX6_addAll 31 = .ok (.iaload, 1) := by decide +kernel
theorem dX6_addAll_32 : decode cX6_addAll 32 = .ok (.if_icmp .ge 30, 3) := by decide +kernel
theorem dX6_addAll_35 : decode cX6_addAll 35 = .ok (.aload_n 0, 1) := by decide +kernel
theorem dX6_addAll_36 : decode cX6_addAll 36 = .ok (.iload_n 2, 1) := by decide +kernel
theorem dX6_addAll_37 : decode cX6_addAll 37 = .ok (.aload_n 0, 1) := by decide +kernel
theorem dX6_addAll_38 : decode cX6_addAll 38 = .ok (.getfield 24, 3) := by decide +kernel
theorem dX6_addAll_41 : decode cX6_addAll 41 = .ok (.iload 4, 2) := by decide +kernel
theorem dX6_addAll_43 : decode cX6_addAll 43 = .ok (.laload, 1) := by decide +kernel
theorem dX6_addAll_44 : decode cX6_addAll 44 = .ok (.lconst 0, 1) := by decide +kernel
theorem dX6_addAll_45 : decode cX6_addAll 45 = .ok (.invokestatic 78, 3) := by decide +kernel
theorem dX6_addAll_48 : decode cX6_addAll 48 = .ok (.iload_n 1, 1) := by decide +kernel
theorem dX6_addAll_49 : decode cX6_addAll 49 = .ok (.iload_n 2, 1) := by decide +kernel
theorem dX6_addAll_50 : decode cX6_addAll 50 = .ok (.iload 4, 2) := by decide +kernel
theorem dX6_addAll_52 : decode cX6_addAll 52 = .ok (.iconst (-1), 1) := by decide +kernel
theorem dX6_addAll_53 : decode cX6_addAll 53 = .ok (.invokevirtual 118, 3) := by decide +kernel
theorem dX6_addAll_56 : decode cX6_addAll 56 = .ok (.iinc 4 1, 3) := by decide +kernel
theorem dX6_addAll_59 : decode cX6_addAll 59 = .ok (.goto (-37), 3) := by decide +kernel
theorem dX6_addAll_62 : decode cX6_addAll 62 = .ok (.return_, 1) := by decide +kernel
theorem dX6_addAll_63 : decode cX6_addAll 63 = .ok (.iconst 0, 1) := by decide +kernel
theorem dX6_addAll_64 : decode cX6_addAll 64 = .ok (.istore 4, 2) := by decide +kernel
theorem dX6_addAll_66 : decode cX6_addAll 66 = .ok (.iload 4, 2) := by decide +kernel
theorem dX6_addAll_68 : decode cX6_addAll 68 = .ok (.iload_n 3, 1) := by decide +kernel
theorem dX6_addAll_69 : decode cX6_addAll 69 = .ok (.if_icmp .gt 109, 3) := by decide +kernel
theorem dX6_addAll_72 : decode cX6_addAll 72 = .ok (.aload_n 0, 1) := by decide +kernel
theorem dX6_addAll_73 : decode cX6_addAll 73 = .ok (.getfield 46, 3) := by decide +kernel
theorem dX6_addAll_76 : decode cX6_addAll 76 = .ok (.iload 4, 2) := by decide +kernel
theorem dX6_addAll_78 : decode cX6_addAll 78 = .ok (.iaload, 1) := by decide +kernel
theorem dX6_addAll_79 : decode cX6_addAll 79 = .ok (.istore 5, 2) := by decide +kernel
theorem dX6_addAll_81 : decode cX6_addAll 81 = .ok (.iload 5, 2) := by decide +kernel
theorem dX6_addAll_83 : decode cX6_addAll 83 = .ok (.aload_n 0, 1) := by decide +kernel
theorem dX6_addAll_84 : decode cX6_addAll 84 = .ok (.getfield 46, 3) := by decide +kernel
theorem dX6_addAll_87 : decode cX6_addAll 87 = .ok (.iload 4, 2) := by decide +kernel
theorem dX6_addAll_89 : decode cX6_addAll 89 = .ok (.iconst 1, 1) := by decide +kernel
theorem dX6_addAll_90 : decode cX6_addAll 90 = .ok (.iadd, 1) := by decide +kernel
theorem dX6_addAll_91 : decode cX6_addAll 91 = .ok (.iaload, 1) := by decide +kernel
theorem dX6_addAll_92 : decode cX6_addAll 92 = .ok (.if_icmp .ge 80, 3) := by decide +kernel
theorem dX6_addAll_95 : decode cX6_addAll 95 = .ok (.aload_n 0, 1) := by decide +kernel
theorem dX6_addAll_96 : decode cX6_addAll 96 = .ok (.getfield 46, 3) := by decide +kernel
theorem dX6_addAll_99 : decode cX6_addAll 99 = .ok (.iload_n 3, 1) := by decide +kernel
theorem dX6_addAll_100 : decode cX6_addAll 100 = .ok (.iload 4, 2) := by decide +kernel
theorem dX6_addAll_102 : decode cX6_addAll 102 = .ok (.isub, 1) := by decide +kernel
theorem dX6_addAll_103 : decode cX6_addAll 103 = .ok (.iaload, 1) := by decide +kernel
theorem dX6_addAll_104 : decode cX6_addAll 104 = .ok (.istore 6, 2) := by decide +kernel
theorem dX6_addAll_106 : decode cX6_addAll 106 = .ok (.iload 6, 2) := by decide +kernel
theorem dX6_addAll_108 : decode cX6_addAll 108 = .ok (.aload_n 0, 1) := by decide +kernel
theorem dX6_addAll_109 : decode cX6_addAll 109 = .ok (.getfield 46, 3) := by decide +kernel
theorem dX6_addAll_112 : decode cX6_addAll 112 = .ok (.iload_n 3, 1) := by decide +kernel
theorem dX6_addAll_113 : decode cX6_addAll 113 = .ok (.iload 4, 2) := by decide +kernel
theorem dX6_addAll_115 : decode cX6_addAll 115 = .ok (.isub, 1) := by decide +kernel
theorem dX6_addAll_116 : decode cX6_addAll 116 = .ok (.iconst 1, 1) := by decide +kernel
theorem dX6_addAll_117 : decode cX6_addAll 117 = .ok (.iadd, 1) := by decide +kernel
theorem dX6_addAll_118 : decode cX6_addAll 118 = .ok (.iaload, 1) := by decide +kernel
theorem dX6_addAll_119 : decode cX6_addAll 119 = .ok (.if_icmp .ge 47, 3) := by decide +kernel
theorem dX6_addAll_122 : decode cX6_addAll 122 = .ok (.aload_n 0, 1) := by decide +kernel
theorem dX6_addAll_123 : decode cX6_addAll 123 = .ok (.getfield 110, 3) := by decide +kernel
theorem dX6_addAll_126 : decode cX6_addAll 126 = .ok (.sipush 2000, 3) := by decide +kernel
theorem dX6_addAll_129 : decode cX6_addAll 129 = .ok (.if_icmp .ge 37, 3) := by decide +kernel
theorem dX6_addAll_132 : decode cX6_addAll 132 = .ok (.aload_n 0, 1) := by decide +kernel
theorem dX6_addAll_133 : decode cX6_addAll 133 = .ok (.iload_n 2, 1) := by decide +kernel
theorem dX6_addAll_134 : decode cX6_addAll 134 = .ok (.aload_n 0, 1) := by decide +kernel
theorem dX6_addAll_135 : decode cX6_addAll 135 = .ok (.getfield 24, 3) := by decide +kernel
theorem dX6_addAll_138 : decode cX6_addAll 138 = .ok (.iload 5, 2) := by decide +kernel
theorem dX6_addAll_140 : decode cX6_addAll 140 = .ok (.laload, 1) := by decide +kernel
theorem dX6_addAll_141 : decode cX6_addAll 141 = .ok (.aload_n 0, 1) := by decide +kernel
theorem dX6_addAll_142 : decode cX6_addAll 142 = .ok (.getfield 24, 3) := by decide +kernel
theorem dX6_addAll_145 : decode cX6_addAll 145 = .ok (.iload 6, 2) := by decide +kernel
theorem dX6_addAll_147 : decode cX6_addAll 147 = .ok (.laload, 1) := by decide +kernel
theorem dX6_addAll_148 : decode cX6_addAll 148 = .ok (.invokestatic 78, 3) := by decide +kernel
theorem dX6_addAll_151 : decode cX6_addAll 151 = .ok (.iload_n 1, 1) := by decide +kernel
theorem dX6_addAll_152 : decode cX6_addAll 152 = .ok (.iload_n 2, 1) := by decide +kernel
theorem dX6_addAll_153 : decode cX6_addAll 153 = .ok (.iload 5, 2) := by decide +kernel
theorem dX6_addAll_155 : decode cX6_addAll 155 = .ok (.iload 6, 2) := by decide +kernel
theorem dX6_addAll_157 : decode cX6_addAll 157 = .ok (.invokevirtual 118, 3) := by decide +kernel
theorem dX6_addAll_160 : decode cX6_addAll 160 = .ok (.iinc 6 1, 3) := by decide +kernel
theorem dX6_addAll_163 : decode cX6_addAll 163 = .ok (.goto (-57), 3) := by decide +kernel
theorem dX6_addAll_166 : decode cX6_addAll 166 = .ok (.iinc 5 1, 3) := by decide +kernel
theorem dX6_addAll_169 : decode cX6_addAll 169 = .ok (.goto (-88), 3) := by decide +kernel
theorem dX6_addAll_172 : decode cX6_addAll 172 = .ok (.iinc 4 1, 3) := by decide +kernel
theorem dX6_addAll_175 : decode cX6_addAll 175 = .ok (.goto (-109), 3) := by decide +kernel
theorem dX6_addAll_178 : decode cX6_addAll 178 = .ok (.return_, 1) := by decide +kernel
set_option maxRecDepth 20000 in
theorem ggX6_search_X6_isIn : GoodIn wsX6_search wsX6_isIn := goodIn_r _ [13] (by decide +kernel) (by decide +kernel)
set_option maxRecDepth 20000 in
theorem gX6_search_X6_isIn : GoodIn wsX6_search (va_wsS RX6 58 yX6_isIn wsX6_isIn) := goodIn_app (goodIn_of _ (by decide +kernel)) ggX6_search_X6_isIn
set_option maxRecDepth 20000 in
theorem ggX6_search_X6_no : GoodIn wsX6_search wsX6_no := goodIn_r _ [17, 1, 53, 54, 55, 56, 57, 58, 59, 60, 61, 62, 63, 64, 65, 66, 67, 68, 69, 70, 71, 72, 73] (by decide +kernel) (by decide +kernel)
set_option maxRecDepth 20000 in
theorem gX6_search_X6_no : GoodIn wsX6_search (wsV RX6 62 RX6 yX6_no wsX6_no) := goodIn_app (goodIn_of _ (by decide +kernel)) ggX6_search_X6_no
set_option maxRecDepth 20000 in
theorem ggX6_search_X6_add : GoodIn wsX6_search wsX6_add := goodIn_r _ [21, 2, 22, 23, 24, 25, 26, 27, 3, 28, 29, 30, 12, 31, 32, 33, 34, 35, 53, 54, 55, 56, 57, 58, 59, 60, 61, 62, 63, 64, 65, 66, 67, 68, 69, 70, 71, 72, 73] (by decide +kernel) (by decide +kernel)
set_option maxRecDepth 20000 in
theorem gX6_search_X6_add : GoodIn wsX6_search (wsV RX6 118 RX6 yX6_add wsX6_add) := goodIn_app (goodIn_of _ (by decide +kernel)) ggX6_search_X6_add
set_option maxRecDepth 20000 in
theorem ggX6_search_X6_constant : GoodIn wsX6_search wsX6_constant := goodIn_r _ [38, 39] (by decide +kernel) (by decide +kernel)
set_option maxRecDepth 20000 in
theorem gX6_search_X6_constant : GoodIn wsX6_search (va_wsS RX6 124 yX6_constant wsX6_constant) := goodIn_app (goodIn_of _ (by decide +kernel)) ggX6_search_X6_constant
set_option maxRecDepth 20000 in
theorem ggX6_search_X6_addAll : GoodIn wsX6_search wsX6_addAll := goodIn_r _ [43, 9, 4, 22, 2, 44, 45, 12, 46, 47, 48, 49, 50, 51, 52, 18, 19, 20, 21, 23, 24, 25, 26, 27, 3, 28, 29, 30, 31, 32, 33, 34, 35, 53, 54, 55, 56, 57, 58, 59, 60, 61, 62, 63, 64, 65, 66, 67, 68, 69, 70, 71, 72, 73] (by decide +kernel) (by decide +kernel)
set_option maxRecDepth 20000 in
theorem gX6_search_X6_addAll : GoodIn wsX6_search (wsV RX6 128 RX6 yX6_addAll wsX6_addAll) := goodIn_app (goodIn_of _ (by decide +kernel)) ggX6_search_X6_addAll
theorem dX6_search_0 : decode cX6_search 0 = .ok (.aload_n 0, 1) := by decide +kernel
theorem dX6_search_1 : decode cX6_search 1 = .ok (.iconst 0, 1) := by decide +kernel
theorem dX6_search_2 : decode cX6_search 2 = .ok (.putfield 55, 3) := by decide +kernel
theorem dX6_search_5 : decode cX6_search 5 = .ok (.iload_n 1, 1) := by decide +kernel
theorem dX6_search_6 : decode cX6_search 6 = .ok (.iconst 0, 1) := by decide +kernel
theorem dX6_search_7 : decode cX6_search 7 = .ok (.bipush 6, 2) := by decide +kernel
theorem dX6_search_9 : decode cX6_search 9 = .ok (.invokestatic 58, 3) := by decide +kernel
theorem dX6_search_12 : decode cX6_search 12 = .ok (.ifCond .ne 9, 3) := by decide +kernel
theorem dX6_search_15 : decode cX6_search 15 = .ok (.aload_n 0, 1) := by decide +kernel
theorem dX6_search_16 : decode cX6_search 16 = .ok (.iconst 1, 1) := by decide +kernel
theorem dX6_search_17 : decode cX6_search 17 = .ok (.invokevirtual 62, 3) := by decide +kernel
theorem dX6_search_20 : decode cX6_search 20 = .ok (.ireturn, 1) := by decide +kernel
theorem dX6_search_21 : decode cX6_search 21 = .ok (.aload_n 0, 1) := by decide +kernel
theorem dX6_search_22 : decode cX6_search 22 = .ok (.iconst 0, 1) := by decide +kernel
theorem dX6_search_23 : decode cX6_search 23 = .ok (.putfield 110, 3) := by decide +kernel
theorem dX6_search_26 : decode cX6_search 26 = .ok (.iconst 0, 1) := by decide +kernel
theorem dX6_search_27 : decode cX6_search 27 = .ok (.istore_n 2, 1) := by decide +kernel
theorem dX6_search_28 : decode cX6_search 28 = .ok (.iload_n 2, 1) := by decide +kernel
theorem dX6_search_29 : decode cX6_search 29 = .ok (.sipush 1024, 3) := by decide +kernel
theorem dX6_search_32 : decode cX6_search 32 = .ok (.if_icmp .ge 16, 3) := by decide +kernel
theorem dX6_search_35 : decode cX6_search 35 = .ok (.aload_n 0, 1) := by decide +kernel
theorem dX6_search_36 : decode cX6_search 36 = .ok (.getfield 40, 3) := by decide +kernel
theorem dX6_search_39 : decode cX6_search 39 = .ok (.iload_n 2, 1) := by decide +kernel
theorem dX6_search_40 : decode cX6_search 40 = .ok (.iconst 0, 1) := by decide +kernel
theorem dX6_search_41 : decode cX6_search 41 = .ok (.iastore, 1) := by decide +kernel
theorem dX6_search_42 : decode cX6_search 42 = .ok (.iinc 2 1, 3) := by decide +kernel
theorem dX6_search_45 : decode cX6_search 45 = .ok (.goto (-17), 3) := by decide +kernel
theorem dX6_search_48 : decode cX6_search 48 = .ok (.iconst 0, 1) := by decide +kernel
theorem dX6_search_49 : decode cX6_search 49 = .ok (.istore_n 2, 1) := by decide +kernel
theorem dX6_search_50 : decode cX6_search 50 = .ok (.iload_n 2, 1) := by decide +kernel
theorem dX6_search_51 : decode cX6_search 51 = .ok (.iload_n 1, 1) := by decide +kernel
theorem dX6_search_52 : decode cX6_search 52 = .ok (.if_icmp .gt 129, 3) := by decide +kernel
theorem dX6_search_55 : decode cX6_search 55 = .ok (.aload_n 0, 1) := by decide +kernel
theorem dX6_search_56 : decode cX6_search 56 = .ok (.getfield 46, 3) := by decide +kernel
theorem dX6_search_59 : decode cX6_search 59 = .ok (.iload_n 2, 1) := by decide +kernel
theorem dX6_search_60 : decode cX6_search 60 = .ok (.aload_n 0, 1) := by decide +kernel
theorem dX6_search_61 : decode cX6_search 61 = .ok (.getfield 110, 3) := by decide +kernel
theorem dX6_search_64 : decode cX6_search 64 = .ok (.iastore, 1) := by decide +kernel
theorem dX6_search_65 : decode cX6_search 65 = .ok (.iload_n 2, 1) := by decide +kernel
theorem dX6_search_66 : decode cX6_search 66 = .ok (.ifCond .ne 14, 3) := by decide +kernel
theorem dX6_search_69 : decode cX6_search 69 = .ok (.aload_n 0, 1) := by decide +kernel
theorem dX6_search_70 : decode cX6_search 70 = .ok (.ldc2_w 122, 3) := by decide +kernel
theorem dX6_search_73 : decode cX6_search 73 = .ok (.iconst 0, 1) := by decide +kernel
theorem dX6_search_74 : decode cX6_search 74 = .ok (.iconst (-1), 1) := by decide +kernel
theorem dX6_search_75 : decode cX6_search 75 = .ok (.iconst (-1), 1) := by decide +kernel
theorem dX6_search_76 : decode cX6_search 76 = .ok (.iconst (-1), 1) := by decide +kernel
theorem dX6_search_77 : decode cX6_search 77 = .ok (.invokevirtual 118, 3) := by decide +kernel
theorem dX6_search_80 : decode cX6_search 80 = .ok (.iconst 0, 1) := by decide +kernel
theorem dX6_search_81 : decode cX6_search 81 = .ok (.istore_n 3, 1) := by decide +kernel
theorem dX6_search_82 : decode cX6_search 82 = .ok (.iload_n 3, 1) := by decide +kernel
theorem dX6_search_83 : decode cX6_search 83 = .ok (.bipush 16, 2) := by decide +kernel
theorem dX6_search_85 : decode cX6_search 85 = .ok (.if_icmp .ge 39, 3) := by decide +kernel
theorem dX6_search_88 : decode cX6_search 88 = .ok (.iload_n 2, 1) := by decide +kernel
theorem dX6_search_89 : decode cX6_search 89 = .ok (.aload_n 0, 1) := by decide +kernel
theorem dX6_search_90 : decode cX6_search 90 = .ok (.getfield 17, 3) := by decide +kernel
theorem dX6_search_93 : decode cX6_search 93 = .ok (.if_icmp .ne 31, 3) := by decide +kernel
theorem dX6_search_96 : decode cX6_search 96 = .ok (.aload_n 0, 1) := by decide +kernel
theorem dX6_search_97 : decode cX6_search 97 = .ok (.getfield 21, 3) := by decide +kernel
theorem dX6_search_100 : decode cX6_search 100 = .ok (.iload_n 3, 1) := by decide +kernel
theorem dX6_search_101 : decode cX6_search 101 = .ok (.baload, 1) := by decide +kernel
theorem dX6_search_102 : decode cX6_search 102 = .ok (.ifCond .eq 16, 3) := by decide +kernel
theorem dX6_search_105 : decode cX6_search 105 = .ok (.aload_n 0, 1) := by decide +kernel
theorem dX6_search_106 : decode cX6_search 106 = .ok (.iload_n 3, 1) := by decide +kernel
theorem dX6_search_107 : decode cX6_search 107 = .ok (.invokestatic 124, 3) := by decide +kernel
theorem dX6_search_110 : decode cX6_search 110 = .ok (.iload_n 2, 1) := by decide +kernel
theorem dX6_search_111 : decode cX6_search 111 = .ok (.bipush (-2), 2) := by decide +kernel
theorem dX6_search_113 : decode cX6_search 113 = .ok (.iload_n 3, 1) := by decide +kernel
theorem dX6_search_114 : decode cX6_search 114 = .ok (.iconst (-1), 1) := by decide +kernel
theorem dX6_search_115 : decode cX6_search 115 = .ok (.invokevirtual 118, 3) := by decide +kernel
theorem dX6_search_118 : decode cX6_search 118 = .ok (.iinc 3 1, 3) := by decide +kernel
theorem dX6_search_121 : decode cX6_search 121 = .ok (.goto (-39), 3) := by decide +kernel
theorem dX6_search_124 : decode cX6_search 124 = .ok (.iconst 0, 1) := by decide +kernel
theorem dX6_search_125 : decode cX6_search 125 = .ok (.istore_n 3, 1) := by decide +kernel
theorem dX6_search_126 : decode cX6_search 126 = .ok (.iload_n 3, 1) := by decide +kernel
theorem dX6_search_127 : decode cX6_search 127 = .ok (.bipush 10, 2) := by decide +kernel
theorem dX6_search_129 : decode cX6_search 129 = .ok (.if_icmp .ge 34, 3) := by decide +kernel
theorem dX6_search_132 : decode cX6_search 132 = .ok (.aload_n 0, 1) := by decide +kernel
theorem dX6_search_133 : decode cX6_search 133 = .ok (.getfield 13, 3) := by decide +kernel
theorem dX6_search_136 : decode cX6_search 136 = .ok (.iload_n 3, 1) := by decide +kernel
theorem dX6_search_137 : decode cX6_search 137 = .ok (.baload, 1) := by decide +kernel
theorem dX6_search_138 : decode cX6_search 138 = .ok (.ifCond .eq 19, 3) := by decide +kernel
theorem dX6_search_141 : decode cX6_search 141 = .ok (.aload_n 0, 1) := by decide +kernel
theorem dX6_search_142 : decode cX6_search 142 = .ok (.getfield 9, 3) := by decide +kernel
theorem dX6_search_145 : decode cX6_search 145 = .ok (.iload_n 3, 1) := by decide +kernel
theorem dX6_search_146 : decode cX6_search 146 = .ok (.iaload, 1) := by decide +kernel
theorem dX6_search_147 : decode cX6_search 147 = .ok (.iload_n 2, 1) := by decide +kernel
theorem dX6_search_148 : decode cX6_search 148 = .ok (.if_icmp .gt 9, 3) := by decide +kernel
theorem dX6_search_151 : decode cX6_search 151 = .ok (.aload_n 0, 1) := by decide +kernel
theorem dX6_search_152 : decode cX6_search 152 = .ok (.iload_n 2, 1) := by decide +kernel
theorem dX6_search_153 : decode cX6_search 153 = .ok (.iload_n 3, 1) := by decide +kernel
theorem dX6_search_154 : decode cX6_search 154 = .ok (.invokevirtual 128, 3) := by decide +kernel
theorem dX6_search_157 : decode cX6_search 157 = .ok (.iinc 3 1, 3) := by decide +kernel
theorem dX6_search_160 : decode cX6_search 160 = .ok (.goto (-34), 3) := by decide +kernel
theorem dX6_search_163 : decode cX6_search 163 = .ok (.aload_n 0, 1) := by decide +kernel
theorem dX6_search_164 : decode cX6_search 164 = .ok (.getfield 46, 3) := by decide +kernel
theorem dX6_search_167 : decode cX6_search 167 = .ok (.iload_n 2, 1) := by decide +kernel
theorem dX6_search_168 : decode cX6_search 168 = .ok (.iconst 1, 1) := by decide +kernel
theorem dX6_search_169 : decode cX6_search 169 = .ok (.iadd, 1) := by decide +kernel
theorem dX6_search_170 : decode cX6_search 170 = .ok (.aload_n 0, 1) := by decide +kernel
theorem dX6_search_171 : decode cX6_search 171 = .ok (.getfield 110, 3) := by decide +kernel
theorem dX6_search_174 : decode cX6_search 174 = .ok (.iastore, 1) := by decide +kernel
theorem dX6_search_175 : decode cX6_search 175 = .ok (.iinc 2 1, 3) := by decide +kernel
theorem dX6_search_178 : decode cX6_search 178 = .ok (.goto (-128), 3) := by decide +kernel
theorem dX6_search_181 : decode cX6_search 181 = .ok (.aload_n 0, 1) := by decide +kernel
theorem dX6_search_182 : decode cX6_search 182 = .ok (.getfield 110, 3) := by decide +kernel
theorem dX6_search_185 : decode cX6_search 185 = .ok (.ireturn, 1) := by decide +kernel
theorem dX6_entries_0 : decode cX6_entries 0 = .ok (.aload_n 0, 1) := by decide +kernel
theorem dX6_entries_1 : decode cX6_entries 1 = .ok (.iconst 0, 1) := by decide +kernel
theorem dX6_entries_2 : decode cX6_entries 2 = .ok (.putfield 55, 3) := by decide +kernel
theorem dX6_entries_5 : decode cX6_entries 5 = .ok (.aload_n 0, 1) := by decide +kernel
theorem dX6_entries_6 : decode cX6_entries 6 = .ok (.getfield 110, 3) := by decide +kernel
theorem dX6_entries_9 : decode cX6_entries 9 = .ok (.ireturn, 1) := by decide +kernel
set_option maxRecDepth 20000 in
theorem ggX6_ofCost_X6_isIn : GoodIn wsX6_ofCost wsX6_isIn := goodIn_r _ [7] (by decide +kernel) (by decide +kernel)
set_option maxRecDepth 20000 in
theorem gX6_ofCost_X6_isIn : GoodIn wsX6_ofCost (va_wsS RX6 58 yX6_isIn wsX6_isIn) := goodIn_app (goodIn_of _ (by decide +kernel)) ggX6_ofCost_X6_isIn
set_option maxRecDepth 20000 in
theorem ggX6_ofCost_X6_no : GoodIn wsX6_ofCost wsX6_no := goodIn_r _ [11, 1, 12, 13, 14, 15, 16, 17, 18, 19, 20, 21, 22, 23, 24, 25, 26, 27, 28, 29, 30, 31, 32] (by decide +kernel) (by decide +kernel)
set_option maxRecDepth 20000 in
theorem gX6_ofCost_X6_no : GoodIn wsX6_ofCost (wsV RX6 62 RX6 yX6_no wsX6_no) := goodIn_app (goodIn_of _ (by decide +kernel)) ggX6_ofCost_X6_no
theorem dX6_ofCost_0 : decode cX6_ofCost 0 = .ok (.aload_n 0, 1) := by decide +kernel
theorem dX6_ofCost_1 : decode cX6_ofCost 1 = .ok (.iconst 0, 1) := by decide +kernel
theorem dX6_ofCost_2 : decode cX6_ofCost 2 = .ok (.putfield 55, 3) := by decide +kernel
theorem dX6_ofCost_5 : decode cX6_ofCost 5 = .ok (.iload_n 1, 1) := by decide +kernel
theorem dX6_ofCost_6 : decode cX6_ofCost 6 = .ok (.iconst 0, 1) := by decide +kernel
theorem dX6_ofCost_7 : decode cX6_ofCost 7 = .ok (.bipush 6, 2) := by decide +kernel
theorem dX6_ofCost_9 : decode cX6_ofCost 9 = .ok (.invokestatic 58, 3) := by decide +kernel
theorem dX6_ofCost_12 : decode cX6_ofCost 12 = .ok (.ifCond .ne 9, 3) := by decide +kernel
theorem dX6_ofCost_15 : decode cX6_ofCost 15 = .ok (.aload_n 0, 1) := by decide +kernel
theorem dX6_ofCost_16 : decode cX6_ofCost 16 = .ok (.iconst 1, 1) := by decide +kernel
theorem dX6_ofCost_17 : decode cX6_ofCost 17 = .ok (.invokevirtual 62, 3) := by decide +kernel
theorem dX6_ofCost_20 : decode cX6_ofCost 20 = .ok (.ireturn, 1) := by decide +kernel
theorem dX6_ofCost_21 : decode cX6_ofCost 21 = .ok (.iconst 0, 1) := by decide +kernel
theorem dX6_ofCost_22 : decode cX6_ofCost 22 = .ok (.istore_n 2, 1) := by decide +kernel
theorem dX6_ofCost_23 : decode cX6_ofCost 23 = .ok (.iconst 0, 1) := by decide +kernel
theorem dX6_ofCost_24 : decode cX6_ofCost 24 = .ok (.istore_n 3, 1) := by decide +kernel
theorem dX6_ofCost_25 : decode cX6_ofCost 25 = .ok (.iload_n 3, 1) := by decide +kernel
theorem dX6_ofCost_26 : decode cX6_ofCost 26 = .ok (.aload_n 0, 1) := by decide +kernel
theorem dX6_ofCost_27 : decode cX6_ofCost 27 = .ok (.getfield 110, 3) := by decide +kernel
theorem dX6_ofCost_30 : decode cX6_ofCost 30 = .ok (.if_icmp .ge 27, 3) := by decide +kernel
theorem dX6_ofCost_33 : decode cX6_ofCost 33 = .ok (.iload_n 2, 1) := by decide +kernel
theorem dX6_ofCost_34 : decode cX6_ofCost 34 = .ok (.aload_n 0, 1) := by decide +kernel
theorem dX6_ofCost_35 : decode cX6_ofCost 35 = .ok (.getfield 28, 3) := by decide +kernel
theorem dX6_ofCost_38 : decode cX6_ofCost 38 = .ok (.iload_n 3, 1) := by decide +kernel
theorem dX6_ofCost_39 : decode cX6_ofCost 39 = .ok (.iaload, 1) := by decide +kernel
theorem dX6_ofCost_40 : decode cX6_ofCost 40 = .ok (.iload_n 1, 1) := by decide +kernel
theorem dX6_ofCost_41 : decode cX6_ofCost 41 = .ok (.if_icmp .ne 7, 3) := by decide +kernel
theorem dX6_ofCost_44 : decode cX6_ofCost 44 = .ok (.iconst 1, 1) := by decide +kernel
theorem dX6_ofCost_45 : decode cX6_ofCost 45 = .ok (.goto 4, 3) := by decide +kernel
theorem dX6_ofCost_48 : decode cX6_ofCost 48 = .ok (.iconst 0, 1) := by decide +kernel
theorem dX6_ofCost_49 : decode cX6_ofCost 49 = .ok (.iadd, 1) := by decide +kernel
theorem dX6_ofCost_50 : decode cX6_ofCost 50 = .ok (.istore_n 2, 1) := by decide +kernel
theorem dX6_ofCost_51 : decode cX6_ofCost 51 = .ok (.iinc 3 1, 3) := by decide +kernel
theorem dX6_ofCost_54 : decode cX6_ofCost 54 = .ok (.goto (-29), 3) := by decide +kernel
theorem dX6_ofCost_57 : decode cX6_ofCost 57 = .ok (.iload_n 2, 1) := by decide +kernel
theorem dX6_ofCost_58 : decode cX6_ofCost 58 = .ok (.ireturn, 1) := by decide +kernel
set_option maxRecDepth 20000 in
theorem ggX6_isEntry_X6_isIn : GoodIn wsX6_isEntry wsX6_isIn := goodIn_r _ [5] (by decide +kernel) (by decide +kernel)
set_option maxRecDepth 20000 in
theorem gX6_isEntry_X6_isIn : GoodIn wsX6_isEntry (va_wsS RX6 58 yX6_isIn wsX6_isIn) := goodIn_app (goodIn_of _ (by decide +kernel)) ggX6_isEntry_X6_isIn
theorem dX6_isEntry_0 : decode cX6_isEntry 0 = .ok (.iload_n 1, 1) := by decide +kernel
theorem dX6_isEntry_1 : decode cX6_isEntry 1 = .ok (.iconst 0, 1) := by decide +kernel
theorem dX6_isEntry_2 : decode cX6_isEntry 2 = .ok (.aload_n 0, 1) := by decide +kernel
theorem dX6_isEntry_3 : decode cX6_isEntry 3 = .ok (.getfield 110, 3) := by decide +kernel
theorem dX6_isEntry_6 : decode cX6_isEntry 6 = .ok (.iconst 1, 1) := by decide +kernel
theorem dX6_isEntry_7 : decode cX6_isEntry 7 = .ok (.isub, 1) := by decide +kernel
theorem dX6_isEntry_8 : decode cX6_isEntry 8 = .ok (.invokestatic 58, 3) := by decide +kernel
theorem dX6_isEntry_11 : decode cX6_isEntry 11 = .ok (.ireturn, 1) := by decide +kernel
set_option maxRecDepth 20000 in
theorem ggX6_function_X6_isEntry : GoodIn wsX6_function wsX6_isEntry := goodIn_r _ [7, 8, 9, 10, 6, 11, 12, 13, 14, 15, 16, 17, 18, 19, 20, 21, 22, 23, 24, 25, 26, 27, 28, 29, 30, 31, 32] (by decide +kernel) (by decide +kernel)
set_option maxRecDepth 20000 in
theorem gX6_function_X6_isEntry : GoodIn wsX6_function (wsV RX6 132 RX6 yX6_isEntry wsX6_isEntry) := goodIn_app (goodIn_of _ (by decide +kernel)) ggX6_function_X6_isEntry
theorem dX6_function_0 : decode cX6_function 0 = .ok (.aload_n 0, 1) := by decide +kernel
theorem dX6_function_1 : decode cX6_function 1 = .ok (.aload_n 0, 1) := by decide +kernel
theorem dX6_function_2 : decode cX6_function 2 = .ok (.iload_n 1, 1) := by decide +kernel
theorem dX6_function_3 : decode cX6_function 3 = .ok (.invokevirtual 132, 3) := by decide +kernel
theorem dX6_function_6 : decode cX6_function 6 = .ok (.ifCond .eq 7, 3) := by decide +kernel
theorem dX6_function_9 : decode cX6_function 9 = .ok (.iconst 0, 1) := by decide +kernel
theorem dX6_function_10 : decode cX6_function 10 = .ok (.goto 4, 3) := by decide +kernel
theorem dX6_function_13 : decode cX6_function 13 = .ok (.iconst 1, 1) := by decide +kernel
theorem dX6_function_14 : decode cX6_function 14 = .ok (.putfield 55, 3) := by decide +kernel
theorem dX6_function_17 : decode cX6_function 17 = .ok (.aload_n 0, 1) := by decide +kernel
theorem dX6_function_18 : decode cX6_function 18 = .ok (.getfield 55, 3) := by decide +kernel
theorem dX6_function_21 : decode cX6_function 21 = .ok (.ifCond .ne 12, 3) := by decide +kernel
theorem dX6_function_24 : decode cX6_function 24 = .ok (.aload_n 0, 1) := by decide +kernel
theorem dX6_function_25 : decode cX6_function 25 = .ok (.getfield 24, 3) := by decide +kernel
theorem dX6_function_28 : decode cX6_function 28 = .ok (.iload_n 1, 1) := by decide +kernel
theorem dX6_function_29 : decode cX6_function 29 = .ok (.laload, 1) := by decide +kernel
theorem dX6_function_30 : decode cX6_function 30 = .ok (.goto 4, 3) := by decide +kernel
theorem dX6_function_33 : decode cX6_function 33 = .ok (.lconst 0, 1) := by decide +kernel
theorem dX6_function_34 : decode cX6_function 34 = .ok (.lreturn, 1) := by decide +kernel
theorem dX6_told_0 : decode cX6_told 0 = .ok (.iload_n 2, 1) := by decide +kernel
theorem dX6_told_1 : decode cX6_told 1 = .ok (.ifCond .ne 12, 3) := by decide +kernel
theorem dX6_told_4 : decode cX6_told 4 = .ok (.aload_n 0, 1) := by decide +kernel
theorem dX6_told_5 : decode cX6_told 5 = .ok (.getfield 28, 3) := by decide +kernel
theorem dX6_told_8 : decode cX6_told 8 = .ok (.iload_n 1, 1) := by decide +kernel
theorem dX6_told_9 : decode cX6_told 9 = .ok (.iaload, 1) := by decide +kernel
theorem dX6_told_10 : decode cX6_told 10 = .ok (.goto 37, 3) := by decide +kernel
theorem dX6_told_13 : decode cX6_told 13 = .ok (.iload_n 2, 1) := by decide +kernel
theorem dX6_told_14 : decode cX6_told 14 = .ok (.iconst 1, 1) := by decide +kernel
theorem dX6_told_15 : decode cX6_told 15 = .ok (.if_icmp .ne 12, 3) := by decide +kernel
theorem dX6_told_18 : decode cX6_told 18 = .ok (.aload_n 0, 1) := by decide +kernel
theorem dX6_told_19 : decode cX6_told 19 = .ok (.getfield 31, 3) := by decide +kernel
theorem dX6_told_22 : decode cX6_told 22 = .ok (.iload_n 1, 1) := by decide +kernel
theorem dX6_told_23 : decode cX6_told 23 = .ok (.iaload, 1) := by decide +kernel
theorem dX6_told_24 : decode cX6_told 24 = .ok (.goto 23, 3) := by decide +kernel
theorem dX6_told_27 : decode cX6_told 27 = .ok (.iload_n 2, 1) := by decide +kernel
theorem dX6_told_28 : decode cX6_told 28 = .ok (.iconst 2, 1) := by decide +kernel
theorem dX6_told_29 : decode cX6_told 29 = .ok (.if_icmp .ne 12, 3) := by decide +kernel
theorem dX6_told_32 : decode cX6_told 32 = .ok (.aload_n 0, 1) := by decide +kernel
theorem dX6_told_33 : decode cX6_told 33 = .ok (.getfield 34, 3) := by decide +kernel
theorem dX6_told_36 : decode cX6_told 36 = .ok (.iload_n 1, 1) := by decide +kernel
theorem dX6_told_37 : decode cX6_told 37 = .ok (.iaload, 1) := by decide +kernel
theorem dX6_told_38 : decode cX6_told 38 = .ok (.goto 9, 3) := by decide +kernel
theorem dX6_told_41 : decode cX6_told 41 = .ok (.aload_n 0, 1) := by decide +kernel
theorem dX6_told_42 : decode cX6_told 42 = .ok (.getfield 37, 3) := by decide +kernel
theorem dX6_told_45 : decode cX6_told 45 = .ok (.iload_n 1, 1) := by decide +kernel
theorem dX6_told_46 : decode cX6_told 46 = .ok (.iaload, 1) := by decide +kernel
theorem dX6_told_47 : decode cX6_told 47 = .ok (.ireturn, 1) := by decide +kernel
set_option maxRecDepth 20000 in
theorem ggX6_entry_X6_isEntry : GoodIn wsX6_entry wsX6_isEntry := goodIn_r _ [6, 7, 8, 9, 5, 10, 23, 24, 25, 26, 27, 28, 29, 30, 31, 32, 33, 34, 35, 36, 37, 38, 39, 40, 41, 42, 43] (by decide +kernel) (by decide +kernel)
set_option maxRecDepth 20000 in
theorem gX6_entry_X6_isEntry : GoodIn wsX6_entry (wsV RX6 132 RX6 yX6_isEntry wsX6_isEntry) := goodIn_app (goodIn_of _ (by decide +kernel)) ggX6_entry_X6_isEntry
set_option maxRecDepth 20000 in
theorem ggX6_entry_X6_isIn : GoodIn wsX6_entry wsX6_isIn := goodIn_r _ [10] (by decide +kernel) (by decide +kernel)
set_option maxRecDepth 20000 in
theorem gX6_entry_X6_isIn : GoodIn wsX6_entry (va_wsS RX6 58 yX6_isIn wsX6_isIn) := goodIn_app (goodIn_of _ (by decide +kernel)) ggX6_entry_X6_isIn
set_option maxRecDepth 20000 in
theorem ggX6_entry_X6_told : GoodIn wsX6_entry wsX6_told := goodIn_r _ [14, 15, 16, 17, 18, 23, 24, 25, 26, 27, 28, 29, 30, 31, 32, 33, 34, 35, 36, 37, 38, 39, 40, 41, 42, 43] (by decide +kernel) (by decide +kernel)
set_option maxRecDepth 20000 in
theorem gX6_entry_X6_told : GoodIn wsX6_entry (wsV RX6 136 RX6 yX6_told wsX6_told) := goodIn_app (goodIn_of _ (by decide +kernel)) ggX6_entry_X6_told
set_option maxRecDepth 20000 in
theorem ggX6_entry_X6_no : GoodIn wsX6_entry wsX6_no := goodIn_r _ [22, 1, 23, 24, 25, 26, 27, 28, 29, 30, 31, 32, 33, 34, 35, 36, 37, 38, 39, 40, 41, 42, 43] (by decide +kernel) (by decide +kernel)
set_option maxRecDepth 20000 in
theorem gX6_entry_X6_no : GoodIn wsX6_entry (wsV RX6 62 RX6 yX6_no wsX6_no) := goodIn_app (goodIn_of _ (by decide +kernel)) ggX6_entry_X6_no
theorem dX6_entry_0 : decode cX6_entry 0 = .ok (.aload_n 0, 1) := by decide +kernel
theorem dX6_entry_1 : decode cX6_entry 1 = .ok (.iconst 0, 1) := by decide +kernel
theorem dX6_entry_2 : decode cX6_entry 2 = .ok (.putfield 55, 3) := by decide +kernel
theorem dX6_entry_5 : decode cX6_entry 5 = .ok (.aload_n 0, 1) := by decide +kernel
theorem dX6_entry_6 : decode cX6_entry 6 = .ok (.iload_n 1, 1) := by decide +kernel
theorem dX6_entry_7 : decode cX6_entry 7 = .ok (.invokevirtual 132, 3) := by decide +kernel
theorem dX6_entry_10 : decode cX6_entry 10 = .ok (.ifCond .eq 21, 3) := by decide +kernel
theorem dX6_entry_13 : decode cX6_entry 13 = .ok (.iload_n 2, 1) := by decide +kernel
theorem dX6_entry_14 : decode cX6_entry 14 = .ok (.iconst 0, 1) := by decide +kernel
theorem dX6_entry_15 : decode cX6_entry 15 = .ok (.iconst 3, 1) := by decide +kernel
theorem dX6_entry_16 : decode cX6_entry 16 = .ok (.invokestatic 58, 3) := by decide +kernel
theorem dX6_entry_19 : decode cX6_entry 19 = .ok (.ifCond .eq 12, 3) := by decide +kernel
theorem dX6_entry_22 : decode cX6_entry 22 = .ok (.aload_n 0, 1) := by decide +kernel
theorem dX6_entry_23 : decode cX6_entry 23 = .ok (.iload_n 1, 1) := by decide +kernel
theorem dX6_entry_24 : decode cX6_entry 24 = .ok (.iload_n 2, 1) := by decide +kernel
theorem dX6_entry_25 : decode cX6_entry 25 = .ok (.invokevirtual 136, 3) := by decide +kernel
theorem dX6_entry_28 : decode cX6_entry 28 = .ok (.goto 8, 3) := by decide +kernel
theorem dX6_entry_31 : decode cX6_entry 31 = .ok (.aload_n 0, 1) := by decide +kernel
theorem dX6_entry_32 : decode cX6_entry 32 = .ok (.iconst 1, 1) := by decide +kernel
theorem dX6_entry_33 : decode cX6_entry 33 = .ok (.invokevirtual 62, 3) := by decide +kernel
theorem dX6_entry_36 : decode cX6_entry 36 = .ok (.ireturn, 1) := by decide +kernel
set_option maxRecDepth 20000 in
theorem ggX6_find_X6_entryOf : GoodIn wsX6_find wsX6_entryOf := goodIn_r _ [6, 7, 8, 9, 10, 11, 5, 12, 13, 14, 15, 16, 17, 18, 19, 20, 21, 22, 23, 24, 25, 26, 27, 28, 29, 30, 31, 32, 33, 34] (by decide +kernel) (by decide +kernel)
set_option maxRecDepth 20000 in
theorem gX6_find_X6_entryOf : GoodIn wsX6_find (wsV RX6 113 RX6 yX6_entryOf wsX6_entryOf) := goodIn_app (goodIn_of _ (by decide +kernel)) ggX6_find_X6_entryOf
theorem dX6_find_0 : decode cX6_find 0 = .ok (.aload_n 0, 1) := by decide +kernel
theorem dX6_find_1 : decode cX6_find 1 = .ok (.iconst 0, 1) := by decide +kernel
theorem dX6_find_2 : decode cX6_find 2 = .ok (.putfield 55, 3) := by decide +kernel
theorem dX6_find_5 : decode cX6_find 5 = .ok (.aload_n 0, 1) := by decide +kernel
theorem dX6_find_6 : decode cX6_find 6 = .ok (.lload_n 1, 1) := by decide +kernel
theorem dX6_find_7 : decode cX6_find 7 = .ok (.invokevirtual 113, 3) := by decide +kernel
theorem dX6_find_10 : decode cX6_find 10 = .ok (.ireturn, 1) := by decide +kernel
set_option maxRecDepth 20000 in
theorem ggX6_unlike_X6_at : GoodIn wsX6_unlike wsX6_at := goodIn_r _ [4] (by decide +kernel) (by decide +kernel)
set_option maxRecDepth 20000 in
theorem gX6_unlike_X6_at : GoodIn wsX6_unlike (va_wsS RX6 70 yX6_at wsX6_at) := goodIn_app (goodIn_of _ (by decide +kernel)) ggX6_unlike_X6_at
theorem dX6_unlike_0 : decode cX6_unlike 0 = .ok (.iconst 0, 1) := by decide +kernel
theorem dX6_unlike_1 : decode cX6_unlike 1 = .ok (.istore 4, 2) := by decide +kernel
theorem dX6_unlike_3 : decode cX6_unlike 3 = .ok (.iconst 0, 1) := by decide +kernel
theorem dX6_unlike_4 : decode cX6_unlike 4 = .ok (.istore 5, 2) := by decide +kernel
theorem dX6_unlike_6 : decode cX6_unlike 6 = .ok (.iload 5, 2) := by decide +kernel
theorem dX6_unlike_8 : decode cX6_unlike 8 = .ok (.bipush 16, 2) := by decide +kernel
theorem dX6_unlike_10 : decode cX6_unlike 10 = .ok (.if_icmp .ge 37, 3) := by decide +kernel
theorem dX6_unlike_13 : decode cX6_unlike 13 = .ok (.iload 4, 2) := by decide +kernel
theorem dX6_unlike_15 : decode cX6_unlike 15 = .ok (.lload_n 0, 1) := by decide +kernel
theorem dX6_unlike_16 : decode cX6_unlike 16 = .ok (.iload 5, 2) := by decide +kernel
theorem dX6_unlike_18 : decode cX6_unlike 18 = .ok (.invokestatic 70, 3) := by decide +kernel
theorem dX6_unlike_21 : decode cX6_unlike 21 = .ok (.lload_n 2, 1) := by decide +kernel
theorem dX6_unlike_22 : decode cX6_unlike 22 = .ok (.iload 5, 2) := by decide +kernel
theorem dX6_unlike_24 : decode cX6_unlike 24 = .ok (.invokestatic 70, 3) := by decide +kernel
theorem dX6_unlike_27 : decode cX6_unlike 27 = .ok (.if_icmp .ne 7, 3) := by decide +kernel
theorem dX6_unlike_30 : decode cX6_unlike 30 = .ok (.iconst 0, 1) := by decide +kernel
theorem dX6_unlike_31 : decode cX6_unlike 31 = .ok (.goto 7, 3) := by decide +kernel
theorem dX6_unlike_34 : decode cX6_unlike 34 = .ok (.iconst 1, 1) := by decide +kernel
theorem dX6_unlike_35 : decode cX6_unlike 35 = .ok (.iload 5, 2) := by decide +kernel
theorem dX6_unlike_37 : decode cX6_unlike 37 = .ok (.ishl, 1) := by decide +kernel
theorem dX6_unlike_38 : decode cX6_unlike 38 = .ok (.ior, 1) := by decide +kernel
theorem dX6_unlike_39 : decode cX6_unlike 39 = .ok (.istore 4, 2) := by decide +kernel
theorem dX6_unlike_41 : decode cX6_unlike 41 = .ok (.iinc 5 1, 3) := by decide +kernel
theorem dX6_unlike_44 : decode cX6_unlike 44 = .ok (.goto (-38), 3) := by decide +kernel
theorem dX6_unlike_47 : decode cX6_unlike 47 = .ok (.iload 4, 2) := by decide +kernel
theorem dX6_unlike_49 : decode cX6_unlike 49 = .ok (.ireturn, 1) := by decide +kernel
set_option maxRecDepth 20000 in
theorem ggX6_fit_X6_isIn : GoodIn wsX6_fit wsX6_isIn := goodIn_r _ [8] (by decide +kernel) (by decide +kernel)
set_option maxRecDepth 20000 in
theorem gX6_fit_X6_isIn : GoodIn wsX6_fit (va_wsS RX6 58 yX6_isIn wsX6_isIn) := goodIn_app (goodIn_of _ (by decide +kernel)) ggX6_fit_X6_isIn
set_option maxRecDepth 20000 in
theorem ggX6_fit_X6_no : GoodIn wsX6_fit wsX6_no := goodIn_r _ [12, 1, 19, 20, 21, 22, 23, 24, 25, 26, 27, 28, 29, 30, 31, 32, 33, 34, 35, 36, 37, 38, 39] (by decide +kernel) (by decide +kernel)
set_option maxRecDepth 20000 in
theorem gX6_fit_X6_no : GoodIn wsX6_fit (wsV RX6 62 RX6 yX6_no wsX6_no) := goodIn_app (goodIn_of _ (by decide +kernel)) ggX6_fit_X6_no
set_option maxRecDepth 20000 in
theorem ggX6_fit_X6_unlike : GoodIn wsX6_fit wsX6_unlike := goodIn_r _ [15, 16, 17, 7, 18] (by decide +kernel) (by decide +kernel)
set_option maxRecDepth 20000 in
theorem gX6_fit_X6_unlike : GoodIn wsX6_fit (va_wsS RX6 140 yX6_unlike wsX6_unlike) := goodIn_app (goodIn_of _ (by decide +kernel)) ggX6_fit_X6_unlike
theorem dX6_fit_0 : decode cX6_fit 0 = .ok (.aload_n 0, 1) := by decide +kernel
theorem dX6_fit_1 : decode cX6_fit 1 = .ok (.iconst 0, 1) := by decide +kernel
theorem dX6_fit_2 : decode cX6_fit 2 = .ok (.putfield 55, 3) := by decide +kernel
theorem dX6_fit_5 : decode cX6_fit 5 = .ok (.iload_n 3, 1) := by decide +kernel
theorem dX6_fit_6 : decode cX6_fit 6 = .ok (.iconst 0, 1) := by decide +kernel
theorem dX6_fit_7 : decode cX6_fit 7 = .ok (.ldc 91, 2) := by decide +kernel
theorem dX6_fit_9 : decode cX6_fit 9 = .ok (.invokestatic 58, 3) := by decide +kernel
theorem dX6_fit_12 : decode cX6_fit 12 = .ok (.ifCond .ne 9, 3) := by decide +kernel
theorem dX6_fit_15 : decode cX6_fit 15 = .ok (.aload_n 0, 1) := by decide +kernel
theorem dX6_fit_16 : decode cX6_fit 16 = .ok (.iconst 1, 1) := by decide +kernel
theorem dX6_fit_17 : decode cX6_fit 17 = .ok (.invokevirtual 62, 3) := by decide +kernel
theorem dX6_fit_20 : decode cX6_fit 20 = .ok (.ireturn, 1) := by decide +kernel
theorem dX6_fit_21 : decode cX6_fit 21 = .ok (.iconst 0, 1) := by decide +kernel
theorem dX6_fit_22 : decode cX6_fit 22 = .ok (.istore 4, 2) := by decide +kernel
theorem dX6_fit_24 : decode cX6_fit 24 = .ok (.iload 4, 2) := by decide +kernel
theorem dX6_fit_26 : decode cX6_fit 26 = .ok (.aload_n 0, 1) := by decide +kernel
theorem dX6_fit_27 : decode cX6_fit 27 = .ok (.getfield 110, 3) := by decide +kernel
theorem dX6_fit_30 : decode cX6_fit 30 = .ok (.if_icmp .ge 28, 3) := by decide +kernel
theorem dX6_fit_33 : decode cX6_fit 33 = .ok (.lload_n 1, 1) := by decide +kernel
theorem dX6_fit_34 : decode cX6_fit 34 = .ok (.aload_n 0, 1) := by decide +kernel
theorem dX6_fit_35 : decode cX6_fit 35 = .ok (.getfield 24, 3) := by decide +kernel
theorem dX6_fit_38 : decode cX6_fit 38 = .ok (.iload 4, 2) := by decide +kernel
theorem dX6_fit_40 : decode cX6_fit 40 = .ok (.laload, 1) := by decide +kernel
theorem dX6_fit_41 : decode cX6_fit 41 = .ok (.invokestatic 140, 3) := by decide +kernel
theorem dX6_fit_44 : decode cX6_fit 44 = .ok (.iload_n 3, 1) := by decide +kernel
theorem dX6_fit_45 : decode cX6_fit 45 = .ok (.iand, 1) := by decide +kernel
theorem dX6_fit_46 : decode cX6_fit 46 = .ok (.ifCond .ne 6, 3) := by decide +kernel
theorem dX6_fit_49 : decode cX6_fit 49 = .ok (.iload 4, 2) := by decide +kernel
theorem dX6_fit_51 : decode cX6_fit 51 = .ok (.ireturn, 1) := by decide +kernel
theorem dX6_fit_52 : decode cX6_fit 52 = .ok (.iinc 4 1, 3) := by decide +kernel
theorem dX6_fit_55 : decode cX6_fit 55 = .ok (.goto (-31), 3) := by decide +kernel
theorem dX6_fit_58 : decode cX6_fit 58 = .ok (.iconst (-1), 1) := by decide +kernel
theorem dX6_fit_59 : decode cX6_fit 59 = .ok (.ireturn, 1) := by decide +kernel
set_option maxRecDepth 20000 in
theorem ggX6_near_X6_unlike : GoodIn wsX6_near wsX6_unlike := goodIn_r _ [7, 8, 9, 6, 10] (by decide +kernel) (by decide +kernel)
set_option maxRecDepth 20000 in
theorem gX6_near_X6_unlike : GoodIn wsX6_near (va_wsS RX6 140 yX6_unlike wsX6_unlike) := goodIn_app (goodIn_of _ (by decide +kernel)) ggX6_near_X6_unlike
set_option maxRecDepth 20000 in
theorem ggX6_near_J6_bitCount_0f7a4 : GoodIn wsX6_near wsJ6_bitCount_0f7a4 := goodIn_r _ [14, 15, 16, 17] (by decide +kernel) (by decide +kernel)
set_option maxRecDepth 20000 in
theorem gX6_near_J6_bitCount_0f7a4 : GoodIn wsX6_near (va_wsS RX6 82 yJ6_bitCount_0f7a4 wsJ6_bitCount_0f7a4) := goodIn_app (goodIn_of _ (by decide +kernel)) ggX6_near_J6_bitCount_0f7a4
theorem dX6_near_0 : decode cX6_near 0 = .ok (.aload_n 0, 1) := by decide +kernel
theorem dX6_near_1 : decode cX6_near 1 = .ok (.iconst 0, 1) := by decide +kernel
theorem dX6_near_2 : decode cX6_near 2 = .ok (.putfield 55, 3) := by decide +kernel
theorem dX6_near_5 : decode cX6_near 5 = .ok (.iconst (-1), 1) := by decide +kernel
theorem dX6_near_6 : decode cX6_near 6 = .ok (.istore_n 3, 1) := by decide +kernel
theorem dX6_near_7 : decode cX6_near 7 = .ok (.bipush 17, 2) := by decide +kernel
theorem dX6_near_9 : decode cX6_near 9 = .ok (.istore 4, 2) := by decide +kernel
theorem dX6_near_11 : decode cX6_near 11 = .ok (.iconst 0, 1) := by decide +kernel
theorem dX6_near_12 : decode cX6_near 12 = .ok (.istore 5, 2) := by decide +kernel
theorem dX6_near_14 : decode cX6_near 14 = .ok (.iload 5, 2) := by decide +kernel
theorem dX6_near_16 : decode cX6_near 16 = .ok (.aload_n 0, 1) := by decide +kernel
theorem dX6_near_17 : decode cX6_near 17 = .ok (.getfield 110, 3) := by decide +kernel
theorem dX6_near_20 : decode cX6_near 20 = .ok (.if_icmp .ge 42, 3) := by decide +kernel
theorem dX6_near_23 : decode cX6_near 23 = .ok (.lload_n 1, 1) := by decide +kernel
theorem dX6_near_24 : decode cX6_near 24 = .ok (.aload_n 0, 1) := by decide +kernel
theorem dX6_near_25 : decode cX6_near 25 = .ok (.getfield 24, 3) := by decide +kernel
theorem dX6_near_28 : decode cX6_near 28 = .ok (.iload 5, 2) := by decide +kernel
theorem dX6_near_30 : decode cX6_near 30 = .ok (.laload, 1) := by decide +kernel
theorem dX6_near_31 : decode cX6_near 31 = .ok (.invokestatic 140, 3) := by decide +kernel
theorem dX6_near_34 : decode cX6_near 34 = .ok (.invokestatic 82, 3) := by decide +kernel
theorem dX6_near_37 : decode cX6_near 37 = .ok (.istore 6, 2) := by decide +kernel
theorem dX6_near_39 : decode cX6_near 39 = .ok (.iload 6, 2) := by decide +kernel
theorem dX6_near_41 : decode cX6_near 41 = .ok (.iload 4, 2) := by decide +kernel
theorem dX6_near_43 : decode cX6_near 43 = .ok (.if_icmp .lt 6, 3) := by decide +kernel
theorem dX6_near_46 : decode cX6_near 46 = .ok (.goto 10, 3) := by decide +kernel
theorem dX6_near_49 : decode cX6_near 49 = .ok (.iload 5, 2) := by decide +kernel
theorem dX6_near_51 : decode cX6_near 51 = .ok (.istore_n 3, 1) := by decide +kernel
theorem dX6_near_52 : decode cX6_near 52 = .ok (.iload 6, 2) := by decide +kernel
theorem dX6_near_54 : decode cX6_near 54 = .ok (.istore 4, 2) := by decide +kernel
theorem dX6_near_56 : decode cX6_near 56 = .ok (.iinc 5 1, 3) := by decide +kernel
theorem dX6_near_59 : decode cX6_near 59 = .ok (.goto (-45), 3) := by decide +kernel
theorem dX6_near_62 : decode cX6_near 62 = .ok (.iload_n 3, 1) := by decide +kernel
theorem dX6_near_63 : decode cX6_near 63 = .ok (.ireturn, 1) := by decide +kernel
set_option maxRecDepth 20000 in
theorem ggX6_parts_X6_isEntry : GoodIn wsX6_parts wsX6_isEntry := goodIn_r _ [10, 11, 12, 13, 9, 14, 19, 20, 21, 22, 23, 24, 25, 26, 27, 28, 29, 30, 31, 32, 33, 34, 35, 36, 37, 38, 39] (by decide +kernel) (by decide +kernel)
set_option maxRecDepth 20000 in
theorem gX6_parts_X6_isEntry : GoodIn wsX6_parts (wsV RX6 132 RX6 yX6_isEntry wsX6_isEntry) := goodIn_app (goodIn_of _ (by decide +kernel)) ggX6_parts_X6_isEntry
set_option maxRecDepth 20000 in
theorem ggX6_parts_X6_no : GoodIn wsX6_parts wsX6_no := goodIn_r _ [18, 1, 19, 20, 21, 22, 23, 24, 25, 26, 27, 28, 29, 30, 31, 32, 33, 34, 35, 36, 37, 38, 39] (by decide +kernel) (by decide +kernel)
set_option maxRecDepth 20000 in
theorem gX6_parts_X6_no : GoodIn wsX6_parts (wsV RX6 62 RX6 yX6_no wsX6_no) := goodIn_app (goodIn_of _ (by decide +kernel)) ggX6_parts_X6_no
theorem dX6_parts_0 : decode cX6_parts 0 = .ok (.aload_n 0, 1) := by decide +kernel
theorem dX6_parts_1 : decode cX6_parts 1 = .ok (.iconst 0, 1) := by decide +kernel
theorem dX6_parts_2 : decode cX6_parts 2 = .ok (.putfield 55, 3) := by decide +kernel
theorem dX6_parts_5 : decode cX6_parts 5 = .ok (.aload_n 0, 1) := by decide +kernel
theorem dX6_parts_6 : decode cX6_parts 6 = .ok (.iload_n 1, 1) := by decide +kernel
theorem dX6_parts_7 : decode cX6_parts 7 = .ok (.invokevirtual 132, 3) := by decide +kernel
theorem dX6_parts_10 : decode cX6_parts 10 = .ok (.ifCond .ne 9, 3) := by decide +kernel
theorem dX6_parts_13 : decode cX6_parts 13 = .ok (.aload_n 0, 1) := by decide +kernel
theorem dX6_parts_14 : decode cX6_parts 14 = .ok (.iconst 1, 1) := by decide +kernel
theorem dX6_parts_15 : decode cX6_parts 15 = .ok (.invokevirtual 62, 3) := by decide +kernel
theorem dX6_parts_18 : decode cX6_parts 18 = .ok (.ireturn, 1) := by decide +kernel
theorem dX6_parts_19 : decode cX6_parts 19 = .ok (.iload_n 1, 1) := by decide +kernel
theorem dX6_parts_20 : decode cX6_parts 20 = .ok (.iconst 1, 1) := by decide +kernel
theorem dX6_parts_21 : decode cX6_parts 21 = .ok (.iadd, 1) := by decide +kernel
theorem dX6_parts_22 : decode cX6_parts 22 = .ok (.newarray .boolean, 2) := by decide +kernel
theorem dX6_parts_24 : decode cX6_parts 24 = .ok (.astore_n 2, 1) := by decide +kernel
theorem dX6_parts_25 : decode cX6_parts 25 = .ok (.aload_n 2, 1) := by decide +kernel
theorem dX6_parts_26 : decode cX6_parts 26 = .ok (.iload_n 1, 1) := by decide +kernel
theorem dX6_parts_27 : decode cX6_parts 27 = .ok (.iconst 1, 1) := by decide +kernel
theorem dX6_parts_28 : decode cX6_parts 28 = .ok (.bastore, 1) := by decide +kernel
theorem dX6_parts_29 : decode cX6_parts 29 = .ok (.iconst 0, 1) := by decide +kernel
theorem dX6_parts_30 : decode cX6_parts 30 = .ok (.istore_n 3, 1) := by decide +kernel
theorem dX6_parts_31 : decode cX6_parts 31 = .ok (.iload_n 1, 1) := by decide +kernel
theorem dX6_parts_32 : decode cX6_parts 32 = .ok (.istore 4, 2) := by decide +kernel
theorem dX6_parts_34 : decode cX6_parts 34 = .ok (.iload 4, 2) := by decide +kernel
theorem dX6_parts_36 : decode cX6_parts 36 = .ok (.ifCond .lt 66, 3) := by decide +kernel
theorem dX6_parts_39 : decode cX6_parts 39 = .ok (.aload_n 2, 1) := by decide +kernel
theorem dX6_parts_40 : decode cX6_parts 40 = .ok (.iload 4, 2) := by decide +kernel
theorem dX6_parts_42 : decode cX6_parts 42 = .ok (.baload, 1) := by decide +kernel
theorem dX6_parts_43 : decode cX6_parts 43 = .ok (.ifCond .ne 6, 3) := by decide +kernel
theorem dX6_parts_46 : decode cX6_parts 46 = .ok (.goto 50, 3) := by decide +kernel
theorem dX6_parts_49 : decode cX6_parts 49 = .ok (.iinc 3 1, 3) := by decide +kernel
theorem dX6_parts_52 : decode cX6_parts 52 = .ok (.aload_n 0, 1) := by decide +kernel
theorem dX6_parts_53 : decode cX6_parts 53 = .ok (.getfield 31, 3) := by decide +kernel
theorem dX6_parts_56 : decode cX6_parts 56 = .ok (.iload 4, 2) := by decide +kernel
theorem dX6_parts_58 : decode cX6_parts 58 = .ok (.iaload, 1) := by decide +kernel
theorem dX6_parts_59 : decode cX6_parts 59 = .ok (.ifCond .ge 6, 3) := by decide +kernel
theorem dX6_parts_62 : decode cX6_parts 62 = .ok (.goto 34, 3) := by decide +kernel
theorem dX6_parts_65 : decode cX6_parts 65 = .ok (.aload_n 2, 1) := by decide +kernel
theorem dX6_parts_66 : decode cX6_parts 66 = .ok (.aload_n 0, 1) := by decide +kernel
theorem dX6_parts_67 : decode cX6_parts 67 = .ok (.getfield 34, 3) := by decide +kernel
theorem dX6_parts_70 : decode cX6_parts 70 = .ok (.iload 4, 2) := by decide +kernel
theorem dX6_parts_72 : decode cX6_parts 72 = .ok (.iaload, 1) := by decide +kernel
theorem dX6_parts_73 : decode cX6_parts 73 = .ok (.iconst 1, 1) := by decide +kernel
theorem dX6_parts_74 : decode cX6_parts 74 = .ok (.bastore, 1) := by decide +kernel
theorem dX6_parts_75 : decode cX6_parts 75 = .ok (.aload_n 0, 1) := by decide +kernel
theorem dX6_parts_76 : decode cX6_parts 76 = .ok (.getfield 37, 3) := by decide +kernel
theorem dX6_parts_79 : decode cX6_parts 79 = .ok (.iload 4, 2) := by decide +kernel
theorem dX6_parts_81 : decode cX6_parts 81 = .ok (.iaload, 1) := by decide +kernel
theorem dX6_parts_82 : decode cX6_parts 82 = .ok (.iconst (-1), 1) := by decide +kernel
theorem dX6_parts_83 : decode cX6_parts 83 = .ok (.if_icmp .eq 13, 3) := by decide +kernel
theorem dX6_parts_86 : decode cX6_parts 86 = .ok (.aload_n 2, 1) := by decide +kernel
theorem dX6_parts_87 : decode cX6_parts 87 = .ok (.aload_n 0, 1) := by decide +kernel
theorem dX6_parts_88 : decode cX6_parts 88 = .ok (.getfield 37, 3) := by decide +kernel
theorem dX6_parts_91 : decode cX6_parts 91 = .ok (.iload 4, 2) := by decide +kernel
theorem dX6_parts_93 : decode cX6_parts 93 = .ok (.iaload, 1) := by decide +kernel
theorem dX6_parts_94 : decode cX6_parts 94 = .ok (.iconst 1, 1) := by decide +kernel
theorem dX6_parts_95 : decode cX6_parts 95 = .ok (.bastore, 1) := by decide +kernel
theorem dX6_parts_96 : decode cX6_parts 96 = .ok (.iinc 4 (-1), 3) := by decide +kernel
theorem dX6_parts_99 : decode cX6_parts 99 = .ok (.goto (-65), 3) := by decide +kernel
theorem dX6_parts_102 : decode cX6_parts 102 = .ok (.iload_n 3, 1) := by decide +kernel
theorem dX6_parts_103 : decode cX6_parts 103 = .ok (.ireturn, 1) := by decide +kernel
theorem dX6_meanCost_0 : decode cX6_meanCost 0 = .ok (.aload_n 0, 1) := by decide +kernel
theorem dX6_meanCost_1 : decode cX6_meanCost 1 = .ok (.iconst 0, 1) := by decide +kernel
theorem dX6_meanCost_2 : decode cX6_meanCost 2 = .ok (.putfield 55, 3) := by decide +kernel
theorem dX6_meanCost_5 : decode cX6_meanCost 5 = .ok (.iconst 0, 1) := by decide +kernel
theorem dX6_meanCost_6 : decode cX6_meanCost 6 = .ok (.istore_n 1, 1) := by decide +kernel
theorem dX6_meanCost_7 : decode cX6_meanCost 7 = .ok (.iconst 0, 1) := by decide +kernel
theorem dX6_meanCost_8 : decode cX6_meanCost 8 = .ok (.istore_n 2, 1) := by decide +kernel
theorem dX6_meanCost_9 : decode cX6_meanCost 9 = .ok (.iload_n 2, 1) := by decide +kernel
theorem dX6_meanCost_10 : decode cX6_meanCost 10 = .ok (.aload_n 0, 1) := by decide +kernel
theorem dX6_meanCost_11 : decode cX6_meanCost 11 = .ok (.getfield 110, 3) := by decide +kernel
theorem dX6_meanCost_14 : decode cX6_meanCost 14 = .ok (.if_icmp .ge 18, 3) := by decide +kernel
theorem dX6_meanCost_17 : decode cX6_meanCost 17 = .ok (.iload_n 1, 1) := by decide +kernel
theorem dX6_meanCost_18 : decode cX6_meanCost 18 = .ok (.aload_n 0, 1) := by decide +kernel
theorem dX6_meanCost_19 : decode cX6_meanCost 19 = .ok (.getfield 28, 3) := by decide +kernel
theorem dX6_meanCost_22 : decode cX6_meanCost 22 = .ok (.iload_n 2, 1) := by decide +kernel
theorem dX6_meanCost_23 : decode cX6_meanCost 23 = .ok (.iaload, 1) := by decide +kernel
theorem dX6_meanCost_24 : decode cX6_meanCost 24 = .ok (.iadd, 1) := by decide +kernel
theorem dX6_meanCost_25 : decode cX6_meanCost 25 = .ok (.istore_n 1, 1) := by decide +kernel
theorem dX6_meanCost_26 : decode cX6_meanCost 26 = .ok (.iinc 2 1, 3) := by decide +kernel
theorem dX6_meanCost_29 : decode cX6_meanCost 29 = .ok (.goto (-20), 3) := by decide +kernel
theorem dX6_meanCost_32 : decode cX6_meanCost 32 = .ok (.aload_n 0, 1) := by decide +kernel
theorem dX6_meanCost_33 : decode cX6_meanCost 33 = .ok (.getfield 110, 3) := by decide +kernel
theorem dX6_meanCost_36 : decode cX6_meanCost 36 = .ok (.ifCond .ne 7, 3) := by decide +kernel
theorem dX6_meanCost_39 : decode cX6_meanCost 39 = .ok (.dconst 0, 1) := by decide +kernel
theorem dX6_meanCost_40 : decode cX6_meanCost 40 = .ok (.goto 11, 3) := by decide +kernel
theorem dX6_meanCost_43 : decode cX6_meanCost 43 = .ok (.iload_n 1, 1) := by decide +kernel
theorem dX6_meanCost_44 : decode cX6_meanCost 44 = .ok (.i2d, 1) := by decide +kernel
theorem dX6_meanCost_45 : decode cX6_meanCost 45 = .ok (.aload_n 0, 1) := by decide +kernel
theorem dX6_meanCost_46 : decode cX6_meanCost 46 = .ok (.getfield 110, 3) := by decide +kernel
theorem dX6_meanCost_49 : decode cX6_meanCost 49 = .ok (.i2d, 1) := by decide +kernel
theorem dX6_meanCost_50 : decode cX6_meanCost 50 = .ok (.ddiv, 1) := by decide +kernel
theorem dX6_meanCost_51 : decode cX6_meanCost 51 = .ok (.dreturn, 1) := by decide +kernel
theorem dX6_put_0 : decode cX6_put 0 = .ok (.aload_n 0, 1) := by decide +kernel
theorem dX6_put_1 : decode cX6_put 1 = .ok (.getfield 49, 3) := by decide +kernel
theorem dX6_put_4 : decode cX6_put 4 = .ok (.aload_n 0, 1) := by decide +kernel
theorem dX6_put_5 : decode cX6_put 5 = .ok (.getfield 144, 3) := by decide +kernel
theorem dX6_put_8 : decode cX6_put 8 = .ok (.iload_n 1, 1) := by decide +kernel
theorem dX6_put_9 : decode cX6_put 9 = .ok (.iastore, 1) := by decide +kernel
theorem dX6_put_10 : decode cX6_put 10 = .ok (.aload_n 0, 1) := by decide +kernel
theorem dX6_put_11 : decode cX6_put 11 = .ok (.dup, 1) := by decide +kernel
theorem dX6_put_12 : decode cX6_put 12 = .ok (.getfield 144, 3) := by decide +kernel
theorem dX6_put_15 : decode cX6_put 15 = .ok (.iconst 1, 1) := by decide +kernel
theorem dX6_put_16 : decode cX6_put 16 = .ok (.iadd, 1) := by decide +kernel
theorem dX6_put_17 : decode cX6_put 17 = .ok (.putfield 144, 3) := by decide +kernel
theorem dX6_put_20 : decode cX6_put 20 = .ok (.return_, 1) := by decide +kernel
set_option maxRecDepth 20000 in
theorem ggX6_putArgument_X6_put : GoodIn wsX6_putArgument wsX6_put := goodIn_r _ [6, 7, 8, 19, 20, 21, 22, 23, 24, 25, 26, 27, 28, 29, 30, 31, 32, 33, 34, 35, 36, 37, 38, 39] (by decide +kernel) (by decide +kernel)
set_option maxRecDepth 20000 in
theorem gX6_putArgument_X6_put : GoodIn wsX6_putArgument (wsV RX6 147 RX6 yX6_put wsX6_put) := goodIn_app (goodIn_of _ (by decide +kernel)) ggX6_putArgument_X6_put
set_option maxRecDepth 20000 in
theorem ggX6_putArgument_X6_putEntry : GoodIn wsX6_putArgument wsX6_putEntry := goodIn_r _ [12, 1, 13, 14, 15, 2, 3, 4, 5, 6, 7, 8, 16, 17, 18, 0, 9, 10, 11, 19, 20, 21, 22, 23, 24, 25, 26, 27, 28, 29, 30, 31, 32, 33, 34, 35, 36, 37, 38, 39] (by decide +kernel) (by decide +kernel)
set_option maxRecDepth 20000 in
theorem gX6_putArgument_X6_putEntry : GoodIn wsX6_putArgument (wsV RX6 151 RX6 yX6_putEntry wsX6_putEntry) := goodIn_app (goodIn_of _ (by decide +kernel)) ggX6_putArgument_X6_putEntry
theorem dX6_putArgument_0 : decode cX6_putArgument 0 = .ok (.aload_n 0, 1) := by decide +kernel
theorem dX6_putArgument_1 : decode cX6_putArgument 1 = .ok (.getfield 31, 3) := by decide +kernel
theorem dX6_putArgument_4 : decode cX6_putArgument 4 = .ok (.iload_n 1, 1) := by decide +kernel
theorem dX6_putArgument_5 : decode cX6_putArgument 5 = .ok (.iaload, 1) := by decide +kernel
theorem dX6_putArgument_6 : decode cX6_putArgument 6 = .ok (.iconst 4, 1) := by decide +kernel
theorem dX6_putArgument_7 : decode cX6_putArgument 7 = .ok (.if_icmp .lt 7, 3) := by decide +kernel
theorem dX6_putArgument_10 : decode cX6_putArgument 10 = .ok (.iconst 1, 1) := by decide +kernel
theorem dX6_putArgument_11 : decode cX6_putArgument 11 = .ok (.goto 4, 3) := by decide +kernel
theorem dX6_putArgument_14 : decode cX6_putArgument 14 = .ok (.iconst 0, 1) := by decide +kernel
theorem dX6_putArgument_15 : decode cX6_putArgument 15 = .ok (.istore_n 2, 1) := by decide +kernel
theorem dX6_putArgument_16 : decode cX6_putArgument 16 = .ok (.iload_n 2, 1) := by decide +kernel
theorem dX6_putArgument_17 : decode cX6_putArgument 17 = .ok (.ifCond .eq 9, 3) := by decide +kernel
theorem dX6_putArgument_20 : decode cX6_putArgument 20 = .ok (.aload_n 0, 1) := by decide +kernel
theorem dX6_putArgument_21 : decode cX6_putArgument 21 = .ok (.bipush 40, 2) := by decide +kernel
theorem dX6_putArgument_23 : decode cX6_putArgument 23 = .ok (.invokevirtual 147, 3) := by decide +kernel
theorem dX6_putArgument_26 : decode cX6_putArgument 26 = .ok (.aload_n 0, 1) := by decide +kernel
theorem dX6_putArgument_27 : decode cX6_putArgument 27 = .ok (.iload_n 1, 1) := by decide +kernel
theorem dX6_putArgument_28 : decode cX6_putArgument 28 = .ok (.invokevirtual 151, 3) := by decide +kernel
theorem dX6_putArgument_31 : decode cX6_putArgument 31 = .ok (.iload_n 2, 1) := by decide +kernel
theorem dX6_putArgument_32 : decode cX6_putArgument 32 = .ok (.ifCond .eq 9, 3) := by decide +kernel
theorem dX6_putArgument_35 : decode cX6_putArgument 35 = .ok (.aload_n 0, 1) := by decide +kernel
theorem dX6_putArgument_36 : decode cX6_putArgument 36 = .ok (.bipush 41, 2) := by decide +kernel
theorem dX6_putArgument_38 : decode cX6_putArgument 38 = .ok (.invokevirtual 147, 3) := by decide +kernel
theorem dX6_putArgument_41 : decode cX6_putArgument 41 = .ok (.return_, 1) := by decide +kernel
set_option maxRecDepth 20000 in
theorem ggX6_putEntry_X6_put : GoodIn wsX6_putEntry wsX6_put := goodIn_r _ [9, 10, 11, 19, 20, 21, 22, 23, 24, 25, 26, 27, 28, 29, 30, 31, 32, 33, 34, 35, 36, 37, 38, 39] (by decide +kernel) (by decide +kernel)
set_option maxRecDepth 20000 in
theorem gX6_putEntry_X6_put : GoodIn wsX6_putEntry (wsV RX6 147 RX6 yX6_put wsX6_put) := goodIn_app (goodIn_of _ (by decide +kernel)) ggX6_putEntry_X6_put
set_option maxRecDepth 20000 in
theorem ggX6_putEntry_X6_putArgument : GoodIn wsX6_putEntry wsX6_putArgument := goodIn_r _ [15, 1, 5, 6, 7, 8, 9, 10, 11, 16, 17, 18, 0, 2, 3, 4, 12, 13, 14, 19, 20, 21, 22, 23, 24, 25, 26, 27, 28, 29, 30, 31, 32, 33, 34, 35, 36, 37, 38, 39] (by decide +kernel) (by decide +kernel)
set_option maxRecDepth 20000 in
theorem gX6_putEntry_X6_putArgument : GoodIn wsX6_putEntry (wsV RX6 154 RX6 yX6_putArgument wsX6_putArgument) := goodIn_app (goodIn_of _ (by decide +kernel)) ggX6_putEntry_X6_putArgument
theorem dX6_putEntry_0 : decode cX6_putEntry 0 = .ok (.aload_n 0, 1) := by decide +kernel
theorem dX6_putEntry_1 : decode cX6_putEntry 1 = .ok (.getfield 31, 3) := by decide +kernel
theorem dX6_putEntry_4 : decode cX6_putEntry 4 = .ok (.iload_n 1, 1) := by decide +kernel
theorem dX6_putEntry_5 : decode cX6_putEntry 5 = .ok (.iaload, 1) := by decide +kernel
theorem dX6_putEntry_6 : decode cX6_putEntry 6 = .ok (.istore_n 2, 1) := by decide +kernel
theorem dX6_putEntry_7 : decode cX6_putEntry 7 = .ok (.iload_n 2, 1) := by decide +kernel
theorem dX6_putEntry_8 : decode cX6_putEntry 8 = .ok (.iconst (-1), 1) := by decide +kernel
theorem dX6_putEntry_9 : decode cX6_putEntry 9 = .ok (.if_icmp .ne 12, 3) := by decide +kernel
theorem dX6_putEntry_12 : decode cX6_putEntry 12 = .ok (.aload_n 0, 1) := by decide +kernel
theorem dX6_putEntry_13 : decode cX6_putEntry 13 = .ok (.bipush 120, 2) := by decide +kernel
theorem dX6_putEntry_15 : decode cX6_putEntry 15 = .ok (.invokevirtual 147, 3) := by decide +kernel
theorem dX6_putEntry_18 : decode cX6_putEntry 18 = .ok (.goto 93, 3) := by decide +kernel
theorem dX6_putEntry_21 : decode cX6_putEntry 21 = .ok (.iload_n 2, 1) := by decide +kernel
theorem dX6_putEntry_22 : decode cX6_putEntry 22 = .ok (.bipush (-2), 2) := by decide +kernel
theorem dX6_putEntry_24 : decode cX6_putEntry 24 = .ok (.if_icmp .ne 39, 3) := by decide +kernel
theorem dX6_putEntry_27 : decode cX6_putEntry 27 = .ok (.aload_n 0, 1) := by decide +kernel
theorem dX6_putEntry_28 : decode cX6_putEntry 28 = .ok (.getfield 34, 3) := by decide +kernel
theorem dX6_putEntry_31 : decode cX6_putEntry 31 = .ok (.iload_n 1, 1) := by decide +kernel
theorem dX6_putEntry_32 : decode cX6_putEntry 32 = .ok (.iaload, 1) := by decide +kernel
theorem dX6_putEntry_33 : decode cX6_putEntry 33 = .ok (.bipush 9, 2) := by decide +kernel
theorem dX6_putEntry_35 : decode cX6_putEntry 35 = .ok (.if_icmp .le 9, 3) := by decide +kernel
theorem dX6_putEntry_38 : decode cX6_putEntry 38 = .ok (.aload_n 0, 1) := by decide +kernel
theorem dX6_putEntry_39 : decode cX6_putEntry 39 = .ok (.bipush 49, 2) := by decide +kernel
theorem dX6_putEntry_41 : decode cX6_putEntry 41 = .ok (.invokevirtual 147, 3) := by decide +kernel
theorem dX6_putEntry_44 : decode cX6_putEntry 44 = .ok (.aload_n 0, 1) := by decide +kernel
theorem dX6_putEntry_45 : decode cX6_putEntry 45 = .ok (.bipush 48, 2) := by decide +kernel
theorem dX6_putEntry_47 : decode cX6_putEntry 47 = .ok (.aload_n 0, 1) := by decide +kernel
theorem dX6_putEntry_48 : decode cX6_putEntry 48 = .ok (.getfield 34, 3) := by decide +kernel
theorem dX6_putEntry_51 : decode cX6_putEntry 51 = .ok (.iload_n 1, 1) := by decide +kernel
theorem dX6_putEntry_52 : decode cX6_putEntry 52 = .ok (.iaload, 1) := by decide +kernel
theorem dX6_putEntry_53 : decode cX6_putEntry 53 = .ok (.bipush 10, 2) := by decide +kernel
theorem dX6_putEntry_55 : decode cX6_putEntry 55 = .ok (.irem, 1) := by decide +kernel
theorem dX6_putEntry_56 : decode cX6_putEntry 56 = .ok (.iadd, 1) := by decide +kernel
theorem dX6_putEntry_57 : decode cX6_putEntry 57 = .ok (.invokevirtual 147, 3) := by decide +kernel
theorem dX6_putEntry_60 : decode cX6_putEntry 60 = .ok (.goto 51, 3) := by decide +kernel
theorem dX6_putEntry_63 : decode cX6_putEntry 63 = .ok (.iload_n 2, 1) := by decide +kernel
theorem dX6_putEntry_64 : decode cX6_putEntry 64 = .ok (.iconst 4, 1) := by decide +kernel
theorem dX6_putEntry_65 : decode cX6_putEntry 65 = .ok (.if_icmp .lt 13, 3) := by decide +kernel
theorem dX6_putEntry_68 : decode cX6_putEntry 68 = .ok (.aload_n 0, 1) := by decide +kernel
theorem dX6_putEntry_69 : decode cX6_putEntry 69 = .ok (.aload_n 0, 1) := by decide +kernel
theorem dX6_putEntry_70 : decode cX6_putEntry 70 = .ok (.getfield 34, 3) := by decide +kernel
theorem dX6_putEntry_73 : decode cX6_putEntry 73 = .ok (.iload_n 1, 1) := by decide +kernel
theorem dX6_putEntry_74 : decode cX6_putEntry 74 = .ok (.iaload, 1) := by decide +kernel
theorem dX6_putEntry_75 : decode cX6_putEntry 75 = .ok (.invokevirtual 154, 3) := by decide +kernel
theorem dX6_putEntry_78 : decode cX6_putEntry 78 = .ok (.aload_n 0, 1) := by decide +kernel
theorem dX6_putEntry_79 : decode cX6_putEntry 79 = .ok (.getstatic 157, 3) := by decide +kernel
theorem dX6_putEntry_82 : decode cX6_putEntry 82 = .ok (.iload_n 2, 1) := by decide +kernel
theorem dX6_putEntry_83 : decode cX6_putEntry 83 = .ok (.iaload, 1) := by decide +kernel
theorem dX6_putEntry_84 : decode cX6_putEntry 84 = .ok (.invokevirtual 147, 3) := by decide +kernel
theorem dX6_putEntry_87 : decode cX6_putEntry 87 = .ok (.aload_n 0, 1) := by decide +kernel
theorem dX6_putEntry_88 : decode cX6_putEntry 88 = .ok (.iload_n 2, 1) := by decide +kernel
theorem dX6_putEntry_89 : decode cX6_putEntry 89 = .ok (.iconst 4, 1) := by decide +kernel
theorem dX6_putEntry_90 : decode cX6_putEntry 90 = .ok (.if_icmp .lt 12, 3) := by decide +kernel
theorem dX6_putEntry_93 : decode cX6_putEntry 93 = .ok (.aload_n 0, 1) := by decide +kernel
theorem dX6_putEntry_94 : decode cX6_putEntry 94 = .ok (.getfield 37, 3) := by decide +kernel
theorem dX6_putEntry_97 : decode cX6_putEntry 97 = .ok (.iload_n 1, 1) := by decide +kernel
theorem dX6_putEntry_98 : decode cX6_putEntry 98 = .ok (.iaload, 1) := by decide +kernel
theorem dX6_putEntry_99 : decode cX6_putEntry 99 = .ok (.goto 9, 3) := by decide +kernel
theorem dX6_putEntry_102 : decode cX6_putEntry 102 = .ok (.aload_n 0, 1) := by decide +kernel
theorem dX6_putEntry_103 : decode cX6_putEntry 103 = .ok (.getfield 34, 3) := by decide +kernel
theorem dX6_putEntry_106 : decode cX6_putEntry 106 = .ok (.iload_n 1, 1) := by decide +kernel
theorem dX6_putEntry_107 : decode cX6_putEntry 107 = .ok (.iaload, 1) := by decide +kernel
theorem dX6_putEntry_108 : decode cX6_putEntry 108 = .ok (.invokevirtual 154, 3) := by decide +kernel
theorem dX6_putEntry_111 : decode cX6_putEntry 111 = .ok (.return_, 1) := by decide +kernel
set_option maxRecDepth 20000 in
theorem ggX6_write_X6_isEntry : GoodIn wsX6_write wsX6_isEntry := goodIn_r _ [7, 8, 9, 10, 6, 11, 33, 34, 35, 36, 37, 38, 39, 40, 41, 42, 43, 44, 45, 46, 47, 48, 49, 50, 51, 52, 53] (by decide +kernel) (by decide +kernel)
set_option maxRecDepth 20000 in
theorem gX6_write_X6_isEntry : GoodIn wsX6_write (wsV RX6 132 RX6 yX6_isEntry wsX6_isEntry) := goodIn_app (goodIn_of _ (by decide +kernel)) ggX6_write_X6_isEntry
set_option maxRecDepth 20000 in
theorem ggX6_write_X6_no : GoodIn wsX6_write wsX6_no := goodIn_r _ [15, 1, 33, 34, 35, 36, 37, 38, 39, 40, 41, 42, 43, 44, 45, 46, 47, 48, 49, 50, 51, 52, 53] (by decide +kernel) (by decide +kernel)
set_option maxRecDepth 20000 in
theorem gX6_write_X6_no : GoodIn wsX6_write (wsV RX6 62 RX6 yX6_no wsX6_no) := goodIn_app (goodIn_of _ (by decide +kernel)) ggX6_write_X6_no
set_option maxRecDepth 20000 in
theorem ggX6_write_X6_putEntry : GoodIn wsX6_write wsX6_putEntry := goodIn_r _ [19, 20, 21, 22, 23, 24, 25, 26, 6, 27, 28, 2, 29, 30, 31, 32, 16, 17, 18, 33, 34, 35, 36, 37, 38, 39, 40, 41, 42, 43, 44, 45, 46, 47, 48, 49, 50, 51, 52, 53] (by decide +kernel) (by decide +kernel)
set_option maxRecDepth 20000 in
theorem gX6_write_X6_putEntry : GoodIn wsX6_write (wsV RX6 151 RX6 yX6_putEntry wsX6_putEntry) := goodIn_app (goodIn_of _ (by decide +kernel)) ggX6_write_X6_putEntry
theorem dX6_write_0 : decode cX6_write 0 = .ok (.aload_n 0, 1) := by decide +kernel
theorem dX6_write_1 : decode cX6_write 1 = .ok (.iconst 0, 1) := by decide +kernel
theorem dX6_write_2 : decode cX6_write 2 = .ok (.putfield 55, 3) := by decide +kernel
theorem dX6_write_5 : decode cX6_write 5 = .ok (.aload_n 0, 1) := by decide +kernel
theorem dX6_write_6 : decode cX6_write 6 = .ok (.iload_n 1, 1) := by decide +kernel
theorem dX6_write_7 : decode cX6_write 7 = .ok (.invokevirtual 132, 3) := by decide +kernel
theorem dX6_write_10 : decode cX6_write 10 = .ok (.ifCond .ne 9, 3) := by decide +kernel
theorem dX6_write_13 : decode cX6_write 13 = .ok (.aload_n 0, 1) := by decide +kernel
theorem dX6_write_14 : decode cX6_write 14 = .ok (.iconst 1, 1) := by decide +kernel
theorem dX6_write_15 : decode cX6_write 15 = .ok (.invokevirtual 62, 3) := by decide +kernel
theorem dX6_write_18 : decode cX6_write 18 = .ok (.ireturn, 1) := by decide +kernel
theorem dX6_write_19 : decode cX6_write 19 = .ok (.aload_n 0, 1) := by decide +kernel
theorem dX6_write_20 : decode cX6_write 20 = .ok (.iconst 0, 1) := by decide +kernel
theorem dX6_write_21 : decode cX6_write 21 = .ok (.putfield 144, 3) := by decide +kernel
theorem dX6_write_24 : decode cX6_write 24 = .ok (.aload_n 0, 1) := by decide +kernel
theorem dX6_write_25 : decode cX6_write 25 = .ok (.iload_n 1, 1) := by decide +kernel
theorem dX6_write_26 : decode cX6_write 26 = .ok (.invokevirtual 151, 3) := by decide +kernel
theorem dX6_write_29 : decode cX6_write 29 = .ok (.aload_n 0, 1) := by decide +kernel
theorem dX6_write_30 : decode cX6_write 30 = .ok (.getfield 144, 3) := by decide +kernel
theorem dX6_write_33 : decode cX6_write 33 = .ok (.ireturn, 1) := by decide +kernel
set_option maxRecDepth 20000 in
theorem ggX6_byteAt_X6_isIn : GoodIn wsX6_byteAt wsX6_isIn := goodIn_r _ [7] (by decide +kernel) (by decide +kernel)
set_option maxRecDepth 20000 in
theorem gX6_byteAt_X6_isIn : GoodIn wsX6_byteAt (va_wsS RX6 58 yX6_isIn wsX6_isIn) := goodIn_app (goodIn_of _ (by decide +kernel)) ggX6_byteAt_X6_isIn
set_option maxRecDepth 20000 in
theorem ggX6_byteAt_X6_no : GoodIn wsX6_byteAt wsX6_no := goodIn_r _ [11, 1, 12, 13, 14, 15, 16, 17, 18, 19, 20, 21, 22, 23, 24, 25, 26, 27, 28, 29, 30, 31, 32] (by decide +kernel) (by decide +kernel)
set_option maxRecDepth 20000 in
theorem gX6_byteAt_X6_no : GoodIn wsX6_byteAt (wsV RX6 62 RX6 yX6_no wsX6_no) := goodIn_app (goodIn_of _ (by decide +kernel)) ggX6_byteAt_X6_no
theorem dX6_byteAt_0 : decode cX6_byteAt 0 = .ok (.aload_n 0, 1) := by decide +kernel
theorem dX6_byteAt_1 : decode cX6_byteAt 1 = .ok (.iconst 0, 1) := by decide +kernel
theorem dX6_byteAt_2 : decode cX6_byteAt 2 = .ok (.putfield 55, 3) := by decide +kernel
theorem dX6_byteAt_5 : decode cX6_byteAt 5 = .ok (.iload_n 1, 1) := by decide +kernel
theorem dX6_byteAt_6 : decode cX6_byteAt 6 = .ok (.iconst 0, 1) := by decide +kernel
theorem dX6_byteAt_7 : decode cX6_byteAt 7 = .ok (.aload_n 0, 1) := by decide +kernel
theorem dX6_byteAt_8 : decode cX6_byteAt 8 = .ok (.getfield 144, 3) := by decide +kernel
theorem dX6_byteAt_11 : decode cX6_byteAt 11 = .ok (.iconst 1, 1) := by decide +kernel
theorem dX6_byteAt_12 : decode cX6_byteAt 12 = .ok (.isub, 1) := by decide +kernel
theorem dX6_byteAt_13 : decode cX6_byteAt 13 = .ok (.invokestatic 58, 3) := by decide +kernel
theorem dX6_byteAt_16 : decode cX6_byteAt 16 = .ok (.ifCond .eq 12, 3) := by decide +kernel
theorem dX6_byteAt_19 : decode cX6_byteAt 19 = .ok (.aload_n 0, 1) := by decide +kernel
theorem dX6_byteAt_20 : decode cX6_byteAt 20 = .ok (.getfield 49, 3) := by decide +kernel
theorem dX6_byteAt_23 : decode cX6_byteAt 23 = .ok (.iload_n 1, 1) := by decide +kernel
theorem dX6_byteAt_24 : decode cX6_byteAt 24 = .ok (.iaload, 1) := by decide +kernel
theorem dX6_byteAt_25 : decode cX6_byteAt 25 = .ok (.goto 8, 3) := by decide +kernel
theorem dX6_byteAt_28 : decode cX6_byteAt 28 = .ok (.aload_n 0, 1) := by decide +kernel
theorem dX6_byteAt_29 : decode cX6_byteAt 29 = .ok (.iconst 1, 1) := by decide +kernel
theorem dX6_byteAt_30 : decode cX6_byteAt 30 = .ok (.invokevirtual 62, 3) := by decide +kernel
theorem dX6_byteAt_33 : decode cX6_byteAt 33 = .ok (.ireturn, 1) := by decide +kernel
set_option maxRecDepth 20000 in
theorem ggX6_feed_X6_no : GoodIn wsX6_feed wsX6_no := goodIn_r _ [9, 1, 10, 11, 12, 13, 14, 15, 16, 17, 18, 19, 20, 21, 22, 23, 24, 25, 26, 27, 28, 29, 30] (by decide +kernel) (by decide +kernel)
set_option maxRecDepth 20000 in
theorem gX6_feed_X6_no : GoodIn wsX6_feed (wsV RX6 62 RX6 yX6_no wsX6_no) := goodIn_app (goodIn_of _ (by decide +kernel)) ggX6_feed_X6_no
theorem dX6_feed_0 : decode cX6_feed 0 = .ok (.aload_n 0, 1) := by decide +kernel
theorem dX6_feed_1 : decode cX6_feed 1 = .ok (.iconst 0, 1) := by decide +kernel
theorem dX6_feed_2 : decode cX6_feed 2 = .ok (.putfield 55, 3) := by decide +kernel
theorem dX6_feed_5 : decode cX6_feed 5 = .ok (.aload_n 0, 1) := by decide +kernel
theorem dX6_feed_6 : decode cX6_feed 6 = .ok (.getfield 160, 3) := by decide +kernel
theorem dX6_feed_9 : decode cX6_feed 9 = .ok (.bipush 20, 2) := by decide +kernel
theorem dX6_feed_11 : decode cX6_feed 11 = .ok (.iadd, 1) := by decide +kernel
theorem dX6_feed_12 : decode cX6_feed 12 = .ok (.sipush 300, 3) := by decide +kernel
theorem dX6_feed_15 : decode cX6_feed 15 = .ok (.if_icmp .le 9, 3) := by decide +kernel
theorem dX6_feed_18 : decode cX6_feed 18 = .ok (.aload_n 0, 1) := by decide +kernel
theorem dX6_feed_19 : decode cX6_feed 19 = .ok (.iconst 1, 1) := by decide +kernel
theorem dX6_feed_20 : decode cX6_feed 20 = .ok (.invokevirtual 62, 3) := by decide +kernel
theorem dX6_feed_23 : decode cX6_feed 23 = .ok (.ireturn, 1) := by decide +kernel
theorem dX6_feed_24 : decode cX6_feed 24 = .ok (.iconst 5, 1) := by decide +kernel
theorem dX6_feed_25 : decode cX6_feed 25 = .ok (.newarray .int, 2) := by decide +kernel
theorem dX6_feed_27 : decode cX6_feed 27 = .ok (.dup, 1) := by decide +kernel
theorem dX6_feed_28 : decode cX6_feed 28 = .ok (.iconst 0, 1) := by decide +kernel
theorem dX6_feed_29 : decode cX6_feed 29 = .ok (.iload_n 1, 1) := by decide +kernel
theorem dX6_feed_30 : decode cX6_feed 30 = .ok (.iastore, 1) := by decide +kernel
theorem dX6_feed_31 : decode cX6_feed 31 = .ok (.dup, 1) := by decide +kernel
theorem dX6_feed_32 : decode cX6_feed 32 = .ok (.iconst 1, 1) := by decide +kernel
theorem dX6_feed_33 : decode cX6_feed 33 = .ok (.iload_n 2, 1) := by decide +kernel
theorem dX6_feed_34 : decode cX6_feed 34 = .ok (.iastore, 1) := by decide +kernel
theorem dX6_feed_35 : decode cX6_feed 35 = .ok (.dup, 1) := by decide +kernel
theorem dX6_feed_36 : decode cX6_feed 36 = .ok (.iconst 2, 1) := by decide +kernel
theorem dX6_feed_37 : decode cX6_feed 37 = .ok (.iload_n 3, 1) := by decide +kernel
theorem dX6_feed_38 : decode cX6_feed 38 = .ok (.iastore, 1) := by decide +kernel
theorem dX6_feed_39 : decode cX6_feed 39 = .ok (.dup, 1) := by decide +kernel
theorem dX6_feed_40 : decode cX6_feed 40 = .ok (.iconst 3, 1) := by decide +kernel
theorem dX6_feed_41 : decode cX6_feed 41 = .ok (.iload 4, 2) := by decide +kernel
theorem dX6_feed_43 : decode cX6_feed 43 = .ok (.iastore, 1) := by decide +kernel
theorem dX6_feed_44 : decode cX6_feed 44 = .ok (.dup, 1) := by decide +kernel
theorem dX6_feed_45 : decode cX6_feed 45 = .ok (.iconst 4, 1) := by decide +kernel
theorem dX6_feed_46 : decode cX6_feed 46 = .ok (.iload 5, 2) := by decide +kernel
theorem dX6_feed_48 : decode cX6_feed 48 = .ok (.iastore, 1) := by decide +kernel
theorem dX6_feed_49 : decode cX6_feed 49 = .ok (.astore 6, 2) := by decide +kernel
theorem dX6_feed_51 : decode cX6_feed 51 = .ok (.aload 6, 2) := by decide +kernel
theorem dX6_feed_53 : decode cX6_feed 53 = .ok (.astore 7, 2) := by decide +kernel
theorem dX6_feed_55 : decode cX6_feed 55 = .ok (.aload 7, 2) := by decide +kernel
theorem dX6_feed_57 : decode cX6_feed 57 = .ok (.arraylength, 1) := by decide +kernel
theorem dX6_feed_58 : decode cX6_feed 58 = .ok (.istore 8, 2) := by decide +kernel
theorem dX6_feed_60 : decode cX6_feed 60 = .ok (.iconst 0, 1) := by decide +kernel
theorem dX6_feed_61 : decode cX6_feed 61 = .ok (.istore 9, 2) := by decide +kernel
theorem dX6_feed_63 : decode cX6_feed 63 = .ok (.iload 9, 2) := by decide +kernel
theorem dX6_feed_65 : decode cX6_feed 65 = .ok (.iload 8, 2) := by decide +kernel
theorem dX6_feed_67 : decode cX6_feed 67 = .ok (.if_icmp .ge 61, 3) := by decide +kernel
theorem dX6_feed_70 : decode cX6_feed 70 = .ok (.aload 7, 2) := by decide +kernel
theorem dX6_feed_72 : decode cX6_feed 72 = .ok (.iload 9, 2) := by decide +kernel
theorem dX6_feed_74 : decode cX6_feed 74 = .ok (.iaload, 1) := by decide +kernel
theorem dX6_feed_75 : decode cX6_feed 75 = .ok (.istore 10, 2) := by decide +kernel
theorem dX6_feed_77 : decode cX6_feed 77 = .ok (.iconst 3, 1) := by decide +kernel
theorem dX6_feed_78 : decode cX6_feed 78 = .ok (.istore 11, 2) := by decide +kernel
theorem dX6_feed_80 : decode cX6_feed 80 = .ok (.iload 11, 2) := by decide +kernel
theorem dX6_feed_82 : decode cX6_feed 82 = .ok (.ifCond .lt 40, 3) := by decide +kernel
theorem dX6_feed_85 : decode cX6_feed 85 = .ok (.aload_n 0, 1) := by decide +kernel
theorem dX6_feed_86 : decode cX6_feed 86 = .ok (.getfield 52, 3) := by decide +kernel
theorem dX6_feed_89 : decode cX6_feed 89 = .ok (.aload_n 0, 1) := by decide +kernel
theorem dX6_feed_90 : decode cX6_feed 90 = .ok (.getfield 160, 3) := by decide +kernel
theorem dX6_feed_93 : decode cX6_feed 93 = .ok (.iload 10, 2) := by decide +kernel
theorem dX6_feed_95 : decode cX6_feed 95 = .ok (.bipush 8, 2) := by decide +kernel
theorem dX6_feed_97 : decode cX6_feed 97 = .ok (.iload 11, 2) := by decide +kernel
theorem dX6_feed_99 : decode cX6_feed 99 = .ok (.imul, 1) := by decide +kernel
theorem dX6_feed_100 : decode cX6_feed 100 = .ok (.ishr, 1) := by decide +kernel
theorem dX6_feed_101 : decode cX6_feed 101 = .ok (.sipush 255, 3) := by decide +kernel
theorem dX6_feed_104 : decode cX6_feed 104 = .ok (.iand, 1) := by decide +kernel
theorem dX6_feed_105 : decode cX6_feed 105 = .ok (.iastore, 1) := by decide +kernel
theorem dX6_feed_106 : decode cX6_feed 106 = .ok (.aload_n 0, 1) := by decide +kernel
theorem dX6_feed_107 : decode cX6_feed 107 = .ok (.dup, 1) := by decide +kernel
theorem dX6_feed_108 : decode cX6_feed 108 = .ok (.getfield 160, 3) := by decide +kernel
theorem dX6_feed_111 : decode cX6_feed 111 = .ok (.iconst 1, 1) := by decide +kernel
theorem dX6_feed_112 : decode cX6_feed 112 = .ok (.iadd, 1) := by decide +kernel
theorem dX6_feed_113 : decode cX6_feed 113 = .ok (.putfield 160, 3) := by decide +kernel
theorem dX6_feed_116 : decode cX6_feed 116 = .ok (.iinc 11 (-1), 3) := by decide +kernel
theorem dX6_feed_119 : decode cX6_feed 119 = .ok (.goto (-39), 3) := by decide +kernel
theorem dX6_feed_122 : decode cX6_feed 122 = .ok (.iinc 9 1, 3) := by decide +kernel
theorem dX6_feed_125 : decode cX6_feed 125 = .ok (.goto (-62), 3) := by decide +kernel
theorem dX6_feed_128 : decode cX6_feed 128 = .ok (.aload_n 0, 1) := by decide +kernel
theorem dX6_feed_129 : decode cX6_feed 129 = .ok (.getfield 160, 3) := by decide +kernel
theorem dX6_feed_132 : decode cX6_feed 132 = .ok (.ireturn, 1) := by decide +kernel
set_option maxRecDepth 20000 in
theorem ggX6_trim_X6_isIn : GoodIn wsX6_trim wsX6_isIn := goodIn_r _ [6] (by decide +kernel) (by decide +kernel)
set_option maxRecDepth 20000 in
theorem gX6_trim_X6_isIn : GoodIn wsX6_trim (va_wsS RX6 58 yX6_isIn wsX6_isIn) := goodIn_app (goodIn_of _ (by decide +kernel)) ggX6_trim_X6_isIn
set_option maxRecDepth 20000 in
theorem ggX6_trim_X6_no : GoodIn wsX6_trim wsX6_no := goodIn_r _ [10, 1, 11, 12, 13, 14, 15, 16, 17, 18, 19, 20, 21, 22, 23, 24, 25, 26, 27, 28, 29, 30, 31] (by decide +kernel) (by decide +kernel)
set_option maxRecDepth 20000 in
theorem gX6_trim_X6_no : GoodIn wsX6_trim (wsV RX6 62 RX6 yX6_no wsX6_no) := goodIn_app (goodIn_of _ (by decide +kernel)) ggX6_trim_X6_no
theorem dX6_trim_0 : decode cX6_trim 0 = .ok (.aload_n 0, 1) := by decide +kernel
theorem dX6_trim_1 : decode cX6_trim 1 = .ok (.iconst 0, 1) := by decide +kernel
theorem dX6_trim_2 : decode cX6_trim 2 = .ok (.putfield 55, 3) := by decide +kernel
theorem dX6_trim_5 : decode cX6_trim 5 = .ok (.iload_n 1, 1) := by decide +kernel
theorem dX6_trim_6 : decode cX6_trim 6 = .ok (.iconst 0, 1) := by decide +kernel
theorem dX6_trim_7 : decode cX6_trim 7 = .ok (.aload_n 0, 1) := by decide +kernel
theorem dX6_trim_8 : decode cX6_trim 8 = .ok (.getfield 160, 3) := by decide +kernel
theorem dX6_trim_11 : decode cX6_trim 11 = .ok (.invokestatic 58, 3) := by decide +kernel
theorem dX6_trim_14 : decode cX6_trim 14 = .ok (.ifCond .ne 9, 3) := by decide +kernel
theorem dX6_trim_17 : decode cX6_trim 17 = .ok (.aload_n 0, 1) := by decide +kernel
theorem dX6_trim_18 : decode cX6_trim 18 = .ok (.iconst 1, 1) := by decide +kernel
theorem dX6_trim_19 : decode cX6_trim 19 = .ok (.invokevirtual 62, 3) := by decide +kernel
theorem dX6_trim_22 : decode cX6_trim 22 = .ok (.ireturn, 1) := by decide +kernel
theorem dX6_trim_23 : decode cX6_trim 23 = .ok (.aload_n 0, 1) := by decide +kernel
theorem dX6_trim_24 : decode cX6_trim 24 = .ok (.iload_n 1, 1) := by decide +kernel
theorem dX6_trim_25 : decode cX6_trim 25 = .ok (.putfield 160, 3) := by decide +kernel
theorem dX6_trim_28 : decode cX6_trim 28 = .ok (.iload_n 1, 1) := by decide +kernel
theorem dX6_trim_29 : decode cX6_trim 29 = .ok (.ireturn, 1) := by decide +kernel
theorem dX6_next_0 : decode cX6_next 0 = .ok (.aload_n 0, 1) := by decide +kernel
theorem dX6_next_1 : decode cX6_next 1 = .ok (.getfield 163, 3) := by decide +kernel
theorem dX6_next_4 : decode cX6_next 4 = .ok (.aload_n 0, 1) := by decide +kernel
theorem dX6_next_5 : decode cX6_next 5 = .ok (.getfield 160, 3) := by decide +kernel
theorem dX6_next_8 : decode cX6_next 8 = .ok (.if_icmp .ge 30, 3) := by decide +kernel
theorem dX6_next_11 : decode cX6_next 11 = .ok (.aload_n 0, 1) := by decide +kernel
theorem dX6_next_12 : decode cX6_next 12 = .ok (.getfield 52, 3) := by decide +kernel
theorem dX6_next_15 : decode cX6_next 15 = .ok (.aload_n 0, 1) := by decide +kernel
theorem dX6_next_16 : decode cX6_next 16 = .ok (.getfield 163, 3) := by decide +kernel
theorem dX6_next_19 : decode cX6_next 19 = .ok (.iaload, 1) := by decide +kernel
theorem dX6_next_20 : decode cX6_next 20 = .ok (.bipush 32, 2) := by decide +kernel
theorem dX6_next_22 : decode cX6_next 22 = .ok (.if_icmp .ne 16, 3) := by decide +kernel
theorem dX6_next_25 : decode cX6_next 25 = .ok (.aload_n 0, 1) := by decide +kernel
theorem dX6_next_26 : decode cX6_next 26 = .ok (.dup, 1) := by decide +kernel
theorem dX6_next_27 : decode cX6_next 27 = .ok (.getfield 163, 3) := by decide +kernel
theorem dX6_next_30 : decode cX6_next 30 = .ok (.iconst 1, 1) := by decide +kernel
theorem dX6_next_31 : decode cX6_next 31 = .ok (.iadd, 1) := by decide +kernel
theorem dX6_next_32 : decode cX6_next 32 = .ok (.putfield 163, 3) := by decide +kernel
theorem dX6_next_35 : decode cX6_next 35 = .ok (.goto (-35), 3) := by decide +kernel
theorem dX6_next_38 : decode cX6_next 38 = .ok (.aload_n 0, 1) := by decide +kernel
theorem dX6_next_39 : decode cX6_next 39 = .ok (.getfield 163, 3) := by decide +kernel
theorem dX6_next_42 : decode cX6_next 42 = .ok (.aload_n 0, 1) := by decide +kernel
theorem dX6_next_43 : decode cX6_next 43 = .ok (.getfield 160, 3) := by decide +kernel
theorem dX6_next_46 : decode cX6_next 46 = .ok (.if_icmp .ge 15, 3) := by decide +kernel
theorem dX6_next_49 : decode cX6_next 49 = .ok (.aload_n 0, 1) := by decide +kernel
theorem dX6_next_50 : decode cX6_next 50 = .ok (.getfield 52, 3) := by decide +kernel
theorem dX6_next_53 : decode cX6_next 53 = .ok (.aload_n 0, 1) := by decide +kernel
theorem dX6_next_54 : decode cX6_next 54 = .ok (.getfield 163, 3) := by decide +kernel
theorem dX6_next_57 : decode cX6_next 57 = .ok (.iaload, 1) := by decide +kernel
theorem dX6_next_58 : decode cX6_next 58 = .ok (.goto 4, 3) := by decide +kernel
theorem dX6_next_61 : decode cX6_next 61 = .ok (.iconst (-1), 1) := by decide +kernel
theorem dX6_next_62 : decode cX6_next 62 = .ok (.ireturn, 1) := by decide +kernel
theorem dX6_wrong_0 : decode cX6_wrong 0 = .ok (.aload_n 0, 1) := by decide +kernel
theorem dX6_wrong_1 : decode cX6_wrong 1 = .ok (.iconst 1, 1) := by decide +kernel
theorem dX6_wrong_2 : decode cX6_wrong 2 = .ok (.putfield 165, 3) := by decide +kernel
theorem dX6_wrong_5 : decode cX6_wrong 5 = .ok (.lconst 0, 1) := by decide +kernel
theorem dX6_wrong_6 : decode cX6_wrong 6 = .ok (.lreturn, 1) := by decide +kernel
theorem dX6_opOf_0 : decode cX6_opOf 0 = .ok (.iconst (-1), 1) := by decide +kernel
theorem dX6_opOf_1 : decode cX6_opOf 1 = .ok (.istore_n 3, 1) := by decide +kernel
theorem dX6_opOf_2 : decode cX6_opOf 2 = .ok (.iload_n 1, 1) := by decide +kernel
theorem dX6_opOf_3 : decode cX6_opOf 3 = .ok (.istore 4, 2) := by decide +kernel
theorem dX6_opOf_5 : decode cX6_opOf 5 = .ok (.iload 4, 2) := by decide +kernel
theorem dX6_opOf_7 : decode cX6_opOf 7 = .ok (.iload_n 2, 1) := by decide +kernel
theorem dX6_opOf_8 : decode cX6_opOf 8 = .ok (.if_icmp .ge 22, 3) := by decide +kernel
theorem dX6_opOf_11 : decode cX6_opOf 11 = .ok (.getstatic 157, 3) := by decide +kernel
theorem dX6_opOf_14 : decode cX6_opOf 14 = .ok (.iload 4, 2) := by decide +kernel
theorem dX6_opOf_16 : decode cX6_opOf 16 = .ok (.iaload, 1) := by decide +kernel
theorem dX6_opOf_17 : decode cX6_opOf 17 = .ok (.iload_n 0, 1) := by decide +kernel
theorem dX6_opOf_18 : decode cX6_opOf 18 = .ok (.if_icmp .ne 6, 3) := by decide +kernel
theorem dX6_opOf_21 : decode cX6_opOf 21 = .ok (.iload 4, 2) := by decide +kernel
theorem dX6_opOf_23 : decode cX6_opOf 23 = .ok (.istore_n 3, 1) := by decide +kernel
theorem dX6_opOf_24 : decode cX6_opOf 24 = .ok (.iinc 4 1, 3) := by decide +kernel
theorem dX6_opOf_27 : decode cX6_opOf 27 = .ok (.goto (-22), 3) := by decide +kernel
theorem dX6_opOf_30 : decode cX6_opOf 30 = .ok (.iload_n 3, 1) := by decide +kernel
theorem dX6_opOf_31 : decode cX6_opOf 31 = .ok (.ireturn, 1) := by decide +kernel
set_option maxRecDepth 20000 in
theorem ggX6_isDigit_X6_isIn : GoodIn wsX6_isDigit wsX6_isIn := goodIn_r _ [4] (by decide +kernel) (by decide +kernel)
set_option maxRecDepth 20000 in
theorem gX6_isDigit_X6_isIn : GoodIn wsX6_isDigit (va_wsS RX6 58 yX6_isIn wsX6_isIn) := goodIn_app (goodIn_of _ (by decide +kernel)) ggX6_isDigit_X6_isIn
theorem dX6_isDigit_0 : decode cX6_isDigit 0 = .ok (.iload_n 0, 1) := by decide +kernel
theorem dX6_isDigit_1 : decode cX6_isDigit 1 = .ok (.bipush 48, 2) := by decide +kernel
theorem dX6_isDigit_3 : decode cX6_isDigit 3 = .ok (.bipush 57, 2) := by decide +kernel
theorem dX6_isDigit_5 : decode cX6_isDigit 5 = .ok (.invokestatic 58, 3) := by decide +kernel
theorem dX6_isDigit_8 : decode cX6_isDigit 8 = .ok (.ireturn, 1) := by decide +kernel
set_option maxRecDepth 20000 in
theorem ggX6_number_X6_isDigit : GoodIn wsX6_number wsX6_isDigit := goodIn_r _ [7, 8, 9, 6, 10] (by decide +kernel) (by decide +kernel)
set_option maxRecDepth 20000 in
theorem gX6_number_X6_isDigit : GoodIn wsX6_number (va_wsS RX6 169 yX6_isDigit wsX6_isDigit) := goodIn_app (goodIn_of _ (by decide +kernel)) ggX6_number_X6_isDigit
set_option maxRecDepth 20000 in
theorem ggX6_number_X6_wrong : GoodIn wsX6_number wsX6_wrong := goodIn_r _ [14, 15, 20, 21, 22, 23, 24, 25, 26, 27, 28, 29, 30, 31, 32, 33, 34, 35, 36, 37, 38, 39, 40] (by decide +kernel) (by decide +kernel)
set_option maxRecDepth 20000 in
theorem gX6_number_X6_wrong : GoodIn wsX6_number (wsV RX6 172 RX6 yX6_wrong wsX6_wrong) := goodIn_app (goodIn_of _ (by decide +kernel)) ggX6_number_X6_wrong
set_option maxRecDepth 20000 in
theorem ggX6_number_X6_constant : GoodIn wsX6_number wsX6_constant := goodIn_r _ [18, 19] (by decide +kernel) (by decide +kernel)
set_option maxRecDepth 20000 in
theorem gX6_number_X6_constant : GoodIn wsX6_number (va_wsS RX6 124 yX6_constant wsX6_constant) := goodIn_app (goodIn_of _ (by decide +kernel)) ggX6_number_X6_constant
theorem dX6_number_0 : decode cX6_number 0 = .ok (.aload_n 0, 1) := by decide +kernel
theorem dX6_number_1 : decode cX6_number 1 = .ok (.getfield 52, 3) := by decide +kernel
theorem dX6_number_4 : decode cX6_number 4 = .ok (.aload_n 0, 1) := by decide +kernel
theorem dX6_number_5 : decode cX6_number 5 = .ok (.getfield 163, 3) := by decide +kernel
theorem dX6_number_8 : decode cX6_number 8 = .ok (.iaload, 1) := by decide +kernel
theorem dX6_number_9 : decode cX6_number 9 = .ok (.bipush 48, 2) := by decide +kernel
theorem dX6_number_11 : decode cX6_number 11 = .ok (.isub, 1) := by decide +kernel
theorem dX6_number_12 : decode cX6_number 12 = .ok (.istore_n 1, 1) := by decide +kernel
theorem dX6_number_13 : decode cX6_number 13 = .ok (.iconst 1, 1) := by decide +kernel
theorem dX6_number_14 : decode cX6_number 14 = .ok (.istore_n 2, 1) := by decide +kernel
theorem dX6_number_15 : decode cX6_number 15 = .ok (.aload_n 0, 1) := by decide +kernel
theorem dX6_number_16 : decode cX6_number 16 = .ok (.getfield 163, 3) := by decide +kernel
theorem dX6_number_19 : decode cX6_number 19 = .ok (.iconst 1, 1) := by decide +kernel
theorem dX6_number_20 : decode cX6_number 20 = .ok (.iadd, 1) := by decide +kernel
theorem dX6_number_21 : decode cX6_number 21 = .ok (.aload_n 0, 1) := by decide +kernel
theorem dX6_number_22 : decode cX6_number 22 = .ok (.getfield 160, 3) := by decide +kernel
theorem dX6_number_25 : decode cX6_number 25 = .ok (.if_icmp .ge 42, 3) := by decide +kernel
theorem dX6_number_28 : decode cX6_number 28 = .ok (.aload_n 0, 1) := by decide +kernel
theorem dX6_number_29 : decode cX6_number 29 = .ok (.getfield 52, 3) := by decide +kernel
theorem dX6_number_32 : decode cX6_number 32 = .ok (.aload_n 0, 1) := by decide +kernel
theorem dX6_number_33 : decode cX6_number 33 = .ok (.getfield 163, 3) := by decide +kernel
theorem dX6_number_36 : decode cX6_number 36 = .ok (.iconst 1, 1) := by decide +kernel
theorem dX6_number_37 : decode cX6_number 37 = .ok (.iadd, 1) := by decide +kernel
theorem dX6_number_38 : decode cX6_number 38 = .ok (.iaload, 1) := by decide +kernel
theorem dX6_number_39 : decode cX6_number 39 = .ok (.invokestatic 169, 3) := by decide +kernel
theorem dX6_number_42 : decode cX6_number 42 = .ok (.ifCond .eq 25, 3) := by decide +kernel
theorem dX6_number_45 : decode cX6_number 45 = .ok (.bipush 10, 2) := by decide +kernel
theorem dX6_number_47 : decode cX6_number 47 = .ok (.iload_n 1, 1) := by decide +kernel
theorem dX6_number_48 : decode cX6_number 48 = .ok (.imul, 1) := by decide +kernel
theorem dX6_number_49 : decode cX6_number 49 = .ok (.aload_n 0, 1) := by decide +kernel
theorem dX6_number_50 : decode cX6_number 50 = .ok (.getfield 52, 3) := by decide +kernel
theorem dX6_number_53 : decode cX6_number 53 = .ok (.aload_n 0, 1) := by decide +kernel
theorem dX6_number_54 : decode cX6_number 54 = .ok (.getfield 163, 3) := by decide +kernel
theorem dX6_number_57 : decode cX6_number 57 = .ok (.iconst 1, 1) := by decide +kernel
theorem dX6_number_58 : decode cX6_number 58 = .ok (.iadd, 1) := by decide +kernel
theorem dX6_number_59 : decode cX6_number 59 = .ok (.iaload, 1) := by decide +kernel
theorem dX6_number_60 : decode cX6_number 60 = .ok (.iadd, 1) := by decide +kernel
theorem dX6_number_61 : decode cX6_number 61 = .ok (.bipush 48, 2) := by decide +kernel
theorem dX6_number_63 : decode cX6_number 63 = .ok (.isub, 1) := by decide +kernel
theorem dX6_number_64 : decode cX6_number 64 = .ok (.istore_n 1, 1) := by decide +kernel
theorem dX6_number_65 : decode cX6_number 65 = .ok (.iconst 2, 1) := by decide +kernel
theorem dX6_number_66 : decode cX6_number 66 = .ok (.istore_n 2, 1) := by decide +kernel
theorem dX6_number_67 : decode cX6_number 67 = .ok (.iload_n 1, 1) := by decide +kernel
theorem dX6_number_68 : decode cX6_number 68 = .ok (.bipush 15, 2) := by decide +kernel
theorem dX6_number_70 : decode cX6_number 70 = .ok (.if_icmp .le 8, 3) := by decide +kernel
theorem dX6_number_73 : decode cX6_number 73 = .ok (.aload_n 0, 1) := by decide +kernel
theorem dX6_number_74 : decode cX6_number 74 = .ok (.invokevirtual 172, 3) := by decide +kernel
theorem dX6_number_77 : decode cX6_number 77 = .ok (.lreturn, 1) := by decide +kernel
theorem dX6_number_78 : decode cX6_number 78 = .ok (.aload_n 0, 1) := by decide +kernel
theorem dX6_number_79 : decode cX6_number 79 = .ok (.dup, 1) := by decide +kernel
theorem dX6_number_80 : decode cX6_number 80 = .ok (.getfield 163, 3) := by decide +kernel
theorem dX6_number_83 : decode cX6_number 83 = .ok (.iload_n 2, 1) := by decide +kernel
theorem dX6_number_84 : decode cX6_number 84 = .ok (.iadd, 1) := by decide +kernel
theorem dX6_number_85 : decode cX6_number 85 = .ok (.putfield 163, 3) := by decide +kernel
theorem dX6_number_88 : decode cX6_number 88 = .ok (.iload_n 1, 1) := by decide +kernel
theorem dX6_number_89 : decode cX6_number 89 = .ok (.invokestatic 124, 3) := by decide +kernel
theorem dX6_number_92 : decode cX6_number 92 = .ok (.lreturn, 1) := by decide +kernel
set_option maxRecDepth 20000 in
theorem ggX6_part_X6_next : GoodIn wsX6_part wsX6_next := goodIn_r _ [8, 1, 9, 10, 49, 50, 51, 52, 53, 54, 55, 56, 57, 58, 59, 60, 61, 62, 63, 64, 65, 66, 67, 68, 69] (by decide +kernel) (by decide +kernel)
set_option maxRecDepth 20000 in
theorem gX6_part_X6_next : GoodIn wsX6_part (wsV RX6 176 RX6 yX6_next wsX6_next) := goodIn_app (goodIn_of _ (by decide +kernel)) ggX6_part_X6_next
set_option maxRecDepth 20000 in
theorem ggX6_part_X6_isDigit : GoodIn wsX6_part wsX6_isDigit := goodIn_r _ [13, 14, 15, 7, 16] (by decide +kernel) (by decide +kernel)
set_option maxRecDepth 20000 in
theorem gX6_part_X6_isDigit : GoodIn wsX6_part (va_wsS RX6 169 yX6_isDigit wsX6_isDigit) := goodIn_app (goodIn_of _ (by decide +kernel)) ggX6_part_X6_isDigit
set_option maxRecDepth 20000 in
theorem ggX6_part_X6_number : GoodIn wsX6_part wsX6_number := goodIn_r _ [20, 10, 1, 9, 11, 12, 7, 13, 14, 15, 16, 21, 22, 23, 24, 3, 25, 26, 27, 28, 49, 50, 51, 52, 53, 54, 55, 56, 57, 58, 59, 60, 61, 62, 63, 64, 65, 66, 67, 68, 69] (by decide +kernel) (by decide +kernel)
set_option maxRecDepth 20000 in
theorem gX6_part_X6_number : GoodIn wsX6_part (wsV RX6 180 RX6 yX6_number wsX6_number) := goodIn_app (goodIn_of _ (by decide +kernel)) ggX6_part_X6_number
set_option maxRecDepth 20000 in
theorem ggX6_part_X6_opOf : GoodIn wsX6_part wsX6_opOf := goodIn_r _ [31, 32] (by decide +kernel) (by decide +kernel)
set_option maxRecDepth 20000 in
theorem gX6_part_X6_opOf : GoodIn wsX6_part (va_wsS RX6 183 yX6_opOf wsX6_opOf) := goodIn_app (goodIn_of _ (by decide +kernel)) ggX6_part_X6_opOf
set_option maxRecDepth 20000 in
theorem ggX6_part_X6_wrong : GoodIn wsX6_part wsX6_wrong := goodIn_r _ [24, 3, 49, 50, 51, 52, 53, 54, 55, 56, 57, 58, 59, 60, 61, 62, 63, 64, 65, 66, 67, 68, 69] (by decide +kernel) (by decide +kernel)
set_option maxRecDepth 20000 in
theorem gX6_part_X6_wrong : GoodIn wsX6_part (wsV RX6 172 RX6 yX6_wrong wsX6_wrong) := goodIn_app (goodIn_of _ (by decide +kernel)) ggX6_part_X6_wrong
set_option maxRecDepth 20000 in
theorem ggX6_part_X6_part : GoodIn wsX6_part wsX6_part := goodIn_r _ [0, 1, 2, 3, 4, 5, 6, 7, 8, 9, 10, 11, 12, 13, 14, 15, 16, 17, 18, 19, 20, 21, 22, 23, 24, 25, 26, 27, 28, 29, 30, 31, 32, 33, 34, 35, 36, 37, 38, 39, 40, 41, 42, 43, 44, 45, 46, 47, 48, 49, 50, 51, 52, 53, 54, 55, 56, 57, 58, 59, 60, 61, 62, 63, 64, 65, 66, 67, 68, 69] (by decide +kernel) (by decide +kernel)
set_option maxRecDepth 20000 in
theorem gX6_part_X6_part : GoodIn wsX6_part (wsV RX6 186 RX6 yX6_part wsX6_part) := goodIn_app (goodIn_of _ (by decide +kernel)) ggX6_part_X6_part
set_option maxRecDepth 20000 in
theorem ggX6_part_X6_made : GoodIn wsX6_part wsX6_made := goodIn_r _ [38, 39, 40, 7, 41, 42, 43, 44] (by decide +kernel) (by decide +kernel)
set_option maxRecDepth 20000 in
theorem gX6_part_X6_made : GoodIn wsX6_part (va_wsS RX6 78 yX6_made wsX6_made) := goodIn_app (goodIn_of _ (by decide +kernel)) ggX6_part_X6_made
set_option maxRecDepth 20000 in
theorem ggX6_part_X6_formula : GoodIn wsX6_part wsX6_formula := goodIn_r _ [48, 3, 1, 33, 34, 35, 7, 4, 5, 6, 8, 9, 10, 29, 30, 31, 32, 36, 37, 38, 39, 40, 41, 42, 43, 44, 0, 2, 11, 12, 13, 14, 15, 16, 17, 18, 19, 20, 21, 22, 23, 24, 25, 26, 27, 28, 45, 46, 47, 49, 50, 51, 52, 53, 54, 55, 56, 57, 58, 59, 60, 61, 62, 63, 64, 65, 66, 67, 68, 69] (by decide +kernel) (by decide +kernel)
set_option maxRecDepth 20000 in
theorem gX6_part_X6_formula : GoodIn wsX6_part (wsV RX6 189 RX6 yX6_formula wsX6_formula) := goodIn_app (goodIn_of _ (by decide +kernel)) ggX6_part_X6_formula
theorem dX6_part_0 : decode cX6_part 0 = .ok (.aload_n 0, 1) := by decide +kernel
theorem dX6_part_1 : decode cX6_part 1 = .ok (.invokevirtual 176, 3) := by decide +kernel
theorem dX6_part_4 : decode cX6_part 4 = .ok (.istore_n 2, 1) := by decide +kernel
theorem dX6_part_5 : decode cX6_part 5 = .ok (.iload_n 2, 1) := by decide +kernel
theorem dX6_part_6 : decode cX6_part 6 = .ok (.bipush 120, 2) := by decide +kernel
theorem dX6_part_8 : decode cX6_part 8 = .ok (.if_icmp .ne 17, 3) := by decide +kernel
theorem dX6_part_11 : decode cX6_part 11 = .ok (.aload_n 0, 1) := by decide +kernel
theorem dX6_part_12 : decode cX6_part 12 = .ok (.dup, 1) := by decide +kernel
theorem dX6_part_13 : decode cX6_part 13 = .ok (.getfield 163, 3) := by decide +kernel
theorem dX6_part_16 : decode cX6_part 16 = .ok (.iconst 1, 1) := by decide +kernel
theorem dX6_part_17 : decode cX6_part 17 = .ok (.iadd, 1) := by decide +kernel
theorem dX6_part_18 : decode cX6_part 18 = .ok (.putfield 163, 3) := by decide +kernel
theorem dX6_part_21 : decode cX6_part 21 = .ok (.ldc2_w 122, 3) := by decide +kernel
theorem dX6_part_24 : decode cX6_part 24 = .ok (.lreturn, 1) := by decide +kernel
theorem dX6_part_25 : decode cX6_part 25 = .ok (.iload_n 2, 1) := by decide +kernel
theorem dX6_part_26 : decode cX6_part 26 = .ok (.invokestatic 169, 3) := by decide +kernel
theorem dX6_part_29 : decode cX6_part 29 = .ok (.ifCond .eq 8, 3) := by decide +kernel
theorem dX6_part_32 : decode cX6_part 32 = .ok (.aload_n 0, 1) := by decide +kernel
theorem dX6_part_33 : decode cX6_part 33 = .ok (.invokevirtual 180, 3) := by decide +kernel
theorem dX6_part_36 : decode cX6_part 36 = .ok (.lreturn, 1) := by decide +kernel
theorem dX6_part_37 : decode cX6_part 37 = .ok (.iload_n 2, 1) := by decide +kernel
theorem dX6_part_38 : decode cX6_part 38 = .ok (.iconst 0, 1) := by decide +kernel
theorem dX6_part_39 : decode cX6_part 39 = .ok (.iconst 4, 1) := by decide +kernel
theorem dX6_part_40 : decode cX6_part 40 = .ok (.invokestatic 183, 3) := by decide +kernel
theorem dX6_part_43 : decode cX6_part 43 = .ok (.istore_n 3, 1) := by decide +kernel
theorem dX6_part_44 : decode cX6_part 44 = .ok (.iload_n 3, 1) := by decide +kernel
theorem dX6_part_45 : decode cX6_part 45 = .ok (.iconst (-1), 1) := by decide +kernel
theorem dX6_part_46 : decode cX6_part 46 = .ok (.if_icmp .ne 9, 3) := by decide +kernel
theorem dX6_part_49 : decode cX6_part 49 = .ok (.iload_n 2, 1) := by decide +kernel
theorem dX6_part_50 : decode cX6_part 50 = .ok (.bipush 40, 2) := by decide +kernel
theorem dX6_part_52 : decode cX6_part 52 = .ok (.if_icmp .ne 9, 3) := by decide +kernel
theorem dX6_part_55 : decode cX6_part 55 = .ok (.iload_n 1, 1) := by decide +kernel
theorem dX6_part_56 : decode cX6_part 56 = .ok (.bipush 20, 2) := by decide +kernel
theorem dX6_part_58 : decode cX6_part 58 = .ok (.if_icmp .ne 8, 3) := by decide +kernel
theorem dX6_part_61 : decode cX6_part 61 = .ok (.aload_n 0, 1) := by decide +kernel
theorem dX6_part_62 : decode cX6_part 62 = .ok (.invokevirtual 172, 3) := by decide +kernel
theorem dX6_part_65 : decode cX6_part 65 = .ok (.lreturn, 1) := by decide +kernel
theorem dX6_part_66 : decode cX6_part 66 = .ok (.aload_n 0, 1) := by decide +kernel
theorem dX6_part_67 : decode cX6_part 67 = .ok (.dup, 1) := by decide +kernel
theorem dX6_part_68 : decode cX6_part 68 = .ok (.getfield 163, 3) := by decide +kernel
theorem dX6_part_71 : decode cX6_part 71 = .ok (.iconst 1, 1) := by decide +kernel
theorem dX6_part_72 : decode cX6_part 72 = .ok (.iadd, 1) := by decide +kernel
theorem dX6_part_73 : decode cX6_part 73 = .ok (.putfield 163, 3) := by decide +kernel
theorem dX6_part_76 : decode cX6_part 76 = .ok (.iload_n 3, 1) := by decide +kernel
theorem dX6_part_77 : decode cX6_part 77 = .ok (.iconst (-1), 1) := by decide +kernel
theorem dX6_part_78 : decode cX6_part 78 = .ok (.if_icmp .eq 31, 3) := by decide +kernel
theorem dX6_part_81 : decode cX6_part 81 = .ok (.aload_n 0, 1) := by decide +kernel
theorem dX6_part_82 : decode cX6_part 82 = .ok (.iload_n 1, 1) := by decide +kernel
theorem dX6_part_83 : decode cX6_part 83 = .ok (.iconst 1, 1) := by decide +kernel
theorem dX6_part_84 : decode cX6_part 84 = .ok (.iadd, 1) := by decide +kernel
theorem dX6_part_85 : decode cX6_part 85 = .ok (.invokevirtual 186, 3) := by decide +kernel
theorem dX6_part_88 : decode cX6_part 88 = .ok (.lstore 4, 2) := by decide +kernel
theorem dX6_part_90 : decode cX6_part 90 = .ok (.aload_n 0, 1) := by decide +kernel
theorem dX6_part_91 : decode cX6_part 91 = .ok (.getfield 165, 3) := by decide +kernel
theorem dX6_part_94 : decode cX6_part 94 = .ok (.ifCond .eq 7, 3) := by decide +kernel
theorem dX6_part_97 : decode cX6_part 97 = .ok (.lconst 0, 1) := by decide +kernel
theorem dX6_part_98 : decode cX6_part 98 = .ok (.goto 10, 3) := by decide +kernel
theorem dX6_part_101 : decode cX6_part 101 = .ok (.iload_n 3, 1) := by decide +kernel
theorem dX6_part_102 : decode cX6_part 102 = .ok (.lload 4, 2) := by decide +kernel
theorem dX6_part_104 : decode cX6_part 104 = .ok (.lconst 0, 1) := by decide +kernel
theorem dX6_part_105 : decode cX6_part 105 = .ok (.invokestatic 78, 3) := by decide +kernel
theorem dX6_part_108 : decode cX6_part 108 = .ok (.lreturn, 1) := by decide +kernel
theorem dX6_part_109 : decode cX6_part 109 = .ok (.aload_n 0, 1) := by decide +kernel
theorem dX6_part_110 : decode cX6_part 110 = .ok (.iload_n 1, 1) := by decide +kernel
theorem dX6_part_111 : decode cX6_part 111 = .ok (.iconst 1, 1) := by decide +kernel
theorem dX6_part_112 : decode cX6_part 112 = .ok (.iadd, 1) := by decide +kernel
theorem dX6_part_113 : decode cX6_part 113 = .ok (.invokevirtual 189, 3) := by decide +kernel
theorem dX6_part_116 : decode cX6_part 116 = .ok (.lstore 4, 2) := by decide +kernel
theorem dX6_part_118 : decode cX6_part 118 = .ok (.aload_n 0, 1) := by decide +kernel
theorem dX6_part_119 : decode cX6_part 119 = .ok (.getfield 165, 3) := by decide +kernel
theorem dX6_part_122 : decode cX6_part 122 = .ok (.ifCond .eq 5, 3) := by decide +kernel
theorem dX6_part_125 : decode cX6_part 125 = .ok (.lconst 0, 1) := by decide +kernel
theorem dX6_part_126 : decode cX6_part 126 = .ok (.lreturn, 1) := by decide +kernel
theorem dX6_part_127 : decode cX6_part 127 = .ok (.aload_n 0, 1) := by decide +kernel
theorem dX6_part_128 : decode cX6_part 128 = .ok (.invokevirtual 176, 3) := by decide +kernel
theorem dX6_part_131 : decode cX6_part 131 = .ok (.bipush 41, 2) := by decide +kernel
theorem dX6_part_133 : decode cX6_part 133 = .ok (.if_icmp .eq 8, 3) := by decide +kernel
theorem dX6_part_136 : decode cX6_part 136 = .ok (.aload_n 0, 1) := by decide +kernel
theorem dX6_part_137 : decode cX6_part 137 = .ok (.invokevirtual 172, 3) := by decide +kernel
theorem dX6_part_140 : decode cX6_part 140 = .ok (.lreturn, 1) := by decide +kernel
theorem dX6_part_141 : decode cX6_part 141 = .ok (.aload_n 0, 1) := by decide +kernel
theorem dX6_part_142 : decode cX6_part 142 = .ok (.dup, 1) := by decide +kernel
theorem dX6_part_143 : decode cX6_part 143 = .ok (.getfield 163, 3) := by decide +kernel
theorem dX6_part_146 : decode cX6_part 146 = .ok (.iconst 1, 1) := by decide +kernel
theorem dX6_part_147 : decode cX6_part 147 = .ok (.iadd, 1) := by decide +kernel
theorem dX6_part_148 : decode cX6_part 148 = .ok (.putfield 163, 3) := by decide +kernel
theorem dX6_part_151 : decode cX6_part 151 = .ok (.lload 4, 2) := by decide +kernel
theorem dX6_part_153 : decode cX6_part 153 = .ok (.lreturn, 1) := by decide +kernel
set_option maxRecDepth 20000 in
theorem ggX6_formula_X6_part : GoodIn wsX6_formula wsX6_part := goodIn_r _ [26, 2, 27, 1, 7, 8, 9, 6, 10, 11, 12, 28, 29, 30, 31, 32, 33, 34, 35, 36, 37, 38, 39, 40, 41, 42, 43, 44, 45, 13, 14, 15, 16, 3, 4, 5, 17, 18, 19, 20, 21, 22, 23, 24, 25, 46, 47, 48, 0, 49, 50, 51, 52, 53, 54, 55, 56, 57, 58, 59, 60, 61, 62, 63, 64, 65, 66, 67, 68, 69] (by decide +kernel) (by decide +kernel)
set_option maxRecDepth 20000 in
theorem gX6_formula_X6_part : GoodIn wsX6_formula (wsV RX6 186 RX6 yX6_part wsX6_part) := goodIn_app (goodIn_of _ (by decide +kernel)) ggX6_formula_X6_part
set_option maxRecDepth 20000 in
theorem ggX6_formula_X6_next : GoodIn wsX6_formula wsX6_next := goodIn_r _ [10, 2, 11, 12, 49, 50, 51, 52, 53, 54, 55, 56, 57, 58, 59, 60, 61, 62, 63, 64, 65, 66, 67, 68, 69] (by decide +kernel) (by decide +kernel)
set_option maxRecDepth 20000 in
theorem gX6_formula_X6_next : GoodIn wsX6_formula (wsV RX6 176 RX6 yX6_next wsX6_next) := goodIn_app (goodIn_of _ (by decide +kernel)) ggX6_formula_X6_next
set_option maxRecDepth 20000 in
theorem ggX6_formula_X6_opOf : GoodIn wsX6_formula wsX6_opOf := goodIn_r _ [15, 16] (by decide +kernel) (by decide +kernel)
set_option maxRecDepth 20000 in
theorem gX6_formula_X6_opOf : GoodIn wsX6_formula (va_wsS RX6 183 yX6_opOf wsX6_opOf) := goodIn_app (goodIn_of _ (by decide +kernel)) ggX6_formula_X6_opOf
set_option maxRecDepth 20000 in
theorem ggX6_formula_X6_made : GoodIn wsX6_formula wsX6_made := goodIn_r _ [19, 20, 21, 6, 22, 23, 24, 25] (by decide +kernel) (by decide +kernel)
set_option maxRecDepth 20000 in
theorem gX6_formula_X6_made : GoodIn wsX6_formula (va_wsS RX6 78 yX6_made wsX6_made) := goodIn_app (goodIn_of _ (by decide +kernel)) ggX6_formula_X6_made
theorem dX6_formula_0 : decode cX6_formula 0 = .ok (.aload_n 0, 1) := by decide +kernel
theorem dX6_formula_1 : decode cX6_formula 1 = .ok (.iload_n 1, 1) := by decide +kernel
theorem dX6_formula_2 : decode cX6_formula 2 = .ok (.invokevirtual 186, 3) := by decide +kernel
theorem dX6_formula_5 : decode cX6_formula 5 = .ok (.lstore_n 2, 1) := by decide +kernel
theorem dX6_formula_6 : decode cX6_formula 6 = .ok (.aload_n 0, 1) := by decide +kernel
theorem dX6_formula_7 : decode cX6_formula 7 = .ok (.getfield 165, 3) := by decide +kernel
theorem dX6_formula_10 : decode cX6_formula 10 = .ok (.ifCond .eq 5, 3) := by decide +kernel
theorem dX6_formula_13 : decode cX6_formula 13 = .ok (.lconst 0, 1) := by decide +kernel
theorem dX6_formula_14 : decode cX6_formula 14 = .ok (.lreturn, 1) := by decide +kernel
theorem dX6_formula_15 : decode cX6_formula 15 = .ok (.aload_n 0, 1) := by decide +kernel
theorem dX6_formula_16 : decode cX6_formula 16 = .ok (.invokevirtual 176, 3) := by decide +kernel
theorem dX6_formula_19 : decode cX6_formula 19 = .ok (.iconst 4, 1) := by decide +kernel
theorem dX6_formula_20 : decode cX6_formula 20 = .ok (.bipush 10, 2) := by decide +kernel
theorem dX6_formula_22 : decode cX6_formula 22 = .ok (.invokestatic 183, 3) := by decide +kernel
theorem dX6_formula_25 : decode cX6_formula 25 = .ok (.istore 4, 2) := by decide +kernel
theorem dX6_formula_27 : decode cX6_formula 27 = .ok (.iload 4, 2) := by decide +kernel
theorem dX6_formula_29 : decode cX6_formula 29 = .ok (.iconst (-1), 1) := by decide +kernel
theorem dX6_formula_30 : decode cX6_formula 30 = .ok (.if_icmp .ne 5, 3) := by decide +kernel
theorem dX6_formula_33 : decode cX6_formula 33 = .ok (.lload_n 2, 1) := by decide +kernel
theorem dX6_formula_34 : decode cX6_formula 34 = .ok (.lreturn, 1) := by decide +kernel
theorem dX6_formula_35 : decode cX6_formula 35 = .ok (.aload_n 0, 1) := by decide +kernel
theorem dX6_formula_36 : decode cX6_formula 36 = .ok (.dup, 1) := by decide +kernel
theorem dX6_formula_37 : decode cX6_formula 37 = .ok (.getfield 163, 3) := by decide +kernel
theorem dX6_formula_40 : decode cX6_formula 40 = .ok (.iconst 1, 1) := by decide +kernel
theorem dX6_formula_41 : decode cX6_formula 41 = .ok (.iadd, 1) := by decide +kernel
theorem dX6_formula_42 : decode cX6_formula 42 = .ok (.putfield 163, 3) := by decide +kernel
theorem dX6_formula_45 : decode cX6_formula 45 = .ok (.aload_n 0, 1) := by decide +kernel
theorem dX6_formula_46 : decode cX6_formula 46 = .ok (.iload_n 1, 1) := by decide +kernel
theorem dX6_formula_47 : decode cX6_formula 47 = .ok (.invokevirtual 186, 3) := by decide +kernel
theorem dX6_formula_50 : decode cX6_formula 50 = .ok (.lstore 5, 2) := by decide +kernel
theorem dX6_formula_52 : decode cX6_formula 52 = .ok (.aload_n 0, 1) := by decide +kernel
theorem dX6_formula_53 : decode cX6_formula 53 = .ok (.getfield 165, 3) := by decide +kernel
theorem dX6_formula_56 : decode cX6_formula 56 = .ok (.ifCond .eq 7, 3) := by decide +kernel
theorem dX6_formula_59 : decode cX6_formula 59 = .ok (.lconst 0, 1) := by decide +kernel
theorem dX6_formula_60 : decode cX6_formula 60 = .ok (.goto 11, 3) := by decide +kernel
theorem dX6_formula_63 : decode cX6_formula 63 = .ok (.iload 4, 2) := by decide +kernel
theorem dX6_formula_65 : decode cX6_formula 65 = .ok (.lload_n 2, 1) := by decide +kernel
theorem dX6_formula_66 : decode cX6_formula 66 = .ok (.lload 5, 2) := by decide +kernel
theorem dX6_formula_68 : decode cX6_formula 68 = .ok (.invokestatic 78, 3) := by decide +kernel
theorem dX6_formula_71 : decode cX6_formula 71 = .ok (.lreturn, 1) := by decide +kernel
set_option maxRecDepth 20000 in
theorem ggX6_read_X6_formula : GoodIn wsX6_read wsX6_formula := goodIn_r _ [10, 3, 2, 11, 12, 13, 9, 14, 15, 16, 17, 5, 18, 19, 20, 21, 22, 23, 24, 25, 26, 27, 28, 29, 30, 31, 32, 33, 34, 35, 36, 37, 38, 39, 40, 41, 42, 43, 44, 45, 46, 47, 48, 49, 50, 51, 6, 7, 8, 52, 53, 54, 55, 56, 57, 58, 59, 60, 61, 62, 63, 64, 65, 66, 67, 68, 69, 70, 71, 72] (by decide +kernel) (by decide +kernel)
set_option maxRecDepth 20000 in
theorem gX6_read_X6_formula : GoodIn wsX6_read (wsV RX6 189 RX6 yX6_formula wsX6_formula) := goodIn_app (goodIn_of _ (by decide +kernel)) ggX6_read_X6_formula
set_option maxRecDepth 20000 in
theorem ggX6_read_X6_next : GoodIn wsX6_read wsX6_next := goodIn_r _ [17, 2, 5, 18, 52, 53, 54, 55, 56, 57, 58, 59, 60, 61, 62, 63, 64, 65, 66, 67, 68, 69, 70, 71, 72] (by decide +kernel) (by decide +kernel)
set_option maxRecDepth 20000 in
theorem gX6_read_X6_next : GoodIn wsX6_read (wsV RX6 176 RX6 yX6_next wsX6_next) := goodIn_app (goodIn_of _ (by decide +kernel)) ggX6_read_X6_next
set_option maxRecDepth 20000 in
theorem ggX6_read_X6_wrong : GoodIn wsX6_read wsX6_wrong := goodIn_r _ [47, 3, 52, 53, 54, 55, 56, 57, 58, 59, 60, 61, 62, 63, 64, 65, 66, 67, 68, 69, 70, 71, 72] (by decide +kernel) (by decide +kernel)
set_option maxRecDepth 20000 in
theorem gX6_read_X6_wrong : GoodIn wsX6_read (wsV RX6 172 RX6 yX6_wrong wsX6_wrong) := goodIn_app (goodIn_of _ (by decide +kernel)) ggX6_read_X6_wrong
theorem dX6_read_0 : decode cX6_read 0 = .ok (.aload_n 0, 1) := by decide +kernel
theorem dX6_read_1 : decode cX6_read 1 = .ok (.iconst 0, 1) := by decide +kernel
theorem dX6_read_2 : decode cX6_read 2 = .ok (.putfield 55, 3) := by decide +kernel
theorem dX6_read_5 : decode cX6_read 5 = .ok (.aload_n 0, 1) := by decide +kernel
theorem dX6_read_6 : decode cX6_read 6 = .ok (.iconst 0, 1) := by decide +kernel
theorem dX6_read_7 : decode cX6_read 7 = .ok (.putfield 163, 3) := by decide +kernel
theorem dX6_read_10 : decode cX6_read 10 = .ok (.aload_n 0, 1) := by decide +kernel
theorem dX6_read_11 : decode cX6_read 11 = .ok (.iconst 0, 1) := by decide +kernel
theorem dX6_read_12 : decode cX6_read 12 = .ok (.putfield 165, 3) := by decide +kernel
theorem dX6_read_15 : decode cX6_read 15 = .ok (.aload_n 0, 1) := by decide +kernel
theorem dX6_read_16 : decode cX6_read 16 = .ok (.iconst 0, 1) := by decide +kernel
theorem dX6_read_17 : decode cX6_read 17 = .ok (.invokevirtual 189, 3) := by decide +kernel
theorem dX6_read_20 : decode cX6_read 20 = .ok (.lstore_n 1, 1) := by decide +kernel
theorem dX6_read_21 : decode cX6_read 21 = .ok (.aload_n 0, 1) := by decide +kernel
theorem dX6_read_22 : decode cX6_read 22 = .ok (.getfield 165, 3) := by decide +kernel
theorem dX6_read_25 : decode cX6_read 25 = .ok (.ifCond .ne 16, 3) := by decide +kernel
theorem dX6_read_28 : decode cX6_read 28 = .ok (.aload_n 0, 1) := by decide +kernel
theorem dX6_read_29 : decode cX6_read 29 = .ok (.invokevirtual 176, 3) := by decide +kernel
theorem dX6_read_32 : decode cX6_read 32 = .ok (.iconst (-1), 1) := by decide +kernel
theorem dX6_read_33 : decode cX6_read 33 = .ok (.if_icmp .eq 8, 3) := by decide +kernel
theorem dX6_read_36 : decode cX6_read 36 = .ok (.aload_n 0, 1) := by decide +kernel
theorem dX6_read_37 : decode cX6_read 37 = .ok (.invokevirtual 172, 3) := by decide +kernel
theorem dX6_read_40 : decode cX6_read 40 = .ok (.pop2, 1) := by decide +kernel
theorem dX6_read_41 : decode cX6_read 41 = .ok (.aload_n 0, 1) := by decide +kernel
theorem dX6_read_42 : decode cX6_read 42 = .ok (.getfield 165, 3) := by decide +kernel
theorem dX6_read_45 : decode cX6_read 45 = .ok (.ifCond .ne 8, 3) := by decide +kernel
theorem dX6_read_48 : decode cX6_read 48 = .ok (.aload_n 0, 1) := by decide +kernel
theorem dX6_read_49 : decode cX6_read 49 = .ok (.lload_n 1, 1) := by decide +kernel
theorem dX6_read_50 : decode cX6_read 50 = .ok (.putfield 192, 3) := by decide +kernel
theorem dX6_read_53 : decode cX6_read 53 = .ok (.aload_n 0, 1) := by decide +kernel
theorem dX6_read_54 : decode cX6_read 54 = .ok (.iconst 0, 1) := by decide +kernel
theorem dX6_read_55 : decode cX6_read 55 = .ok (.putfield 160, 3) := by decide +kernel
theorem dX6_read_58 : decode cX6_read 58 = .ok (.aload_n 0, 1) := by decide +kernel
theorem dX6_read_59 : decode cX6_read 59 = .ok (.getfield 165, 3) := by decide +kernel
theorem dX6_read_62 : decode cX6_read 62 = .ok (.ifCond .eq 10, 3) := by decide +kernel
theorem dX6_read_65 : decode cX6_read 65 = .ok (.aload_n 0, 1) := by decide +kernel
theorem dX6_read_66 : decode cX6_read 66 = .ok (.getfield 163, 3) := by decide +kernel
theorem dX6_read_69 : decode cX6_read 69 = .ok (.goto 4, 3) := by decide +kernel
theorem dX6_read_72 : decode cX6_read 72 = .ok (.iconst (-1), 1) := by decide +kernel
theorem dX6_read_73 : decode cX6_read 73 = .ok (.ireturn, 1) := by decide +kernel
theorem dX6_result_0 : decode cX6_result 0 = .ok (.aload_n 0, 1) := by decide +kernel
theorem dX6_result_1 : decode cX6_result 1 = .ok (.iconst 0, 1) := by decide +kernel
theorem dX6_result_2 : decode cX6_result 2 = .ok (.putfield 55, 3) := by decide +kernel
theorem dX6_result_5 : decode cX6_result 5 = .ok (.aload_n 0, 1) := by decide +kernel
theorem dX6_result_6 : decode cX6_result 6 = .ok (.getfield 192, 3) := by decide +kernel
theorem dX6_result_9 : decode cX6_result 9 = .ok (.lreturn, 1) := by decide +kernel
set_option maxRecDepth 20000 in
theorem ggX6_digest_X6_told : GoodIn wsX6_digest wsX6_told := goodIn_r _ [18, 19, 20, 21, 22, 23, 24, 25, 26, 27, 28, 29, 30, 31, 32, 33, 34, 35, 36, 37, 38, 39, 40, 41, 42, 43] (by decide +kernel) (by decide +kernel)
set_option maxRecDepth 20000 in
theorem gX6_digest_X6_told : GoodIn wsX6_digest (wsV RX6 136 RX6 yX6_told wsX6_told) := goodIn_app (goodIn_of _ (by decide +kernel)) ggX6_digest_X6_told
theorem dX6_digest_0 : decode cX6_digest 0 = .ok (.aload_n 0, 1) := by decide +kernel
theorem dX6_digest_1 : decode cX6_digest 1 = .ok (.iconst 0, 1) := by decide +kernel
theorem dX6_digest_2 : decode cX6_digest 2 = .ok (.putfield 55, 3) := by decide +kernel
theorem dX6_digest_5 : decode cX6_digest 5 = .ok (.ldc2_w 196, 3) := by decide +kernel
theorem dX6_digest_8 : decode cX6_digest 8 = .ok (.lstore_n 1, 1) := by decide +kernel
theorem dX6_digest_9 : decode cX6_digest 9 = .ok (.iconst 0, 1) := by decide +kernel
theorem dX6_digest_10 : decode cX6_digest 10 = .ok (.istore_n 3, 1) := by decide +kernel
theorem dX6_digest_11 : decode cX6_digest 11 = .ok (.iload_n 3, 1) := by decide +kernel
theorem dX6_digest_12 : decode cX6_digest 12 = .ok (.bipush 10, 2) := by decide +kernel
theorem dX6_digest_14 : decode cX6_digest 14 = .ok (.if_icmp .ge 42, 3) := by decide +kernel
theorem dX6_digest_17 : decode cX6_digest 17 = .ok (.lload_n 1, 1) := by decide +kernel
theorem dX6_digest_18 : decode cX6_digest 18 = .ok (.ldc2_w 198, 3) := by decide +kernel
theorem dX6_digest_21 : decode cX6_digest 21 = .ok (.lmul, 1) := by decide +kernel
theorem dX6_digest_22 : decode cX6_digest 22 = .ok (.aload_n 0, 1) := by decide +kernel
theorem dX6_digest_23 : decode cX6_digest 23 = .ok (.getfield 9, 3) := by decide +kernel
theorem dX6_digest_26 : decode cX6_digest 26 = .ok (.iload_n 3, 1) := by decide +kernel
theorem dX6_digest_27 : decode cX6_digest 27 = .ok (.iaload, 1) := by decide +kernel
theorem dX6_digest_28 : decode cX6_digest 28 = .ok (.i2l, 1) := by decide +kernel
theorem dX6_digest_29 : decode cX6_digest 29 = .ok (.ladd, 1) := by decide +kernel
theorem dX6_digest_30 : decode cX6_digest 30 = .ok (.ldc2_w 198, 3) := by decide +kernel
theorem dX6_digest_33 : decode cX6_digest 33 = .ok (.lmul, 1) := by decide +kernel
theorem dX6_digest_34 : decode cX6_digest 34 = .ok (.aload_n 0, 1) := by decide +kernel
theorem dX6_digest_35 : decode cX6_digest 35 = .ok (.getfield 13, 3) := by decide +kernel
theorem dX6_digest_38 : decode cX6_digest 38 = .ok (.iload_n 3, 1) := by decide +kernel
theorem dX6_digest_39 : decode cX6_digest 39 = .ok (.baload, 1) := by decide +kernel
theorem dX6_digest_40 : decode cX6_digest 40 = .ok (.ifCond .eq 7, 3) := by decide +kernel
theorem dX6_digest_43 : decode cX6_digest 43 = .ok (.lconst 1, 1) := by decide +kernel
theorem dX6_digest_44 : decode cX6_digest 44 = .ok (.goto 4, 3) := by decide +kernel
theorem dX6_digest_47 : decode cX6_digest 47 = .ok (.lconst 0, 1) := by decide +kernel
theorem dX6_digest_48 : decode cX6_digest 48 = .ok (.ladd, 1) := by decide +kernel
theorem dX6_digest_49 : decode cX6_digest 49 = .ok (.lstore_n 1, 1) := by decide +kernel
theorem dX6_digest_50 : decode cX6_digest 50 = .ok (.iinc 3 1, 3) := by decide +kernel
theorem dX6_digest_53 : decode cX6_digest 53 = .ok (.goto (-42), 3) := by decide +kernel
theorem dX6_digest_56 : decode cX6_digest 56 = .ok (.lload_n 1, 1) := by decide +kernel
theorem dX6_digest_57 : decode cX6_digest 57 = .ok (.ldc2_w 198, 3) := by decide +kernel
theorem dX6_digest_60 : decode cX6_digest 60 = .ok (.lmul, 1) := by decide +kernel
theorem dX6_digest_61 : decode cX6_digest 61 = .ok (.aload_n 0, 1) := by decide +kernel
theorem dX6_digest_62 : decode cX6_digest 62 = .ok (.getfield 17, 3) := by decide +kernel
theorem dX6_digest_65 : decode cX6_digest 65 = .ok (.i2l, 1) := by decide +kernel
theorem dX6_digest_66 : decode cX6_digest 66 = .ok (.ladd, 1) := by decide +kernel
theorem dX6_digest_67 : decode cX6_digest 67 = .ok (.lstore_n 1, 1) := by decide +kernel
theorem dX6_digest_68 : decode cX6_digest 68 = .ok (.iconst 0, 1) := by decide +kernel
theorem dX6_digest_69 : decode cX6_digest 69 = .ok (.istore_n 3, 1) := by decide +kernel
theorem dX6_digest_70 : decode cX6_digest 70 = .ok (.iload_n 3, 1) := by decide +kernel
theorem dX6_digest_71 : decode cX6_digest 71 = .ok (.bipush 16, 2) := by decide +kernel
theorem dX6_digest_73 : decode cX6_digest 73 = .ok (.if_icmp .ge 30, 3) := by decide +kernel
theorem dX6_digest_76 : decode cX6_digest 76 = .ok (.lload_n 1, 1) := by decide +kernel
theorem dX6_digest_77 : decode cX6_digest 77 = .ok (.ldc2_w 198, 3) := by decide +kernel
theorem dX6_digest_80 : decode cX6_digest 80 = .ok (.lmul, 1) := by decide +kernel
theorem dX6_digest_81 : decode cX6_digest 81 = .ok (.aload_n 0, 1) := by decide +kernel
theorem dX6_digest_82 : decode cX6_digest 82 = .ok (.getfield 21, 3) := by decide +kernel
theorem dX6_digest_85 : decode cX6_digest 85 = .ok (.iload_n 3, 1) := by decide +kernel
theorem dX6_digest_86 : decode cX6_digest 86 = .ok (.baload, 1) := by decide +kernel
theorem dX6_digest_87 : decode cX6_digest 87 = .ok (.ifCond .eq 7, 3) := by decide +kernel
theorem dX6_digest_90 : decode cX6_digest 90 = .ok (.lconst 1, 1) := by decide +kernel
theorem dX6_digest_91 : decode cX6_digest 91 = .ok (.goto 4, 3) := by decide +kernel
theorem dX6_digest_94 : decode cX6_digest 94 = .ok (.lconst 0, 1) := by decide +kernel
theorem dX6_digest_95 : decode cX6_digest 95 = .ok (.ladd, 1) := by decide +kernel
theorem dX6_digest_96 : decode cX6_digest 96 = .ok (.lstore_n 1, 1) := by decide +kernel
theorem dX6_digest_97 : decode cX6_digest 97 = .ok (.iinc 3 1, 3) := by decide +kernel
theorem dX6_digest_100 : decode cX6_digest 100 = .ok (.goto (-30), 3) := by decide +kernel
theorem dX6_digest_103 : decode cX6_digest 103 = .ok (.lload_n 1, 1) := by decide +kernel
theorem dX6_digest_104 : decode cX6_digest 104 = .ok (.ldc2_w 198, 3) := by decide +kernel
theorem dX6_digest_107 : decode cX6_digest 107 = .ok (.lmul, 1) := by decide +kernel
theorem dX6_digest_108 : decode cX6_digest 108 = .ok (.aload_n 0, 1) := by decide +kernel
theorem dX6_digest_109 : decode cX6_digest 109 = .ok (.getfield 110, 3) := by decide +kernel
theorem dX6_digest_112 : decode cX6_digest 112 = .ok (.i2l, 1) := by decide +kernel
theorem dX6_digest_113 : decode cX6_digest 113 = .ok (.ladd, 1) := by decide +kernel
theorem dX6_digest_114 : decode cX6_digest 114 = .ok (.lstore_n 1, 1) := by decide +kernel
theorem dX6_digest_115 : decode cX6_digest 115 = .ok (.iconst 0, 1) := by decide +kernel
theorem dX6_digest_116 : decode cX6_digest 116 = .ok (.istore_n 3, 1) := by decide +kernel
theorem dX6_digest_117 : decode cX6_digest 117 = .ok (.iload_n 3, 1) := by decide +kernel
theorem dX6_digest_118 : decode cX6_digest 118 = .ok (.aload_n 0, 1) := by decide +kernel
theorem dX6_digest_119 : decode cX6_digest 119 = .ok (.getfield 110, 3) := by decide +kernel
theorem dX6_digest_122 : decode cX6_digest 122 = .ok (.if_icmp .ge 52, 3) := by decide +kernel
theorem dX6_digest_125 : decode cX6_digest 125 = .ok (.lload_n 1, 1) := by decide +kernel
theorem dX6_digest_126 : decode cX6_digest 126 = .ok (.ldc2_w 198, 3) := by decide +kernel
theorem dX6_digest_129 : decode cX6_digest 129 = .ok (.lmul, 1) := by decide +kernel
theorem dX6_digest_130 : decode cX6_digest 130 = .ok (.aload_n 0, 1) := by decide +kernel
theorem dX6_digest_131 : decode cX6_digest 131 = .ok (.getfield 24, 3) := by decide +kernel
theorem dX6_digest_134 : decode cX6_digest 134 = .ok (.iload_n 3, 1) := by decide +kernel
theorem dX6_digest_135 : decode cX6_digest 135 = .ok (.laload, 1) := by decide +kernel
theorem dX6_digest_136 : decode cX6_digest 136 = .ok (.ladd, 1) := by decide +kernel
theorem dX6_digest_137 : decode cX6_digest 137 = .ok (.lstore_n 1, 1) := by decide +kernel
theorem dX6_digest_138 : decode cX6_digest 138 = .ok (.iconst 0, 1) := by decide +kernel
theorem dX6_digest_139 : decode cX6_digest 139 = .ok (.istore 4, 2) := by decide +kernel
theorem dX6_digest_141 : decode cX6_digest 141 = .ok (.iload 4, 2) := by decide +kernel
theorem dX6_digest_143 : decode cX6_digest 143 = .ok (.iconst 4, 1) := by decide +kernel
theorem dX6_digest_144 : decode cX6_digest 144 = .ok (.if_icmp .ge 24, 3) := by decide +kernel
theorem dX6_digest_147 : decode cX6_digest 147 = .ok (.lload_n 1, 1) := by decide +kernel
theorem dX6_digest_148 : decode cX6_digest 148 = .ok (.ldc2_w 198, 3) := by decide +kernel
theorem dX6_digest_151 : decode cX6_digest 151 = .ok (.lmul, 1) := by decide +kernel
theorem dX6_digest_152 : decode cX6_digest 152 = .ok (.aload_n 0, 1) := by decide +kernel
theorem dX6_digest_153 : decode cX6_digest 153 = .ok (.iload_n 3, 1) := by decide +kernel
theorem dX6_digest_154 : decode cX6_digest 154 = .ok (.iload 4, 2) := by decide +kernel
theorem dX6_digest_156 : decode cX6_digest 156 = .ok (.invokevirtual 136, 3) := by decide +kernel
theorem dX6_digest_159 : decode cX6_digest 159 = .ok (.i2l, 1) := by decide +kernel
theorem dX6_digest_160 : decode cX6_digest 160 = .ok (.ladd, 1) := by decide +kernel
theorem dX6_digest_161 : decode cX6_digest 161 = .ok (.lstore_n 1, 1) := by decide +kernel
theorem dX6_digest_162 : decode cX6_digest 162 = .ok (.iinc 4 1, 3) := by decide +kernel
theorem dX6_digest_165 : decode cX6_digest 165 = .ok (.goto (-24), 3) := by decide +kernel
theorem dX6_digest_168 : decode cX6_digest 168 = .ok (.iinc 3 1, 3) := by decide +kernel
theorem dX6_digest_171 : decode cX6_digest 171 = .ok (.goto (-54), 3) := by decide +kernel
theorem dX6_digest_174 : decode cX6_digest 174 = .ok (.lload_n 1, 1) := by decide +kernel
theorem dX6_digest_175 : decode cX6_digest 175 = .ok (.ldc2_w 198, 3) := by decide +kernel
theorem dX6_digest_178 : decode cX6_digest 178 = .ok (.lmul, 1) := by decide +kernel
theorem dX6_digest_179 : decode cX6_digest 179 = .ok (.aload_n 0, 1) := by decide +kernel
theorem dX6_digest_180 : decode cX6_digest 180 = .ok (.getfield 144, 3) := by decide +kernel
theorem dX6_digest_183 : decode cX6_digest 183 = .ok (.i2l, 1) := by decide +kernel
theorem dX6_digest_184 : decode cX6_digest 184 = .ok (.ladd, 1) := by decide +kernel
theorem dX6_digest_185 : decode cX6_digest 185 = .ok (.lstore_n 1, 1) := by decide +kernel
theorem dX6_digest_186 : decode cX6_digest 186 = .ok (.iconst 0, 1) := by decide +kernel
theorem dX6_digest_187 : decode cX6_digest 187 = .ok (.istore_n 3, 1) := by decide +kernel
theorem dX6_digest_188 : decode cX6_digest 188 = .ok (.iload_n 3, 1) := by decide +kernel
theorem dX6_digest_189 : decode cX6_digest 189 = .ok (.aload_n 0, 1) := by decide +kernel
theorem dX6_digest_190 : decode cX6_digest 190 = .ok (.getfield 144, 3) := by decide +kernel
theorem dX6_digest_193 : decode cX6_digest 193 = .ok (.if_icmp .ge 23, 3) := by decide +kernel
theorem dX6_digest_196 : decode cX6_digest 196 = .ok (.lload_n 1, 1) := by decide +kernel
theorem dX6_digest_197 : decode cX6_digest 197 = .ok (.ldc2_w 198, 3) := by decide +kernel
theorem dX6_digest_200 : decode cX6_digest 200 = .ok (.lmul, 1) := by decide +kernel
theorem dX6_digest_201 : decode cX6_digest 201 = .ok (.aload_n 0, 1) := by decide +kernel
theorem dX6_digest_202 : decode cX6_digest 202 = .ok (.getfield 49, 3) := by decide +kernel
theorem dX6_digest_205 : decode cX6_digest 205 = .ok (.iload_n 3, 1) := by decide +kernel
theorem dX6_digest_206 : decode cX6_digest 206 = .ok (.iaload, 1) := by decide +kernel
theorem dX6_digest_207 : decode cX6_digest 207 = .ok (.i2l, 1) := by decide +kernel
theorem dX6_digest_208 : decode cX6_digest 208 = .ok (.ladd, 1) := by decide +kernel
theorem dX6_digest_209 : decode cX6_digest 209 = .ok (.lstore_n 1, 1) := by decide +kernel
theorem dX6_digest_210 : decode cX6_digest 210 = .ok (.iinc 3 1, 3) := by decide +kernel
theorem dX6_digest_213 : decode cX6_digest 213 = .ok (.goto (-25), 3) := by decide +kernel
theorem dX6_digest_216 : decode cX6_digest 216 = .ok (.lload_n 1, 1) := by decide +kernel
theorem dX6_digest_217 : decode cX6_digest 217 = .ok (.ldc2_w 198, 3) := by decide +kernel
theorem dX6_digest_220 : decode cX6_digest 220 = .ok (.lmul, 1) := by decide +kernel
theorem dX6_digest_221 : decode cX6_digest 221 = .ok (.aload_n 0, 1) := by decide +kernel
theorem dX6_digest_222 : decode cX6_digest 222 = .ok (.getfield 160, 3) := by decide +kernel
theorem dX6_digest_225 : decode cX6_digest 225 = .ok (.i2l, 1) := by decide +kernel
theorem dX6_digest_226 : decode cX6_digest 226 = .ok (.ladd, 1) := by decide +kernel
theorem dX6_digest_227 : decode cX6_digest 227 = .ok (.ldc2_w 198, 3) := by decide +kernel
theorem dX6_digest_230 : decode cX6_digest 230 = .ok (.lmul, 1) := by decide +kernel
theorem dX6_digest_231 : decode cX6_digest 231 = .ok (.aload_n 0, 1) := by decide +kernel
theorem dX6_digest_232 : decode cX6_digest 232 = .ok (.getfield 192, 3) := by decide +kernel
theorem dX6_digest_235 : decode cX6_digest 235 = .ok (.ladd, 1) := by decide +kernel
theorem dX6_digest_236 : decode cX6_digest 236 = .ok (.lreturn, 1) := by decide +kernel
