theorem dX0_valueAt_0 : decode cX0_valueAt 0 = .ok (.lload_n 0, 1) := by decide +kernel
theorem dX0_valueAt_1 : decode cX0_valueAt 1 = .ok (.iconst 4, 1) := by decide +kernel
theorem dX0_valueAt_2 : decode cX0_valueAt 2 = .ok (.iload_n 2, 1) := by decide +kernel
theorem dX0_valueAt_3 : decode cX0_valueAt 3 = .ok (.imul, 1) := by decide +kernel
theorem dX0_valueAt_4 : decode cX0_valueAt 4 = .ok (.lushr, 1) := by decide +kernel
theorem dX0_valueAt_5 : decode cX0_valueAt 5 = .ok (.l2i, 1) := by decide +kernel
theorem dX0_valueAt_6 : decode cX0_valueAt 6 = .ok (.bipush 15, 2) := by decide +kernel
theorem dX0_valueAt_8 : decode cX0_valueAt 8 = .ok (.iand, 1) := by decide +kernel
theorem dX0_valueAt_9 : decode cX0_valueAt 9 = .ok (.ireturn, 1) := by decide +kernel
theorem dX0_constant_0 : decode cX0_constant 0 = .ok (.iload_n 0, 1) := by decide +kernel
theorem dX0_constant_1 : decode cX0_constant 1 = .ok (.i2l, 1) := by decide +kernel
theorem dX0_constant_2 : decode cX0_constant 2 = .ok (.ldc2_w 11, 3) := by decide +kernel
theorem dX0_constant_5 : decode cX0_constant 5 = .ok (.lmul, 1) := by decide +kernel
theorem dX0_constant_6 : decode cX0_constant 6 = .ok (.lreturn, 1) := by decide +kernel
set_option maxRecDepth 20000 in
theorem ggX0_made_X0_difference : GoodIn wsX0_made wsX0_difference := goodIn_r _ [6, 7, 2, 1] (by decide +kernel) (by decide +kernel)
set_option maxRecDepth 20000 in
theorem gX0_made_X0_difference : GoodIn wsX0_made (va_wsS RX0 15 yX0_difference wsX0_difference) := goodIn_app (goodIn_of _ (by decide +kernel)) ggX0_made_X0_difference
set_option maxRecDepth 20000 in
theorem ggX0_made_X0_twice : GoodIn wsX0_made wsX0_twice := goodIn_r _ [10, 2] (by decide +kernel) (by decide +kernel)
set_option maxRecDepth 20000 in
theorem gX0_made_X0_twice : GoodIn wsX0_made (va_wsS RX0 19 yX0_twice wsX0_twice) := goodIn_app (goodIn_of _ (by decide +kernel)) ggX0_made_X0_twice
set_option maxRecDepth 20000 in
theorem ggX0_made_X0_sum : GoodIn wsX0_made wsX0_sum := goodIn_r _ [13, 2, 7] (by decide +kernel) (by decide +kernel)
set_option maxRecDepth 20000 in
theorem gX0_made_X0_sum : GoodIn wsX0_made (va_wsS RX0 25 yX0_sum wsX0_sum) := goodIn_app (goodIn_of _ (by decide +kernel)) ggX0_made_X0_sum
set_option maxRecDepth 20000 in
theorem ggX0_made_X0_product : GoodIn wsX0_made wsX0_product := goodIn_r _ [16, 17, 18, 11, 12, 5, 13, 2, 7, 8, 9, 10] (by decide +kernel) (by decide +kernel)
set_option maxRecDepth 20000 in
theorem gX0_made_X0_product : GoodIn wsX0_made (va_wsS RX0 28 yX0_product wsX0_product) := goodIn_app (goodIn_of _ (by decide +kernel)) ggX0_made_X0_product
theorem dX0_made_0 : decode cX0_made 0 = .ok (.iload_n 0, 1) := by decide +kernel
theorem dX0_made_1 : decode cX0_made 1 = .ok (.tableswitch 100 0 8 #[51, 57, 63, 68, 76, 80, 84, 88, 94], 51) := by decide +kernel
theorem dX0_made_52 : decode cX0_made 52 = .ok (.lload_n 1, 1) := by decide +kernel
theorem dX0_made_53 : decode cX0_made 53 = .ok (.ldc2_w 13, 3) := by decide +kernel
theorem dX0_made_56 : decode cX0_made 56 = .ok (.lxor, 1) := by decide +kernel
theorem dX0_made_57 : decode cX0_made 57 = .ok (.lreturn, 1) := by decide +kernel
theorem dX0_made_58 : decode cX0_made 58 = .ok (.lconst 0, 1) := by decide +kernel
theorem dX0_made_59 : decode cX0_made 59 = .ok (.lload_n 1, 1) := by decide +kernel
theorem dX0_made_60 : decode cX0_made 60 = .ok (.invokestatic 15, 3) := by decide +kernel
theorem dX0_made_63 : decode cX0_made 63 = .ok (.lreturn, 1) := by decide +kernel
theorem dX0_made_64 : decode cX0_made 64 = .ok (.lload_n 1, 1) := by decide +kernel
theorem dX0_made_65 : decode cX0_made 65 = .ok (.invokestatic 19, 3) := by decide +kernel
theorem dX0_made_68 : decode cX0_made 68 = .ok (.lreturn, 1) := by decide +kernel
theorem dX0_made_69 : decode cX0_made 69 = .ok (.lload_n 1, 1) := by decide +kernel
theorem dX0_made_70 : decode cX0_made 70 = .ok (.iconst 1, 1) := by decide +kernel
theorem dX0_made_71 : decode cX0_made 71 = .ok (.lushr, 1) := by decide +kernel
theorem dX0_made_72 : decode cX0_made 72 = .ok (.ldc2_w 23, 3) := by decide +kernel
theorem dX0_made_75 : decode cX0_made 75 = .ok (.land, 1) := by decide +kernel
theorem dX0_made_76 : decode cX0_made 76 = .ok (.lreturn, 1) := by decide +kernel
theorem dX0_made_77 : decode cX0_made 77 = .ok (.lload_n 1, 1) := by decide +kernel
theorem dX0_made_78 : decode cX0_made 78 = .ok (.lload_n 3, 1) := by decide +kernel
theorem dX0_made_79 : decode cX0_made 79 = .ok (.land, 1) := by decide +kernel
theorem dX0_made_80 : decode cX0_made 80 = .ok (.lreturn, 1) := by decide +kernel
theorem dX0_made_81 : decode cX0_made 81 = .ok (.lload_n 1, 1) := by decide +kernel
theorem dX0_made_82 : decode cX0_made 82 = .ok (.lload_n 3, 1) := by decide +kernel
theorem dX0_made_83 : decode cX0_made 83 = .ok (.lor, 1) := by decide +kernel
theorem dX0_made_84 : decode cX0_made 84 = .ok (.lreturn, 1) := by decide +kernel
theorem dX0_made_85 : decode cX0_made 85 = .ok (.lload_n 1, 1) := by decide +kernel
theorem dX0_made_86 : decode cX0_made 86 = .ok (.lload_n 3, 1) := by decide +kernel
theorem dX0_made_87 : decode cX0_made 87 = .ok (.lxor, 1) := by decide +kernel
theorem dX0_made_88 : decode cX0_made 88 = .ok (.lreturn, 1) := by decide +kernel
theorem dX0_made_89 : decode cX0_made 89 = .ok (.lload_n 1, 1) := by decide +kernel
theorem dX0_made_90 : decode cX0_made 90 = .ok (.lload_n 3, 1) := by decide +kernel
theorem dX0_made_91 : decode cX0_made 91 = .ok (.invokestatic 25, 3) := by decide +kernel
theorem dX0_made_94 : decode cX0_made 94 = .ok (.lreturn, 1) := by decide +kernel
theorem dX0_made_95 : decode cX0_made 95 = .ok (.lload_n 1, 1) := by decide +kernel
theorem dX0_made_96 : decode cX0_made 96 = .ok (.lload_n 3, 1) := by decide +kernel
theorem dX0_made_97 : decode cX0_made 97 = .ok (.invokestatic 15, 3) := by decide +kernel
theorem dX0_made_100 : decode cX0_made 100 = .ok (.lreturn, 1) := by decide +kernel
theorem dX0_made_101 : decode cX0_made 101 = .ok (.lload_n 1, 1) := by decide +kernel
theorem dX0_made_102 : decode cX0_made 102 = .ok (.lload_n 3, 1) := by decide +kernel
theorem dX0_made_103 : decode cX0_made 103 = .ok (.invokestatic 28, 3) := by decide +kernel
theorem dX0_made_106 : decode cX0_made 106 = .ok (.lreturn, 1) := by decide +kernel
theorem dX0_twice_0 : decode cX0_twice 0 = .ok (.lload_n 0, 1) := by decide +kernel
theorem dX0_twice_1 : decode cX0_twice 1 = .ok (.ldc2_w 23, 3) := by decide +kernel
theorem dX0_twice_4 : decode cX0_twice 4 = .ok (.land, 1) := by decide +kernel
theorem dX0_twice_5 : decode cX0_twice 5 = .ok (.iconst 1, 1) := by decide +kernel
theorem dX0_twice_6 : decode cX0_twice 6 = .ok (.lshl, 1) := by decide +kernel
theorem dX0_twice_7 : decode cX0_twice 7 = .ok (.lreturn, 1) := by decide +kernel
theorem dX0_sum_0 : decode cX0_sum 0 = .ok (.lload_n 0, 1) := by decide +kernel
theorem dX0_sum_1 : decode cX0_sum 1 = .ok (.ldc2_w 23, 3) := by decide +kernel
theorem dX0_sum_4 : decode cX0_sum 4 = .ok (.land, 1) := by decide +kernel
theorem dX0_sum_5 : decode cX0_sum 5 = .ok (.lload_n 2, 1) := by decide +kernel
theorem dX0_sum_6 : decode cX0_sum 6 = .ok (.ldc2_w 23, 3) := by decide +kernel
theorem dX0_sum_9 : decode cX0_sum 9 = .ok (.land, 1) := by decide +kernel
theorem dX0_sum_10 : decode cX0_sum 10 = .ok (.ladd, 1) := by decide +kernel
theorem dX0_sum_11 : decode cX0_sum 11 = .ok (.lload_n 0, 1) := by decide +kernel
theorem dX0_sum_12 : decode cX0_sum 12 = .ok (.lload_n 2, 1) := by decide +kernel
theorem dX0_sum_13 : decode cX0_sum 13 = .ok (.lxor, 1) := by decide +kernel
theorem dX0_sum_14 : decode cX0_sum 14 = .ok (.ldc2_w 31, 3) := by decide +kernel
theorem dX0_sum_17 : decode cX0_sum 17 = .ok (.land, 1) := by decide +kernel
theorem dX0_sum_18 : decode cX0_sum 18 = .ok (.lxor, 1) := by decide +kernel
theorem dX0_sum_19 : decode cX0_sum 19 = .ok (.lreturn, 1) := by decide +kernel
theorem dX0_difference_0 : decode cX0_difference 0 = .ok (.lload_n 0, 1) := by decide +kernel
theorem dX0_difference_1 : decode cX0_difference 1 = .ok (.ldc2_w 31, 3) := by decide +kernel
theorem dX0_difference_4 : decode cX0_difference 4 = .ok (.lor, 1) := by decide +kernel
theorem dX0_difference_5 : decode cX0_difference 5 = .ok (.lload_n 2, 1) := by decide +kernel
theorem dX0_difference_6 : decode cX0_difference 6 = .ok (.ldc2_w 23, 3) := by decide +kernel
theorem dX0_difference_9 : decode cX0_difference 9 = .ok (.land, 1) := by decide +kernel
theorem dX0_difference_10 : decode cX0_difference 10 = .ok (.lsub, 1) := by decide +kernel
theorem dX0_difference_11 : decode cX0_difference 11 = .ok (.lload_n 0, 1) := by decide +kernel
theorem dX0_difference_12 : decode cX0_difference 12 = .ok (.lload_n 2, 1) := by decide +kernel
theorem dX0_difference_13 : decode cX0_difference 13 = .ok (.ldc2_w 13, 3) := by decide +kernel
theorem dX0_difference_16 : decode cX0_difference 16 = .ok (.lxor, 1) := by decide +kernel
theorem dX0_difference_17 : decode cX0_difference 17 = .ok (.lxor, 1) := by decide +kernel
theorem dX0_difference_18 : decode cX0_difference 18 = .ok (.ldc2_w 31, 3) := by decide +kernel
theorem dX0_difference_21 : decode cX0_difference 21 = .ok (.land, 1) := by decide +kernel
theorem dX0_difference_22 : decode cX0_difference 22 = .ok (.lxor, 1) := by decide +kernel
theorem dX0_difference_23 : decode cX0_difference 23 = .ok (.lreturn, 1) := by decide +kernel
set_option maxRecDepth 20000 in
theorem ggX0_product_X0_sum : GoodIn wsX0_product wsX0_sum := goodIn_r _ [6, 7, 8] (by decide +kernel) (by decide +kernel)
set_option maxRecDepth 20000 in
theorem gX0_product_X0_sum : GoodIn wsX0_product (va_wsS RX0 25 yX0_sum wsX0_sum) := goodIn_app (goodIn_of _ (by decide +kernel)) ggX0_product_X0_sum
set_option maxRecDepth 20000 in
theorem ggX0_product_X0_twice : GoodIn wsX0_product wsX0_twice := goodIn_r _ [11, 7] (by decide +kernel) (by decide +kernel)
set_option maxRecDepth 20000 in
theorem gX0_product_X0_twice : GoodIn wsX0_product (va_wsS RX0 19 yX0_twice wsX0_twice) := goodIn_app (goodIn_of _ (by decide +kernel)) ggX0_product_X0_twice
theorem dX0_product_0 : decode cX0_product 0 = .ok (.lconst 0, 1) := by decide +kernel
theorem dX0_product_1 : decode cX0_product 1 = .ok (.lstore 4, 2) := by decide +kernel
theorem dX0_product_3 : decode cX0_product 3 = .ok (.lload_n 0, 1) := by decide +kernel
theorem dX0_product_4 : decode cX0_product 4 = .ok (.lstore 6, 2) := by decide +kernel
theorem dX0_product_6 : decode cX0_product 6 = .ok (.iconst 0, 1) := by decide +kernel
theorem dX0_product_7 : decode cX0_product 7 = .ok (.istore 8, 2) := by decide +kernel
theorem dX0_product_9 : decode cX0_product 9 = .ok (.iload 8, 2) := by decide +kernel
theorem dX0_product_11 : decode cX0_product 11 = .ok (.iconst 4, 1) := by decide +kernel
theorem dX0_product_12 : decode cX0_product 12 = .ok (.if_icmp .ge 42, 3) := by decide +kernel
theorem dX0_product_15 : decode cX0_product 15 = .ok (.lload_n 2, 1) := by decide +kernel
theorem dX0_product_16 : decode cX0_product 16 = .ok (.iload 8, 2) := by decide +kernel
theorem dX0_product_18 : decode cX0_product 18 = .ok (.lushr, 1) := by decide +kernel
theorem dX0_product_19 : decode cX0_product 19 = .ok (.ldc2_w 11, 3) := by decide +kernel
theorem dX0_product_22 : decode cX0_product 22 = .ok (.land, 1) := by decide +kernel
theorem dX0_product_23 : decode cX0_product 23 = .ok (.ldc2_w 33, 3) := by decide +kernel
theorem dX0_product_26 : decode cX0_product 26 = .ok (.lmul, 1) := by decide +kernel
theorem dX0_product_27 : decode cX0_product 27 = .ok (.lstore 9, 2) := by decide +kernel
theorem dX0_product_29 : decode cX0_product 29 = .ok (.lload 4, 2) := by decide +kernel
theorem dX0_product_31 : decode cX0_product 31 = .ok (.lload 6, 2) := by decide +kernel
theorem dX0_product_33 : decode cX0_product 33 = .ok (.lload 9, 2) := by decide +kernel
theorem dX0_product_35 : decode cX0_product 35 = .ok (.land, 1) := by decide +kernel
theorem dX0_product_36 : decode cX0_product 36 = .ok (.invokestatic 25, 3) := by decide +kernel
theorem dX0_product_39 : decode cX0_product 39 = .ok (.lstore 4, 2) := by decide +kernel
theorem dX0_product_41 : decode cX0_product 41 = .ok (.lload 6, 2) := by decide +kernel
theorem dX0_product_43 : decode cX0_product 43 = .ok (.invokestatic 19, 3) := by decide +kernel
theorem dX0_product_46 : decode cX0_product 46 = .ok (.lstore 6, 2) := by decide +kernel
theorem dX0_product_48 : decode cX0_product 48 = .ok (.iinc 8 1, 3) := by decide +kernel
theorem dX0_product_51 : decode cX0_product 51 = .ok (.goto (-42), 3) := by decide +kernel
theorem dX0_product_54 : decode cX0_product 54 = .ok (.lload 4, 2) := by decide +kernel
theorem dX0_product_56 : decode cX0_product 56 = .ok (.lreturn, 1) := by decide +kernel
set_option maxRecDepth 20000 in
theorem ggX0_after_X0_valueAt : GoodIn wsX0_after wsX0_valueAt := goodIn_r _ [4] (by decide +kernel) (by decide +kernel)
set_option maxRecDepth 20000 in
theorem gX0_after_X0_valueAt : GoodIn wsX0_after (va_wsS RX0 35 yX0_valueAt wsX0_valueAt) := goodIn_app (goodIn_of _ (by decide +kernel)) ggX0_after_X0_valueAt
theorem dX0_after_0 : decode cX0_after 0 = .ok (.lconst 0, 1) := by decide +kernel
theorem dX0_after_1 : decode cX0_after 1 = .ok (.lstore 4, 2) := by decide +kernel
theorem dX0_after_3 : decode cX0_after 3 = .ok (.iconst 0, 1) := by decide +kernel
theorem dX0_after_4 : decode cX0_after 4 = .ok (.istore 6, 2) := by decide +kernel
theorem dX0_after_6 : decode cX0_after 6 = .ok (.iload 6, 2) := by decide +kernel
theorem dX0_after_8 : decode cX0_after 8 = .ok (.bipush 16, 2) := by decide +kernel
theorem dX0_after_10 : decode cX0_after 10 = .ok (.if_icmp .ge 30, 3) := by decide +kernel
theorem dX0_after_13 : decode cX0_after 13 = .ok (.lload 4, 2) := by decide +kernel
theorem dX0_after_15 : decode cX0_after 15 = .ok (.lload_n 0, 1) := by decide +kernel
theorem dX0_after_16 : decode cX0_after 16 = .ok (.lload_n 2, 1) := by decide +kernel
theorem dX0_after_17 : decode cX0_after 17 = .ok (.iload 6, 2) := by decide +kernel
theorem dX0_after_19 : decode cX0_after 19 = .ok (.invokestatic 35, 3) := by decide +kernel
theorem dX0_after_22 : decode cX0_after 22 = .ok (.invokestatic 35, 3) := by decide +kernel
theorem dX0_after_25 : decode cX0_after 25 = .ok (.i2l, 1) := by decide +kernel
theorem dX0_after_26 : decode cX0_after 26 = .ok (.iconst 4, 1) := by decide +kernel
theorem dX0_after_27 : decode cX0_after 27 = .ok (.iload 6, 2) := by decide +kernel
theorem dX0_after_29 : decode cX0_after 29 = .ok (.imul, 1) := by decide +kernel
theorem dX0_after_30 : decode cX0_after 30 = .ok (.lshl, 1) := by decide +kernel
theorem dX0_after_31 : decode cX0_after 31 = .ok (.lor, 1) := by decide +kernel
theorem dX0_after_32 : decode cX0_after 32 = .ok (.lstore 4, 2) := by decide +kernel
theorem dX0_after_34 : decode cX0_after 34 = .ok (.iinc 6 1, 3) := by decide +kernel
theorem dX0_after_37 : decode cX0_after 37 = .ok (.goto (-31), 3) := by decide +kernel
theorem dX0_after_40 : decode cX0_after 40 = .ok (.lload 4, 2) := by decide +kernel
theorem dX0_after_42 : decode cX0_after 42 = .ok (.lreturn, 1) := by decide +kernel
set_option maxRecDepth 20000 in
theorem ggX0_inverseOf_X0_valueAt : GoodIn wsX0_inverseOf wsX0_valueAt := goodIn_r _ [4] (by decide +kernel) (by decide +kernel)
set_option maxRecDepth 20000 in
theorem gX0_inverseOf_X0_valueAt : GoodIn wsX0_inverseOf (va_wsS RX0 35 yX0_valueAt wsX0_valueAt) := goodIn_app (goodIn_of _ (by decide +kernel)) ggX0_inverseOf_X0_valueAt
theorem dX0_inverseOf_0 : decode cX0_inverseOf 0 = .ok (.lconst 0, 1) := by decide +kernel
theorem dX0_inverseOf_1 : decode cX0_inverseOf 1 = .ok (.lstore_n 2, 1) := by decide +kernel
theorem dX0_inverseOf_2 : decode cX0_inverseOf 2 = .ok (.iconst 0, 1) := by decide +kernel
theorem dX0_inverseOf_3 : decode cX0_inverseOf 3 = .ok (.istore 4, 2) := by decide +kernel
theorem dX0_inverseOf_5 : decode cX0_inverseOf 5 = .ok (.iload 4, 2) := by decide +kernel
theorem dX0_inverseOf_7 : decode cX0_inverseOf 7 = .ok (.bipush 16, 2) := by decide +kernel
theorem dX0_inverseOf_9 : decode cX0_inverseOf 9 = .ok (.if_icmp .ge 24, 3) := by decide +kernel
theorem dX0_inverseOf_12 : decode cX0_inverseOf 12 = .ok (.lload_n 2, 1) := by decide +kernel
theorem dX0_inverseOf_13 : decode cX0_inverseOf 13 = .ok (.iload 4, 2) := by decide +kernel
theorem dX0_inverseOf_15 : decode cX0_inverseOf 15 = .ok (.i2l, 1) := by decide +kernel
theorem dX0_inverseOf_16 : decode cX0_inverseOf 16 = .ok (.iconst 4, 1) := by decide +kernel
theorem dX0_inverseOf_17 : decode cX0_inverseOf 17 = .ok (.lload_n 0, 1) := by decide +kernel
theorem dX0_inverseOf_18 : decode cX0_inverseOf 18 = .ok (.iload 4, 2) := by decide +kernel
theorem dX0_inverseOf_20 : decode cX0_inverseOf 20 = .ok (.invokestatic 35, 3) := by decide +kernel
theorem dX0_inverseOf_23 : decode cX0_inverseOf 23 = .ok (.imul, 1) := by decide +kernel
theorem dX0_inverseOf_24 : decode cX0_inverseOf 24 = .ok (.lshl, 1) := by decide +kernel
theorem dX0_inverseOf_25 : decode cX0_inverseOf 25 = .ok (.lor, 1) := by decide +kernel
theorem dX0_inverseOf_26 : decode cX0_inverseOf 26 = .ok (.lstore_n 2, 1) := by decide +kernel
theorem dX0_inverseOf_27 : decode cX0_inverseOf 27 = .ok (.iinc 4 1, 3) := by decide +kernel
theorem dX0_inverseOf_30 : decode cX0_inverseOf 30 = .ok (.goto (-25), 3) := by decide +kernel
theorem dX0_inverseOf_33 : decode cX0_inverseOf 33 = .ok (.lload_n 2, 1) := by decide +kernel
theorem dX0_inverseOf_34 : decode cX0_inverseOf 34 = .ok (.lreturn, 1) := by decide +kernel
set_option maxRecDepth 20000 in
theorem ggX0_countDifferences_J13_bitCount_95d88 : GoodIn wsX0_countDifferences wsJ13_bitCount_95d88 := goodIn_r _ [5, 6, 7, 8] (by decide +kernel) (by decide +kernel)
set_option maxRecDepth 20000 in
theorem gX0_countDifferences_J13_bitCount_95d88 : GoodIn wsX0_countDifferences (va_wsS RX0 39 yJ13_bitCount_95d88 wsJ13_bitCount_95d88) := goodIn_app (goodIn_of _ (by decide +kernel)) ggX0_countDifferences_J13_bitCount_95d88
theorem dX0_countDifferences_0 : decode cX0_countDifferences 0 = .ok (.lload_n 0, 1) := by decide +kernel
theorem dX0_countDifferences_1 : decode cX0_countDifferences 1 = .ok (.lload_n 2, 1) := by decide +kernel
theorem dX0_countDifferences_2 : decode cX0_countDifferences 2 = .ok (.lxor, 1) := by decide +kernel
theorem dX0_countDifferences_3 : decode cX0_countDifferences 3 = .ok (.lstore 4, 2) := by decide +kernel
theorem dX0_countDifferences_5 : decode cX0_countDifferences 5 = .ok (.lload 4, 2) := by decide +kernel
theorem dX0_countDifferences_7 : decode cX0_countDifferences 7 = .ok (.lload 4, 2) := by decide +kernel
theorem dX0_countDifferences_9 : decode cX0_countDifferences 9 = .ok (.iconst 2, 1) := by decide +kernel
theorem dX0_countDifferences_10 : decode cX0_countDifferences 10 = .ok (.lushr, 1) := by decide +kernel
theorem dX0_countDifferences_11 : decode cX0_countDifferences 11 = .ok (.lor, 1) := by decide +kernel
theorem dX0_countDifferences_12 : decode cX0_countDifferences 12 = .ok (.lstore 4, 2) := by decide +kernel
theorem dX0_countDifferences_14 : decode cX0_countDifferences 14 = .ok (.lload 4, 2) := by decide +kernel
theorem dX0_countDifferences_16 : decode cX0_countDifferences 16 = .ok (.lload 4, 2) := by decide +kernel
theorem dX0_countDifferences_18 : decode cX0_countDifferences 18 = .ok (.iconst 1, 1) := by decide +kernel
theorem dX0_countDifferences_19 : decode cX0_countDifferences 19 = .ok (.lushr, 1) := by decide +kernel
theorem dX0_countDifferences_20 : decode cX0_countDifferences 20 = .ok (.lor, 1) := by decide +kernel
theorem dX0_countDifferences_21 : decode cX0_countDifferences 21 = .ok (.lstore 4, 2) := by decide +kernel
theorem dX0_countDifferences_23 : decode cX0_countDifferences 23 = .ok (.lload 4, 2) := by decide +kernel
theorem dX0_countDifferences_25 : decode cX0_countDifferences 25 = .ok (.ldc2_w 11, 3) := by decide +kernel
theorem dX0_countDifferences_28 : decode cX0_countDifferences 28 = .ok (.land, 1) := by decide +kernel
theorem dX0_countDifferences_29 : decode cX0_countDifferences 29 = .ok (.invokestatic 39, 3) := by decide +kernel
theorem dX0_countDifferences_32 : decode cX0_countDifferences 32 = .ok (.ireturn, 1) := by decide +kernel
set_option maxRecDepth 20000 in
theorem ggX0_countValues_X0_image : GoodIn wsX0_countValues wsX0_image := goodIn_r _ [5, 6, 7, 4, 8] (by decide +kernel) (by decide +kernel)
set_option maxRecDepth 20000 in
theorem gX0_countValues_X0_image : GoodIn wsX0_countValues (va_wsS RX0 46 yX0_image wsX0_image) := goodIn_app (goodIn_of _ (by decide +kernel)) ggX0_countValues_X0_image
set_option maxRecDepth 20000 in
theorem ggX0_countValues_J6_bitCount_0f7a4 : GoodIn wsX0_countValues wsJ6_bitCount_0f7a4 := goodIn_r _ [12, 13, 14, 15] (by decide +kernel) (by decide +kernel)
set_option maxRecDepth 20000 in
theorem gX0_countValues_J6_bitCount_0f7a4 : GoodIn wsX0_countValues (va_wsS RX0 49 yJ6_bitCount_0f7a4 wsJ6_bitCount_0f7a4) := goodIn_app (goodIn_of _ (by decide +kernel)) ggX0_countValues_J6_bitCount_0f7a4
theorem dX0_countValues_0 : decode cX0_countValues 0 = .ok (.lload_n 0, 1) := by decide +kernel
theorem dX0_countValues_1 : decode cX0_countValues 1 = .ok (.ldc 45, 2) := by decide +kernel
theorem dX0_countValues_3 : decode cX0_countValues 3 = .ok (.invokestatic 46, 3) := by decide +kernel
theorem dX0_countValues_6 : decode cX0_countValues 6 = .ok (.invokestatic 49, 3) := by decide +kernel
theorem dX0_countValues_9 : decode cX0_countValues 9 = .ok (.ireturn, 1) := by decide +kernel
set_option maxRecDepth 20000 in
theorem ggX0_image_X0_valueAt : GoodIn wsX0_image wsX0_valueAt := goodIn_r _ [4] (by decide +kernel) (by decide +kernel)
set_option maxRecDepth 20000 in
theorem gX0_image_X0_valueAt : GoodIn wsX0_image (va_wsS RX0 35 yX0_valueAt wsX0_valueAt) := goodIn_app (goodIn_of _ (by decide +kernel)) ggX0_image_X0_valueAt
theorem dX0_image_0 : decode cX0_image 0 = .ok (.iconst 0, 1) := by decide +kernel
theorem dX0_image_1 : decode cX0_image 1 = .ok (.istore_n 3, 1) := by decide +kernel
theorem dX0_image_2 : decode cX0_image 2 = .ok (.iconst 0, 1) := by decide +kernel
theorem dX0_image_3 : decode cX0_image 3 = .ok (.istore 4, 2) := by decide +kernel
theorem dX0_image_5 : decode cX0_image 5 = .ok (.iload 4, 2) := by decide +kernel
theorem dX0_image_7 : decode cX0_image 7 = .ok (.bipush 16, 2) := by decide +kernel
theorem dX0_image_9 : decode cX0_image 9 = .ok (.if_icmp .ge 30, 3) := by decide +kernel
theorem dX0_image_12 : decode cX0_image 12 = .ok (.iload_n 2, 1) := by decide +kernel
theorem dX0_image_13 : decode cX0_image 13 = .ok (.iload 4, 2) := by decide +kernel
theorem dX0_image_15 : decode cX0_image 15 = .ok (.iushr, 1) := by decide +kernel
theorem dX0_image_16 : decode cX0_image 16 = .ok (.iconst 1, 1) := by decide +kernel
theorem dX0_image_17 : decode cX0_image 17 = .ok (.iand, 1) := by decide +kernel
theorem dX0_image_18 : decode cX0_image 18 = .ok (.iconst 1, 1) := by decide +kernel
theorem dX0_image_19 : decode cX0_image 19 = .ok (.if_icmp .ne 14, 3) := by decide +kernel
theorem dX0_image_22 : decode cX0_image 22 = .ok (.iload_n 3, 1) := by decide +kernel
theorem dX0_image_23 : decode cX0_image 23 = .ok (.iconst 1, 1) := by decide +kernel
theorem dX0_image_24 : decode cX0_image 24 = .ok (.lload_n 0, 1) := by decide +kernel
theorem dX0_image_25 : decode cX0_image 25 = .ok (.iload 4, 2) := by decide +kernel
theorem dX0_image_27 : decode cX0_image 27 = .ok (.invokestatic 35, 3) := by decide +kernel
theorem dX0_image_30 : decode cX0_image 30 = .ok (.ishl, 1) := by decide +kernel
theorem dX0_image_31 : decode cX0_image 31 = .ok (.ior, 1) := by decide +kernel
theorem dX0_image_32 : decode cX0_image 32 = .ok (.istore_n 3, 1) := by decide +kernel
theorem dX0_image_33 : decode cX0_image 33 = .ok (.iinc 4 1, 3) := by decide +kernel
theorem dX0_image_36 : decode cX0_image 36 = .ok (.goto (-31), 3) := by decide +kernel
theorem dX0_image_39 : decode cX0_image 39 = .ok (.iload_n 3, 1) := by decide +kernel
theorem dX0_image_40 : decode cX0_image 40 = .ok (.ireturn, 1) := by decide +kernel
set_option maxRecDepth 20000 in
theorem ggX0_returningInputs_X0_image : GoodIn wsX0_returningInputs wsX0_image := goodIn_r _ [5, 6, 7, 4, 8] (by decide +kernel) (by decide +kernel)
set_option maxRecDepth 20000 in
theorem gX0_returningInputs_X0_image : GoodIn wsX0_returningInputs (va_wsS RX0 46 yX0_image wsX0_image) := goodIn_app (goodIn_of _ (by decide +kernel)) ggX0_returningInputs_X0_image
theorem dX0_returningInputs_0 : decode cX0_returningInputs 0 = .ok (.ldc 45, 2) := by decide +kernel
theorem dX0_returningInputs_2 : decode cX0_returningInputs 2 = .ok (.istore_n 2, 1) := by decide +kernel
theorem dX0_returningInputs_3 : decode cX0_returningInputs 3 = .ok (.iconst 0, 1) := by decide +kernel
theorem dX0_returningInputs_4 : decode cX0_returningInputs 4 = .ok (.istore_n 3, 1) := by decide +kernel
theorem dX0_returningInputs_5 : decode cX0_returningInputs 5 = .ok (.iload_n 3, 1) := by decide +kernel
theorem dX0_returningInputs_6 : decode cX0_returningInputs 6 = .ok (.bipush 16, 2) := by decide +kernel
theorem dX0_returningInputs_8 : decode cX0_returningInputs 8 = .ok (.if_icmp .ge 15, 3) := by decide +kernel
theorem dX0_returningInputs_11 : decode cX0_returningInputs 11 = .ok (.lload_n 0, 1) := by decide +kernel
theorem dX0_returningInputs_12 : decode cX0_returningInputs 12 = .ok (.iload_n 2, 1) := by decide +kernel
theorem dX0_returningInputs_13 : decode cX0_returningInputs 13 = .ok (.invokestatic 46, 3) := by decide +kernel
theorem dX0_returningInputs_16 : decode cX0_returningInputs 16 = .ok (.istore_n 2, 1) := by decide +kernel
theorem dX0_returningInputs_17 : decode cX0_returningInputs 17 = .ok (.iinc 3 1, 3) := by decide +kernel
theorem dX0_returningInputs_20 : decode cX0_returningInputs 20 = .ok (.goto (-15), 3) := by decide +kernel
theorem dX0_returningInputs_23 : decode cX0_returningInputs 23 = .ok (.iload_n 2, 1) := by decide +kernel
theorem dX0_returningInputs_24 : decode cX0_returningInputs 24 = .ok (.ireturn, 1) := by decide +kernel
set_option maxRecDepth 20000 in
theorem ggX0_stepsToReturning_X0_returningInputs : GoodIn wsX0_stepsToReturning wsX0_returningInputs := goodIn_r _ [5, 1, 6, 7, 4, 8, 9, 10, 11] (by decide +kernel) (by decide +kernel)
set_option maxRecDepth 20000 in
theorem gX0_stepsToReturning_X0_returningInputs : GoodIn wsX0_stepsToReturning (va_wsS RX0 54 yX0_returningInputs wsX0_returningInputs) := goodIn_app (goodIn_of _ (by decide +kernel)) ggX0_stepsToReturning_X0_returningInputs
set_option maxRecDepth 20000 in
theorem ggX0_stepsToReturning_X0_image : GoodIn wsX0_stepsToReturning wsX0_image := goodIn_r _ [8, 9, 10, 4, 11] (by decide +kernel) (by decide +kernel)
set_option maxRecDepth 20000 in
theorem gX0_stepsToReturning_X0_image : GoodIn wsX0_stepsToReturning (va_wsS RX0 46 yX0_image wsX0_image) := goodIn_app (goodIn_of _ (by decide +kernel)) ggX0_stepsToReturning_X0_image
theorem dX0_stepsToReturning_0 : decode cX0_stepsToReturning 0 = .ok (.lload_n 0, 1) := by decide +kernel
theorem dX0_stepsToReturning_1 : decode cX0_stepsToReturning 1 = .ok (.invokestatic 54, 3) := by decide +kernel
theorem dX0_stepsToReturning_4 : decode cX0_stepsToReturning 4 = .ok (.istore_n 2, 1) := by decide +kernel
theorem dX0_stepsToReturning_5 : decode cX0_stepsToReturning 5 = .ok (.ldc 45, 2) := by decide +kernel
theorem dX0_stepsToReturning_7 : decode cX0_stepsToReturning 7 = .ok (.istore_n 3, 1) := by decide +kernel
theorem dX0_stepsToReturning_8 : decode cX0_stepsToReturning 8 = .ok (.iconst 0, 1) := by decide +kernel
theorem dX0_stepsToReturning_9 : decode cX0_stepsToReturning 9 = .ok (.istore 4, 2) := by decide +kernel
theorem dX0_stepsToReturning_11 : decode cX0_stepsToReturning 11 = .ok (.iload 4, 2) := by decide +kernel
theorem dX0_stepsToReturning_13 : decode cX0_stepsToReturning 13 = .ok (.bipush 16, 2) := by decide +kernel
theorem dX0_stepsToReturning_15 : decode cX0_stepsToReturning 15 = .ok (.if_icmp .ge 20, 3) := by decide +kernel
theorem dX0_stepsToReturning_18 : decode cX0_stepsToReturning 18 = .ok (.iload_n 3, 1) := by decide +kernel
theorem dX0_stepsToReturning_19 : decode cX0_stepsToReturning 19 = .ok (.iload_n 2, 1) := by decide +kernel
theorem dX0_stepsToReturning_20 : decode cX0_stepsToReturning 20 = .ok (.if_icmp .eq 15, 3) := by decide +kernel
theorem dX0_stepsToReturning_23 : decode cX0_stepsToReturning 23 = .ok (.lload_n 0, 1) := by decide +kernel
theorem dX0_stepsToReturning_24 : decode cX0_stepsToReturning 24 = .ok (.iload_n 3, 1) := by decide +kernel
theorem dX0_stepsToReturning_25 : decode cX0_stepsToReturning 25 = .ok (.invokestatic 46, 3) := by decide +kernel
theorem dX0_stepsToReturning_28 : decode cX0_stepsToReturning 28 = .ok (.istore_n 3, 1) := by decide +kernel
theorem dX0_stepsToReturning_29 : decode cX0_stepsToReturning 29 = .ok (.iinc 4 1, 3) := by decide +kernel
theorem dX0_stepsToReturning_32 : decode cX0_stepsToReturning 32 = .ok (.goto (-21), 3) := by decide +kernel
theorem dX0_stepsToReturning_35 : decode cX0_stepsToReturning 35 = .ok (.iload 4, 2) := by decide +kernel
theorem dX0_stepsToReturning_37 : decode cX0_stepsToReturning 37 = .ok (.ireturn, 1) := by decide +kernel
theorem dX0_maskOf_0 : decode cX0_maskOf 0 = .ok (.lconst 0, 1) := by decide +kernel
theorem dX0_maskOf_1 : decode cX0_maskOf 1 = .ok (.lstore_n 1, 1) := by decide +kernel
theorem dX0_maskOf_2 : decode cX0_maskOf 2 = .ok (.iconst 0, 1) := by decide +kernel
theorem dX0_maskOf_3 : decode cX0_maskOf 3 = .ok (.istore_n 3, 1) := by decide +kernel
theorem dX0_maskOf_4 : decode cX0_maskOf 4 = .ok (.iload_n 3, 1) := by decide +kernel
theorem dX0_maskOf_5 : decode cX0_maskOf 5 = .ok (.bipush 16, 2) := by decide +kernel
theorem dX0_maskOf_7 : decode cX0_maskOf 7 = .ok (.if_icmp .ge 28, 3) := by decide +kernel
theorem dX0_maskOf_10 : decode cX0_maskOf 10 = .ok (.iload_n 0, 1) := by decide +kernel
theorem dX0_maskOf_11 : decode cX0_maskOf 11 = .ok (.iload_n 3, 1) := by decide +kernel
theorem dX0_maskOf_12 : decode cX0_maskOf 12 = .ok (.iushr, 1) := by decide +kernel
theorem dX0_maskOf_13 : decode cX0_maskOf 13 = .ok (.iconst 1, 1) := by decide +kernel
theorem dX0_maskOf_14 : decode cX0_maskOf 14 = .ok (.iand, 1) := by decide +kernel
theorem dX0_maskOf_15 : decode cX0_maskOf 15 = .ok (.iconst 1, 1) := by decide +kernel
theorem dX0_maskOf_16 : decode cX0_maskOf 16 = .ok (.if_icmp .ne 13, 3) := by decide +kernel
theorem dX0_maskOf_19 : decode cX0_maskOf 19 = .ok (.lload_n 1, 1) := by decide +kernel
theorem dX0_maskOf_20 : decode cX0_maskOf 20 = .ok (.ldc2_w 33, 3) := by decide +kernel
theorem dX0_maskOf_23 : decode cX0_maskOf 23 = .ok (.iconst 4, 1) := by decide +kernel
theorem dX0_maskOf_24 : decode cX0_maskOf 24 = .ok (.iload_n 3, 1) := by decide +kernel
theorem dX0_maskOf_25 : decode cX0_maskOf 25 = .ok (.imul, 1) := by decide +kernel
theorem dX0_maskOf_26 : decode cX0_maskOf 26 = .ok (.lshl, 1) := by decide +kernel
theorem dX0_maskOf_27 : decode cX0_maskOf 27 = .ok (.lor, 1) := by decide +kernel
theorem dX0_maskOf_28 : decode cX0_maskOf 28 = .ok (.lstore_n 1, 1) := by decide +kernel
theorem dX0_maskOf_29 : decode cX0_maskOf 29 = .ok (.iinc 3 1, 3) := by decide +kernel
theorem dX0_maskOf_32 : decode cX0_maskOf 32 = .ok (.goto (-28), 3) := by decide +kernel
theorem dX0_maskOf_35 : decode cX0_maskOf 35 = .ok (.lload_n 1, 1) := by decide +kernel
theorem dX0_maskOf_36 : decode cX0_maskOf 36 = .ok (.lreturn, 1) := by decide +kernel
theorem dX1_init_0 : decode cX1_init 0 = .ok (.aload_n 0, 1) := by decide +kernel
theorem dX1_init_1 : decode cX1_init 1 = .ok (.invokespecial 3, 3) := by decide +kernel
theorem dX1_init_4 : decode cX1_init 4 = .ok (.aload_n 0, 1) := by decide +kernel
theorem dX1_init_5 : decode cX1_init 5 = .ok (.bipush 30, 2) := by decide +kernel
theorem dX1_init_7 : decode cX1_init 7 = .ok (.newarray .int, 2) := by decide +kernel
theorem dX1_init_9 : decode cX1_init 9 = .ok (.putfield 11, 3) := by decide +kernel
theorem dX1_init_12 : decode cX1_init 12 = .ok (.return_, 1) := by decide +kernel
set_option maxRecDepth 20000 in
theorem ggX2_init_J7_fill_53178 : GoodIn wsX2_init wsJ7_fill_53178 := goodIn_r _ [16] (by decide +kernel) (by decide +kernel)
set_option maxRecDepth 20000 in
theorem gX2_init_J7_fill_53178 : GoodIn wsX2_init (va_wsS RX2 34 yJ7_fill_53178 wsJ7_fill_53178) := goodIn_app (goodIn_of _ (by decide +kernel)) ggX2_init_J7_fill_53178
theorem dX2_init_0 : decode cX2_init 0 = .ok (.aload_n 0, 1) := by decide +kernel
theorem dX2_init_1 : decode cX2_init 1 = .ok (.invokespecial 3, 3) := by decide +kernel
theorem dX2_init_4 : decode cX2_init 4 = .ok (.aload_n 0, 1) := by decide +kernel
theorem dX2_init_5 : decode cX2_init 5 = .ok (.sipush 2000, 3) := by decide +kernel
theorem dX2_init_8 : decode cX2_init 8 = .ok (.newarray .long, 2) := by decide +kernel
theorem dX2_init_10 : decode cX2_init 10 = .ok (.putfield 11, 3) := by decide +kernel
theorem dX2_init_13 : decode cX2_init 13 = .ok (.aload_n 0, 1) := by decide +kernel
theorem dX2_init_14 : decode cX2_init 14 = .ok (.sipush 2000, 3) := by decide +kernel
theorem dX2_init_17 : decode cX2_init 17 = .ok (.newarray .int, 2) := by decide +kernel
theorem dX2_init_19 : decode cX2_init 19 = .ok (.putfield 15, 3) := by decide +kernel
theorem dX2_init_22 : decode cX2_init 22 = .ok (.aload_n 0, 1) := by decide +kernel
theorem dX2_init_23 : decode cX2_init 23 = .ok (.sipush 2000, 3) := by decide +kernel
theorem dX2_init_26 : decode cX2_init 26 = .ok (.newarray .int, 2) := by decide +kernel
theorem dX2_init_28 : decode cX2_init 28 = .ok (.putfield 19, 3) := by decide +kernel
theorem dX2_init_31 : decode cX2_init 31 = .ok (.aload_n 0, 1) := by decide +kernel
theorem dX2_init_32 : decode cX2_init 32 = .ok (.sipush 2000, 3) := by decide +kernel
theorem dX2_init_35 : decode cX2_init 35 = .ok (.newarray .int, 2) := by decide +kernel
theorem dX2_init_37 : decode cX2_init 37 = .ok (.putfield 22, 3) := by decide +kernel
theorem dX2_init_40 : decode cX2_init 40 = .ok (.aload_n 0, 1) := by decide +kernel
theorem dX2_init_41 : decode cX2_init 41 = .ok (.bipush 8, 2) := by decide +kernel
theorem dX2_init_43 : decode cX2_init 43 = .ok (.newarray .int, 2) := by decide +kernel
theorem dX2_init_45 : decode cX2_init 45 = .ok (.putfield 25, 3) := by decide +kernel
theorem dX2_init_48 : decode cX2_init 48 = .ok (.aload_n 0, 1) := by decide +kernel
theorem dX2_init_49 : decode cX2_init 49 = .ok (.sipush 4096, 3) := by decide +kernel
theorem dX2_init_52 : decode cX2_init 52 = .ok (.newarray .int, 2) := by decide +kernel
theorem dX2_init_54 : decode cX2_init 54 = .ok (.putfield 28, 3) := by decide +kernel
theorem dX2_init_57 : decode cX2_init 57 = .ok (.aload_n 0, 1) := by decide +kernel
theorem dX2_init_58 : decode cX2_init 58 = .ok (.bipush 13, 2) := by decide +kernel
theorem dX2_init_60 : decode cX2_init 60 = .ok (.newarray .int, 2) := by decide +kernel
theorem dX2_init_62 : decode cX2_init 62 = .ok (.putfield 31, 3) := by decide +kernel
theorem dX2_init_65 : decode cX2_init 65 = .ok (.aload_n 0, 1) := by decide +kernel
theorem dX2_init_66 : decode cX2_init 66 = .ok (.getfield 28, 3) := by decide +kernel
theorem dX2_init_69 : decode cX2_init 69 = .ok (.iconst (-1), 1) := by decide +kernel
theorem dX2_init_70 : decode cX2_init 70 = .ok (.invokestatic 34, 3) := by decide +kernel
theorem dX2_init_73 : decode cX2_init 73 = .ok (.return_, 1) := by decide +kernel
theorem dX2_has_0 : decode cX2_has 0 = .ok (.iload_n 1, 1) := by decide +kernel
theorem dX2_has_1 : decode cX2_has 1 = .ok (.ifCond .lt 15, 3) := by decide +kernel
theorem dX2_has_4 : decode cX2_has 4 = .ok (.iload_n 1, 1) := by decide +kernel
theorem dX2_has_5 : decode cX2_has 5 = .ok (.aload_n 0, 1) := by decide +kernel
theorem dX2_has_6 : decode cX2_has 6 = .ok (.getfield 40, 3) := by decide +kernel
theorem dX2_has_9 : decode cX2_has 9 = .ok (.if_icmp .ge 7, 3) := by decide +kernel
theorem dX2_has_12 : decode cX2_has 12 = .ok (.iconst 1, 1) := by decide +kernel
theorem dX2_has_13 : decode cX2_has 13 = .ok (.goto 4, 3) := by decide +kernel
theorem dX2_has_16 : decode cX2_has 16 = .ok (.iconst 0, 1) := by decide +kernel
theorem dX2_has_17 : decode cX2_has 17 = .ok (.ireturn, 1) := by decide +kernel
theorem dX2_isFull_0 : decode cX2_isFull 0 = .ok (.aload_n 0, 1) := by decide +kernel
theorem dX2_isFull_1 : decode cX2_isFull 1 = .ok (.getfield 40, 3) := by decide +kernel
theorem dX2_isFull_4 : decode cX2_isFull 4 = .ok (.sipush 2000, 3) := by decide +kernel
theorem dX2_isFull_7 : decode cX2_isFull 7 = .ok (.if_icmp .lt 7, 3) := by decide +kernel
theorem dX2_isFull_10 : decode cX2_isFull 10 = .ok (.iconst 1, 1) := by decide +kernel
theorem dX2_isFull_11 : decode cX2_isFull 11 = .ok (.goto 4, 3) := by decide +kernel
theorem dX2_isFull_14 : decode cX2_isFull 14 = .ok (.iconst 0, 1) := by decide +kernel
theorem dX2_isFull_15 : decode cX2_isFull 15 = .ok (.ireturn, 1) := by decide +kernel
set_option maxRecDepth 20000 in
theorem ggX2_make_J7_fill_53178 : GoodIn wsX2_make wsJ7_fill_53178 := goodIn_r _ [7] (by decide +kernel) (by decide +kernel)
set_option maxRecDepth 20000 in
theorem gX2_make_J7_fill_53178 : GoodIn wsX2_make (va_wsS RX2 34 yJ7_fill_53178 wsJ7_fill_53178) := goodIn_app (goodIn_of _ (by decide +kernel)) ggX2_make_J7_fill_53178
set_option maxRecDepth 20000 in
theorem ggX2_make_X2_makeCost : GoodIn wsX2_make wsX2_makeCost := goodIn_r _ [12, 13, 14, 15, 16, 17, 18, 11, 19, 2, 1, 20, 21, 22, 23, 24, 25, 26, 27, 28, 29, 30, 31, 32, 33, 34, 35, 36, 37, 38, 39, 40, 41, 42, 43, 44, 45, 46, 47, 48, 49, 50, 51, 52, 53, 54, 55, 3, 56, 57, 58, 59, 60, 61, 62, 63, 64, 65, 66, 67, 68, 69, 70, 71, 72, 73, 74, 75, 76, 77, 78, 87, 88, 89, 79, 80, 81, 82, 83, 84, 85, 86] (by decide +kernel) (by decide +kernel)
set_option maxRecDepth 20000 in
theorem gX2_make_X2_makeCost : GoodIn wsX2_make (wsV RX2 44 RX2 yX2_makeCost wsX2_makeCost) := goodIn_app (goodIn_of _ (by decide +kernel)) ggX2_make_X2_makeCost
theorem dX2_make_0 : decode cX2_make 0 = .ok (.aload_n 0, 1) := by decide +kernel
theorem dX2_make_1 : decode cX2_make 1 = .ok (.iconst 0, 1) := by decide +kernel
theorem dX2_make_2 : decode cX2_make 2 = .ok (.putfield 40, 3) := by decide +kernel
theorem dX2_make_5 : decode cX2_make 5 = .ok (.aload_n 0, 1) := by decide +kernel
theorem dX2_make_6 : decode cX2_make 6 = .ok (.getfield 28, 3) := by decide +kernel
theorem dX2_make_9 : decode cX2_make 9 = .ok (.iconst (-1), 1) := by decide +kernel
theorem dX2_make_10 : decode cX2_make 10 = .ok (.invokestatic 34, 3) := by decide +kernel
theorem dX2_make_13 : decode cX2_make 13 = .ok (.iconst 0, 1) := by decide +kernel
theorem dX2_make_14 : decode cX2_make 14 = .ok (.istore_n 3, 1) := by decide +kernel
theorem dX2_make_15 : decode cX2_make 15 = .ok (.iload_n 3, 1) := by decide +kernel
theorem dX2_make_16 : decode cX2_make 16 = .ok (.aload_n 0, 1) := by decide +kernel
theorem dX2_make_17 : decode cX2_make 17 = .ok (.getfield 25, 3) := by decide +kernel
theorem dX2_make_20 : decode cX2_make 20 = .ok (.arraylength, 1) := by decide +kernel
theorem dX2_make_21 : decode cX2_make 21 = .ok (.if_icmp .ge 36, 3) := by decide +kernel
theorem dX2_make_24 : decode cX2_make 24 = .ok (.aload_n 0, 1) := by decide +kernel
theorem dX2_make_25 : decode cX2_make 25 = .ok (.getfield 25, 3) := by decide +kernel
theorem dX2_make_28 : decode cX2_make 28 = .ok (.iload_n 3, 1) := by decide +kernel
theorem dX2_make_29 : decode cX2_make 29 = .ok (.aload_n 0, 1) := by decide +kernel
theorem dX2_make_30 : decode cX2_make 30 = .ok (.getfield 40, 3) := by decide +kernel
theorem dX2_make_33 : decode cX2_make 33 = .ok (.iastore, 1) := by decide +kernel
theorem dX2_make_34 : decode cX2_make 34 = .ok (.iload_n 3, 1) := by decide +kernel
theorem dX2_make_35 : decode cX2_make 35 = .ok (.iload_n 1, 1) := by decide +kernel
theorem dX2_make_36 : decode cX2_make 36 = .ok (.if_icmp .gt 15, 3) := by decide +kernel
theorem dX2_make_39 : decode cX2_make 39 = .ok (.iload_n 3, 1) := by decide +kernel
theorem dX2_make_40 : decode cX2_make 40 = .ok (.bipush 6, 2) := by decide +kernel
theorem dX2_make_42 : decode cX2_make 42 = .ok (.if_icmp .gt 9, 3) := by decide +kernel
theorem dX2_make_45 : decode cX2_make 45 = .ok (.aload_n 0, 1) := by decide +kernel
theorem dX2_make_46 : decode cX2_make 46 = .ok (.iload_n 3, 1) := by decide +kernel
theorem dX2_make_47 : decode cX2_make 47 = .ok (.aload_n 2, 1) := by decide +kernel
theorem dX2_make_48 : decode cX2_make 48 = .ok (.invokevirtual 44, 3) := by decide +kernel
theorem dX2_make_51 : decode cX2_make 51 = .ok (.iinc 3 1, 3) := by decide +kernel
theorem dX2_make_54 : decode cX2_make 54 = .ok (.goto (-39), 3) := by decide +kernel
theorem dX2_make_57 : decode cX2_make 57 = .ok (.return_, 1) := by decide +kernel
set_option maxRecDepth 20000 in
theorem ggX2_makeCost_X2_add : GoodIn wsX2_makeCost wsX2_add := goodIn_r _ [8, 9, 10, 11, 12, 13, 14, 15, 16, 17, 7, 18, 19, 20, 21, 22, 23, 74, 75, 76, 77, 78, 79, 80, 81] (by decide +kernel) (by decide +kernel)
set_option maxRecDepth 20000 in
theorem gX2_makeCost_X2_add : GoodIn wsX2_makeCost (wsV RX2 50 RX2 yX2_add wsX2_add) := goodIn_app (goodIn_of _ (by decide +kernel)) ggX2_makeCost_X2_add
set_option maxRecDepth 20000 in
theorem ggX2_makeCost_X3_priceOfConstants : GoodIn wsX2_makeCost wsX3_priceOfConstants := goodIn_r _ [28, 29, 71, 72, 73] (by decide +kernel) (by decide +kernel)
set_option maxRecDepth 20000 in
theorem gX2_makeCost_X3_priceOfConstants : GoodIn wsX2_makeCost (wsV RX2 54 RX3 yX3_priceOfConstants wsX3_priceOfConstants) := goodIn_app (goodIn_of _ (by decide +kernel)) ggX2_makeCost_X3_priceOfConstants
set_option maxRecDepth 20000 in
theorem ggX2_makeCost_X2_addConstants : GoodIn wsX2_makeCost wsX2_addConstants := goodIn_r _ [33, 34, 35, 36, 37, 38, 39, 4, 5, 6, 7, 8, 9, 10, 11, 12, 13, 14, 15, 16, 17, 18, 19, 20, 21, 22, 23, 71, 72, 73, 74, 75, 76, 77, 78, 79, 80, 81] (by decide +kernel) (by decide +kernel)
set_option maxRecDepth 20000 in
theorem gX2_makeCost_X2_addConstants : GoodIn wsX2_makeCost (wsV RX2 60 RX2 yX2_addConstants wsX2_addConstants) := goodIn_app (goodIn_of _ (by decide +kernel)) ggX2_makeCost_X2_addConstants
set_option maxRecDepth 20000 in
theorem ggX2_makeCost_X5_hasTwoArguments : GoodIn wsX2_makeCost wsX5_hasTwoArguments := goodIn_r _ [42] (by decide +kernel) (by decide +kernel)
set_option maxRecDepth 20000 in
theorem gX2_makeCost_X5_hasTwoArguments_n71 : GoodIn wsX2_makeCost (wsX5_hasTwoArguments) := ggX2_makeCost_X5_hasTwoArguments
set_option maxRecDepth 20000 in
theorem ggX2_makeCost_X2_addOfTwo : GoodIn wsX2_makeCost wsX2_addOfTwo := goodIn_r _ [46, 47, 11, 20, 21, 22, 7, 23, 10, 48, 49, 37, 50, 51, 52, 53, 54, 55, 56, 57, 58, 59, 60, 61, 62, 63, 64, 65, 39, 66, 4, 5, 6, 8, 9, 12, 13, 14, 15, 16, 17, 18, 19, 74, 75, 76, 77, 78, 79, 80, 81] (by decide +kernel) (by decide +kernel)
set_option maxRecDepth 20000 in
theorem gX2_makeCost_X2_addOfTwo : GoodIn wsX2_makeCost (wsV RX2 75 RX2 yX2_addOfTwo wsX2_addOfTwo) := goodIn_app (goodIn_of _ (by decide +kernel)) ggX2_makeCost_X2_addOfTwo
set_option maxRecDepth 20000 in
theorem ggX2_makeCost_X2_addOfOne : GoodIn wsX2_makeCost wsX2_addOfOne := goodIn_r _ [70, 47, 11, 20, 21, 22, 7, 23, 10, 48, 49, 37, 50, 51, 52, 53, 54, 55, 56, 57, 58, 59, 60, 61, 62, 63, 64, 65, 39, 66, 4, 5, 6, 8, 9, 12, 13, 14, 15, 16, 17, 18, 19, 74, 75, 76, 77, 78, 79, 80, 81] (by decide +kernel) (by decide +kernel)
set_option maxRecDepth 20000 in
theorem gX2_makeCost_X2_addOfOne : GoodIn wsX2_makeCost (wsV RX2 79 RX2 yX2_addOfOne wsX2_addOfOne) := goodIn_app (goodIn_of _ (by decide +kernel)) ggX2_makeCost_X2_addOfOne
theorem dX2_makeCost_0 : decode cX2_makeCost 0 = .ok (.iload_n 1, 1) := by decide +kernel
theorem dX2_makeCost_1 : decode cX2_makeCost 1 = .ok (.ifCond .ne 13, 3) := by decide +kernel
theorem dX2_makeCost_4 : decode cX2_makeCost 4 = .ok (.aload_n 0, 1) := by decide +kernel
theorem dX2_makeCost_5 : decode cX2_makeCost 5 = .ok (.ldc2_w 48, 3) := by decide +kernel
theorem dX2_makeCost_8 : decode cX2_makeCost 8 = .ok (.iconst (-1), 1) := by decide +kernel
theorem dX2_makeCost_9 : decode cX2_makeCost 9 = .ok (.iconst (-1), 1) := by decide +kernel
theorem dX2_makeCost_10 : decode cX2_makeCost 10 = .ok (.iconst (-1), 1) := by decide +kernel
theorem dX2_makeCost_11 : decode cX2_makeCost 11 = .ok (.invokevirtual 50, 3) := by decide +kernel
theorem dX2_makeCost_14 : decode cX2_makeCost 14 = .ok (.iload_n 1, 1) := by decide +kernel
theorem dX2_makeCost_15 : decode cX2_makeCost 15 = .ok (.aload_n 2, 1) := by decide +kernel
theorem dX2_makeCost_16 : decode cX2_makeCost 16 = .ok (.invokevirtual 54, 3) := by decide +kernel
theorem dX2_makeCost_19 : decode cX2_makeCost 19 = .ok (.if_icmp .ne 8, 3) := by decide +kernel
theorem dX2_makeCost_22 : decode cX2_makeCost 22 = .ok (.aload_n 0, 1) := by decide +kernel
theorem dX2_makeCost_23 : decode cX2_makeCost 23 = .ok (.aload_n 2, 1) := by decide +kernel
theorem dX2_makeCost_24 : decode cX2_makeCost 24 = .ok (.invokevirtual 60, 3) := by decide +kernel
theorem dX2_makeCost_27 : decode cX2_makeCost 27 = .ok (.iconst 0, 1) := by decide +kernel
theorem dX2_makeCost_28 : decode cX2_makeCost 28 = .ok (.istore_n 3, 1) := by decide +kernel
theorem dX2_makeCost_29 : decode cX2_makeCost 29 = .ok (.iload_n 3, 1) := by decide +kernel
theorem dX2_makeCost_30 : decode cX2_makeCost 30 = .ok (.bipush 10, 2) := by decide +kernel
theorem dX2_makeCost_32 : decode cX2_makeCost 32 = .ok (.if_icmp .ge 60, 3) := by decide +kernel
theorem dX2_makeCost_35 : decode cX2_makeCost 35 = .ok (.iload_n 1, 1) := by decide +kernel
theorem dX2_makeCost_36 : decode cX2_makeCost 36 = .ok (.aload_n 2, 1) := by decide +kernel
theorem dX2_makeCost_37 : decode cX2_makeCost 37 = .ok (.getfield 64, 3) := by decide +kernel
theorem dX2_makeCost_40 : decode cX2_makeCost 40 = .ok (.iload_n 3, 1) := by decide +kernel
theorem dX2_makeCost_41 : decode cX2_makeCost 41 = .ok (.iaload, 1) := by decide +kernel
theorem dX2_makeCost_42 : decode cX2_makeCost 42 = .ok (.isub, 1) := by decide +kernel
theorem dX2_makeCost_43 : decode cX2_makeCost 43 = .ok (.istore 4, 2) := by decide +kernel
theorem dX2_makeCost_45 : decode cX2_makeCost 45 = .ok (.aload_n 2, 1) := by decide +kernel
theorem dX2_makeCost_46 : decode cX2_makeCost 46 = .ok (.getfield 67, 3) := by decide +kernel
theorem dX2_makeCost_49 : decode cX2_makeCost 49 = .ok (.iload_n 3, 1) := by decide +kernel
theorem dX2_makeCost_50 : decode cX2_makeCost 50 = .ok (.baload, 1) := by decide +kernel
theorem dX2_makeCost_51 : decode cX2_makeCost 51 = .ok (.ifCond .eq 35, 3) := by decide +kernel
theorem dX2_makeCost_54 : decode cX2_makeCost 54 = .ok (.iload 4, 2) := by decide +kernel
theorem dX2_makeCost_56 : decode cX2_makeCost 56 = .ok (.ifCond .ge 6, 3) := by decide +kernel
theorem dX2_makeCost_59 : decode cX2_makeCost 59 = .ok (.goto 27, 3) := by decide +kernel
theorem dX2_makeCost_62 : decode cX2_makeCost 62 = .ok (.iload_n 3, 1) := by decide +kernel
theorem dX2_makeCost_63 : decode cX2_makeCost 63 = .ok (.invokestatic 71, 3) := by decide +kernel
theorem dX2_makeCost_66 : decode cX2_makeCost 66 = .ok (.ifCond .eq 13, 3) := by decide +kernel
theorem dX2_makeCost_69 : decode cX2_makeCost 69 = .ok (.aload_n 0, 1) := by decide +kernel
theorem dX2_makeCost_70 : decode cX2_makeCost 70 = .ok (.iload_n 3, 1) := by decide +kernel
theorem dX2_makeCost_71 : decode cX2_makeCost 71 = .ok (.iload 4, 2) := by decide +kernel
theorem dX2_makeCost_73 : decode cX2_makeCost 73 = .ok (.invokevirtual 75, 3) := by decide +kernel
theorem dX2_makeCost_76 : decode cX2_makeCost 76 = .ok (.goto 10, 3) := by decide +kernel
theorem dX2_makeCost_79 : decode cX2_makeCost 79 = .ok (.aload_n 0, 1) := by decide +kernel
theorem dX2_makeCost_80 : decode cX2_makeCost 80 = .ok (.iload_n 3, 1) := by decide +kernel
theorem dX2_makeCost_81 : decode cX2_makeCost 81 = .ok (.iload 4, 2) := by decide +kernel
theorem dX2_makeCost_83 : decode cX2_makeCost 83 = .ok (.invokevirtual 79, 3) := by decide +kernel
theorem dX2_makeCost_86 : decode cX2_makeCost 86 = .ok (.iinc 3 1, 3) := by decide +kernel
theorem dX2_makeCost_89 : decode cX2_makeCost 89 = .ok (.goto (-60), 3) := by decide +kernel
theorem dX2_makeCost_92 : decode cX2_makeCost 92 = .ok (.return_, 1) := by decide +kernel
set_option maxRecDepth 20000 in
theorem ggX2_addConstants_X0_constant : GoodIn wsX2_addConstants wsX0_constant := goodIn_r _ [5, 6] (by decide +kernel) (by decide +kernel)
set_option maxRecDepth 20000 in
theorem gX2_addConstants_X0_constant : GoodIn wsX2_addConstants (va_wsS RX2 85 yX0_constant wsX0_constant) := goodIn_app (goodIn_of _ (by decide +kernel)) ggX2_addConstants_X0_constant
set_option maxRecDepth 20000 in
theorem ggX2_addConstants_X2_add : GoodIn wsX2_addConstants wsX2_add := goodIn_r _ [11, 12, 13, 14, 15, 16, 17, 18, 19, 20, 10, 21, 22, 23, 24, 25, 26, 30, 31, 32, 33, 34, 35, 36, 37] (by decide +kernel) (by decide +kernel)
set_option maxRecDepth 20000 in
theorem gX2_addConstants_X2_add : GoodIn wsX2_addConstants (wsV RX2 50 RX2 yX2_add wsX2_add) := goodIn_app (goodIn_of _ (by decide +kernel)) ggX2_addConstants_X2_add
theorem dX2_addConstants_0 : decode cX2_addConstants 0 = .ok (.iconst 0, 1) := by decide +kernel
theorem dX2_addConstants_1 : decode cX2_addConstants 1 = .ok (.istore_n 2, 1) := by decide +kernel
theorem dX2_addConstants_2 : decode cX2_addConstants 2 = .ok (.iload_n 2, 1) := by decide +kernel
theorem dX2_addConstants_3 : decode cX2_addConstants 3 = .ok (.bipush 16, 2) := by decide +kernel
theorem dX2_addConstants_5 : decode cX2_addConstants 5 = .ok (.if_icmp .ge 30, 3) := by decide +kernel
theorem dX2_addConstants_8 : decode cX2_addConstants 8 = .ok (.aload_n 1, 1) := by decide +kernel
theorem dX2_addConstants_9 : decode cX2_addConstants 9 = .ok (.getfield 82, 3) := by decide +kernel
theorem dX2_addConstants_12 : decode cX2_addConstants 12 = .ok (.iload_n 2, 1) := by decide +kernel
theorem dX2_addConstants_13 : decode cX2_addConstants 13 = .ok (.baload, 1) := by decide +kernel
theorem dX2_addConstants_14 : decode cX2_addConstants 14 = .ok (.ifCond .eq 15, 3) := by decide +kernel
theorem dX2_addConstants_17 : decode cX2_addConstants 17 = .ok (.aload_n 0, 1) := by decide +kernel
theorem dX2_addConstants_18 : decode cX2_addConstants 18 = .ok (.iload_n 2, 1) := by decide +kernel
theorem dX2_addConstants_19 : decode cX2_addConstants 19 = .ok (.invokestatic 85, 3) := by decide +kernel
theorem dX2_addConstants_22 : decode cX2_addConstants 22 = .ok (.bipush (-2), 2) := by decide +kernel
theorem dX2_addConstants_24 : decode cX2_addConstants 24 = .ok (.iload_n 2, 1) := by decide +kernel
theorem dX2_addConstants_25 : decode cX2_addConstants 25 = .ok (.iconst (-1), 1) := by decide +kernel
theorem dX2_addConstants_26 : decode cX2_addConstants 26 = .ok (.invokevirtual 50, 3) := by decide +kernel
theorem dX2_addConstants_29 : decode cX2_addConstants 29 = .ok (.iinc 2 1, 3) := by decide +kernel
theorem dX2_addConstants_32 : decode cX2_addConstants 32 = .ok (.goto (-30), 3) := by decide +kernel
theorem dX2_addConstants_35 : decode cX2_addConstants 35 = .ok (.return_, 1) := by decide +kernel
set_option maxRecDepth 20000 in
theorem ggX2_addOfOne_X2_isFull : GoodIn wsX2_addOfOne wsX2_isFull := goodIn_r _ [7, 8, 43, 44, 45, 46, 47, 48, 49, 50] (by decide +kernel) (by decide +kernel)
set_option maxRecDepth 20000 in
theorem gX2_addOfOne_X2_isFull : GoodIn wsX2_addOfOne (wsV RX2 91 RX2 yX2_isFull wsX2_isFull) := goodIn_app (goodIn_of _ (by decide +kernel)) ggX2_addOfOne_X2_isFull
set_option maxRecDepth 20000 in
theorem ggX2_addOfOne_X0_made : GoodIn wsX2_addOfOne wsX0_made := goodIn_r _ [12, 13, 14, 15, 16, 11, 17, 18, 19, 20, 21, 22, 23, 24, 25, 26, 27, 28, 29] (by decide +kernel) (by decide +kernel)
set_option maxRecDepth 20000 in
theorem gX2_addOfOne_X0_made : GoodIn wsX2_addOfOne (va_wsS RX2 95 yX0_made wsX0_made) := goodIn_app (goodIn_of _ (by decide +kernel)) ggX2_addOfOne_X0_made
set_option maxRecDepth 20000 in
theorem ggX2_addOfOne_X2_add : GoodIn wsX2_addOfOne wsX2_add := goodIn_r _ [33, 34, 8, 2, 35, 36, 37, 38, 39, 40, 6, 41, 42, 3, 4, 5, 7, 43, 44, 45, 46, 47, 48, 49, 50] (by decide +kernel) (by decide +kernel)
set_option maxRecDepth 20000 in
theorem gX2_addOfOne_X2_add : GoodIn wsX2_addOfOne (wsV RX2 50 RX2 yX2_add wsX2_add) := goodIn_app (goodIn_of _ (by decide +kernel)) ggX2_addOfOne_X2_add
theorem dX2_addOfOne_0 : decode cX2_addOfOne 0 = .ok (.aload_n 0, 1) := by decide +kernel
theorem dX2_addOfOne_1 : decode cX2_addOfOne 1 = .ok (.getfield 25, 3) := by decide +kernel
theorem dX2_addOfOne_4 : decode cX2_addOfOne 4 = .ok (.iload_n 2, 1) := by decide +kernel
theorem dX2_addOfOne_5 : decode cX2_addOfOne 5 = .ok (.iconst 1, 1) := by decide +kernel
theorem dX2_addOfOne_6 : decode cX2_addOfOne 6 = .ok (.iadd, 1) := by decide +kernel
theorem dX2_addOfOne_7 : decode cX2_addOfOne 7 = .ok (.iaload, 1) := by decide +kernel
theorem dX2_addOfOne_8 : decode cX2_addOfOne 8 = .ok (.istore_n 3, 1) := by decide +kernel
theorem dX2_addOfOne_9 : decode cX2_addOfOne 9 = .ok (.aload_n 0, 1) := by decide +kernel
theorem dX2_addOfOne_10 : decode cX2_addOfOne 10 = .ok (.getfield 25, 3) := by decide +kernel
theorem dX2_addOfOne_13 : decode cX2_addOfOne 13 = .ok (.iload_n 2, 1) := by decide +kernel
theorem dX2_addOfOne_14 : decode cX2_addOfOne 14 = .ok (.iaload, 1) := by decide +kernel
theorem dX2_addOfOne_15 : decode cX2_addOfOne 15 = .ok (.istore 4, 2) := by decide +kernel
theorem dX2_addOfOne_17 : decode cX2_addOfOne 17 = .ok (.iload 4, 2) := by decide +kernel
theorem dX2_addOfOne_19 : decode cX2_addOfOne 19 = .ok (.iload_n 3, 1) := by decide +kernel
theorem dX2_addOfOne_20 : decode cX2_addOfOne 20 = .ok (.if_icmp .ge 36, 3) := by decide +kernel
theorem dX2_addOfOne_23 : decode cX2_addOfOne 23 = .ok (.aload_n 0, 1) := by decide +kernel
theorem dX2_addOfOne_24 : decode cX2_addOfOne 24 = .ok (.invokevirtual 91, 3) := by decide +kernel
theorem dX2_addOfOne_27 : decode cX2_addOfOne 27 = .ok (.ifCond .ne 29, 3) := by decide +kernel
theorem dX2_addOfOne_30 : decode cX2_addOfOne 30 = .ok (.aload_n 0, 1) := by decide +kernel
theorem dX2_addOfOne_31 : decode cX2_addOfOne 31 = .ok (.iload_n 1, 1) := by decide +kernel
theorem dX2_addOfOne_32 : decode cX2_addOfOne 32 = .ok (.aload_n 0, 1) := by decide +kernel
theorem dX2_addOfOne_33 : decode cX2_addOfOne 33 = .ok (.getfield 11, 3) := by decide +kernel
theorem dX2_addOfOne_36 : decode cX2_addOfOne 36 = .ok (.iload 4, 2) := by decide +kernel
theorem dX2_addOfOne_38 : decode cX2_addOfOne 38 = .ok (.laload, 1) := by decide +kernel
theorem dX2_addOfOne_39 : decode cX2_addOfOne 39 = .ok (.lconst 0, 1) := by decide +kernel
theorem dX2_addOfOne_40 : decode cX2_addOfOne 40 = .ok (.invokestatic 95, 3) := by decide +kernel
theorem dX2_addOfOne_43 : decode cX2_addOfOne 43 = .ok (.iload_n 1, 1) := by decide +kernel
theorem dX2_addOfOne_44 : decode cX2_addOfOne 44 = .ok (.iload 4, 2) := by decide +kernel
theorem dX2_addOfOne_46 : decode cX2_addOfOne 46 = .ok (.iconst (-1), 1) := by decide +kernel
theorem dX2_addOfOne_47 : decode cX2_addOfOne 47 = .ok (.invokevirtual 50, 3) := by decide +kernel
theorem dX2_addOfOne_50 : decode cX2_addOfOne 50 = .ok (.iinc 4 1, 3) := by decide +kernel
theorem dX2_addOfOne_53 : decode cX2_addOfOne 53 = .ok (.goto (-36), 3) := by decide +kernel
theorem dX2_addOfOne_56 : decode cX2_addOfOne 56 = .ok (.return_, 1) := by decide +kernel
set_option maxRecDepth 20000 in
theorem ggX2_addOfTwo_X2_isFull : GoodIn wsX2_addOfTwo wsX2_isFull := goodIn_r _ [7, 8, 43, 44, 45, 46, 47, 48, 49, 50] (by decide +kernel) (by decide +kernel)
set_option maxRecDepth 20000 in
theorem gX2_addOfTwo_X2_isFull : GoodIn wsX2_addOfTwo (wsV RX2 91 RX2 yX2_isFull wsX2_isFull) := goodIn_app (goodIn_of _ (by decide +kernel)) ggX2_addOfTwo_X2_isFull
set_option maxRecDepth 20000 in
theorem ggX2_addOfTwo_X0_made : GoodIn wsX2_addOfTwo wsX0_made := goodIn_r _ [12, 13, 14, 15, 16, 11, 17, 18, 19, 20, 21, 22, 23, 24, 25, 26, 27, 28, 29] (by decide +kernel) (by decide +kernel)
set_option maxRecDepth 20000 in
theorem gX2_addOfTwo_X0_made : GoodIn wsX2_addOfTwo (va_wsS RX2 95 yX0_made wsX0_made) := goodIn_app (goodIn_of _ (by decide +kernel)) ggX2_addOfTwo_X0_made
set_option maxRecDepth 20000 in
theorem ggX2_addOfTwo_X2_add : GoodIn wsX2_addOfTwo wsX2_add := goodIn_r _ [33, 34, 8, 2, 35, 36, 37, 38, 39, 40, 6, 41, 42, 3, 4, 5, 7, 43, 44, 45, 46, 47, 48, 49, 50] (by decide +kernel) (by decide +kernel)
set_option maxRecDepth 20000 in
theorem gX2_addOfTwo_X2_add : GoodIn wsX2_addOfTwo (wsV RX2 50 RX2 yX2_add wsX2_add) := goodIn_app (goodIn_of _ (by decide +kernel)) ggX2_addOfTwo_X2_add
theorem dX2_addOfTwo_0 : decode cX2_addOfTwo 0 = .ok (.iconst 0, 1) := by decide +kernel
theorem dX2_addOfTwo_1 : decode cX2_addOfTwo 1 = .ok (.istore_n 3, 1) := by decide +kernel
theorem dX2_addOfTwo_2 : decode cX2_addOfTwo 2 = .ok (.iload_n 3, 1) := by decide +kernel
theorem dX2_addOfTwo_3 : decode cX2_addOfTwo 3 = .ok (.iload_n 2, 1) := by decide +kernel
theorem dX2_addOfTwo_4 : decode cX2_addOfTwo 4 = .ok (.if_icmp .gt 112, 3) := by decide +kernel
theorem dX2_addOfTwo_7 : decode cX2_addOfTwo 7 = .ok (.aload_n 0, 1) := by decide +kernel
theorem dX2_addOfTwo_8 : decode cX2_addOfTwo 8 = .ok (.getfield 25, 3) := by decide +kernel
theorem dX2_addOfTwo_11 : decode cX2_addOfTwo 11 = .ok (.iload_n 3, 1) := by decide +kernel
theorem dX2_addOfTwo_12 : decode cX2_addOfTwo 12 = .ok (.iaload, 1) := by decide +kernel
theorem dX2_addOfTwo_13 : decode cX2_addOfTwo 13 = .ok (.istore 4, 2) := by decide +kernel
theorem dX2_addOfTwo_15 : decode cX2_addOfTwo 15 = .ok (.iload 4, 2) := by decide +kernel
theorem dX2_addOfTwo_17 : decode cX2_addOfTwo 17 = .ok (.aload_n 0, 1) := by decide +kernel
theorem dX2_addOfTwo_18 : decode cX2_addOfTwo 18 = .ok (.getfield 25, 3) := by decide +kernel
theorem dX2_addOfTwo_21 : decode cX2_addOfTwo 21 = .ok (.iload_n 3, 1) := by decide +kernel
theorem dX2_addOfTwo_22 : decode cX2_addOfTwo 22 = .ok (.iconst 1, 1) := by decide +kernel
theorem dX2_addOfTwo_23 : decode cX2_addOfTwo 23 = .ok (.iadd, 1) := by decide +kernel
theorem dX2_addOfTwo_24 : decode cX2_addOfTwo 24 = .ok (.iaload, 1) := by decide +kernel
theorem dX2_addOfTwo_25 : decode cX2_addOfTwo 25 = .ok (.if_icmp .ge 85, 3) := by decide +kernel
theorem dX2_addOfTwo_28 : decode cX2_addOfTwo 28 = .ok (.aload_n 0, 1) := by decide +kernel
theorem dX2_addOfTwo_29 : decode cX2_addOfTwo 29 = .ok (.invokevirtual 91, 3) := by decide +kernel
theorem dX2_addOfTwo_32 : decode cX2_addOfTwo 32 = .ok (.ifCond .ne 78, 3) := by decide +kernel
theorem dX2_addOfTwo_35 : decode cX2_addOfTwo 35 = .ok (.aload_n 0, 1) := by decide +kernel
theorem dX2_addOfTwo_36 : decode cX2_addOfTwo 36 = .ok (.getfield 25, 3) := by decide +kernel
theorem dX2_addOfTwo_39 : decode cX2_addOfTwo 39 = .ok (.iload_n 2, 1) := by decide +kernel
theorem dX2_addOfTwo_40 : decode cX2_addOfTwo 40 = .ok (.iload_n 3, 1) := by decide +kernel
theorem dX2_addOfTwo_41 : decode cX2_addOfTwo 41 = .ok (.isub, 1) := by decide +kernel
theorem dX2_addOfTwo_42 : decode cX2_addOfTwo 42 = .ok (.iconst 1, 1) := by decide +kernel
theorem dX2_addOfTwo_43 : decode cX2_addOfTwo 43 = .ok (.iadd, 1) := by decide +kernel
theorem dX2_addOfTwo_44 : decode cX2_addOfTwo 44 = .ok (.iaload, 1) := by decide +kernel
theorem dX2_addOfTwo_45 : decode cX2_addOfTwo 45 = .ok (.istore 5, 2) := by decide +kernel
theorem dX2_addOfTwo_47 : decode cX2_addOfTwo 47 = .ok (.aload_n 0, 1) := by decide +kernel
theorem dX2_addOfTwo_48 : decode cX2_addOfTwo 48 = .ok (.getfield 25, 3) := by decide +kernel
theorem dX2_addOfTwo_51 : decode cX2_addOfTwo 51 = .ok (.iload_n 2, 1) := by decide +kernel
theorem dX2_addOfTwo_52 : decode cX2_addOfTwo 52 = .ok (.iload_n 3, 1) := by decide +kernel
theorem dX2_addOfTwo_53 : decode cX2_addOfTwo 53 = .ok (.isub, 1) := by decide +kernel
theorem dX2_addOfTwo_54 : decode cX2_addOfTwo 54 = .ok (.iaload, 1) := by decide +kernel
theorem dX2_addOfTwo_55 : decode cX2_addOfTwo 55 = .ok (.istore 6, 2) := by decide +kernel
theorem dX2_addOfTwo_57 : decode cX2_addOfTwo 57 = .ok (.iload 6, 2) := by decide +kernel
theorem dX2_addOfTwo_59 : decode cX2_addOfTwo 59 = .ok (.iload 5, 2) := by decide +kernel
theorem dX2_addOfTwo_61 : decode cX2_addOfTwo 61 = .ok (.if_icmp .ge 43, 3) := by decide +kernel
theorem dX2_addOfTwo_64 : decode cX2_addOfTwo 64 = .ok (.aload_n 0, 1) := by decide +kernel
theorem dX2_addOfTwo_65 : decode cX2_addOfTwo 65 = .ok (.invokevirtual 91, 3) := by decide +kernel
theorem dX2_addOfTwo_68 : decode cX2_addOfTwo 68 = .ok (.ifCond .ne 36, 3) := by decide +kernel
theorem dX2_addOfTwo_71 : decode cX2_addOfTwo 71 = .ok (.aload_n 0, 1) := by decide +kernel
theorem dX2_addOfTwo_72 : decode cX2_addOfTwo 72 = .ok (.iload_n 1, 1) := by decide +kernel
theorem dX2_addOfTwo_73 : decode cX2_addOfTwo 73 = .ok (.aload_n 0, 1) := by decide +kernel
theorem dX2_addOfTwo_74 : decode cX2_addOfTwo 74 = .ok (.getfield 11, 3) := by decide +kernel
theorem dX2_addOfTwo_77 : decode cX2_addOfTwo 77 = .ok (.iload 4, 2) := by decide +kernel
theorem dX2_addOfTwo_79 : decode cX2_addOfTwo 79 = .ok (.laload, 1) := by decide +kernel
theorem dX2_addOfTwo_80 : decode cX2_addOfTwo 80 = .ok (.aload_n 0, 1) := by decide +kernel
theorem dX2_addOfTwo_81 : decode cX2_addOfTwo 81 = .ok (.getfield 11, 3) := by decide +kernel
theorem dX2_addOfTwo_84 : decode cX2_addOfTwo 84 = .ok (.iload 6, 2) := by decide +kernel
theorem dX2_addOfTwo_86 : decode cX2_addOfTwo 86 = .ok (.laload, 1) := by decide +kernel
theorem dX2_addOfTwo_87 : decode cX2_addOfTwo 87 = .ok (.invokestatic 95, 3) := by decide +kernel
theorem dX2_addOfTwo_90 : decode cX2_addOfTwo 90 = .ok (.iload_n 1, 1) := by decide +kernel
theorem dX2_addOfTwo_91 : decode cX2_addOfTwo 91 = .ok (.iload 4, 2) := by decide +kernel
theorem dX2_addOfTwo_93 : decode cX2_addOfTwo 93 = .ok (.iload 6, 2) := by decide +kernel
theorem dX2_addOfTwo_95 : decode cX2_addOfTwo 95 = .ok (.invokevirtual 50, 3) := by decide +kernel
theorem dX2_addOfTwo_98 : decode cX2_addOfTwo 98 = .ok (.iinc 6 1, 3) := by decide +kernel
theorem dX2_addOfTwo_101 : decode cX2_addOfTwo 101 = .ok (.goto (-44), 3) := by decide +kernel
theorem dX2_addOfTwo_104 : decode cX2_addOfTwo 104 = .ok (.iinc 4 1, 3) := by decide +kernel
theorem dX2_addOfTwo_107 : decode cX2_addOfTwo 107 = .ok (.goto (-92), 3) := by decide +kernel
theorem dX2_addOfTwo_110 : decode cX2_addOfTwo 110 = .ok (.iinc 3 1, 3) := by decide +kernel
theorem dX2_addOfTwo_113 : decode cX2_addOfTwo 113 = .ok (.goto (-111), 3) := by decide +kernel
theorem dX2_addOfTwo_116 : decode cX2_addOfTwo 116 = .ok (.return_, 1) := by decide +kernel
set_option maxRecDepth 20000 in
theorem ggX2_add_X2_slotOf : GoodIn wsX2_add wsX2_slotOf := goodIn_r _ [11, 12, 1, 2, 3, 17, 18, 19, 20, 21, 22, 23, 24] (by decide +kernel) (by decide +kernel)
set_option maxRecDepth 20000 in
theorem gX2_add_X2_slotOf : GoodIn wsX2_add (wsV RX2 99 RX2 yX2_slotOf wsX2_slotOf) := goodIn_app (goodIn_of _ (by decide +kernel)) ggX2_add_X2_slotOf
set_option maxRecDepth 20000 in
theorem ggX2_add_X2_isFull : GoodIn wsX2_add wsX2_isFull := goodIn_r _ [16, 2, 17, 18, 19, 20, 21, 22, 23, 24] (by decide +kernel) (by decide +kernel)
set_option maxRecDepth 20000 in
theorem gX2_add_X2_isFull : GoodIn wsX2_add (wsV RX2 91 RX2 yX2_isFull wsX2_isFull) := goodIn_app (goodIn_of _ (by decide +kernel)) ggX2_add_X2_isFull
theorem dX2_add_0 : decode cX2_add 0 = .ok (.aload_n 0, 1) := by decide +kernel
theorem dX2_add_1 : decode cX2_add 1 = .ok (.lload_n 1, 1) := by decide +kernel
theorem dX2_add_2 : decode cX2_add 2 = .ok (.invokevirtual 99, 3) := by decide +kernel
theorem dX2_add_5 : decode cX2_add 5 = .ok (.istore 6, 2) := by decide +kernel
theorem dX2_add_7 : decode cX2_add 7 = .ok (.aload_n 0, 1) := by decide +kernel
theorem dX2_add_8 : decode cX2_add 8 = .ok (.invokevirtual 91, 3) := by decide +kernel
theorem dX2_add_11 : decode cX2_add 11 = .ok (.ifCond .ne 20, 3) := by decide +kernel
theorem dX2_add_14 : decode cX2_add 14 = .ok (.iload 6, 2) := by decide +kernel
theorem dX2_add_16 : decode cX2_add 16 = .ok (.iconst (-1), 1) := by decide +kernel
theorem dX2_add_17 : decode cX2_add 17 = .ok (.if_icmp .eq 14, 3) := by decide +kernel
theorem dX2_add_20 : decode cX2_add 20 = .ok (.aload_n 0, 1) := by decide +kernel
theorem dX2_add_21 : decode cX2_add 21 = .ok (.getfield 28, 3) := by decide +kernel
theorem dX2_add_24 : decode cX2_add 24 = .ok (.iload 6, 2) := by decide +kernel
theorem dX2_add_26 : decode cX2_add 26 = .ok (.iaload, 1) := by decide +kernel
theorem dX2_add_27 : decode cX2_add 27 = .ok (.iconst (-1), 1) := by decide +kernel
theorem dX2_add_28 : decode cX2_add 28 = .ok (.if_icmp .eq 4, 3) := by decide +kernel
theorem dX2_add_31 : decode cX2_add 31 = .ok (.return_, 1) := by decide +kernel
theorem dX2_add_32 : decode cX2_add 32 = .ok (.aload_n 0, 1) := by decide +kernel
theorem dX2_add_33 : decode cX2_add 33 = .ok (.getfield 28, 3) := by decide +kernel
theorem dX2_add_36 : decode cX2_add 36 = .ok (.iload 6, 2) := by decide +kernel
theorem dX2_add_38 : decode cX2_add 38 = .ok (.aload_n 0, 1) := by decide +kernel
theorem dX2_add_39 : decode cX2_add 39 = .ok (.getfield 40, 3) := by decide +kernel
theorem dX2_add_42 : decode cX2_add 42 = .ok (.iastore, 1) := by decide +kernel
theorem dX2_add_43 : decode cX2_add 43 = .ok (.aload_n 0, 1) := by decide +kernel
theorem dX2_add_44 : decode cX2_add 44 = .ok (.getfield 11, 3) := by decide +kernel
theorem dX2_add_47 : decode cX2_add 47 = .ok (.aload_n 0, 1) := by decide +kernel
theorem dX2_add_48 : decode cX2_add 48 = .ok (.getfield 40, 3) := by decide +kernel
theorem dX2_add_51 : decode cX2_add 51 = .ok (.lload_n 1, 1) := by decide +kernel
theorem dX2_add_52 : decode cX2_add 52 = .ok (.lastore, 1) := by decide +kernel
theorem dX2_add_53 : decode cX2_add 53 = .ok (.aload_n 0, 1) := by decide +kernel
theorem dX2_add_54 : decode cX2_add 54 = .ok (.getfield 15, 3) := by decide +kernel
theorem dX2_add_57 : decode cX2_add 57 = .ok (.aload_n 0, 1) := by decide +kernel
theorem dX2_add_58 : decode cX2_add 58 = .ok (.getfield 40, 3) := by decide +kernel
theorem dX2_add_61 : decode cX2_add 61 = .ok (.iload_n 3, 1) := by decide +kernel
theorem dX2_add_62 : decode cX2_add 62 = .ok (.iastore, 1) := by decide +kernel
theorem dX2_add_63 : decode cX2_add 63 = .ok (.aload_n 0, 1) := by decide +kernel
theorem dX2_add_64 : decode cX2_add 64 = .ok (.getfield 19, 3) := by decide +kernel
theorem dX2_add_67 : decode cX2_add 67 = .ok (.aload_n 0, 1) := by decide +kernel
theorem dX2_add_68 : decode cX2_add 68 = .ok (.getfield 40, 3) := by decide +kernel
theorem dX2_add_71 : decode cX2_add 71 = .ok (.iload 4, 2) := by decide +kernel
theorem dX2_add_73 : decode cX2_add 73 = .ok (.iastore, 1) := by decide +kernel
theorem dX2_add_74 : decode cX2_add 74 = .ok (.aload_n 0, 1) := by decide +kernel
theorem dX2_add_75 : decode cX2_add 75 = .ok (.getfield 22, 3) := by decide +kernel
theorem dX2_add_78 : decode cX2_add 78 = .ok (.aload_n 0, 1) := by decide +kernel
theorem dX2_add_79 : decode cX2_add 79 = .ok (.getfield 40, 3) := by decide +kernel
theorem dX2_add_82 : decode cX2_add 82 = .ok (.iload 5, 2) := by decide +kernel
theorem dX2_add_84 : decode cX2_add 84 = .ok (.iastore, 1) := by decide +kernel
theorem dX2_add_85 : decode cX2_add 85 = .ok (.aload_n 0, 1) := by decide +kernel
theorem dX2_add_86 : decode cX2_add 86 = .ok (.dup, 1) := by decide +kernel
theorem dX2_add_87 : decode cX2_add 87 = .ok (.getfield 40, 3) := by decide +kernel
theorem dX2_add_90 : decode cX2_add 90 = .ok (.iconst 1, 1) := by decide +kernel
theorem dX2_add_91 : decode cX2_add 91 = .ok (.iadd, 1) := by decide +kernel
theorem dX2_add_92 : decode cX2_add 92 = .ok (.putfield 40, 3) := by decide +kernel
theorem dX2_add_95 : decode cX2_add 95 = .ok (.return_, 1) := by decide +kernel
theorem dX2_slotOf_0 : decode cX2_slotOf 0 = .ok (.lload_n 1, 1) := by decide +kernel
theorem dX2_slotOf_1 : decode cX2_slotOf 1 = .ok (.ldc2_w 103, 3) := by decide +kernel
theorem dX2_slotOf_4 : decode cX2_slotOf 4 = .ok (.lmul, 1) := by decide +kernel
theorem dX2_slotOf_5 : decode cX2_slotOf 5 = .ok (.bipush 52, 2) := by decide +kernel
theorem dX2_slotOf_7 : decode cX2_slotOf 7 = .ok (.lushr, 1) := by decide +kernel
theorem dX2_slotOf_8 : decode cX2_slotOf 8 = .ok (.l2i, 1) := by decide +kernel
theorem dX2_slotOf_9 : decode cX2_slotOf 9 = .ok (.istore_n 3, 1) := by decide +kernel
theorem dX2_slotOf_10 : decode cX2_slotOf 10 = .ok (.iconst 0, 1) := by decide +kernel
theorem dX2_slotOf_11 : decode cX2_slotOf 11 = .ok (.istore 4, 2) := by decide +kernel
theorem dX2_slotOf_13 : decode cX2_slotOf 13 = .ok (.iload 4, 2) := by decide +kernel
theorem dX2_slotOf_15 : decode cX2_slotOf 15 = .ok (.sipush 4096, 3) := by decide +kernel
theorem dX2_slotOf_18 : decode cX2_slotOf 18 = .ok (.if_icmp .ge 53, 3) := by decide +kernel
theorem dX2_slotOf_21 : decode cX2_slotOf 21 = .ok (.aload_n 0, 1) := by decide +kernel
theorem dX2_slotOf_22 : decode cX2_slotOf 22 = .ok (.getfield 28, 3) := by decide +kernel
theorem dX2_slotOf_25 : decode cX2_slotOf 25 = .ok (.iload_n 3, 1) := by decide +kernel
theorem dX2_slotOf_26 : decode cX2_slotOf 26 = .ok (.iaload, 1) := by decide +kernel
theorem dX2_slotOf_27 : decode cX2_slotOf 27 = .ok (.istore 5, 2) := by decide +kernel
theorem dX2_slotOf_29 : decode cX2_slotOf 29 = .ok (.iload 5, 2) := by decide +kernel
theorem dX2_slotOf_31 : decode cX2_slotOf 31 = .ok (.ifCond .lt 24, 3) := by decide +kernel
theorem dX2_slotOf_34 : decode cX2_slotOf 34 = .ok (.iload 5, 2) := by decide +kernel
theorem dX2_slotOf_36 : decode cX2_slotOf 36 = .ok (.aload_n 0, 1) := by decide +kernel
theorem dX2_slotOf_37 : decode cX2_slotOf 37 = .ok (.getfield 40, 3) := by decide +kernel
theorem dX2_slotOf_40 : decode cX2_slotOf 40 = .ok (.if_icmp .ge 15, 3) := by decide +kernel
theorem dX2_slotOf_43 : decode cX2_slotOf 43 = .ok (.aload_n 0, 1) := by decide +kernel
theorem dX2_slotOf_44 : decode cX2_slotOf 44 = .ok (.getfield 11, 3) := by decide +kernel
theorem dX2_slotOf_47 : decode cX2_slotOf 47 = .ok (.iload 5, 2) := by decide +kernel
theorem dX2_slotOf_49 : decode cX2_slotOf 49 = .ok (.laload, 1) := by decide +kernel
theorem dX2_slotOf_50 : decode cX2_slotOf 50 = .ok (.lload_n 1, 1) := by decide +kernel
theorem dX2_slotOf_51 : decode cX2_slotOf 51 = .ok (.lcmp, 1) := by decide +kernel
theorem dX2_slotOf_52 : decode cX2_slotOf 52 = .ok (.ifCond .ne 5, 3) := by decide +kernel
theorem dX2_slotOf_55 : decode cX2_slotOf 55 = .ok (.iload_n 3, 1) := by decide +kernel
theorem dX2_slotOf_56 : decode cX2_slotOf 56 = .ok (.ireturn, 1) := by decide +kernel
theorem dX2_slotOf_57 : decode cX2_slotOf 57 = .ok (.iload_n 3, 1) := by decide +kernel
theorem dX2_slotOf_58 : decode cX2_slotOf 58 = .ok (.iconst 1, 1) := by decide +kernel
theorem dX2_slotOf_59 : decode cX2_slotOf 59 = .ok (.iadd, 1) := by decide +kernel
theorem dX2_slotOf_60 : decode cX2_slotOf 60 = .ok (.sipush 4096, 3) := by decide +kernel
theorem dX2_slotOf_63 : decode cX2_slotOf 63 = .ok (.irem, 1) := by decide +kernel
theorem dX2_slotOf_64 : decode cX2_slotOf 64 = .ok (.istore_n 3, 1) := by decide +kernel
theorem dX2_slotOf_65 : decode cX2_slotOf 65 = .ok (.iinc 4 1, 3) := by decide +kernel
theorem dX2_slotOf_68 : decode cX2_slotOf 68 = .ok (.goto (-55), 3) := by decide +kernel
theorem dX2_slotOf_71 : decode cX2_slotOf 71 = .ok (.iconst (-1), 1) := by decide +kernel
theorem dX2_slotOf_72 : decode cX2_slotOf 72 = .ok (.ireturn, 1) := by decide +kernel
set_option maxRecDepth 20000 in
theorem ggX2_entryWith_X2_slotOf : GoodIn wsX2_entryWith wsX2_slotOf := goodIn_r _ [6, 7, 1, 8, 9, 10, 11, 12, 13, 14, 15, 16, 17] (by decide +kernel) (by decide +kernel)
set_option maxRecDepth 20000 in
theorem gX2_entryWith_X2_slotOf : GoodIn wsX2_entryWith (wsV RX2 99 RX2 yX2_slotOf wsX2_slotOf) := goodIn_app (goodIn_of _ (by decide +kernel)) ggX2_entryWith_X2_slotOf
theorem dX2_entryWith_0 : decode cX2_entryWith 0 = .ok (.aload_n 0, 1) := by decide +kernel
theorem dX2_entryWith_1 : decode cX2_entryWith 1 = .ok (.lload_n 1, 1) := by decide +kernel
theorem dX2_entryWith_2 : decode cX2_entryWith 2 = .ok (.invokevirtual 99, 3) := by decide +kernel
theorem dX2_entryWith_5 : decode cX2_entryWith 5 = .ok (.istore_n 3, 1) := by decide +kernel
theorem dX2_entryWith_6 : decode cX2_entryWith 6 = .ok (.iload_n 3, 1) := by decide +kernel
theorem dX2_entryWith_7 : decode cX2_entryWith 7 = .ok (.iconst (-1), 1) := by decide +kernel
theorem dX2_entryWith_8 : decode cX2_entryWith 8 = .ok (.if_icmp .ne 7, 3) := by decide +kernel
theorem dX2_entryWith_11 : decode cX2_entryWith 11 = .ok (.iconst (-1), 1) := by decide +kernel
theorem dX2_entryWith_12 : decode cX2_entryWith 12 = .ok (.goto 9, 3) := by decide +kernel
theorem dX2_entryWith_15 : decode cX2_entryWith 15 = .ok (.aload_n 0, 1) := by decide +kernel
theorem dX2_entryWith_16 : decode cX2_entryWith 16 = .ok (.getfield 28, 3) := by decide +kernel
theorem dX2_entryWith_19 : decode cX2_entryWith 19 = .ok (.iload_n 3, 1) := by decide +kernel
theorem dX2_entryWith_20 : decode cX2_entryWith 20 = .ok (.iaload, 1) := by decide +kernel
theorem dX2_entryWith_21 : decode cX2_entryWith 21 = .ok (.ireturn, 1) := by decide +kernel
theorem dX2_firstAlike_0 : decode cX2_firstAlike 0 = .ok (.iconst 0, 1) := by decide +kernel
theorem dX2_firstAlike_1 : decode cX2_firstAlike 1 = .ok (.istore 5, 2) := by decide +kernel
theorem dX2_firstAlike_3 : decode cX2_firstAlike 3 = .ok (.iload 5, 2) := by decide +kernel
theorem dX2_firstAlike_5 : decode cX2_firstAlike 5 = .ok (.aload_n 0, 1) := by decide +kernel
theorem dX2_firstAlike_6 : decode cX2_firstAlike 6 = .ok (.getfield 40, 3) := by decide +kernel
theorem dX2_firstAlike_9 : decode cX2_firstAlike 9 = .ok (.if_icmp .ge 28, 3) := by decide +kernel
theorem dX2_firstAlike_12 : decode cX2_firstAlike 12 = .ok (.aload_n 0, 1) := by decide +kernel
theorem dX2_firstAlike_13 : decode cX2_firstAlike 13 = .ok (.getfield 11, 3) := by decide +kernel
theorem dX2_firstAlike_16 : decode cX2_firstAlike 16 = .ok (.iload 5, 2) := by decide +kernel
theorem dX2_firstAlike_18 : decode cX2_firstAlike 18 = .ok (.laload, 1) := by decide +kernel
theorem dX2_firstAlike_19 : decode cX2_firstAlike 19 = .ok (.lload_n 1, 1) := by decide +kernel
theorem dX2_firstAlike_20 : decode cX2_firstAlike 20 = .ok (.lxor, 1) := by decide +kernel
theorem dX2_firstAlike_21 : decode cX2_firstAlike 21 = .ok (.lload_n 3, 1) := by decide +kernel
theorem dX2_firstAlike_22 : decode cX2_firstAlike 22 = .ok (.land, 1) := by decide +kernel
theorem dX2_firstAlike_23 : decode cX2_firstAlike 23 = .ok (.lconst 0, 1) := by decide +kernel
theorem dX2_firstAlike_24 : decode cX2_firstAlike 24 = .ok (.lcmp, 1) := by decide +kernel
theorem dX2_firstAlike_25 : decode cX2_firstAlike 25 = .ok (.ifCond .ne 6, 3) := by decide +kernel
theorem dX2_firstAlike_28 : decode cX2_firstAlike 28 = .ok (.iload 5, 2) := by decide +kernel
theorem dX2_firstAlike_30 : decode cX2_firstAlike 30 = .ok (.ireturn, 1) := by decide +kernel
theorem dX2_firstAlike_31 : decode cX2_firstAlike 31 = .ok (.iinc 5 1, 3) := by decide +kernel
theorem dX2_firstAlike_34 : decode cX2_firstAlike 34 = .ok (.goto (-31), 3) := by decide +kernel
theorem dX2_firstAlike_37 : decode cX2_firstAlike 37 = .ok (.iconst (-1), 1) := by decide +kernel
theorem dX2_firstAlike_38 : decode cX2_firstAlike 38 = .ok (.ireturn, 1) := by decide +kernel
set_option maxRecDepth 20000 in
theorem ggX2_firstNearest_X0_countDifferences : GoodIn wsX2_firstNearest wsX0_countDifferences := goodIn_r _ [6, 7, 8, 9, 10, 11, 12, 13, 14] (by decide +kernel) (by decide +kernel)
set_option maxRecDepth 20000 in
theorem gX2_firstNearest_X0_countDifferences : GoodIn wsX2_firstNearest (va_wsS RX2 105 yX0_countDifferences wsX0_countDifferences) := goodIn_app (goodIn_of _ (by decide +kernel)) ggX2_firstNearest_X0_countDifferences
theorem dX2_firstNearest_0 : decode cX2_firstNearest 0 = .ok (.iconst (-1), 1) := by decide +kernel
theorem dX2_firstNearest_1 : decode cX2_firstNearest 1 = .ok (.istore_n 3, 1) := by decide +kernel
theorem dX2_firstNearest_2 : decode cX2_firstNearest 2 = .ok (.bipush 17, 2) := by decide +kernel
theorem dX2_firstNearest_4 : decode cX2_firstNearest 4 = .ok (.istore 4, 2) := by decide +kernel
theorem dX2_firstNearest_6 : decode cX2_firstNearest 6 = .ok (.iconst 0, 1) := by decide +kernel
theorem dX2_firstNearest_7 : decode cX2_firstNearest 7 = .ok (.istore 5, 2) := by decide +kernel
theorem dX2_firstNearest_9 : decode cX2_firstNearest 9 = .ok (.iload 5, 2) := by decide +kernel
theorem dX2_firstNearest_11 : decode cX2_firstNearest 11 = .ok (.aload_n 0, 1) := by decide +kernel
theorem dX2_firstNearest_12 : decode cX2_firstNearest 12 = .ok (.getfield 40, 3) := by decide +kernel
theorem dX2_firstNearest_15 : decode cX2_firstNearest 15 = .ok (.if_icmp .ge 36, 3) := by decide +kernel
theorem dX2_firstNearest_18 : decode cX2_firstNearest 18 = .ok (.aload_n 0, 1) := by decide +kernel
theorem dX2_firstNearest_19 : decode cX2_firstNearest 19 = .ok (.getfield 11, 3) := by decide +kernel
theorem dX2_firstNearest_22 : decode cX2_firstNearest 22 = .ok (.iload 5, 2) := by decide +kernel
theorem dX2_firstNearest_24 : decode cX2_firstNearest 24 = .ok (.laload, 1) := by decide +kernel
theorem dX2_firstNearest_25 : decode cX2_firstNearest 25 = .ok (.lload_n 1, 1) := by decide +kernel
theorem dX2_firstNearest_26 : decode cX2_firstNearest 26 = .ok (.invokestatic 105, 3) := by decide +kernel
theorem dX2_firstNearest_29 : decode cX2_firstNearest 29 = .ok (.istore 6, 2) := by decide +kernel
theorem dX2_firstNearest_31 : decode cX2_firstNearest 31 = .ok (.iload 6, 2) := by decide +kernel
theorem dX2_firstNearest_33 : decode cX2_firstNearest 33 = .ok (.iload 4, 2) := by decide +kernel
theorem dX2_firstNearest_35 : decode cX2_firstNearest 35 = .ok (.if_icmp .ge 10, 3) := by decide +kernel
theorem dX2_firstNearest_38 : decode cX2_firstNearest 38 = .ok (.iload 6, 2) := by decide +kernel
theorem dX2_firstNearest_40 : decode cX2_firstNearest 40 = .ok (.istore 4, 2) := by decide +kernel
theorem dX2_firstNearest_42 : decode cX2_firstNearest 42 = .ok (.iload 5, 2) := by decide +kernel
theorem dX2_firstNearest_44 : decode cX2_firstNearest 44 = .ok (.istore_n 3, 1) := by decide +kernel
theorem dX2_firstNearest_45 : decode cX2_firstNearest 45 = .ok (.iinc 5 1, 3) := by decide +kernel
theorem dX2_firstNearest_48 : decode cX2_firstNearest 48 = .ok (.goto (-39), 3) := by decide +kernel
theorem dX2_firstNearest_51 : decode cX2_firstNearest 51 = .ok (.iload_n 3, 1) := by decide +kernel
theorem dX2_firstNearest_52 : decode cX2_firstNearest 52 = .ok (.ireturn, 1) := by decide +kernel
theorem dX2_countOfCost_0 : decode cX2_countOfCost 0 = .ok (.aload_n 0, 1) := by decide +kernel
theorem dX2_countOfCost_1 : decode cX2_countOfCost 1 = .ok (.getfield 25, 3) := by decide +kernel
theorem dX2_countOfCost_4 : decode cX2_countOfCost 4 = .ok (.iload_n 1, 1) := by decide +kernel
theorem dX2_countOfCost_5 : decode cX2_countOfCost 5 = .ok (.iconst 1, 1) := by decide +kernel
theorem dX2_countOfCost_6 : decode cX2_countOfCost 6 = .ok (.iadd, 1) := by decide +kernel
theorem dX2_countOfCost_7 : decode cX2_countOfCost 7 = .ok (.iaload, 1) := by decide +kernel
theorem dX2_countOfCost_8 : decode cX2_countOfCost 8 = .ok (.aload_n 0, 1) := by decide +kernel
theorem dX2_countOfCost_9 : decode cX2_countOfCost 9 = .ok (.getfield 25, 3) := by decide +kernel
theorem dX2_countOfCost_12 : decode cX2_countOfCost 12 = .ok (.iload_n 1, 1) := by decide +kernel
theorem dX2_countOfCost_13 : decode cX2_countOfCost 13 = .ok (.iaload, 1) := by decide +kernel
theorem dX2_countOfCost_14 : decode cX2_countOfCost 14 = .ok (.isub, 1) := by decide +kernel
theorem dX2_countOfCost_15 : decode cX2_countOfCost 15 = .ok (.ireturn, 1) := by decide +kernel
theorem dX2_costOf_0 : decode cX2_costOf 0 = .ok (.iconst 0, 1) := by decide +kernel
theorem dX2_costOf_1 : decode cX2_costOf 1 = .ok (.istore_n 2, 1) := by decide +kernel
theorem dX2_costOf_2 : decode cX2_costOf 2 = .ok (.iload_n 2, 1) := by decide +kernel
theorem dX2_costOf_3 : decode cX2_costOf 3 = .ok (.bipush 6, 2) := by decide +kernel
theorem dX2_costOf_5 : decode cX2_costOf 5 = .ok (.if_icmp .ge 21, 3) := by decide +kernel
theorem dX2_costOf_8 : decode cX2_costOf 8 = .ok (.aload_n 0, 1) := by decide +kernel
theorem dX2_costOf_9 : decode cX2_costOf 9 = .ok (.getfield 25, 3) := by decide +kernel
theorem dX2_costOf_12 : decode cX2_costOf 12 = .ok (.iload_n 2, 1) := by decide +kernel
theorem dX2_costOf_13 : decode cX2_costOf 13 = .ok (.iconst 1, 1) := by decide +kernel
theorem dX2_costOf_14 : decode cX2_costOf 14 = .ok (.iadd, 1) := by decide +kernel
theorem dX2_costOf_15 : decode cX2_costOf 15 = .ok (.iaload, 1) := by decide +kernel
theorem dX2_costOf_16 : decode cX2_costOf 16 = .ok (.iload_n 1, 1) := by decide +kernel
theorem dX2_costOf_17 : decode cX2_costOf 17 = .ok (.if_icmp .gt 9, 3) := by decide +kernel
theorem dX2_costOf_20 : decode cX2_costOf 20 = .ok (.iinc 2 1, 3) := by decide +kernel
theorem dX2_costOf_23 : decode cX2_costOf 23 = .ok (.goto (-21), 3) := by decide +kernel
theorem dX2_costOf_26 : decode cX2_costOf 26 = .ok (.iload_n 2, 1) := by decide +kernel
theorem dX2_costOf_27 : decode cX2_costOf 27 = .ok (.ireturn, 1) := by decide +kernel
set_option maxRecDepth 20000 in
theorem ggX2_sumOfCosts_X2_countOfCost : GoodIn wsX2_sumOfCosts wsX2_countOfCost := goodIn_r _ [5, 6, 7, 8, 9, 10, 11, 12, 13, 14] (by decide +kernel) (by decide +kernel)
set_option maxRecDepth 20000 in
theorem gX2_sumOfCosts_X2_countOfCost : GoodIn wsX2_sumOfCosts (wsV RX2 109 RX2 yX2_countOfCost wsX2_countOfCost) := goodIn_app (goodIn_of _ (by decide +kernel)) ggX2_sumOfCosts_X2_countOfCost
theorem dX2_sumOfCosts_0 : decode cX2_sumOfCosts 0 = .ok (.iconst 0, 1) := by decide +kernel
theorem dX2_sumOfCosts_1 : decode cX2_sumOfCosts 1 = .ok (.istore_n 1, 1) := by decide +kernel
theorem dX2_sumOfCosts_2 : decode cX2_sumOfCosts 2 = .ok (.iconst 0, 1) := by decide +kernel
theorem dX2_sumOfCosts_3 : decode cX2_sumOfCosts 3 = .ok (.istore_n 2, 1) := by decide +kernel
theorem dX2_sumOfCosts_4 : decode cX2_sumOfCosts 4 = .ok (.iload_n 2, 1) := by decide +kernel
theorem dX2_sumOfCosts_5 : decode cX2_sumOfCosts 5 = .ok (.bipush 6, 2) := by decide +kernel
theorem dX2_sumOfCosts_7 : decode cX2_sumOfCosts 7 = .ok (.if_icmp .gt 19, 3) := by decide +kernel
theorem dX2_sumOfCosts_10 : decode cX2_sumOfCosts 10 = .ok (.iload_n 1, 1) := by decide +kernel
theorem dX2_sumOfCosts_11 : decode cX2_sumOfCosts 11 = .ok (.iload_n 2, 1) := by decide +kernel
theorem dX2_sumOfCosts_12 : decode cX2_sumOfCosts 12 = .ok (.aload_n 0, 1) := by decide +kernel
theorem dX2_sumOfCosts_13 : decode cX2_sumOfCosts 13 = .ok (.iload_n 2, 1) := by decide +kernel
theorem dX2_sumOfCosts_14 : decode cX2_sumOfCosts 14 = .ok (.invokevirtual 109, 3) := by decide +kernel
theorem dX2_sumOfCosts_17 : decode cX2_sumOfCosts 17 = .ok (.imul, 1) := by decide +kernel
theorem dX2_sumOfCosts_18 : decode cX2_sumOfCosts 18 = .ok (.iadd, 1) := by decide +kernel
theorem dX2_sumOfCosts_19 : decode cX2_sumOfCosts 19 = .ok (.istore_n 1, 1) := by decide +kernel
theorem dX2_sumOfCosts_20 : decode cX2_sumOfCosts 20 = .ok (.iinc 2 1, 3) := by decide +kernel
theorem dX2_sumOfCosts_23 : decode cX2_sumOfCosts 23 = .ok (.goto (-19), 3) := by decide +kernel
theorem dX2_sumOfCosts_26 : decode cX2_sumOfCosts 26 = .ok (.iload_n 1, 1) := by decide +kernel
theorem dX2_sumOfCosts_27 : decode cX2_sumOfCosts 27 = .ok (.ireturn, 1) := by decide +kernel
set_option maxRecDepth 20000 in
theorem ggX3_init_J7_fill_53178 : GoodIn wsX3_init wsJ7_fill_53178 := goodIn_r _ [12] (by decide +kernel) (by decide +kernel)
set_option maxRecDepth 20000 in
theorem gX3_init_J7_fill_53178 : GoodIn wsX3_init (va_wsS RX3 22 yJ7_fill_53178 wsJ7_fill_53178) := goodIn_app (goodIn_of _ (by decide +kernel)) ggX3_init_J7_fill_53178
theorem dX3_init_0 : decode cX3_init 0 = .ok (.aload_n 0, 1) := by decide +kernel
theorem dX3_init_1 : decode cX3_init 1 = .ok (.invokespecial 3, 3) := by decide +kernel
theorem dX3_init_4 : decode cX3_init 4 = .ok (.aload_n 0, 1) := by decide +kernel
theorem dX3_init_5 : decode cX3_init 5 = .ok (.bipush 11, 2) := by decide +kernel
theorem dX3_init_7 : decode cX3_init 7 = .ok (.newarray .int, 2) := by decide +kernel
theorem dX3_init_9 : decode cX3_init 9 = .ok (.putfield 9, 3) := by decide +kernel
theorem dX3_init_12 : decode cX3_init 12 = .ok (.aload_n 0, 1) := by decide +kernel
theorem dX3_init_13 : decode cX3_init 13 = .ok (.bipush 10, 2) := by decide +kernel
theorem dX3_init_15 : decode cX3_init 15 = .ok (.newarray .boolean, 2) := by decide +kernel
theorem dX3_init_17 : decode cX3_init 17 = .ok (.putfield 15, 3) := by decide +kernel
theorem dX3_init_20 : decode cX3_init 20 = .ok (.aload_n 0, 1) := by decide +kernel
theorem dX3_init_21 : decode cX3_init 21 = .ok (.bipush 16, 2) := by decide +kernel
theorem dX3_init_23 : decode cX3_init 23 = .ok (.newarray .boolean, 2) := by decide +kernel
theorem dX3_init_25 : decode cX3_init 25 = .ok (.putfield 19, 3) := by decide +kernel
theorem dX3_init_28 : decode cX3_init 28 = .ok (.aload_n 0, 1) := by decide +kernel
theorem dX3_init_29 : decode cX3_init 29 = .ok (.getfield 9, 3) := by decide +kernel
theorem dX3_init_32 : decode cX3_init 32 = .ok (.iconst 1, 1) := by decide +kernel
theorem dX3_init_33 : decode cX3_init 33 = .ok (.invokestatic 22, 3) := by decide +kernel
theorem dX3_init_36 : decode cX3_init 36 = .ok (.iconst 0, 1) := by decide +kernel
theorem dX3_init_37 : decode cX3_init 37 = .ok (.istore_n 1, 1) := by decide +kernel
theorem dX3_init_38 : decode cX3_init 38 = .ok (.iload_n 1, 1) := by decide +kernel
theorem dX3_init_39 : decode cX3_init 39 = .ok (.bipush 9, 2) := by decide +kernel
theorem dX3_init_41 : decode cX3_init 41 = .ok (.if_icmp .ge 16, 3) := by decide +kernel
theorem dX3_init_44 : decode cX3_init 44 = .ok (.aload_n 0, 1) := by decide +kernel
theorem dX3_init_45 : decode cX3_init 45 = .ok (.getfield 15, 3) := by decide +kernel
theorem dX3_init_48 : decode cX3_init 48 = .ok (.iload_n 1, 1) := by decide +kernel
theorem dX3_init_49 : decode cX3_init 49 = .ok (.iconst 1, 1) := by decide +kernel
theorem dX3_init_50 : decode cX3_init 50 = .ok (.bastore, 1) := by decide +kernel
theorem dX3_init_51 : decode cX3_init 51 = .ok (.iinc 1 1, 3) := by decide +kernel
theorem dX3_init_54 : decode cX3_init 54 = .ok (.goto (-16), 3) := by decide +kernel
theorem dX3_init_57 : decode cX3_init 57 = .ok (.aload_n 0, 1) := by decide +kernel
theorem dX3_init_58 : decode cX3_init 58 = .ok (.getfield 19, 3) := by decide +kernel
theorem dX3_init_61 : decode cX3_init 61 = .ok (.iconst 1, 1) := by decide +kernel
theorem dX3_init_62 : decode cX3_init 62 = .ok (.iconst 1, 1) := by decide +kernel
theorem dX3_init_63 : decode cX3_init 63 = .ok (.bastore, 1) := by decide +kernel
theorem dX3_init_64 : decode cX3_init 64 = .ok (.return_, 1) := by decide +kernel
theorem dX3_priceOfConstants_0 : decode cX3_priceOfConstants 0 = .ok (.aload_n 0, 1) := by decide +kernel
theorem dX3_priceOfConstants_1 : decode cX3_priceOfConstants 1 = .ok (.getfield 9, 3) := by decide +kernel
theorem dX3_priceOfConstants_4 : decode cX3_priceOfConstants 4 = .ok (.bipush 10, 2) := by decide +kernel
theorem dX3_priceOfConstants_6 : decode cX3_priceOfConstants 6 = .ok (.iaload, 1) := by decide +kernel
theorem dX3_priceOfConstants_7 : decode cX3_priceOfConstants 7 = .ok (.ireturn, 1) := by decide +kernel
