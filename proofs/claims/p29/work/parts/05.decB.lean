theorem dX4_init_0 : decode cX4_init 0 = .ok (.aload_n 0, 1) := by decide +kernel
theorem dX4_init_1 : decode cX4_init 1 = .ok (.invokespecial 3, 3) := by decide +kernel
theorem dX4_init_4 : decode cX4_init 4 = .ok (.aload_n 0, 1) := by decide +kernel
theorem dX4_init_5 : decode cX4_init 5 = .ok (.sipush 300, 3) := by decide +kernel
theorem dX4_init_8 : decode cX4_init 8 = .ok (.newarray .int, 2) := by decide +kernel
theorem dX4_init_10 : decode cX4_init 10 = .ok (.putfield 11, 3) := by decide +kernel
theorem dX4_init_13 : decode cX4_init 13 = .ok (.return_, 1) := by decide +kernel
set_option maxRecDepth 20000 in
theorem ggX5_init_X3_init : GoodIn wsX5_init wsX3_init := goodIn_r _ [22, 23, 2, 3, 24, 25, 26, 27, 28, 29, 30, 31, 32, 54, 55, 56] (by decide +kernel) (by decide +kernel)
set_option maxRecDepth 20000 in
theorem gX5_init_X3_init : GoodIn wsX5_init (wsX3_init) := ggX5_init_X3_init
set_option maxRecDepth 20000 in
theorem ggX5_init_X2_init : GoodIn wsX5_init wsX2_init := goodIn_r _ [35, 36, 2, 3, 37, 38, 24, 39, 40, 41, 42, 43, 44, 45, 30, 31, 32, 61, 62, 63, 64, 65, 66, 67, 68] (by decide +kernel) (by decide +kernel)
set_option maxRecDepth 20000 in
theorem gX5_init_X2_init : GoodIn wsX5_init (wsX2_init) := ggX5_init_X2_init
set_option maxRecDepth 20000 in
theorem ggX5_init_X1_init : GoodIn wsX5_init wsX1_init := goodIn_r _ [47, 48, 2, 3, 24, 49, 69, 70] (by decide +kernel) (by decide +kernel)
set_option maxRecDepth 20000 in
theorem gX5_init_X1_init_n25 : GoodIn wsX5_init (wsX1_init) := ggX5_init_X1_init
set_option maxRecDepth 20000 in
theorem ggX5_init_X4_init : GoodIn wsX5_init wsX4_init := goodIn_r _ [51, 52, 2, 3, 24, 53, 71, 72, 73, 74, 75] (by decide +kernel) (by decide +kernel)
set_option maxRecDepth 20000 in
theorem gX5_init_X4_init_n32 : GoodIn wsX5_init (wsX4_init) := ggX5_init_X4_init
theorem dX5_init_0 : decode cX5_init 0 = .ok (.aload_n 0, 1) := by decide +kernel
theorem dX5_init_1 : decode cX5_init 1 = .ok (.invokespecial 1, 3) := by decide +kernel
theorem dX5_init_4 : decode cX5_init 4 = .ok (.aload_n 0, 1) := by decide +kernel
theorem dX5_init_5 : decode cX5_init 5 = .ok (.new 7, 3) := by decide +kernel
theorem dX5_init_8 : decode cX5_init 8 = .ok (.dup, 1) := by decide +kernel
theorem dX5_init_9 : decode cX5_init 9 = .ok (.invokespecial 9, 3) := by decide +kernel
theorem dX5_init_12 : decode cX5_init 12 = .ok (.putfield 10, 3) := by decide +kernel
theorem dX5_init_15 : decode cX5_init 15 = .ok (.aload_n 0, 1) := by decide +kernel
theorem dX5_init_16 : decode cX5_init 16 = .ok (.new 16, 3) := by decide +kernel
theorem dX5_init_19 : decode cX5_init 19 = .ok (.dup, 1) := by decide +kernel
theorem dX5_init_20 : decode cX5_init 20 = .ok (.invokespecial 18, 3) := by decide +kernel
theorem dX5_init_23 : decode cX5_init 23 = .ok (.putfield 19, 3) := by decide +kernel
theorem dX5_init_26 : decode cX5_init 26 = .ok (.aload_n 0, 1) := by decide +kernel
theorem dX5_init_27 : decode cX5_init 27 = .ok (.new 23, 3) := by decide +kernel
theorem dX5_init_30 : decode cX5_init 30 = .ok (.dup, 1) := by decide +kernel
theorem dX5_init_31 : decode cX5_init 31 = .ok (.invokespecial 25, 3) := by decide +kernel
theorem dX5_init_34 : decode cX5_init 34 = .ok (.putfield 26, 3) := by decide +kernel
theorem dX5_init_37 : decode cX5_init 37 = .ok (.aload_n 0, 1) := by decide +kernel
theorem dX5_init_38 : decode cX5_init 38 = .ok (.new 30, 3) := by decide +kernel
theorem dX5_init_41 : decode cX5_init 41 = .ok (.dup, 1) := by decide +kernel
theorem dX5_init_42 : decode cX5_init 42 = .ok (.invokespecial 32, 3) := by decide +kernel
theorem dX5_init_45 : decode cX5_init 45 = .ok (.putfield 33, 3) := by decide +kernel
theorem dX5_init_48 : decode cX5_init 48 = .ok (.return_, 1) := by decide +kernel
set_option maxRecDepth 20000 in
theorem ggX5_allow_X5_isOperation : GoodIn wsX5_allow wsX5_isOperation := goodIn_r _ [8] (by decide +kernel) (by decide +kernel)
set_option maxRecDepth 20000 in
theorem gX5_allow_X5_isOperation : GoodIn wsX5_allow (va_wsS RX5 37 yX5_isOperation wsX5_isOperation) := goodIn_app (goodIn_of _ (by decide +kernel)) ggX5_allow_X5_isOperation
set_option maxRecDepth 20000 in
theorem ggX5_allow_X5_countOn : GoodIn wsX5_allow wsX5_countOn := goodIn_r _ [11] (by decide +kernel) (by decide +kernel)
set_option maxRecDepth 20000 in
theorem gX5_allow_X5_countOn : GoodIn wsX5_allow (va_wsS RX5 52 yX5_countOn wsX5_countOn) := goodIn_app (goodIn_of _ (by decide +kernel)) ggX5_allow_X5_countOn
theorem dX5_allow_0 : decode cX5_allow 0 = .ok (.iload_n 1, 1) := by decide +kernel
theorem dX5_allow_1 : decode cX5_allow 1 = .ok (.invokestatic 37, 3) := by decide +kernel
theorem dX5_allow_4 : decode cX5_allow 4 = .ok (.ifCond .ne 13, 3) := by decide +kernel
theorem dX5_allow_7 : decode cX5_allow 7 = .ok (.new 41, 3) := by decide +kernel
theorem dX5_allow_10 : decode cX5_allow 10 = .ok (.dup, 1) := by decide +kernel
theorem dX5_allow_11 : decode cX5_allow 11 = .ok (.ldc 43, 2) := by decide +kernel
theorem dX5_allow_13 : decode cX5_allow 13 = .ok (.invokespecial 45, 3) := by decide +kernel
theorem dX5_allow_16 : decode cX5_allow 16 = .ok (.athrow, 1) := by decide +kernel
theorem dX5_allow_17 : decode cX5_allow 17 = .ok (.aload_n 0, 1) := by decide +kernel
theorem dX5_allow_18 : decode cX5_allow 18 = .ok (.getfield 10, 3) := by decide +kernel
theorem dX5_allow_21 : decode cX5_allow 21 = .ok (.getfield 48, 3) := by decide +kernel
theorem dX5_allow_24 : decode cX5_allow 24 = .ok (.iload_n 1, 1) := by decide +kernel
theorem dX5_allow_25 : decode cX5_allow 25 = .ok (.iload_n 2, 1) := by decide +kernel
theorem dX5_allow_26 : decode cX5_allow 26 = .ok (.bastore, 1) := by decide +kernel
theorem dX5_allow_27 : decode cX5_allow 27 = .ok (.aload_n 0, 1) := by decide +kernel
theorem dX5_allow_28 : decode cX5_allow 28 = .ok (.getfield 10, 3) := by decide +kernel
theorem dX5_allow_31 : decode cX5_allow 31 = .ok (.getfield 48, 3) := by decide +kernel
theorem dX5_allow_34 : decode cX5_allow 34 = .ok (.invokestatic 52, 3) := by decide +kernel
theorem dX5_allow_37 : decode cX5_allow 37 = .ok (.ireturn, 1) := by decide +kernel
set_option maxRecDepth 20000 in
theorem ggX5_setPrice_X5_isOperation : GoodIn wsX5_setPrice wsX5_isOperation := goodIn_r _ [10] (by decide +kernel) (by decide +kernel)
set_option maxRecDepth 20000 in
theorem gX5_setPrice_X5_isOperation : GoodIn wsX5_setPrice (va_wsS RX5 37 yX5_isOperation wsX5_isOperation) := goodIn_app (goodIn_of _ (by decide +kernel)) ggX5_setPrice_X5_isOperation
theorem dX5_setPrice_0 : decode cX5_setPrice 0 = .ok (.iload_n 1, 1) := by decide +kernel
theorem dX5_setPrice_1 : decode cX5_setPrice 1 = .ok (.invokestatic 37, 3) := by decide +kernel
theorem dX5_setPrice_4 : decode cX5_setPrice 4 = .ok (.ifCond .ne 19, 3) := by decide +kernel
theorem dX5_setPrice_7 : decode cX5_setPrice 7 = .ok (.iload_n 1, 1) := by decide +kernel
theorem dX5_setPrice_8 : decode cX5_setPrice 8 = .ok (.bipush 10, 2) := by decide +kernel
theorem dX5_setPrice_10 : decode cX5_setPrice 10 = .ok (.if_icmp .eq 13, 3) := by decide +kernel
theorem dX5_setPrice_13 : decode cX5_setPrice 13 = .ok (.new 41, 3) := by decide +kernel
theorem dX5_setPrice_16 : decode cX5_setPrice 16 = .ok (.dup, 1) := by decide +kernel
theorem dX5_setPrice_17 : decode cX5_setPrice 17 = .ok (.ldc 43, 2) := by decide +kernel
theorem dX5_setPrice_19 : decode cX5_setPrice 19 = .ok (.invokespecial 45, 3) := by decide +kernel
theorem dX5_setPrice_22 : decode cX5_setPrice 22 = .ok (.athrow, 1) := by decide +kernel
theorem dX5_setPrice_23 : decode cX5_setPrice 23 = .ok (.iload_n 1, 1) := by decide +kernel
theorem dX5_setPrice_24 : decode cX5_setPrice 24 = .ok (.bipush 10, 2) := by decide +kernel
theorem dX5_setPrice_26 : decode cX5_setPrice 26 = .ok (.if_icmp .ne 7, 3) := by decide +kernel
theorem dX5_setPrice_29 : decode cX5_setPrice 29 = .ok (.iconst 0, 1) := by decide +kernel
theorem dX5_setPrice_30 : decode cX5_setPrice 30 = .ok (.goto 4, 3) := by decide +kernel
theorem dX5_setPrice_33 : decode cX5_setPrice 33 = .ok (.iconst 1, 1) := by decide +kernel
theorem dX5_setPrice_34 : decode cX5_setPrice 34 = .ok (.istore_n 3, 1) := by decide +kernel
theorem dX5_setPrice_35 : decode cX5_setPrice 35 = .ok (.iload_n 2, 1) := by decide +kernel
theorem dX5_setPrice_36 : decode cX5_setPrice 36 = .ok (.iload_n 3, 1) := by decide +kernel
theorem dX5_setPrice_37 : decode cX5_setPrice 37 = .ok (.if_icmp .lt 8, 3) := by decide +kernel
theorem dX5_setPrice_40 : decode cX5_setPrice 40 = .ok (.iload_n 2, 1) := by decide +kernel
theorem dX5_setPrice_41 : decode cX5_setPrice 41 = .ok (.iconst 5, 1) := by decide +kernel
theorem dX5_setPrice_42 : decode cX5_setPrice 42 = .ok (.if_icmp .le 13, 3) := by decide +kernel
theorem dX5_setPrice_45 : decode cX5_setPrice 45 = .ok (.new 56, 3) := by decide +kernel
theorem dX5_setPrice_48 : decode cX5_setPrice 48 = .ok (.dup, 1) := by decide +kernel
theorem dX5_setPrice_49 : decode cX5_setPrice 49 = .ok (.ldc 58, 2) := by decide +kernel
theorem dX5_setPrice_51 : decode cX5_setPrice 51 = .ok (.invokespecial 60, 3) := by decide +kernel
theorem dX5_setPrice_54 : decode cX5_setPrice 54 = .ok (.athrow, 1) := by decide +kernel
theorem dX5_setPrice_55 : decode cX5_setPrice 55 = .ok (.aload_n 0, 1) := by decide +kernel
theorem dX5_setPrice_56 : decode cX5_setPrice 56 = .ok (.getfield 10, 3) := by decide +kernel
theorem dX5_setPrice_59 : decode cX5_setPrice 59 = .ok (.getfield 61, 3) := by decide +kernel
theorem dX5_setPrice_62 : decode cX5_setPrice 62 = .ok (.iload_n 1, 1) := by decide +kernel
theorem dX5_setPrice_63 : decode cX5_setPrice 63 = .ok (.iaload, 1) := by decide +kernel
theorem dX5_setPrice_64 : decode cX5_setPrice 64 = .ok (.istore 4, 2) := by decide +kernel
theorem dX5_setPrice_66 : decode cX5_setPrice 66 = .ok (.aload_n 0, 1) := by decide +kernel
theorem dX5_setPrice_67 : decode cX5_setPrice 67 = .ok (.getfield 10, 3) := by decide +kernel
theorem dX5_setPrice_70 : decode cX5_setPrice 70 = .ok (.getfield 61, 3) := by decide +kernel
theorem dX5_setPrice_73 : decode cX5_setPrice 73 = .ok (.iload_n 1, 1) := by decide +kernel
theorem dX5_setPrice_74 : decode cX5_setPrice 74 = .ok (.iload_n 2, 1) := by decide +kernel
theorem dX5_setPrice_75 : decode cX5_setPrice 75 = .ok (.iastore, 1) := by decide +kernel
theorem dX5_setPrice_76 : decode cX5_setPrice 76 = .ok (.iload 4, 2) := by decide +kernel
theorem dX5_setPrice_78 : decode cX5_setPrice 78 = .ok (.ireturn, 1) := by decide +kernel
set_option maxRecDepth 20000 in
theorem ggX5_setConstant_X5_isInput : GoodIn wsX5_setConstant wsX5_isInput := goodIn_r _ [8] (by decide +kernel) (by decide +kernel)
set_option maxRecDepth 20000 in
theorem gX5_setConstant_X5_isInput : GoodIn wsX5_setConstant (va_wsS RX5 65 yX5_isInput wsX5_isInput) := goodIn_app (goodIn_of _ (by decide +kernel)) ggX5_setConstant_X5_isInput
set_option maxRecDepth 20000 in
theorem ggX5_setConstant_X5_countOn : GoodIn wsX5_setConstant wsX5_countOn := goodIn_r _ [11] (by decide +kernel) (by decide +kernel)
set_option maxRecDepth 20000 in
theorem gX5_setConstant_X5_countOn : GoodIn wsX5_setConstant (va_wsS RX5 52 yX5_countOn wsX5_countOn) := goodIn_app (goodIn_of _ (by decide +kernel)) ggX5_setConstant_X5_countOn
theorem dX5_setConstant_0 : decode cX5_setConstant 0 = .ok (.iload_n 1, 1) := by decide +kernel
theorem dX5_setConstant_1 : decode cX5_setConstant 1 = .ok (.invokestatic 65, 3) := by decide +kernel
theorem dX5_setConstant_4 : decode cX5_setConstant 4 = .ok (.ifCond .ne 13, 3) := by decide +kernel
theorem dX5_setConstant_7 : decode cX5_setConstant 7 = .ok (.new 56, 3) := by decide +kernel
theorem dX5_setConstant_10 : decode cX5_setConstant 10 = .ok (.dup, 1) := by decide +kernel
theorem dX5_setConstant_11 : decode cX5_setConstant 11 = .ok (.ldc 68, 2) := by decide +kernel
theorem dX5_setConstant_13 : decode cX5_setConstant 13 = .ok (.invokespecial 60, 3) := by decide +kernel
theorem dX5_setConstant_16 : decode cX5_setConstant 16 = .ok (.athrow, 1) := by decide +kernel
theorem dX5_setConstant_17 : decode cX5_setConstant 17 = .ok (.aload_n 0, 1) := by decide +kernel
theorem dX5_setConstant_18 : decode cX5_setConstant 18 = .ok (.getfield 10, 3) := by decide +kernel
theorem dX5_setConstant_21 : decode cX5_setConstant 21 = .ok (.getfield 70, 3) := by decide +kernel
theorem dX5_setConstant_24 : decode cX5_setConstant 24 = .ok (.iload_n 1, 1) := by decide +kernel
theorem dX5_setConstant_25 : decode cX5_setConstant 25 = .ok (.iload_n 2, 1) := by decide +kernel
theorem dX5_setConstant_26 : decode cX5_setConstant 26 = .ok (.bastore, 1) := by decide +kernel
theorem dX5_setConstant_27 : decode cX5_setConstant 27 = .ok (.aload_n 0, 1) := by decide +kernel
theorem dX5_setConstant_28 : decode cX5_setConstant 28 = .ok (.getfield 10, 3) := by decide +kernel
theorem dX5_setConstant_31 : decode cX5_setConstant 31 = .ok (.getfield 70, 3) := by decide +kernel
theorem dX5_setConstant_34 : decode cX5_setConstant 34 = .ok (.invokestatic 52, 3) := by decide +kernel
theorem dX5_setConstant_37 : decode cX5_setConstant 37 = .ok (.ireturn, 1) := by decide +kernel
set_option maxRecDepth 20000 in
theorem ggX5_compose_X0_after : GoodIn wsX5_compose wsX0_after := goodIn_r _ [4, 5, 6, 3, 7] (by decide +kernel) (by decide +kernel)
set_option maxRecDepth 20000 in
theorem gX5_compose_X0_after : GoodIn wsX5_compose (va_wsS RX5 85 yX0_after wsX0_after) := goodIn_app (goodIn_of _ (by decide +kernel)) ggX5_compose_X0_after
theorem dX5_compose_0 : decode cX5_compose 0 = .ok (.lload_n 1, 1) := by decide +kernel
theorem dX5_compose_1 : decode cX5_compose 1 = .ok (.lload_n 3, 1) := by decide +kernel
theorem dX5_compose_2 : decode cX5_compose 2 = .ok (.invokestatic 85, 3) := by decide +kernel
theorem dX5_compose_5 : decode cX5_compose 5 = .ok (.lreturn, 1) := by decide +kernel
set_option maxRecDepth 20000 in
theorem ggX5_inverse_X0_countValues : GoodIn wsX5_inverse wsX0_countValues := goodIn_r _ [6, 7, 8, 9, 5, 10, 11, 12, 13, 14, 15, 16, 17, 18, 19, 20] (by decide +kernel) (by decide +kernel)
set_option maxRecDepth 20000 in
theorem gX5_inverse_X0_countValues : GoodIn wsX5_inverse (va_wsS RX5 89 yX0_countValues wsX0_countValues) := goodIn_app (goodIn_of _ (by decide +kernel)) ggX5_inverse_X0_countValues
set_option maxRecDepth 20000 in
theorem ggX5_inverse_X0_inverseOf : GoodIn wsX5_inverse wsX0_inverseOf := goodIn_r _ [23, 11, 12, 5, 13] (by decide +kernel) (by decide +kernel)
set_option maxRecDepth 20000 in
theorem gX5_inverse_X0_inverseOf : GoodIn wsX5_inverse (va_wsS RX5 98 yX0_inverseOf wsX0_inverseOf) := goodIn_app (goodIn_of _ (by decide +kernel)) ggX5_inverse_X0_inverseOf
theorem dX5_inverse_0 : decode cX5_inverse 0 = .ok (.lload_n 1, 1) := by decide +kernel
theorem dX5_inverse_1 : decode cX5_inverse 1 = .ok (.invokestatic 89, 3) := by decide +kernel
theorem dX5_inverse_4 : decode cX5_inverse 4 = .ok (.bipush 16, 2) := by decide +kernel
theorem dX5_inverse_6 : decode cX5_inverse 6 = .ok (.if_icmp .ge 13, 3) := by decide +kernel
theorem dX5_inverse_9 : decode cX5_inverse 9 = .ok (.new 93, 3) := by decide +kernel
theorem dX5_inverse_12 : decode cX5_inverse 12 = .ok (.dup, 1) := by decide +kernel
theorem dX5_inverse_13 : decode cX5_inverse 13 = .ok (.ldc 95, 2) := by decide +kernel
theorem dX5_inverse_15 : decode cX5_inverse 15 = .ok (.invokespecial 97, 3) := by decide +kernel
theorem dX5_inverse_18 : decode cX5_inverse 18 = .ok (.athrow, 1) := by decide +kernel
theorem dX5_inverse_19 : decode cX5_inverse 19 = .ok (.lload_n 1, 1) := by decide +kernel
theorem dX5_inverse_20 : decode cX5_inverse 20 = .ok (.invokestatic 98, 3) := by decide +kernel
theorem dX5_inverse_23 : decode cX5_inverse 23 = .ok (.lreturn, 1) := by decide +kernel
set_option maxRecDepth 20000 in
theorem ggX5_measure_X0_countDifferences : GoodIn wsX5_measure wsX0_countDifferences := goodIn_r _ [7, 8, 9, 10, 11, 12, 13, 14, 15] (by decide +kernel) (by decide +kernel)
set_option maxRecDepth 20000 in
theorem gX5_measure_X0_countDifferences : GoodIn wsX5_measure (va_wsS RX5 104 yX0_countDifferences wsX0_countDifferences) := goodIn_app (goodIn_of _ (by decide +kernel)) ggX5_measure_X0_countDifferences
set_option maxRecDepth 20000 in
theorem ggX5_measure_X0_countValues : GoodIn wsX5_measure wsX0_countValues := goodIn_r _ [18, 19, 20, 21, 6, 22, 23, 24, 25, 26, 27, 28, 29, 30, 31, 32] (by decide +kernel) (by decide +kernel)
set_option maxRecDepth 20000 in
theorem gX5_measure_X0_countValues : GoodIn wsX5_measure (va_wsS RX5 89 yX0_countValues wsX0_countValues) := goodIn_app (goodIn_of _ (by decide +kernel)) ggX5_measure_X0_countValues
set_option maxRecDepth 20000 in
theorem ggX5_measure_J13_bitCount_95d88 : GoodIn wsX5_measure wsJ13_bitCount_95d88 := goodIn_r _ [12, 13, 14, 15] (by decide +kernel) (by decide +kernel)
set_option maxRecDepth 20000 in
theorem gX5_measure_J13_bitCount_95d88 : GoodIn wsX5_measure (va_wsS RX5 108 yJ13_bitCount_95d88 wsJ13_bitCount_95d88) := goodIn_app (goodIn_of _ (by decide +kernel)) ggX5_measure_J13_bitCount_95d88
set_option maxRecDepth 20000 in
theorem ggX5_measure_X0_returningInputs : GoodIn wsX5_measure wsX0_returningInputs := goodIn_r _ [36, 19, 20, 21, 6, 22, 23, 24, 25] (by decide +kernel) (by decide +kernel)
set_option maxRecDepth 20000 in
theorem gX5_measure_X0_returningInputs : GoodIn wsX5_measure (va_wsS RX5 113 yX0_returningInputs wsX0_returningInputs) := goodIn_app (goodIn_of _ (by decide +kernel)) ggX5_measure_X0_returningInputs
set_option maxRecDepth 20000 in
theorem ggX5_measure_J6_bitCount_0f7a4 : GoodIn wsX5_measure wsJ6_bitCount_0f7a4 := goodIn_r _ [29, 30, 31, 32] (by decide +kernel) (by decide +kernel)
set_option maxRecDepth 20000 in
theorem gX5_measure_J6_bitCount_0f7a4 : GoodIn wsX5_measure (va_wsS RX5 116 yJ6_bitCount_0f7a4 wsJ6_bitCount_0f7a4) := goodIn_app (goodIn_of _ (by decide +kernel)) ggX5_measure_J6_bitCount_0f7a4
set_option maxRecDepth 20000 in
theorem ggX5_measure_X0_stepsToReturning : GoodIn wsX5_measure wsX0_stepsToReturning := goodIn_r _ [40, 19, 41, 35, 6, 36, 20, 21, 22, 23, 24, 25] (by decide +kernel) (by decide +kernel)
set_option maxRecDepth 20000 in
theorem gX5_measure_X0_stepsToReturning : GoodIn wsX5_measure (va_wsS RX5 121 yX0_stepsToReturning wsX0_stepsToReturning) := goodIn_app (goodIn_of _ (by decide +kernel)) ggX5_measure_X0_stepsToReturning
theorem dX5_measure_0 : decode cX5_measure 0 = .ok (.iload_n 3, 1) := by decide +kernel
theorem dX5_measure_1 : decode cX5_measure 1 = .ok (.tableswitch 73 0 4 #[35, 46, 51, 60, 68], 35) := by decide +kernel
theorem dX5_measure_36 : decode cX5_measure 36 = .ok (.bipush 16, 2) := by decide +kernel
theorem dX5_measure_38 : decode cX5_measure 38 = .ok (.lload_n 1, 1) := by decide +kernel
theorem dX5_measure_39 : decode cX5_measure 39 = .ok (.ldc2_w 102, 3) := by decide +kernel
theorem dX5_measure_42 : decode cX5_measure 42 = .ok (.invokestatic 104, 3) := by decide +kernel
theorem dX5_measure_45 : decode cX5_measure 45 = .ok (.isub, 1) := by decide +kernel
theorem dX5_measure_46 : decode cX5_measure 46 = .ok (.ireturn, 1) := by decide +kernel
theorem dX5_measure_47 : decode cX5_measure 47 = .ok (.lload_n 1, 1) := by decide +kernel
theorem dX5_measure_48 : decode cX5_measure 48 = .ok (.invokestatic 89, 3) := by decide +kernel
theorem dX5_measure_51 : decode cX5_measure 51 = .ok (.ireturn, 1) := by decide +kernel
theorem dX5_measure_52 : decode cX5_measure 52 = .ok (.lload_n 1, 1) := by decide +kernel
theorem dX5_measure_53 : decode cX5_measure 53 = .ok (.ldc2_w 102, 3) := by decide +kernel
theorem dX5_measure_56 : decode cX5_measure 56 = .ok (.lxor, 1) := by decide +kernel
theorem dX5_measure_57 : decode cX5_measure 57 = .ok (.invokestatic 108, 3) := by decide +kernel
theorem dX5_measure_60 : decode cX5_measure 60 = .ok (.ireturn, 1) := by decide +kernel
theorem dX5_measure_61 : decode cX5_measure 61 = .ok (.lload_n 1, 1) := by decide +kernel
theorem dX5_measure_62 : decode cX5_measure 62 = .ok (.invokestatic 113, 3) := by decide +kernel
theorem dX5_measure_65 : decode cX5_measure 65 = .ok (.invokestatic 116, 3) := by decide +kernel
theorem dX5_measure_68 : decode cX5_measure 68 = .ok (.ireturn, 1) := by decide +kernel
theorem dX5_measure_69 : decode cX5_measure 69 = .ok (.lload_n 1, 1) := by decide +kernel
theorem dX5_measure_70 : decode cX5_measure 70 = .ok (.invokestatic 121, 3) := by decide +kernel
theorem dX5_measure_73 : decode cX5_measure 73 = .ok (.ireturn, 1) := by decide +kernel
theorem dX5_measure_74 : decode cX5_measure 74 = .ok (.new 41, 3) := by decide +kernel
theorem dX5_measure_77 : decode cX5_measure 77 = .ok (.dup, 1) := by decide +kernel
theorem dX5_measure_78 : decode cX5_measure 78 = .ok (.ldc 124, 2) := by decide +kernel
theorem dX5_measure_80 : decode cX5_measure 80 = .ok (.invokespecial 45, 3) := by decide +kernel
theorem dX5_measure_83 : decode cX5_measure 83 = .ok (.athrow, 1) := by decide +kernel
set_option maxRecDepth 20000 in
theorem ggX5_search_X5_isCost : GoodIn wsX5_search wsX5_isCost := goodIn_r _ [9] (by decide +kernel) (by decide +kernel)
set_option maxRecDepth 20000 in
theorem gX5_search_X5_isCost : GoodIn wsX5_search (va_wsS RX5 138 yX5_isCost wsX5_isCost) := goodIn_app (goodIn_of _ (by decide +kernel)) ggX5_search_X5_isCost
set_option maxRecDepth 20000 in
theorem ggX5_search_X2_make : GoodIn wsX5_search wsX2_make := goodIn_r _ [14, 15, 16, 17, 18, 19, 20, 21, 22, 23, 24, 13, 25, 26, 27, 28, 29, 30, 31, 32, 33, 34, 35, 36, 37, 38, 39, 40, 41, 42, 43, 44, 45, 46, 47, 48, 49, 50, 51, 52, 53, 54, 55, 56, 57, 58, 59, 60, 61, 62, 8, 63, 64, 65, 66, 67, 68, 69, 70, 71, 72, 73, 74, 75, 76, 77, 78, 79, 80, 81, 82, 83, 84, 85, 86, 87, 88, 89, 90, 95, 96, 97, 98, 99, 100, 101, 102, 103, 104, 105] (by decide +kernel) (by decide +kernel)
set_option maxRecDepth 20000 in
theorem gX5_search_X2_make : GoodIn wsX5_search (wsV RX5 143 RX2 yX2_make wsX2_make) := goodIn_app (goodIn_of _ (by decide +kernel)) ggX5_search_X2_make
theorem dX5_search_0 : decode cX5_search 0 = .ok (.iload_n 1, 1) := by decide +kernel
theorem dX5_search_1 : decode cX5_search 1 = .ok (.invokestatic 138, 3) := by decide +kernel
theorem dX5_search_4 : decode cX5_search 4 = .ok (.ifCond .ne 13, 3) := by decide +kernel
theorem dX5_search_7 : decode cX5_search 7 = .ok (.new 56, 3) := by decide +kernel
theorem dX5_search_10 : decode cX5_search 10 = .ok (.dup, 1) := by decide +kernel
theorem dX5_search_11 : decode cX5_search 11 = .ok (.ldc 141, 2) := by decide +kernel
theorem dX5_search_13 : decode cX5_search 13 = .ok (.invokespecial 60, 3) := by decide +kernel
theorem dX5_search_16 : decode cX5_search 16 = .ok (.athrow, 1) := by decide +kernel
theorem dX5_search_17 : decode cX5_search 17 = .ok (.aload_n 0, 1) := by decide +kernel
theorem dX5_search_18 : decode cX5_search 18 = .ok (.getfield 19, 3) := by decide +kernel
theorem dX5_search_21 : decode cX5_search 21 = .ok (.iload_n 1, 1) := by decide +kernel
theorem dX5_search_22 : decode cX5_search 22 = .ok (.aload_n 0, 1) := by decide +kernel
theorem dX5_search_23 : decode cX5_search 23 = .ok (.getfield 10, 3) := by decide +kernel
theorem dX5_search_26 : decode cX5_search 26 = .ok (.invokevirtual 143, 3) := by decide +kernel
theorem dX5_search_29 : decode cX5_search 29 = .ok (.aload_n 0, 1) := by decide +kernel
theorem dX5_search_30 : decode cX5_search 30 = .ok (.getfield 19, 3) := by decide +kernel
theorem dX5_search_33 : decode cX5_search 33 = .ok (.getfield 147, 3) := by decide +kernel
theorem dX5_search_36 : decode cX5_search 36 = .ok (.ireturn, 1) := by decide +kernel
set_option maxRecDepth 20000 in
theorem ggX5_ofCost_X5_isCost : GoodIn wsX5_ofCost wsX5_isCost := goodIn_r _ [7] (by decide +kernel) (by decide +kernel)
set_option maxRecDepth 20000 in
theorem gX5_ofCost_X5_isCost : GoodIn wsX5_ofCost (va_wsS RX5 138 yX5_isCost wsX5_isCost) := goodIn_app (goodIn_of _ (by decide +kernel)) ggX5_ofCost_X5_isCost
set_option maxRecDepth 20000 in
theorem ggX5_ofCost_X2_countOfCost : GoodIn wsX5_ofCost wsX2_countOfCost := goodIn_r _ [12, 13, 18, 19, 20, 21, 22, 23, 24, 25] (by decide +kernel) (by decide +kernel)
set_option maxRecDepth 20000 in
theorem gX5_ofCost_X2_countOfCost : GoodIn wsX5_ofCost (wsV RX5 153 RX2 yX2_countOfCost wsX2_countOfCost) := goodIn_app (goodIn_of _ (by decide +kernel)) ggX5_ofCost_X2_countOfCost
theorem dX5_ofCost_0 : decode cX5_ofCost 0 = .ok (.iload_n 1, 1) := by decide +kernel
theorem dX5_ofCost_1 : decode cX5_ofCost 1 = .ok (.invokestatic 138, 3) := by decide +kernel
theorem dX5_ofCost_4 : decode cX5_ofCost 4 = .ok (.ifCond .ne 13, 3) := by decide +kernel
theorem dX5_ofCost_7 : decode cX5_ofCost 7 = .ok (.new 56, 3) := by decide +kernel
theorem dX5_ofCost_10 : decode cX5_ofCost 10 = .ok (.dup, 1) := by decide +kernel
theorem dX5_ofCost_11 : decode cX5_ofCost 11 = .ok (.ldc 151, 2) := by decide +kernel
theorem dX5_ofCost_13 : decode cX5_ofCost 13 = .ok (.invokespecial 60, 3) := by decide +kernel
theorem dX5_ofCost_16 : decode cX5_ofCost 16 = .ok (.athrow, 1) := by decide +kernel
theorem dX5_ofCost_17 : decode cX5_ofCost 17 = .ok (.aload_n 0, 1) := by decide +kernel
theorem dX5_ofCost_18 : decode cX5_ofCost 18 = .ok (.getfield 19, 3) := by decide +kernel
theorem dX5_ofCost_21 : decode cX5_ofCost 21 = .ok (.iload_n 1, 1) := by decide +kernel
theorem dX5_ofCost_22 : decode cX5_ofCost 22 = .ok (.invokevirtual 153, 3) := by decide +kernel
theorem dX5_ofCost_25 : decode cX5_ofCost 25 = .ok (.ireturn, 1) := by decide +kernel
set_option maxRecDepth 20000 in
theorem ggX5_function_X2_has : GoodIn wsX5_function wsX2_has := goodIn_r _ [9, 10, 15, 16, 17, 18, 19, 20, 21, 22] (by decide +kernel) (by decide +kernel)
set_option maxRecDepth 20000 in
theorem gX5_function_X2_has : GoodIn wsX5_function (wsV RX5 156 RX2 yX2_has wsX2_has) := goodIn_app (goodIn_of _ (by decide +kernel)) ggX5_function_X2_has
theorem dX5_function_0 : decode cX5_function 0 = .ok (.aload_n 0, 1) := by decide +kernel
theorem dX5_function_1 : decode cX5_function 1 = .ok (.getfield 19, 3) := by decide +kernel
theorem dX5_function_4 : decode cX5_function 4 = .ok (.iload_n 1, 1) := by decide +kernel
theorem dX5_function_5 : decode cX5_function 5 = .ok (.invokevirtual 156, 3) := by decide +kernel
theorem dX5_function_8 : decode cX5_function 8 = .ok (.ifCond .ne 13, 3) := by decide +kernel
theorem dX5_function_11 : decode cX5_function 11 = .ok (.new 41, 3) := by decide +kernel
theorem dX5_function_14 : decode cX5_function 14 = .ok (.dup, 1) := by decide +kernel
theorem dX5_function_15 : decode cX5_function 15 = .ok (.ldc 159, 2) := by decide +kernel
theorem dX5_function_17 : decode cX5_function 17 = .ok (.invokespecial 45, 3) := by decide +kernel
theorem dX5_function_20 : decode cX5_function 20 = .ok (.athrow, 1) := by decide +kernel
theorem dX5_function_21 : decode cX5_function 21 = .ok (.aload_n 0, 1) := by decide +kernel
theorem dX5_function_22 : decode cX5_function 22 = .ok (.getfield 19, 3) := by decide +kernel
theorem dX5_function_25 : decode cX5_function 25 = .ok (.getfield 161, 3) := by decide +kernel
theorem dX5_function_28 : decode cX5_function 28 = .ok (.iload_n 1, 1) := by decide +kernel
theorem dX5_function_29 : decode cX5_function 29 = .ok (.laload, 1) := by decide +kernel
theorem dX5_function_30 : decode cX5_function 30 = .ok (.lreturn, 1) := by decide +kernel
set_option maxRecDepth 20000 in
theorem ggX5_entry_X2_has : GoodIn wsX5_entry wsX2_has := goodIn_r _ [11, 12, 22, 23, 24, 25, 26, 27, 28, 29] (by decide +kernel) (by decide +kernel)
set_option maxRecDepth 20000 in
theorem gX5_entry_X2_has : GoodIn wsX5_entry (wsV RX5 156 RX2 yX2_has wsX2_has) := goodIn_app (goodIn_of _ (by decide +kernel)) ggX5_entry_X2_has
set_option maxRecDepth 20000 in
theorem ggX5_entry_X2_costOf : GoodIn wsX5_entry wsX2_costOf := goodIn_r _ [16, 17, 22, 23, 24, 25, 26, 27, 28, 29] (by decide +kernel) (by decide +kernel)
set_option maxRecDepth 20000 in
theorem gX5_entry_X2_costOf : GoodIn wsX5_entry (wsV RX5 165 RX2 yX2_costOf wsX2_costOf) := goodIn_app (goodIn_of _ (by decide +kernel)) ggX5_entry_X2_costOf
theorem dX5_entry_0 : decode cX5_entry 0 = .ok (.aload_n 0, 1) := by decide +kernel
theorem dX5_entry_1 : decode cX5_entry 1 = .ok (.getfield 19, 3) := by decide +kernel
theorem dX5_entry_4 : decode cX5_entry 4 = .ok (.iload_n 1, 1) := by decide +kernel
theorem dX5_entry_5 : decode cX5_entry 5 = .ok (.invokevirtual 156, 3) := by decide +kernel
theorem dX5_entry_8 : decode cX5_entry 8 = .ok (.ifCond .ne 13, 3) := by decide +kernel
theorem dX5_entry_11 : decode cX5_entry 11 = .ok (.new 41, 3) := by decide +kernel
theorem dX5_entry_14 : decode cX5_entry 14 = .ok (.dup, 1) := by decide +kernel
theorem dX5_entry_15 : decode cX5_entry 15 = .ok (.ldc 159, 2) := by decide +kernel
theorem dX5_entry_17 : decode cX5_entry 17 = .ok (.invokespecial 45, 3) := by decide +kernel
theorem dX5_entry_20 : decode cX5_entry 20 = .ok (.athrow, 1) := by decide +kernel
theorem dX5_entry_21 : decode cX5_entry 21 = .ok (.iload_n 2, 1) := by decide +kernel
theorem dX5_entry_22 : decode cX5_entry 22 = .ok (.tableswitch 69 0 3 #[30, 39, 49, 59], 30) := by decide +kernel
theorem dX5_entry_52 : decode cX5_entry 52 = .ok (.aload_n 0, 1) := by decide +kernel
theorem dX5_entry_53 : decode cX5_entry 53 = .ok (.getfield 19, 3) := by decide +kernel
theorem dX5_entry_56 : decode cX5_entry 56 = .ok (.iload_n 1, 1) := by decide +kernel
theorem dX5_entry_57 : decode cX5_entry 57 = .ok (.invokevirtual 165, 3) := by decide +kernel
theorem dX5_entry_60 : decode cX5_entry 60 = .ok (.ireturn, 1) := by decide +kernel
theorem dX5_entry_61 : decode cX5_entry 61 = .ok (.aload_n 0, 1) := by decide +kernel
theorem dX5_entry_62 : decode cX5_entry 62 = .ok (.getfield 19, 3) := by decide +kernel
theorem dX5_entry_65 : decode cX5_entry 65 = .ok (.getfield 168, 3) := by decide +kernel
theorem dX5_entry_68 : decode cX5_entry 68 = .ok (.iload_n 1, 1) := by decide +kernel
theorem dX5_entry_69 : decode cX5_entry 69 = .ok (.iaload, 1) := by decide +kernel
theorem dX5_entry_70 : decode cX5_entry 70 = .ok (.ireturn, 1) := by decide +kernel
theorem dX5_entry_71 : decode cX5_entry 71 = .ok (.aload_n 0, 1) := by decide +kernel
theorem dX5_entry_72 : decode cX5_entry 72 = .ok (.getfield 19, 3) := by decide +kernel
theorem dX5_entry_75 : decode cX5_entry 75 = .ok (.getfield 171, 3) := by decide +kernel
theorem dX5_entry_78 : decode cX5_entry 78 = .ok (.iload_n 1, 1) := by decide +kernel
theorem dX5_entry_79 : decode cX5_entry 79 = .ok (.iaload, 1) := by decide +kernel
theorem dX5_entry_80 : decode cX5_entry 80 = .ok (.ireturn, 1) := by decide +kernel
theorem dX5_entry_81 : decode cX5_entry 81 = .ok (.aload_n 0, 1) := by decide +kernel
theorem dX5_entry_82 : decode cX5_entry 82 = .ok (.getfield 19, 3) := by decide +kernel
theorem dX5_entry_85 : decode cX5_entry 85 = .ok (.getfield 174, 3) := by decide +kernel
theorem dX5_entry_88 : decode cX5_entry 88 = .ok (.iload_n 1, 1) := by decide +kernel
theorem dX5_entry_89 : decode cX5_entry 89 = .ok (.iaload, 1) := by decide +kernel
theorem dX5_entry_90 : decode cX5_entry 90 = .ok (.ireturn, 1) := by decide +kernel
theorem dX5_entry_91 : decode cX5_entry 91 = .ok (.new 41, 3) := by decide +kernel
theorem dX5_entry_94 : decode cX5_entry 94 = .ok (.dup, 1) := by decide +kernel
theorem dX5_entry_95 : decode cX5_entry 95 = .ok (.ldc 177, 2) := by decide +kernel
theorem dX5_entry_97 : decode cX5_entry 97 = .ok (.invokespecial 45, 3) := by decide +kernel
theorem dX5_entry_100 : decode cX5_entry 100 = .ok (.athrow, 1) := by decide +kernel
set_option maxRecDepth 20000 in
theorem ggX5_find_X2_entryWith : GoodIn wsX5_find wsX2_entryWith := goodIn_r _ [6, 7, 8, 9, 10, 5, 11, 12, 13, 14, 19, 20, 21, 22, 23, 24, 25, 26] (by decide +kernel) (by decide +kernel)
set_option maxRecDepth 20000 in
theorem gX5_find_X2_entryWith : GoodIn wsX5_find (wsV RX5 179 RX2 yX2_entryWith wsX2_entryWith) := goodIn_app (goodIn_of _ (by decide +kernel)) ggX5_find_X2_entryWith
theorem dX5_find_0 : decode cX5_find 0 = .ok (.aload_n 0, 1) := by decide +kernel
theorem dX5_find_1 : decode cX5_find 1 = .ok (.getfield 19, 3) := by decide +kernel
theorem dX5_find_4 : decode cX5_find 4 = .ok (.lload_n 1, 1) := by decide +kernel
theorem dX5_find_5 : decode cX5_find 5 = .ok (.invokevirtual 179, 3) := by decide +kernel
theorem dX5_find_8 : decode cX5_find 8 = .ok (.ireturn, 1) := by decide +kernel
set_option maxRecDepth 20000 in
theorem ggX5_fit_X0_maskOf : GoodIn wsX5_fit wsX0_maskOf := goodIn_r _ [8, 9] (by decide +kernel) (by decide +kernel)
set_option maxRecDepth 20000 in
theorem gX5_fit_X0_maskOf : GoodIn wsX5_fit (va_wsS RX5 185 yX0_maskOf wsX0_maskOf) := goodIn_app (goodIn_of _ (by decide +kernel)) ggX5_fit_X0_maskOf
set_option maxRecDepth 20000 in
theorem ggX5_fit_X2_firstAlike : GoodIn wsX5_fit wsX2_firstAlike := goodIn_r _ [14, 15, 16, 21, 22, 23, 24, 25, 26, 27, 28] (by decide +kernel) (by decide +kernel)
set_option maxRecDepth 20000 in
theorem gX5_fit_X2_firstAlike : GoodIn wsX5_fit (wsV RX5 189 RX2 yX2_firstAlike wsX2_firstAlike) := goodIn_app (goodIn_of _ (by decide +kernel)) ggX5_fit_X2_firstAlike
theorem dX5_fit_0 : decode cX5_fit 0 = .ok (.iload_n 3, 1) := by decide +kernel
theorem dX5_fit_1 : decode cX5_fit 1 = .ok (.ifCond .lt 9, 3) := by decide +kernel
theorem dX5_fit_4 : decode cX5_fit 4 = .ok (.iload_n 3, 1) := by decide +kernel
theorem dX5_fit_5 : decode cX5_fit 5 = .ok (.ldc 182, 2) := by decide +kernel
theorem dX5_fit_7 : decode cX5_fit 7 = .ok (.if_icmp .le 13, 3) := by decide +kernel
theorem dX5_fit_10 : decode cX5_fit 10 = .ok (.new 56, 3) := by decide +kernel
theorem dX5_fit_13 : decode cX5_fit 13 = .ok (.dup, 1) := by decide +kernel
theorem dX5_fit_14 : decode cX5_fit 14 = .ok (.ldc 183, 2) := by decide +kernel
theorem dX5_fit_16 : decode cX5_fit 16 = .ok (.invokespecial 60, 3) := by decide +kernel
theorem dX5_fit_19 : decode cX5_fit 19 = .ok (.athrow, 1) := by decide +kernel
theorem dX5_fit_20 : decode cX5_fit 20 = .ok (.aload_n 0, 1) := by decide +kernel
theorem dX5_fit_21 : decode cX5_fit 21 = .ok (.getfield 19, 3) := by decide +kernel
theorem dX5_fit_24 : decode cX5_fit 24 = .ok (.lload_n 1, 1) := by decide +kernel
theorem dX5_fit_25 : decode cX5_fit 25 = .ok (.iload_n 3, 1) := by decide +kernel
theorem dX5_fit_26 : decode cX5_fit 26 = .ok (.invokestatic 185, 3) := by decide +kernel
theorem dX5_fit_29 : decode cX5_fit 29 = .ok (.invokevirtual 189, 3) := by decide +kernel
theorem dX5_fit_32 : decode cX5_fit 32 = .ok (.ireturn, 1) := by decide +kernel
set_option maxRecDepth 20000 in
theorem ggX5_near_X2_firstNearest : GoodIn wsX5_near wsX2_firstNearest := goodIn_r _ [6, 7, 8, 9, 10, 11, 12, 13, 14, 15, 16, 17, 18, 19, 20, 25, 26, 27, 28, 29, 30, 31, 32] (by decide +kernel) (by decide +kernel)
set_option maxRecDepth 20000 in
theorem gX5_near_X2_firstNearest : GoodIn wsX5_near (wsV RX5 192 RX2 yX2_firstNearest wsX2_firstNearest) := goodIn_app (goodIn_of _ (by decide +kernel)) ggX5_near_X2_firstNearest
theorem dX5_near_0 : decode cX5_near 0 = .ok (.aload_n 0, 1) := by decide +kernel
theorem dX5_near_1 : decode cX5_near 1 = .ok (.getfield 19, 3) := by decide +kernel
theorem dX5_near_4 : decode cX5_near 4 = .ok (.lload_n 1, 1) := by decide +kernel
theorem dX5_near_5 : decode cX5_near 5 = .ok (.invokevirtual 192, 3) := by decide +kernel
theorem dX5_near_8 : decode cX5_near 8 = .ok (.ireturn, 1) := by decide +kernel
set_option maxRecDepth 20000 in
theorem ggX5_meanCost_X2_sumOfCosts : GoodIn wsX5_meanCost wsX2_sumOfCosts := goodIn_r _ [7, 8, 9, 10, 6, 11, 12, 17, 18, 19, 20, 21, 22, 23, 24] (by decide +kernel) (by decide +kernel)
set_option maxRecDepth 20000 in
theorem gX5_meanCost_X2_sumOfCosts : GoodIn wsX5_meanCost (wsV RX5 198 RX2 yX2_sumOfCosts wsX2_sumOfCosts) := goodIn_app (goodIn_of _ (by decide +kernel)) ggX5_meanCost_X2_sumOfCosts
theorem dX5_meanCost_0 : decode cX5_meanCost 0 = .ok (.aload_n 0, 1) := by decide +kernel
theorem dX5_meanCost_1 : decode cX5_meanCost 1 = .ok (.getfield 19, 3) := by decide +kernel
theorem dX5_meanCost_4 : decode cX5_meanCost 4 = .ok (.getfield 147, 3) := by decide +kernel
theorem dX5_meanCost_7 : decode cX5_meanCost 7 = .ok (.ifCond .ne 7, 3) := by decide +kernel
theorem dX5_meanCost_10 : decode cX5_meanCost 10 = .ok (.dconst 0, 1) := by decide +kernel
theorem dX5_meanCost_11 : decode cX5_meanCost 11 = .ok (.goto 20, 3) := by decide +kernel
theorem dX5_meanCost_14 : decode cX5_meanCost 14 = .ok (.aload_n 0, 1) := by decide +kernel
theorem dX5_meanCost_15 : decode cX5_meanCost 15 = .ok (.getfield 19, 3) := by decide +kernel
theorem dX5_meanCost_18 : decode cX5_meanCost 18 = .ok (.invokevirtual 198, 3) := by decide +kernel
theorem dX5_meanCost_21 : decode cX5_meanCost 21 = .ok (.i2d, 1) := by decide +kernel
theorem dX5_meanCost_22 : decode cX5_meanCost 22 = .ok (.aload_n 0, 1) := by decide +kernel
theorem dX5_meanCost_23 : decode cX5_meanCost 23 = .ok (.getfield 19, 3) := by decide +kernel
theorem dX5_meanCost_26 : decode cX5_meanCost 26 = .ok (.getfield 147, 3) := by decide +kernel
theorem dX5_meanCost_29 : decode cX5_meanCost 29 = .ok (.i2d, 1) := by decide +kernel
theorem dX5_meanCost_30 : decode cX5_meanCost 30 = .ok (.ddiv, 1) := by decide +kernel
theorem dX5_meanCost_31 : decode cX5_meanCost 31 = .ok (.dreturn, 1) := by decide +kernel
theorem dX5_isOperation_0 : decode cX5_isOperation 0 = .ok (.iload_n 0, 1) := by decide +kernel
theorem dX5_isOperation_1 : decode cX5_isOperation 1 = .ok (.ifCond .lt 13, 3) := by decide +kernel
theorem dX5_isOperation_4 : decode cX5_isOperation 4 = .ok (.iload_n 0, 1) := by decide +kernel
theorem dX5_isOperation_5 : decode cX5_isOperation 5 = .ok (.bipush 10, 2) := by decide +kernel
theorem dX5_isOperation_7 : decode cX5_isOperation 7 = .ok (.if_icmp .ge 7, 3) := by decide +kernel
theorem dX5_isOperation_10 : decode cX5_isOperation 10 = .ok (.iconst 1, 1) := by decide +kernel
theorem dX5_isOperation_11 : decode cX5_isOperation 11 = .ok (.goto 4, 3) := by decide +kernel
theorem dX5_isOperation_14 : decode cX5_isOperation 14 = .ok (.iconst 0, 1) := by decide +kernel
theorem dX5_isOperation_15 : decode cX5_isOperation 15 = .ok (.ireturn, 1) := by decide +kernel
theorem dX5_isInput_0 : decode cX5_isInput 0 = .ok (.iload_n 0, 1) := by decide +kernel
theorem dX5_isInput_1 : decode cX5_isInput 1 = .ok (.ifCond .lt 13, 3) := by decide +kernel
theorem dX5_isInput_4 : decode cX5_isInput 4 = .ok (.iload_n 0, 1) := by decide +kernel
theorem dX5_isInput_5 : decode cX5_isInput 5 = .ok (.bipush 16, 2) := by decide +kernel
theorem dX5_isInput_7 : decode cX5_isInput 7 = .ok (.if_icmp .ge 7, 3) := by decide +kernel
theorem dX5_isInput_10 : decode cX5_isInput 10 = .ok (.iconst 1, 1) := by decide +kernel
theorem dX5_isInput_11 : decode cX5_isInput 11 = .ok (.goto 4, 3) := by decide +kernel
theorem dX5_isInput_14 : decode cX5_isInput 14 = .ok (.iconst 0, 1) := by decide +kernel
theorem dX5_isInput_15 : decode cX5_isInput 15 = .ok (.ireturn, 1) := by decide +kernel
theorem dX5_isCost_0 : decode cX5_isCost 0 = .ok (.iload_n 0, 1) := by decide +kernel
theorem dX5_isCost_1 : decode cX5_isCost 1 = .ok (.ifCond .lt 13, 3) := by decide +kernel
theorem dX5_isCost_4 : decode cX5_isCost 4 = .ok (.iload_n 0, 1) := by decide +kernel
theorem dX5_isCost_5 : decode cX5_isCost 5 = .ok (.bipush 6, 2) := by decide +kernel
theorem dX5_isCost_7 : decode cX5_isCost 7 = .ok (.if_icmp .gt 7, 3) := by decide +kernel
theorem dX5_isCost_10 : decode cX5_isCost 10 = .ok (.iconst 1, 1) := by decide +kernel
theorem dX5_isCost_11 : decode cX5_isCost 11 = .ok (.goto 4, 3) := by decide +kernel
theorem dX5_isCost_14 : decode cX5_isCost 14 = .ok (.iconst 0, 1) := by decide +kernel
theorem dX5_isCost_15 : decode cX5_isCost 15 = .ok (.ireturn, 1) := by decide +kernel
theorem dX5_hasTwoArguments_0 : decode cX5_hasTwoArguments 0 = .ok (.iload_n 0, 1) := by decide +kernel
theorem dX5_hasTwoArguments_1 : decode cX5_hasTwoArguments 1 = .ok (.iconst 4, 1) := by decide +kernel
theorem dX5_hasTwoArguments_2 : decode cX5_hasTwoArguments 2 = .ok (.if_icmp .lt 13, 3) := by decide +kernel
theorem dX5_hasTwoArguments_5 : decode cX5_hasTwoArguments 5 = .ok (.iload_n 0, 1) := by decide +kernel
theorem dX5_hasTwoArguments_6 : decode cX5_hasTwoArguments 6 = .ok (.bipush 10, 2) := by decide +kernel
theorem dX5_hasTwoArguments_8 : decode cX5_hasTwoArguments 8 = .ok (.if_icmp .ge 7, 3) := by decide +kernel
theorem dX5_hasTwoArguments_11 : decode cX5_hasTwoArguments 11 = .ok (.iconst 1, 1) := by decide +kernel
theorem dX5_hasTwoArguments_12 : decode cX5_hasTwoArguments 12 = .ok (.goto 4, 3) := by decide +kernel
theorem dX5_hasTwoArguments_15 : decode cX5_hasTwoArguments 15 = .ok (.iconst 0, 1) := by decide +kernel
theorem dX5_hasTwoArguments_16 : decode cX5_hasTwoArguments 16 = .ok (.ireturn, 1) := by decide +kernel
theorem dX5_countOn_0 : decode cX5_countOn 0 = .ok (.iconst 0, 1) := by decide +kernel
theorem dX5_countOn_1 : decode cX5_countOn 1 = .ok (.istore_n 1, 1) := by decide +kernel
theorem dX5_countOn_2 : decode cX5_countOn 2 = .ok (.aload_n 0, 1) := by decide +kernel
theorem dX5_countOn_3 : decode cX5_countOn 3 = .ok (.astore_n 2, 1) := by decide +kernel
theorem dX5_countOn_4 : decode cX5_countOn 4 = .ok (.aload_n 2, 1) := by decide +kernel
theorem dX5_countOn_5 : decode cX5_countOn 5 = .ok (.arraylength, 1) := by decide +kernel
theorem dX5_countOn_6 : decode cX5_countOn 6 = .ok (.istore_n 3, 1) := by decide +kernel
theorem dX5_countOn_7 : decode cX5_countOn 7 = .ok (.iconst 0, 1) := by decide +kernel
theorem dX5_countOn_8 : decode cX5_countOn 8 = .ok (.istore 4, 2) := by decide +kernel
theorem dX5_countOn_10 : decode cX5_countOn 10 = .ok (.iload 4, 2) := by decide +kernel
theorem dX5_countOn_12 : decode cX5_countOn 12 = .ok (.iload_n 3, 1) := by decide +kernel
theorem dX5_countOn_13 : decode cX5_countOn 13 = .ok (.if_icmp .ge 28, 3) := by decide +kernel
theorem dX5_countOn_16 : decode cX5_countOn 16 = .ok (.aload_n 2, 1) := by decide +kernel
theorem dX5_countOn_17 : decode cX5_countOn 17 = .ok (.iload 4, 2) := by decide +kernel
theorem dX5_countOn_19 : decode cX5_countOn 19 = .ok (.baload, 1) := by decide +kernel
theorem dX5_countOn_20 : decode cX5_countOn 20 = .ok (.istore 5, 2) := by decide +kernel
theorem dX5_countOn_22 : decode cX5_countOn 22 = .ok (.iload_n 1, 1) := by decide +kernel
theorem dX5_countOn_23 : decode cX5_countOn 23 = .ok (.iload 5, 2) := by decide +kernel
theorem dX5_countOn_25 : decode cX5_countOn 25 = .ok (.ifCond .eq 7, 3) := by decide +kernel
theorem dX5_countOn_28 : decode cX5_countOn 28 = .ok (.iconst 1, 1) := by decide +kernel
theorem dX5_countOn_29 : decode cX5_countOn 29 = .ok (.goto 4, 3) := by decide +kernel
theorem dX5_countOn_32 : decode cX5_countOn 32 = .ok (.iconst 0, 1) := by decide +kernel
theorem dX5_countOn_33 : decode cX5_countOn 33 = .ok (.iadd, 1) := by decide +kernel
theorem dX5_countOn_34 : decode cX5_countOn 34 = .ok (.istore_n 1, 1) := by decide +kernel
theorem dX5_countOn_35 : decode cX5_countOn 35 = .ok (.iinc 4 1, 3) := by decide +kernel
theorem dX5_countOn_38 : decode cX5_countOn 38 = .ok (.goto (-28), 3) := by decide +kernel
theorem dX5_countOn_41 : decode cX5_countOn 41 = .ok (.iload_n 1, 1) := by decide +kernel
theorem dX5_countOn_42 : decode cX5_countOn 42 = .ok (.ireturn, 1) := by decide +kernel
theorem dJ6_bitCount_0f7a4_0 : decode cJ6_bitCount_0f7a4 0 = .ok (.iload_n 0, 1) := by decide +kernel
theorem dJ6_bitCount_0f7a4_1 : decode cJ6_bitCount_0f7a4 1 = .ok (.iload_n 0, 1) := by decide +kernel
theorem dJ6_bitCount_0f7a4_2 : decode cJ6_bitCount_0f7a4 2 = .ok (.iconst 1, 1) := by decide +kernel
theorem dJ6_bitCount_0f7a4_3 : decode cJ6_bitCount_0f7a4 3 = .ok (.iushr, 1) := by decide +kernel
theorem dJ6_bitCount_0f7a4_4 : decode cJ6_bitCount_0f7a4 4 = .ok (.ldc_w 265, 3) := by decide +kernel
theorem dJ6_bitCount_0f7a4_7 : decode cJ6_bitCount_0f7a4 7 = .ok (.iand, 1) := by decide +kernel
theorem dJ6_bitCount_0f7a4_8 : decode cJ6_bitCount_0f7a4 8 = .ok (.isub, 1) := by decide +kernel
theorem dJ6_bitCount_0f7a4_9 : decode cJ6_bitCount_0f7a4 9 = .ok (.istore_n 0, 1) := by decide +kernel
theorem dJ6_bitCount_0f7a4_10 : decode cJ6_bitCount_0f7a4 10 = .ok (.iload_n 0, 1) := by decide +kernel
theorem dJ6_bitCount_0f7a4_11 : decode cJ6_bitCount_0f7a4 11 = .ok (.ldc_w 266, 3) := by decide +kernel
theorem dJ6_bitCount_0f7a4_14 : decode cJ6_bitCount_0f7a4 14 = .ok (.iand, 1) := by decide +kernel
theorem dJ6_bitCount_0f7a4_15 : decode cJ6_bitCount_0f7a4 15 = .ok (.iload_n 0, 1) := by decide +kernel
theorem dJ6_bitCount_0f7a4_16 : decode cJ6_bitCount_0f7a4 16 = .ok (.iconst 2, 1) := by decide +kernel
theorem dJ6_bitCount_0f7a4_17 : decode cJ6_bitCount_0f7a4 17 = .ok (.iushr, 1) := by decide +kernel
theorem dJ6_bitCount_0f7a4_18 : decode cJ6_bitCount_0f7a4 18 = .ok (.ldc_w 266, 3) := by decide +kernel
theorem dJ6_bitCount_0f7a4_21 : decode cJ6_bitCount_0f7a4 21 = .ok (.iand, 1) := by decide +kernel
theorem dJ6_bitCount_0f7a4_22 : decode cJ6_bitCount_0f7a4 22 = .ok (.iadd, 1) := by decide +kernel
theorem dJ6_bitCount_0f7a4_23 : decode cJ6_bitCount_0f7a4 23 = .ok (.istore_n 0, 1) := by decide +kernel
theorem dJ6_bitCount_0f7a4_24 : decode cJ6_bitCount_0f7a4 24 = .ok (.iload_n 0, 1) := by decide +kernel
theorem dJ6_bitCount_0f7a4_25 : decode cJ6_bitCount_0f7a4 25 = .ok (.iload_n 0, 1) := by decide +kernel
theorem dJ6_bitCount_0f7a4_26 : decode cJ6_bitCount_0f7a4 26 = .ok (.iconst 4, 1) := by decide +kernel
theorem dJ6_bitCount_0f7a4_27 : decode cJ6_bitCount_0f7a4 27 = .ok (.iushr, 1) := by decide +kernel
theorem dJ6_bitCount_0f7a4_28 : decode cJ6_bitCount_0f7a4 28 = .ok (.iadd, 1) := by decide +kernel
theorem dJ6_bitCount_0f7a4_29 : decode cJ6_bitCount_0f7a4 29 = .ok (.ldc_w 267, 3) := by decide +kernel
theorem dJ6_bitCount_0f7a4_32 : decode cJ6_bitCount_0f7a4 32 = .ok (.iand, 1) := by decide +kernel
theorem dJ6_bitCount_0f7a4_33 : decode cJ6_bitCount_0f7a4 33 = .ok (.istore_n 0, 1) := by decide +kernel
theorem dJ6_bitCount_0f7a4_34 : decode cJ6_bitCount_0f7a4 34 = .ok (.iload_n 0, 1) := by decide +kernel
theorem dJ6_bitCount_0f7a4_35 : decode cJ6_bitCount_0f7a4 35 = .ok (.iload_n 0, 1) := by decide +kernel
theorem dJ6_bitCount_0f7a4_36 : decode cJ6_bitCount_0f7a4 36 = .ok (.bipush 8, 2) := by decide +kernel
theorem dJ6_bitCount_0f7a4_38 : decode cJ6_bitCount_0f7a4 38 = .ok (.iushr, 1) := by decide +kernel
theorem dJ6_bitCount_0f7a4_39 : decode cJ6_bitCount_0f7a4 39 = .ok (.iadd, 1) := by decide +kernel
theorem dJ6_bitCount_0f7a4_40 : decode cJ6_bitCount_0f7a4 40 = .ok (.istore_n 0, 1) := by decide +kernel
theorem dJ6_bitCount_0f7a4_41 : decode cJ6_bitCount_0f7a4 41 = .ok (.iload_n 0, 1) := by decide +kernel
theorem dJ6_bitCount_0f7a4_42 : decode cJ6_bitCount_0f7a4 42 = .ok (.iload_n 0, 1) := by decide +kernel
theorem dJ6_bitCount_0f7a4_43 : decode cJ6_bitCount_0f7a4 43 = .ok (.bipush 16, 2) := by decide +kernel
theorem dJ6_bitCount_0f7a4_45 : decode cJ6_bitCount_0f7a4 45 = .ok (.iushr, 1) := by decide +kernel
theorem dJ6_bitCount_0f7a4_46 : decode cJ6_bitCount_0f7a4 46 = .ok (.iadd, 1) := by decide +kernel
theorem dJ6_bitCount_0f7a4_47 : decode cJ6_bitCount_0f7a4 47 = .ok (.istore_n 0, 1) := by decide +kernel
theorem dJ6_bitCount_0f7a4_48 : decode cJ6_bitCount_0f7a4 48 = .ok (.iload_n 0, 1) := by decide +kernel
theorem dJ6_bitCount_0f7a4_49 : decode cJ6_bitCount_0f7a4 49 = .ok (.bipush 63, 2) := by decide +kernel
theorem dJ6_bitCount_0f7a4_51 : decode cJ6_bitCount_0f7a4 51 = .ok (.iand, 1) := by decide +kernel
theorem dJ6_bitCount_0f7a4_52 : decode cJ6_bitCount_0f7a4 52 = .ok (.ireturn, 1) := by decide +kernel
theorem dJ13_bitCount_95d88_0 : decode cJ13_bitCount_95d88 0 = .ok (.lload_n 0, 1) := by decide +kernel
theorem dJ13_bitCount_95d88_1 : decode cJ13_bitCount_95d88 1 = .ok (.lload_n 0, 1) := by decide +kernel
theorem dJ13_bitCount_95d88_2 : decode cJ13_bitCount_95d88 2 = .ok (.iconst 1, 1) := by decide +kernel
theorem dJ13_bitCount_95d88_3 : decode cJ13_bitCount_95d88 3 = .ok (.lushr, 1) := by decide +kernel
theorem dJ13_bitCount_95d88_4 : decode cJ13_bitCount_95d88 4 = .ok (.ldc2_w 314, 3) := by decide +kernel
theorem dJ13_bitCount_95d88_7 : decode cJ13_bitCount_95d88 7 = .ok (.land, 1) := by decide +kernel
theorem dJ13_bitCount_95d88_8 : decode cJ13_bitCount_95d88 8 = .ok (.lsub, 1) := by decide +kernel
theorem dJ13_bitCount_95d88_9 : decode cJ13_bitCount_95d88 9 = .ok (.lstore_n 0, 1) := by decide +kernel
theorem dJ13_bitCount_95d88_10 : decode cJ13_bitCount_95d88 10 = .ok (.lload_n 0, 1) := by decide +kernel
theorem dJ13_bitCount_95d88_11 : decode cJ13_bitCount_95d88 11 = .ok (.ldc2_w 316, 3) := by decide +kernel
theorem dJ13_bitCount_95d88_14 : decode cJ13_bitCount_95d88 14 = .ok (.land, 1) := by decide +kernel
theorem dJ13_bitCount_95d88_15 : decode cJ13_bitCount_95d88 15 = .ok (.lload_n 0, 1) := by decide +kernel
theorem dJ13_bitCount_95d88_16 : decode cJ13_bitCount_95d88 16 = .ok (.iconst 2, 1) := by decide +kernel
theorem dJ13_bitCount_95d88_17 : decode cJ13_bitCount_95d88 17 = .ok (.lushr, 1) := by decide +kernel
theorem dJ13_bitCount_95d88_18 : decode cJ13_bitCount_95d88 18 = .ok (.ldc2_w 316, 3) := by decide +kernel
theorem dJ13_bitCount_95d88_21 : decode cJ13_bitCount_95d88 21 = .ok (.land, 1) := by decide +kernel
theorem dJ13_bitCount_95d88_22 : decode cJ13_bitCount_95d88 22 = .ok (.ladd, 1) := by decide +kernel
theorem dJ13_bitCount_95d88_23 : decode cJ13_bitCount_95d88 23 = .ok (.lstore_n 0, 1) := by decide +kernel
theorem dJ13_bitCount_95d88_24 : decode cJ13_bitCount_95d88 24 = .ok (.lload_n 0, 1) := by decide +kernel
theorem dJ13_bitCount_95d88_25 : decode cJ13_bitCount_95d88 25 = .ok (.lload_n 0, 1) := by decide +kernel
theorem dJ13_bitCount_95d88_26 : decode cJ13_bitCount_95d88 26 = .ok (.iconst 4, 1) := by decide +kernel
theorem dJ13_bitCount_95d88_27 : decode cJ13_bitCount_95d88 27 = .ok (.lushr, 1) := by decide +kernel
theorem dJ13_bitCount_95d88_28 : decode cJ13_bitCount_95d88 28 = .ok (.ladd, 1) := by decide +kernel
theorem dJ13_bitCount_95d88_29 : decode cJ13_bitCount_95d88 29 = .ok (.ldc2_w 318, 3) := by decide +kernel
theorem dJ13_bitCount_95d88_32 : decode cJ13_bitCount_95d88 32 = .ok (.land, 1) := by decide +kernel
theorem dJ13_bitCount_95d88_33 : decode cJ13_bitCount_95d88 33 = .ok (.lstore_n 0, 1) := by decide +kernel
theorem dJ13_bitCount_95d88_34 : decode cJ13_bitCount_95d88 34 = .ok (.lload_n 0, 1) := by decide +kernel
theorem dJ13_bitCount_95d88_35 : decode cJ13_bitCount_95d88 35 = .ok (.lload_n 0, 1) := by decide +kernel
theorem dJ13_bitCount_95d88_36 : decode cJ13_bitCount_95d88 36 = .ok (.bipush 8, 2) := by decide +kernel
theorem dJ13_bitCount_95d88_38 : decode cJ13_bitCount_95d88 38 = .ok (.lushr, 1) := by decide +kernel
theorem dJ13_bitCount_95d88_39 : decode cJ13_bitCount_95d88 39 = .ok (.ladd, 1) := by decide +kernel
theorem dJ13_bitCount_95d88_40 : decode cJ13_bitCount_95d88 40 = .ok (.lstore_n 0, 1) := by decide +kernel
theorem dJ13_bitCount_95d88_41 : decode cJ13_bitCount_95d88 41 = .ok (.lload_n 0, 1) := by decide +kernel
theorem dJ13_bitCount_95d88_42 : decode cJ13_bitCount_95d88 42 = .ok (.lload_n 0, 1) := by decide +kernel
theorem dJ13_bitCount_95d88_43 : decode cJ13_bitCount_95d88 43 = .ok (.bipush 16, 2) := by decide +kernel
theorem dJ13_bitCount_95d88_45 : decode cJ13_bitCount_95d88 45 = .ok (.lushr, 1) := by decide +kernel
theorem dJ13_bitCount_95d88_46 : decode cJ13_bitCount_95d88 46 = .ok (.ladd, 1) := by decide +kernel
theorem dJ13_bitCount_95d88_47 : decode cJ13_bitCount_95d88 47 = .ok (.lstore_n 0, 1) := by decide +kernel
theorem dJ13_bitCount_95d88_48 : decode cJ13_bitCount_95d88 48 = .ok (.lload_n 0, 1) := by decide +kernel
theorem dJ13_bitCount_95d88_49 : decode cJ13_bitCount_95d88 49 = .ok (.lload_n 0, 1) := by decide +kernel
theorem dJ13_bitCount_95d88_50 : decode cJ13_bitCount_95d88 50 = .ok (.bipush 32, 2) := by decide +kernel
theorem dJ13_bitCount_95d88_52 : decode cJ13_bitCount_95d88 52 = .ok (.lushr, 1) := by decide +kernel
theorem dJ13_bitCount_95d88_53 : decode cJ13_bitCount_95d88 53 = .ok (.ladd, 1) := by decide +kernel
theorem dJ13_bitCount_95d88_54 : decode cJ13_bitCount_95d88 54 = .ok (.lstore_n 0, 1) := by decide +kernel
theorem dJ13_bitCount_95d88_55 : decode cJ13_bitCount_95d88 55 = .ok (.lload_n 0, 1) := by decide +kernel
theorem dJ13_bitCount_95d88_56 : decode cJ13_bitCount_95d88 56 = .ok (.l2i, 1) := by decide +kernel
theorem dJ13_bitCount_95d88_57 : decode cJ13_bitCount_95d88 57 = .ok (.bipush 127, 2) := by decide +kernel
theorem dJ13_bitCount_95d88_59 : decode cJ13_bitCount_95d88 59 = .ok (.iand, 1) := by decide +kernel
theorem dJ13_bitCount_95d88_60 : decode cJ13_bitCount_95d88 60 = .ok (.ireturn, 1) := by decide +kernel
theorem dJ7_fill_53178_0 : decode cJ7_fill_53178 0 = .ok (.iconst 0, 1) := by decide +kernel
theorem dJ7_fill_53178_1 : decode cJ7_fill_53178 1 = .ok (.istore_n 2, 1) := by decide +kernel
theorem dJ7_fill_53178_2 : decode cJ7_fill_53178 2 = .ok (.aload_n 0, 1) := by decide +kernel
theorem dJ7_fill_53178_3 : decode cJ7_fill_53178 3 = .ok (.arraylength, 1) := by decide +kernel
theorem dJ7_fill_53178_4 : decode cJ7_fill_53178 4 = .ok (.istore_n 3, 1) := by decide +kernel
theorem dJ7_fill_53178_5 : decode cJ7_fill_53178 5 = .ok (.iload_n 2, 1) := by decide +kernel
theorem dJ7_fill_53178_6 : decode cJ7_fill_53178 6 = .ok (.iload_n 3, 1) := by decide +kernel
theorem dJ7_fill_53178_7 : decode cJ7_fill_53178 7 = .ok (.if_icmp .ge 13, 3) := by decide +kernel
theorem dJ7_fill_53178_10 : decode cJ7_fill_53178 10 = .ok (.aload_n 0, 1) := by decide +kernel
theorem dJ7_fill_53178_11 : decode cJ7_fill_53178 11 = .ok (.iload_n 2, 1) := by decide +kernel
theorem dJ7_fill_53178_12 : decode cJ7_fill_53178 12 = .ok (.iload_n 1, 1) := by decide +kernel
theorem dJ7_fill_53178_13 : decode cJ7_fill_53178 13 = .ok (.iastore, 1) := by decide +kernel
theorem dJ7_fill_53178_14 : decode cJ7_fill_53178 14 = .ok (.iinc 2 1, 3) := by decide +kernel
theorem dJ7_fill_53178_17 : decode cJ7_fill_53178 17 = .ok (.goto (-12), 3) := by decide +kernel
theorem dJ7_fill_53178_20 : decode cJ7_fill_53178 20 = .ok (.return_, 1) := by decide +kernel
