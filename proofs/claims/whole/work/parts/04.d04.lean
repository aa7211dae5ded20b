theorem dX0_placeOf_0 : decode cX0_placeOf 0 = .ok (.lload_n 0, 1) := by decide +kernel
theorem dX0_placeOf_1 : decode cX0_placeOf 1 = .ok (.lconst 0, 1) := by decide +kernel
theorem dX0_placeOf_2 : decode cX0_placeOf 2 = .ok (.lcmp, 1) := by decide +kernel
theorem dX0_placeOf_3 : decode cX0_placeOf 3 = .ok (.ifCond .lt 7, 3) := by decide +kernel
theorem dX0_placeOf_6 : decode cX0_placeOf 6 = .ok (.lload_n 0, 1) := by decide +kernel
theorem dX0_placeOf_7 : decode cX0_placeOf 7 = .ok (.goto 8, 3) := by decide +kernel
theorem dX0_placeOf_10 : decode cX0_placeOf 10 = .ok (.ldc2_w 9, 3) := by decide +kernel
theorem dX0_placeOf_13 : decode cX0_placeOf 13 = .ok (.lload_n 0, 1) := by decide +kernel
theorem dX0_placeOf_14 : decode cX0_placeOf 14 = .ok (.lsub, 1) := by decide +kernel
theorem dX0_placeOf_15 : decode cX0_placeOf 15 = .ok (.lreturn, 1) := by decide +kernel
theorem dX0_atPlace_0 : decode cX0_atPlace 0 = .ok (.lload_n 0, 1) := by decide +kernel
theorem dX0_atPlace_1 : decode cX0_atPlace 1 = .ok (.lconst 0, 1) := by decide +kernel
theorem dX0_atPlace_2 : decode cX0_atPlace 2 = .ok (.lcmp, 1) := by decide +kernel
theorem dX0_atPlace_3 : decode cX0_atPlace 3 = .ok (.ifCond .lt 7, 3) := by decide +kernel
theorem dX0_atPlace_6 : decode cX0_atPlace 6 = .ok (.lload_n 0, 1) := by decide +kernel
theorem dX0_atPlace_7 : decode cX0_atPlace 7 = .ok (.goto 8, 3) := by decide +kernel
theorem dX0_atPlace_10 : decode cX0_atPlace 10 = .ok (.ldc2_w 9, 3) := by decide +kernel
theorem dX0_atPlace_13 : decode cX0_atPlace 13 = .ok (.lload_n 0, 1) := by decide +kernel
theorem dX0_atPlace_14 : decode cX0_atPlace 14 = .ok (.lsub, 1) := by decide +kernel
theorem dX0_atPlace_15 : decode cX0_atPlace 15 = .ok (.lreturn, 1) := by decide +kernel
theorem dX0_opposite_0 : decode cX0_opposite 0 = .ok (.lload_n 0, 1) := by decide +kernel
theorem dX0_opposite_1 : decode cX0_opposite 1 = .ok (.ldc2_w 9, 3) := by decide +kernel
theorem dX0_opposite_4 : decode cX0_opposite 4 = .ok (.lxor, 1) := by decide +kernel
theorem dX0_opposite_5 : decode cX0_opposite 5 = .ok (.lreturn, 1) := by decide +kernel
theorem dX0_sizeOf_0 : decode cX0_sizeOf 0 = .ok (.lload_n 0, 1) := by decide +kernel
theorem dX0_sizeOf_1 : decode cX0_sizeOf 1 = .ok (.ldc2_w 11, 3) := by decide +kernel
theorem dX0_sizeOf_4 : decode cX0_sizeOf 4 = .ok (.land, 1) := by decide +kernel
theorem dX0_sizeOf_5 : decode cX0_sizeOf 5 = .ok (.lreturn, 1) := by decide +kernel
set_option maxRecDepth 20000 in
theorem ggX0_isZero_X0_sizeOf : GoodIn wsX0_isZero wsX0_sizeOf := goodIn_r _ [4, 5] (by decide +kernel) (by decide +kernel)
set_option maxRecDepth 20000 in
theorem gX0_isZero_X0_sizeOf : GoodIn wsX0_isZero (va_wsS RX0 13 yX0_sizeOf wsX0_sizeOf) := goodIn_app (goodIn_of _ (by decide +kernel)) ggX0_isZero_X0_sizeOf
theorem dX0_isZero_0 : decode cX0_isZero 0 = .ok (.lload_n 0, 1) := by decide +kernel
theorem dX0_isZero_1 : decode cX0_isZero 1 = .ok (.invokestatic 13, 3) := by decide +kernel
theorem dX0_isZero_4 : decode cX0_isZero 4 = .ok (.lconst 0, 1) := by decide +kernel
theorem dX0_isZero_5 : decode cX0_isZero 5 = .ok (.lcmp, 1) := by decide +kernel
theorem dX0_isZero_6 : decode cX0_isZero 6 = .ok (.ifCond .ne 7, 3) := by decide +kernel
theorem dX0_isZero_9 : decode cX0_isZero 9 = .ok (.iconst 1, 1) := by decide +kernel
theorem dX0_isZero_10 : decode cX0_isZero 10 = .ok (.goto 4, 3) := by decide +kernel
theorem dX0_isZero_13 : decode cX0_isZero 13 = .ok (.iconst 0, 1) := by decide +kernel
theorem dX0_isZero_14 : decode cX0_isZero 14 = .ok (.ireturn, 1) := by decide +kernel
set_option maxRecDepth 20000 in
theorem ggX0_hasNoEnd_X0_sizeOf : GoodIn wsX0_hasNoEnd wsX0_sizeOf := goodIn_r _ [5, 6] (by decide +kernel) (by decide +kernel)
set_option maxRecDepth 20000 in
theorem gX0_hasNoEnd_X0_sizeOf : GoodIn wsX0_hasNoEnd (va_wsS RX0 13 yX0_sizeOf wsX0_sizeOf) := goodIn_app (goodIn_of _ (by decide +kernel)) ggX0_hasNoEnd_X0_sizeOf
theorem dX0_hasNoEnd_0 : decode cX0_hasNoEnd 0 = .ok (.lload_n 0, 1) := by decide +kernel
theorem dX0_hasNoEnd_1 : decode cX0_hasNoEnd 1 = .ok (.invokestatic 13, 3) := by decide +kernel
theorem dX0_hasNoEnd_4 : decode cX0_hasNoEnd 4 = .ok (.ldc2_w 17, 3) := by decide +kernel
theorem dX0_hasNoEnd_7 : decode cX0_hasNoEnd 7 = .ok (.lcmp, 1) := by decide +kernel
theorem dX0_hasNoEnd_8 : decode cX0_hasNoEnd 8 = .ok (.ifCond .ne 7, 3) := by decide +kernel
theorem dX0_hasNoEnd_11 : decode cX0_hasNoEnd 11 = .ok (.iconst 1, 1) := by decide +kernel
theorem dX0_hasNoEnd_12 : decode cX0_hasNoEnd 12 = .ok (.goto 4, 3) := by decide +kernel
theorem dX0_hasNoEnd_15 : decode cX0_hasNoEnd 15 = .ok (.iconst 0, 1) := by decide +kernel
theorem dX0_hasNoEnd_16 : decode cX0_hasNoEnd 16 = .ok (.ireturn, 1) := by decide +kernel
set_option maxRecDepth 20000 in
theorem ggX0_hasNoFraction_X0_isZero : GoodIn wsX0_hasNoFraction wsX0_isZero := goodIn_r _ [4, 5, 6, 3, 7, 8] (by decide +kernel) (by decide +kernel)
set_option maxRecDepth 20000 in
theorem gX0_hasNoFraction_X0_isZero : GoodIn wsX0_hasNoFraction (va_wsS RX0 19 yX0_isZero wsX0_isZero) := goodIn_app (goodIn_of _ (by decide +kernel)) ggX0_hasNoFraction_X0_isZero
set_option maxRecDepth 20000 in
theorem ggX0_hasNoFraction_X0_hasNoEnd : GoodIn wsX0_hasNoFraction wsX0_hasNoEnd := goodIn_r _ [11, 12, 5, 6, 3, 7, 8] (by decide +kernel) (by decide +kernel)
set_option maxRecDepth 20000 in
theorem gX0_hasNoFraction_X0_hasNoEnd : GoodIn wsX0_hasNoFraction (va_wsS RX0 23 yX0_hasNoEnd wsX0_hasNoEnd) := goodIn_app (goodIn_of _ (by decide +kernel)) ggX0_hasNoFraction_X0_hasNoEnd
set_option maxRecDepth 20000 in
theorem ggX0_hasNoFraction_X0_tailOf : GoodIn wsX0_hasNoFraction wsX0_tailOf := goodIn_r _ [15, 16, 17, 3, 18, 19, 20, 21, 22, 23, 24, 25, 26, 27, 28, 29, 30, 31, 32, 33, 34, 35, 36, 37, 38, 39] (by decide +kernel) (by decide +kernel)
set_option maxRecDepth 20000 in
theorem gX0_hasNoFraction_X0_tailOf : GoodIn wsX0_hasNoFraction (va_wsS RX0 26 yX0_tailOf wsX0_tailOf) := goodIn_app (goodIn_of _ (by decide +kernel)) ggX0_hasNoFraction_X0_tailOf
theorem dX0_hasNoFraction_0 : decode cX0_hasNoFraction 0 = .ok (.lload_n 0, 1) := by decide +kernel
theorem dX0_hasNoFraction_1 : decode cX0_hasNoFraction 1 = .ok (.invokestatic 19, 3) := by decide +kernel
theorem dX0_hasNoFraction_4 : decode cX0_hasNoFraction 4 = .ok (.ifCond .ne 17, 3) := by decide +kernel
theorem dX0_hasNoFraction_7 : decode cX0_hasNoFraction 7 = .ok (.lload_n 0, 1) := by decide +kernel
theorem dX0_hasNoFraction_8 : decode cX0_hasNoFraction 8 = .ok (.invokestatic 23, 3) := by decide +kernel
theorem dX0_hasNoFraction_11 : decode cX0_hasNoFraction 11 = .ok (.ifCond .ne 14, 3) := by decide +kernel
theorem dX0_hasNoFraction_14 : decode cX0_hasNoFraction 14 = .ok (.lload_n 0, 1) := by decide +kernel
theorem dX0_hasNoFraction_15 : decode cX0_hasNoFraction 15 = .ok (.invokestatic 26, 3) := by decide +kernel
theorem dX0_hasNoFraction_18 : decode cX0_hasNoFraction 18 = .ok (.ifCond .lt 7, 3) := by decide +kernel
theorem dX0_hasNoFraction_21 : decode cX0_hasNoFraction 21 = .ok (.iconst 1, 1) := by decide +kernel
theorem dX0_hasNoFraction_22 : decode cX0_hasNoFraction 22 = .ok (.goto 4, 3) := by decide +kernel
theorem dX0_hasNoFraction_25 : decode cX0_hasNoFraction 25 = .ok (.iconst 0, 1) := by decide +kernel
theorem dX0_hasNoFraction_26 : decode cX0_hasNoFraction 26 = .ok (.ireturn, 1) := by decide +kernel
set_option maxRecDepth 20000 in
theorem ggX0_hasLeastExponent_X0_exponentBits : GoodIn wsX0_hasLeastExponent wsX0_exponentBits := goodIn_r _ [4] (by decide +kernel) (by decide +kernel)
set_option maxRecDepth 20000 in
theorem gX0_hasLeastExponent_X0_exponentBits : GoodIn wsX0_hasLeastExponent (va_wsS RX0 30 yX0_exponentBits wsX0_exponentBits) := goodIn_app (goodIn_of _ (by decide +kernel)) ggX0_hasLeastExponent_X0_exponentBits
theorem dX0_hasLeastExponent_0 : decode cX0_hasLeastExponent 0 = .ok (.lload_n 0, 1) := by decide +kernel
theorem dX0_hasLeastExponent_1 : decode cX0_hasLeastExponent 1 = .ok (.invokestatic 30, 3) := by decide +kernel
theorem dX0_hasLeastExponent_4 : decode cX0_hasLeastExponent 4 = .ok (.ifCond .ne 7, 3) := by decide +kernel
theorem dX0_hasLeastExponent_7 : decode cX0_hasLeastExponent 7 = .ok (.iconst 1, 1) := by decide +kernel
theorem dX0_hasLeastExponent_8 : decode cX0_hasLeastExponent 8 = .ok (.goto 4, 3) := by decide +kernel
theorem dX0_hasLeastExponent_11 : decode cX0_hasLeastExponent 11 = .ok (.iconst 0, 1) := by decide +kernel
theorem dX0_hasLeastExponent_12 : decode cX0_hasLeastExponent 12 = .ok (.ireturn, 1) := by decide +kernel
set_option maxRecDepth 20000 in
theorem ggX0_handed_X0_handedExponent : GoodIn wsX0_handed wsX0_handedExponent := goodIn_r _ [8] (by decide +kernel) (by decide +kernel)
set_option maxRecDepth 20000 in
theorem gX0_handed_X0_handedExponent : GoodIn wsX0_handed (va_wsS RX0 39 yX0_handedExponent wsX0_handedExponent) := goodIn_app (goodIn_of _ (by decide +kernel)) ggX0_handed_X0_handedExponent
set_option maxRecDepth 20000 in
theorem ggX0_handed_X0_nearest : GoodIn wsX0_handed wsX0_nearest := goodIn_r _ [11, 12, 13, 14, 15, 16, 17, 18, 19, 20, 21, 22, 23, 7, 24] (by decide +kernel) (by decide +kernel)
set_option maxRecDepth 20000 in
theorem gX0_handed_X0_nearest : GoodIn wsX0_handed (va_wsS RX0 42 yX0_nearest wsX0_nearest) := goodIn_app (goodIn_of _ (by decide +kernel)) ggX0_handed_X0_nearest
set_option maxRecDepth 20000 in
theorem ggX0_handed_X0_opposite : GoodIn wsX0_handed wsX0_opposite := goodIn_r _ [27, 28] (by decide +kernel) (by decide +kernel)
set_option maxRecDepth 20000 in
theorem gX0_handed_X0_opposite : GoodIn wsX0_handed (va_wsS RX0 46 yX0_opposite wsX0_opposite) := goodIn_app (goodIn_of _ (by decide +kernel)) ggX0_handed_X0_opposite
theorem dX0_handed_0 : decode cX0_handed 0 = .ok (.iload_n 0, 1) := by decide +kernel
theorem dX0_handed_1 : decode cX0_handed 1 = .ok (.ifCond .ne 5, 3) := by decide +kernel
theorem dX0_handed_4 : decode cX0_handed 4 = .ok (.lconst 0, 1) := by decide +kernel
theorem dX0_handed_5 : decode cX0_handed 5 = .ok (.lreturn, 1) := by decide +kernel
theorem dX0_handed_6 : decode cX0_handed 6 = .ok (.iload_n 0, 1) := by decide +kernel
theorem dX0_handed_7 : decode cX0_handed 7 = .ok (.invokestatic 33, 3) := by decide +kernel
theorem dX0_handed_10 : decode cX0_handed 10 = .ok (.i2l, 1) := by decide +kernel
theorem dX0_handed_11 : decode cX0_handed 11 = .ok (.iload_n 1, 1) := by decide +kernel
theorem dX0_handed_12 : decode cX0_handed 12 = .ok (.invokestatic 39, 3) := by decide +kernel
theorem dX0_handed_15 : decode cX0_handed 15 = .ok (.sipush (-1074), 3) := by decide +kernel
theorem dX0_handed_18 : decode cX0_handed 18 = .ok (.isub, 1) := by decide +kernel
theorem dX0_handed_19 : decode cX0_handed 19 = .ok (.invokestatic 42, 3) := by decide +kernel
theorem dX0_handed_22 : decode cX0_handed 22 = .ok (.lstore_n 2, 1) := by decide +kernel
theorem dX0_handed_23 : decode cX0_handed 23 = .ok (.iload_n 0, 1) := by decide +kernel
theorem dX0_handed_24 : decode cX0_handed 24 = .ok (.ifCond .ge 10, 3) := by decide +kernel
theorem dX0_handed_27 : decode cX0_handed 27 = .ok (.lload_n 2, 1) := by decide +kernel
theorem dX0_handed_28 : decode cX0_handed 28 = .ok (.invokestatic 46, 3) := by decide +kernel
theorem dX0_handed_31 : decode cX0_handed 31 = .ok (.goto 4, 3) := by decide +kernel
theorem dX0_handed_34 : decode cX0_handed 34 = .ok (.lload_n 2, 1) := by decide +kernel
theorem dX0_handed_35 : decode cX0_handed 35 = .ok (.lreturn, 1) := by decide +kernel
theorem dX0_handedExponent_0 : decode cX0_handedExponent 0 = .ok (.iload_n 0, 1) := by decide +kernel
theorem dX0_handedExponent_1 : decode cX0_handedExponent 1 = .ok (.bipush 64, 2) := by decide +kernel
theorem dX0_handedExponent_3 : decode cX0_handedExponent 3 = .ok (.if_icmp .ge 9, 3) := by decide +kernel
theorem dX0_handedExponent_6 : decode cX0_handedExponent 6 = .ok (.iload_n 0, 1) := by decide +kernel
theorem dX0_handedExponent_7 : decode cX0_handedExponent 7 = .ok (.sipush 1074, 3) := by decide +kernel
theorem dX0_handedExponent_10 : decode cX0_handedExponent 10 = .ok (.isub, 1) := by decide +kernel
theorem dX0_handedExponent_11 : decode cX0_handedExponent 11 = .ok (.ireturn, 1) := by decide +kernel
theorem dX0_handedExponent_12 : decode cX0_handedExponent 12 = .ok (.iload_n 0, 1) := by decide +kernel
theorem dX0_handedExponent_13 : decode cX0_handedExponent 13 = .ok (.sipush 191, 3) := by decide +kernel
theorem dX0_handedExponent_16 : decode cX0_handedExponent 16 = .ok (.if_icmp .gt 11, 3) := by decide +kernel
theorem dX0_handedExponent_19 : decode cX0_handedExponent 19 = .ok (.iload_n 0, 1) := by decide +kernel
theorem dX0_handedExponent_20 : decode cX0_handedExponent 20 = .ok (.sipush 128, 3) := by decide +kernel
theorem dX0_handedExponent_23 : decode cX0_handedExponent 23 = .ok (.isub, 1) := by decide +kernel
theorem dX0_handedExponent_24 : decode cX0_handedExponent 24 = .ok (.goto 8, 3) := by decide +kernel
theorem dX0_handedExponent_27 : decode cX0_handedExponent 27 = .ok (.iload_n 0, 1) := by decide +kernel
theorem dX0_handedExponent_28 : decode cX0_handedExponent 28 = .ok (.sipush 761, 3) := by decide +kernel
theorem dX0_handedExponent_31 : decode cX0_handedExponent 31 = .ok (.iadd, 1) := by decide +kernel
theorem dX0_handedExponent_32 : decode cX0_handedExponent 32 = .ok (.ireturn, 1) := by decide +kernel
set_option maxRecDepth 20000 in
theorem ggX0_raised_X0_placeOf : GoodIn wsX0_raised wsX0_placeOf := goodIn_r _ [6, 2] (by decide +kernel) (by decide +kernel)
set_option maxRecDepth 20000 in
theorem gX0_raised_X0_placeOf : GoodIn wsX0_raised (va_wsS RX0 49 yX0_placeOf wsX0_placeOf) := goodIn_app (goodIn_of _ (by decide +kernel)) ggX0_raised_X0_placeOf
set_option maxRecDepth 20000 in
theorem ggX0_raised_X0_atPlace : GoodIn wsX0_raised wsX0_atPlace := goodIn_r _ [9, 2] (by decide +kernel) (by decide +kernel)
set_option maxRecDepth 20000 in
theorem gX0_raised_X0_atPlace : GoodIn wsX0_raised (va_wsS RX0 52 yX0_atPlace wsX0_atPlace) := goodIn_app (goodIn_of _ (by decide +kernel)) ggX0_raised_X0_atPlace
theorem dX0_raised_0 : decode cX0_raised 0 = .ok (.lload_n 0, 1) := by decide +kernel
theorem dX0_raised_1 : decode cX0_raised 1 = .ok (.invokestatic 49, 3) := by decide +kernel
theorem dX0_raised_4 : decode cX0_raised 4 = .ok (.lstore_n 3, 1) := by decide +kernel
theorem dX0_raised_5 : decode cX0_raised 5 = .ok (.lload_n 3, 1) := by decide +kernel
theorem dX0_raised_6 : decode cX0_raised 6 = .ok (.ldc2_w 17, 3) := by decide +kernel
theorem dX0_raised_9 : decode cX0_raised 9 = .ok (.iload_n 2, 1) := by decide +kernel
theorem dX0_raised_10 : decode cX0_raised 10 = .ok (.i2l, 1) := by decide +kernel
theorem dX0_raised_11 : decode cX0_raised 11 = .ok (.lsub, 1) := by decide +kernel
theorem dX0_raised_12 : decode cX0_raised 12 = .ok (.lcmp, 1) := by decide +kernel
theorem dX0_raised_13 : decode cX0_raised 13 = .ok (.ifCond .le 7, 3) := by decide +kernel
theorem dX0_raised_16 : decode cX0_raised 16 = .ok (.ldc2_w 17, 3) := by decide +kernel
theorem dX0_raised_19 : decode cX0_raised 19 = .ok (.lreturn, 1) := by decide +kernel
theorem dX0_raised_20 : decode cX0_raised 20 = .ok (.iload_n 2, 1) := by decide +kernel
theorem dX0_raised_21 : decode cX0_raised 21 = .ok (.ifCond .le 16, 3) := by decide +kernel
theorem dX0_raised_24 : decode cX0_raised 24 = .ok (.lload_n 3, 1) := by decide +kernel
theorem dX0_raised_25 : decode cX0_raised 25 = .ok (.iload_n 2, 1) := by decide +kernel
theorem dX0_raised_26 : decode cX0_raised 26 = .ok (.i2l, 1) := by decide +kernel
theorem dX0_raised_27 : decode cX0_raised 27 = .ok (.ladd, 1) := by decide +kernel
theorem dX0_raised_28 : decode cX0_raised 28 = .ok (.lconst 0, 1) := by decide +kernel
theorem dX0_raised_29 : decode cX0_raised 29 = .ok (.lcmp, 1) := by decide +kernel
theorem dX0_raised_30 : decode cX0_raised 30 = .ok (.ifCond .ne 7, 3) := by decide +kernel
theorem dX0_raised_33 : decode cX0_raised 33 = .ok (.ldc2_w 9, 3) := by decide +kernel
theorem dX0_raised_36 : decode cX0_raised 36 = .ok (.lreturn, 1) := by decide +kernel
theorem dX0_raised_37 : decode cX0_raised 37 = .ok (.iload_n 2, 1) := by decide +kernel
theorem dX0_raised_38 : decode cX0_raised 38 = .ok (.ifCond .ne 7, 3) := by decide +kernel
theorem dX0_raised_41 : decode cX0_raised 41 = .ok (.lload_n 0, 1) := by decide +kernel
theorem dX0_raised_42 : decode cX0_raised 42 = .ok (.goto 10, 3) := by decide +kernel
theorem dX0_raised_45 : decode cX0_raised 45 = .ok (.lload_n 3, 1) := by decide +kernel
theorem dX0_raised_46 : decode cX0_raised 46 = .ok (.iload_n 2, 1) := by decide +kernel
theorem dX0_raised_47 : decode cX0_raised 47 = .ok (.i2l, 1) := by decide +kernel
theorem dX0_raised_48 : decode cX0_raised 48 = .ok (.ladd, 1) := by decide +kernel
theorem dX0_raised_49 : decode cX0_raised 49 = .ok (.invokestatic 52, 3) := by decide +kernel
theorem dX0_raised_52 : decode cX0_raised 52 = .ok (.lreturn, 1) := by decide +kernel
set_option maxRecDepth 20000 in
theorem ggX0_lowered_X0_opposite : GoodIn wsX0_lowered wsX0_opposite := goodIn_r _ [4, 5] (by decide +kernel) (by decide +kernel)
set_option maxRecDepth 20000 in
theorem gX0_lowered_X0_opposite : GoodIn wsX0_lowered (va_wsS RX0 46 yX0_opposite wsX0_opposite) := goodIn_app (goodIn_of _ (by decide +kernel)) ggX0_lowered_X0_opposite
set_option maxRecDepth 20000 in
theorem ggX0_lowered_X0_raised : GoodIn wsX0_lowered wsX0_raised := goodIn_r _ [8, 9, 5, 10, 11, 3, 12, 13, 14, 15] (by decide +kernel) (by decide +kernel)
set_option maxRecDepth 20000 in
theorem gX0_lowered_X0_raised : GoodIn wsX0_lowered (va_wsS RX0 55 yX0_raised wsX0_raised) := goodIn_app (goodIn_of _ (by decide +kernel)) ggX0_lowered_X0_raised
theorem dX0_lowered_0 : decode cX0_lowered 0 = .ok (.lload_n 0, 1) := by decide +kernel
theorem dX0_lowered_1 : decode cX0_lowered 1 = .ok (.invokestatic 46, 3) := by decide +kernel
theorem dX0_lowered_4 : decode cX0_lowered 4 = .ok (.iload_n 2, 1) := by decide +kernel
theorem dX0_lowered_5 : decode cX0_lowered 5 = .ok (.invokestatic 55, 3) := by decide +kernel
theorem dX0_lowered_8 : decode cX0_lowered 8 = .ok (.invokestatic 46, 3) := by decide +kernel
theorem dX0_lowered_11 : decode cX0_lowered 11 = .ok (.lreturn, 1) := by decide +kernel
set_option maxRecDepth 20000 in
theorem ggX0_nearer_X0_order : GoodIn wsX0_nearer wsX0_order := goodIn_r _ [4, 5, 6, 3, 7, 8, 9, 10, 11, 12] (by decide +kernel) (by decide +kernel)
set_option maxRecDepth 20000 in
theorem gX0_nearer_X0_order : GoodIn wsX0_nearer (va_wsS RX0 58 yX0_order wsX0_order) := goodIn_app (goodIn_of _ (by decide +kernel)) ggX0_nearer_X0_order
set_option maxRecDepth 20000 in
theorem ggX0_nearer_X0_raised : GoodIn wsX0_nearer wsX0_raised := goodIn_r _ [15, 16, 8, 5, 6, 3, 7, 17, 18, 19] (by decide +kernel) (by decide +kernel)
set_option maxRecDepth 20000 in
theorem gX0_nearer_X0_raised : GoodIn wsX0_nearer (va_wsS RX0 55 yX0_raised wsX0_raised) := goodIn_app (goodIn_of _ (by decide +kernel)) ggX0_nearer_X0_raised
set_option maxRecDepth 20000 in
theorem ggX0_nearer_X0_lowered : GoodIn wsX0_nearer wsX0_lowered := goodIn_r _ [22, 23, 24, 3, 25, 8, 13, 14, 15, 16, 5, 6, 7, 17, 18, 19] (by decide +kernel) (by decide +kernel)
set_option maxRecDepth 20000 in
theorem gX0_nearer_X0_lowered : GoodIn wsX0_nearer (va_wsS RX0 62 yX0_lowered wsX0_lowered) := goodIn_app (goodIn_of _ (by decide +kernel)) ggX0_nearer_X0_lowered
theorem dX0_nearer_0 : decode cX0_nearer 0 = .ok (.lload_n 0, 1) := by decide +kernel
theorem dX0_nearer_1 : decode cX0_nearer 1 = .ok (.lload_n 2, 1) := by decide +kernel
theorem dX0_nearer_2 : decode cX0_nearer 2 = .ok (.invokestatic 58, 3) := by decide +kernel
theorem dX0_nearer_5 : decode cX0_nearer 5 = .ok (.istore 4, 2) := by decide +kernel
theorem dX0_nearer_7 : decode cX0_nearer 7 = .ok (.iload 4, 2) := by decide +kernel
theorem dX0_nearer_9 : decode cX0_nearer 9 = .ok (.ifCond .ne 5, 3) := by decide +kernel
theorem dX0_nearer_12 : decode cX0_nearer 12 = .ok (.lload_n 2, 1) := by decide +kernel
theorem dX0_nearer_13 : decode cX0_nearer 13 = .ok (.lreturn, 1) := by decide +kernel
theorem dX0_nearer_14 : decode cX0_nearer 14 = .ok (.iload 4, 2) := by decide +kernel
theorem dX0_nearer_16 : decode cX0_nearer 16 = .ok (.ifCond .ge 11, 3) := by decide +kernel
theorem dX0_nearer_19 : decode cX0_nearer 19 = .ok (.lload_n 0, 1) := by decide +kernel
theorem dX0_nearer_20 : decode cX0_nearer 20 = .ok (.iconst 1, 1) := by decide +kernel
theorem dX0_nearer_21 : decode cX0_nearer 21 = .ok (.invokestatic 55, 3) := by decide +kernel
theorem dX0_nearer_24 : decode cX0_nearer 24 = .ok (.goto 8, 3) := by decide +kernel
theorem dX0_nearer_27 : decode cX0_nearer 27 = .ok (.lload_n 0, 1) := by decide +kernel
theorem dX0_nearer_28 : decode cX0_nearer 28 = .ok (.iconst 1, 1) := by decide +kernel
theorem dX0_nearer_29 : decode cX0_nearer 29 = .ok (.invokestatic 62, 3) := by decide +kernel
theorem dX0_nearer_32 : decode cX0_nearer 32 = .ok (.lreturn, 1) := by decide +kernel
set_option maxRecDepth 20000 in
theorem ggX0_order_X0_placeOf : GoodIn wsX0_order wsX0_placeOf := goodIn_r _ [4, 5] (by decide +kernel) (by decide +kernel)
set_option maxRecDepth 20000 in
theorem gX0_order_X0_placeOf : GoodIn wsX0_order (va_wsS RX0 49 yX0_placeOf wsX0_placeOf) := goodIn_app (goodIn_of _ (by decide +kernel)) ggX0_order_X0_placeOf
set_option maxRecDepth 20000 in
theorem ggX0_order_J13_compare_74951 : GoodIn wsX0_order wsJ13_compare_74951 := goodIn_r _ [9] (by decide +kernel) (by decide +kernel)
set_option maxRecDepth 20000 in
theorem gX0_order_J13_compare_74951 : GoodIn wsX0_order (va_wsS RX0 65 yJ13_compare_74951 wsJ13_compare_74951) := goodIn_app (goodIn_of _ (by decide +kernel)) ggX0_order_J13_compare_74951
theorem dX0_order_0 : decode cX0_order 0 = .ok (.lload_n 0, 1) := by decide +kernel
theorem dX0_order_1 : decode cX0_order 1 = .ok (.invokestatic 49, 3) := by decide +kernel
theorem dX0_order_4 : decode cX0_order 4 = .ok (.lload_n 2, 1) := by decide +kernel
theorem dX0_order_5 : decode cX0_order 5 = .ok (.invokestatic 49, 3) := by decide +kernel
theorem dX0_order_8 : decode cX0_order 8 = .ok (.invokestatic 65, 3) := by decide +kernel
theorem dX0_order_11 : decode cX0_order 11 = .ok (.ireturn, 1) := by decide +kernel
set_option maxRecDepth 20000 in
theorem ggX0_distance_X0_placeOf : GoodIn wsX0_distance wsX0_placeOf := goodIn_r _ [4, 5] (by decide +kernel) (by decide +kernel)
set_option maxRecDepth 20000 in
theorem gX0_distance_X0_placeOf : GoodIn wsX0_distance (va_wsS RX0 49 yX0_placeOf wsX0_placeOf) := goodIn_app (goodIn_of _ (by decide +kernel)) ggX0_distance_X0_placeOf
set_option maxRecDepth 20000 in
theorem ggX0_distance_X0_order : GoodIn wsX0_distance wsX0_order := goodIn_r _ [8, 1, 2, 3, 4, 5, 9, 10, 11, 12] (by decide +kernel) (by decide +kernel)
set_option maxRecDepth 20000 in
theorem gX0_distance_X0_order : GoodIn wsX0_distance (va_wsS RX0 58 yX0_order wsX0_order) := goodIn_app (goodIn_of _ (by decide +kernel)) ggX0_distance_X0_order
theorem dX0_distance_0 : decode cX0_distance 0 = .ok (.lload_n 0, 1) := by decide +kernel
theorem dX0_distance_1 : decode cX0_distance 1 = .ok (.invokestatic 49, 3) := by decide +kernel
theorem dX0_distance_4 : decode cX0_distance 4 = .ok (.lload_n 2, 1) := by decide +kernel
theorem dX0_distance_5 : decode cX0_distance 5 = .ok (.invokestatic 49, 3) := by decide +kernel
theorem dX0_distance_8 : decode cX0_distance 8 = .ok (.lsub, 1) := by decide +kernel
theorem dX0_distance_9 : decode cX0_distance 9 = .ok (.lstore 4, 2) := by decide +kernel
theorem dX0_distance_11 : decode cX0_distance 11 = .ok (.lload_n 0, 1) := by decide +kernel
theorem dX0_distance_12 : decode cX0_distance 12 = .ok (.lload_n 2, 1) := by decide +kernel
theorem dX0_distance_13 : decode cX0_distance 13 = .ok (.invokestatic 58, 3) := by decide +kernel
theorem dX0_distance_16 : decode cX0_distance 16 = .ok (.ifCond .ge 9, 3) := by decide +kernel
theorem dX0_distance_19 : decode cX0_distance 19 = .ok (.lload 4, 2) := by decide +kernel
theorem dX0_distance_21 : decode cX0_distance 21 = .ok (.lneg, 1) := by decide +kernel
theorem dX0_distance_22 : decode cX0_distance 22 = .ok (.goto 5, 3) := by decide +kernel
theorem dX0_distance_25 : decode cX0_distance 25 = .ok (.lload 4, 2) := by decide +kernel
theorem dX0_distance_27 : decode cX0_distance 27 = .ok (.lreturn, 1) := by decide +kernel
theorem dX0_isMoreThan_0 : decode cX0_isMoreThan 0 = .ok (.lload_n 0, 1) := by decide +kernel
theorem dX0_isMoreThan_1 : decode cX0_isMoreThan 1 = .ok (.lconst 0, 1) := by decide +kernel
theorem dX0_isMoreThan_2 : decode cX0_isMoreThan 2 = .ok (.lcmp, 1) := by decide +kernel
theorem dX0_isMoreThan_3 : decode cX0_isMoreThan 3 = .ok (.ifCond .lt 10, 3) := by decide +kernel
theorem dX0_isMoreThan_6 : decode cX0_isMoreThan 6 = .ok (.lload_n 0, 1) := by decide +kernel
theorem dX0_isMoreThan_7 : decode cX0_isMoreThan 7 = .ok (.iload_n 2, 1) := by decide +kernel
theorem dX0_isMoreThan_8 : decode cX0_isMoreThan 8 = .ok (.i2l, 1) := by decide +kernel
theorem dX0_isMoreThan_9 : decode cX0_isMoreThan 9 = .ok (.lcmp, 1) := by decide +kernel
theorem dX0_isMoreThan_10 : decode cX0_isMoreThan 10 = .ok (.ifCond .le 7, 3) := by decide +kernel
theorem dX0_isMoreThan_13 : decode cX0_isMoreThan 13 = .ok (.iconst 1, 1) := by decide +kernel
theorem dX0_isMoreThan_14 : decode cX0_isMoreThan 14 = .ok (.goto 4, 3) := by decide +kernel
theorem dX0_isMoreThan_17 : decode cX0_isMoreThan 17 = .ok (.iconst 0, 1) := by decide +kernel
theorem dX0_isMoreThan_18 : decode cX0_isMoreThan 18 = .ok (.ireturn, 1) := by decide +kernel
set_option maxRecDepth 20000 in
theorem ggX0_between_X0_placeOf : GoodIn wsX0_between wsX0_placeOf := goodIn_r _ [4, 5] (by decide +kernel) (by decide +kernel)
set_option maxRecDepth 20000 in
theorem gX0_between_X0_placeOf : GoodIn wsX0_between (va_wsS RX0 49 yX0_placeOf wsX0_placeOf) := goodIn_app (goodIn_of _ (by decide +kernel)) ggX0_between_X0_placeOf
set_option maxRecDepth 20000 in
theorem ggX0_between_X0_atPlace : GoodIn wsX0_between wsX0_atPlace := goodIn_r _ [8, 5] (by decide +kernel) (by decide +kernel)
set_option maxRecDepth 20000 in
theorem gX0_between_X0_atPlace : GoodIn wsX0_between (va_wsS RX0 52 yX0_atPlace wsX0_atPlace) := goodIn_app (goodIn_of _ (by decide +kernel)) ggX0_between_X0_atPlace
theorem dX0_between_0 : decode cX0_between 0 = .ok (.lload_n 0, 1) := by decide +kernel
theorem dX0_between_1 : decode cX0_between 1 = .ok (.invokestatic 49, 3) := by decide +kernel
theorem dX0_between_4 : decode cX0_between 4 = .ok (.lstore 4, 2) := by decide +kernel
theorem dX0_between_6 : decode cX0_between 6 = .ok (.lload_n 2, 1) := by decide +kernel
theorem dX0_between_7 : decode cX0_between 7 = .ok (.invokestatic 49, 3) := by decide +kernel
theorem dX0_between_10 : decode cX0_between 10 = .ok (.lstore 6, 2) := by decide +kernel
theorem dX0_between_12 : decode cX0_between 12 = .ok (.lload 4, 2) := by decide +kernel
theorem dX0_between_14 : decode cX0_between 14 = .ok (.lload 6, 2) := by decide +kernel
theorem dX0_between_16 : decode cX0_between 16 = .ok (.land, 1) := by decide +kernel
theorem dX0_between_17 : decode cX0_between 17 = .ok (.lload 4, 2) := by decide +kernel
theorem dX0_between_19 : decode cX0_between 19 = .ok (.lload 6, 2) := by decide +kernel
theorem dX0_between_21 : decode cX0_between 21 = .ok (.lxor, 1) := by decide +kernel
theorem dX0_between_22 : decode cX0_between 22 = .ok (.iconst 1, 1) := by decide +kernel
theorem dX0_between_23 : decode cX0_between 23 = .ok (.lshr, 1) := by decide +kernel
theorem dX0_between_24 : decode cX0_between 24 = .ok (.ladd, 1) := by decide +kernel
theorem dX0_between_25 : decode cX0_between 25 = .ok (.invokestatic 52, 3) := by decide +kernel
theorem dX0_between_28 : decode cX0_between 28 = .ok (.lreturn, 1) := by decide +kernel
set_option maxRecDepth 20000 in
theorem ggX0_scaled_X0_isZero : GoodIn wsX0_scaled wsX0_isZero := goodIn_r _ [5, 6, 7, 4, 8, 9] (by decide +kernel) (by decide +kernel)
set_option maxRecDepth 20000 in
theorem gX0_scaled_X0_isZero : GoodIn wsX0_scaled (va_wsS RX0 19 yX0_isZero wsX0_isZero) := goodIn_app (goodIn_of _ (by decide +kernel)) ggX0_scaled_X0_isZero
set_option maxRecDepth 20000 in
theorem ggX0_scaled_X0_hasNoEnd : GoodIn wsX0_scaled wsX0_hasNoEnd := goodIn_r _ [12, 13, 6, 7, 4, 8, 9] (by decide +kernel) (by decide +kernel)
set_option maxRecDepth 20000 in
theorem gX0_scaled_X0_hasNoEnd : GoodIn wsX0_scaled (va_wsS RX0 23 yX0_hasNoEnd wsX0_hasNoEnd) := goodIn_app (goodIn_of _ (by decide +kernel)) ggX0_scaled_X0_hasNoEnd
set_option maxRecDepth 20000 in
theorem ggX0_scaled_X0_whole : GoodIn wsX0_scaled wsX0_whole := goodIn_r _ [16, 17, 18, 19, 20, 4, 21] (by decide +kernel) (by decide +kernel)
set_option maxRecDepth 20000 in
theorem gX0_scaled_X0_whole : GoodIn wsX0_scaled (va_wsS RX0 70 yX0_whole wsX0_whole) := goodIn_app (goodIn_of _ (by decide +kernel)) ggX0_scaled_X0_whole
set_option maxRecDepth 20000 in
theorem ggX0_scaled_X0_shift : GoodIn wsX0_scaled wsX0_shift := goodIn_r _ [24, 25, 26, 27, 28, 19, 20, 4, 21] (by decide +kernel) (by decide +kernel)
set_option maxRecDepth 20000 in
theorem gX0_scaled_X0_shift : GoodIn wsX0_scaled (va_wsS RX0 73 yX0_shift wsX0_shift) := goodIn_app (goodIn_of _ (by decide +kernel)) ggX0_scaled_X0_shift
set_option maxRecDepth 20000 in
theorem ggX0_scaled_X0_nearest : GoodIn wsX0_scaled wsX0_nearest := goodIn_r _ [31, 13, 32, 33, 34, 35, 36, 37, 38, 39, 40, 41, 42, 4, 43] (by decide +kernel) (by decide +kernel)
set_option maxRecDepth 20000 in
theorem gX0_scaled_X0_nearest : GoodIn wsX0_scaled (va_wsS RX0 42 yX0_nearest wsX0_nearest) := goodIn_app (goodIn_of _ (by decide +kernel)) ggX0_scaled_X0_nearest
theorem dX0_scaled_0 : decode cX0_scaled 0 = .ok (.lload_n 0, 1) := by decide +kernel
theorem dX0_scaled_1 : decode cX0_scaled 1 = .ok (.invokestatic 19, 3) := by decide +kernel
theorem dX0_scaled_4 : decode cX0_scaled 4 = .ok (.ifCond .ne 10, 3) := by decide +kernel
theorem dX0_scaled_7 : decode cX0_scaled 7 = .ok (.lload_n 0, 1) := by decide +kernel
theorem dX0_scaled_8 : decode cX0_scaled 8 = .ok (.invokestatic 23, 3) := by decide +kernel
theorem dX0_scaled_11 : decode cX0_scaled 11 = .ok (.ifCond .eq 5, 3) := by decide +kernel
theorem dX0_scaled_14 : decode cX0_scaled 14 = .ok (.lload_n 0, 1) := by decide +kernel
theorem dX0_scaled_15 : decode cX0_scaled 15 = .ok (.lreturn, 1) := by decide +kernel
theorem dX0_scaled_16 : decode cX0_scaled 16 = .ok (.lload_n 0, 1) := by decide +kernel
theorem dX0_scaled_17 : decode cX0_scaled 17 = .ok (.ldc2_w 9, 3) := by decide +kernel
theorem dX0_scaled_20 : decode cX0_scaled 20 = .ok (.land, 1) := by decide +kernel
theorem dX0_scaled_21 : decode cX0_scaled 21 = .ok (.lload_n 0, 1) := by decide +kernel
theorem dX0_scaled_22 : decode cX0_scaled 22 = .ok (.invokestatic 70, 3) := by decide +kernel
theorem dX0_scaled_25 : decode cX0_scaled 25 = .ok (.lload_n 0, 1) := by decide +kernel
theorem dX0_scaled_26 : decode cX0_scaled 26 = .ok (.invokestatic 73, 3) := by decide +kernel
theorem dX0_scaled_29 : decode cX0_scaled 29 = .ok (.iload_n 2, 1) := by decide +kernel
theorem dX0_scaled_30 : decode cX0_scaled 30 = .ok (.iadd, 1) := by decide +kernel
theorem dX0_scaled_31 : decode cX0_scaled 31 = .ok (.invokestatic 42, 3) := by decide +kernel
theorem dX0_scaled_34 : decode cX0_scaled 34 = .ok (.lor, 1) := by decide +kernel
theorem dX0_scaled_35 : decode cX0_scaled 35 = .ok (.lreturn, 1) := by decide +kernel
set_option maxRecDepth 20000 in
theorem ggX0_exponentOf_X0_exponentBits : GoodIn wsX0_exponentOf wsX0_exponentBits := goodIn_r _ [4] (by decide +kernel) (by decide +kernel)
set_option maxRecDepth 20000 in
theorem gX0_exponentOf_X0_exponentBits : GoodIn wsX0_exponentOf (va_wsS RX0 30 yX0_exponentBits wsX0_exponentBits) := goodIn_app (goodIn_of _ (by decide +kernel)) ggX0_exponentOf_X0_exponentBits
theorem dX0_exponentOf_0 : decode cX0_exponentOf 0 = .ok (.lload_n 0, 1) := by decide +kernel
theorem dX0_exponentOf_1 : decode cX0_exponentOf 1 = .ok (.invokestatic 30, 3) := by decide +kernel
theorem dX0_exponentOf_4 : decode cX0_exponentOf 4 = .ok (.sipush 1023, 3) := by decide +kernel
theorem dX0_exponentOf_7 : decode cX0_exponentOf 7 = .ok (.isub, 1) := by decide +kernel
theorem dX0_exponentOf_8 : decode cX0_exponentOf 8 = .ok (.ireturn, 1) := by decide +kernel
set_option maxRecDepth 20000 in
theorem ggX0_unitOf_X0_hasNoEnd : GoodIn wsX0_unitOf wsX0_hasNoEnd := goodIn_r _ [5, 1, 6, 7, 4, 8, 9] (by decide +kernel) (by decide +kernel)
set_option maxRecDepth 20000 in
theorem gX0_unitOf_X0_hasNoEnd : GoodIn wsX0_unitOf (va_wsS RX0 23 yX0_hasNoEnd wsX0_hasNoEnd) := goodIn_app (goodIn_of _ (by decide +kernel)) ggX0_unitOf_X0_hasNoEnd
set_option maxRecDepth 20000 in
theorem ggX0_unitOf_X0_shift : GoodIn wsX0_unitOf wsX0_shift := goodIn_r _ [12, 13, 14, 15, 16, 17, 18, 4, 19] (by decide +kernel) (by decide +kernel)
set_option maxRecDepth 20000 in
theorem gX0_unitOf_X0_shift : GoodIn wsX0_unitOf (va_wsS RX0 73 yX0_shift wsX0_shift) := goodIn_app (goodIn_of _ (by decide +kernel)) ggX0_unitOf_X0_shift
set_option maxRecDepth 20000 in
theorem ggX0_unitOf_X0_powerOfTwo : GoodIn wsX0_unitOf wsX0_powerOfTwo := goodIn_r _ [22, 23, 24, 4, 25, 1, 26, 27, 28, 29, 30, 31, 32, 33, 34, 35, 36, 37] (by decide +kernel) (by decide +kernel)
set_option maxRecDepth 20000 in
theorem gX0_unitOf_X0_powerOfTwo : GoodIn wsX0_unitOf (va_wsS RX0 76 yX0_powerOfTwo wsX0_powerOfTwo) := goodIn_app (goodIn_of _ (by decide +kernel)) ggX0_unitOf_X0_powerOfTwo
theorem dX0_unitOf_0 : decode cX0_unitOf 0 = .ok (.lload_n 0, 1) := by decide +kernel
theorem dX0_unitOf_1 : decode cX0_unitOf 1 = .ok (.invokestatic 23, 3) := by decide +kernel
theorem dX0_unitOf_4 : decode cX0_unitOf 4 = .ok (.ifCond .eq 9, 3) := by decide +kernel
theorem dX0_unitOf_7 : decode cX0_unitOf 7 = .ok (.ldc2_w 17, 3) := by decide +kernel
theorem dX0_unitOf_10 : decode cX0_unitOf 10 = .ok (.goto 14, 3) := by decide +kernel
theorem dX0_unitOf_13 : decode cX0_unitOf 13 = .ok (.sipush (-1074), 3) := by decide +kernel
theorem dX0_unitOf_16 : decode cX0_unitOf 16 = .ok (.lload_n 0, 1) := by decide +kernel
theorem dX0_unitOf_17 : decode cX0_unitOf 17 = .ok (.invokestatic 73, 3) := by decide +kernel
theorem dX0_unitOf_20 : decode cX0_unitOf 20 = .ok (.iadd, 1) := by decide +kernel
theorem dX0_unitOf_21 : decode cX0_unitOf 21 = .ok (.invokestatic 76, 3) := by decide +kernel
theorem dX0_unitOf_24 : decode cX0_unitOf 24 = .ok (.lreturn, 1) := by decide +kernel
set_option maxRecDepth 20000 in
theorem ggX0_leadOf_X0_whole : GoodIn wsX0_leadOf wsX0_whole := goodIn_r _ [4, 5, 6, 7, 8, 3, 9] (by decide +kernel) (by decide +kernel)
set_option maxRecDepth 20000 in
theorem gX0_leadOf_X0_whole : GoodIn wsX0_leadOf (va_wsS RX0 70 yX0_whole wsX0_whole) := goodIn_app (goodIn_of _ (by decide +kernel)) ggX0_leadOf_X0_whole
set_option maxRecDepth 20000 in
theorem ggX0_leadOf_J13_numberOfLeadingZeros_95d88 : GoodIn wsX0_leadOf wsJ13_numberOfLeadingZeros_95d88 := goodIn_r _ [13, 14, 15, 16, 17, 18] (by decide +kernel) (by decide +kernel)
set_option maxRecDepth 20000 in
theorem gX0_leadOf_J13_numberOfLeadingZeros_95d88 : GoodIn wsX0_leadOf (va_wsS RX0 80 yJ13_numberOfLeadingZeros_95d88 wsJ13_numberOfLeadingZeros_95d88) := goodIn_app (goodIn_of _ (by decide +kernel)) ggX0_leadOf_J13_numberOfLeadingZeros_95d88
set_option maxRecDepth 20000 in
theorem ggX0_leadOf_X0_shift : GoodIn wsX0_leadOf wsX0_shift := goodIn_r _ [21, 22, 23, 24, 25, 7, 8, 3, 9] (by decide +kernel) (by decide +kernel)
set_option maxRecDepth 20000 in
theorem gX0_leadOf_X0_shift : GoodIn wsX0_leadOf (va_wsS RX0 73 yX0_shift wsX0_shift) := goodIn_app (goodIn_of _ (by decide +kernel)) ggX0_leadOf_X0_shift
theorem dX0_leadOf_0 : decode cX0_leadOf 0 = .ok (.bipush 63, 2) := by decide +kernel
theorem dX0_leadOf_2 : decode cX0_leadOf 2 = .ok (.lload_n 0, 1) := by decide +kernel
theorem dX0_leadOf_3 : decode cX0_leadOf 3 = .ok (.invokestatic 70, 3) := by decide +kernel
theorem dX0_leadOf_6 : decode cX0_leadOf 6 = .ok (.invokestatic 80, 3) := by decide +kernel
theorem dX0_leadOf_9 : decode cX0_leadOf 9 = .ok (.isub, 1) := by decide +kernel
theorem dX0_leadOf_10 : decode cX0_leadOf 10 = .ok (.lload_n 0, 1) := by decide +kernel
theorem dX0_leadOf_11 : decode cX0_leadOf 11 = .ok (.invokestatic 73, 3) := by decide +kernel
theorem dX0_leadOf_14 : decode cX0_leadOf 14 = .ok (.iadd, 1) := by decide +kernel
theorem dX0_leadOf_15 : decode cX0_leadOf 15 = .ok (.sipush (-1074), 3) := by decide +kernel
theorem dX0_leadOf_18 : decode cX0_leadOf 18 = .ok (.iadd, 1) := by decide +kernel
theorem dX0_leadOf_19 : decode cX0_leadOf 19 = .ok (.ireturn, 1) := by decide +kernel
set_option maxRecDepth 20000 in
theorem ggX0_tailOf_X0_whole : GoodIn wsX0_tailOf wsX0_whole := goodIn_r _ [4, 5, 6, 7, 8, 3, 9] (by decide +kernel) (by decide +kernel)
set_option maxRecDepth 20000 in
theorem gX0_tailOf_X0_whole : GoodIn wsX0_tailOf (va_wsS RX0 70 yX0_whole wsX0_whole) := goodIn_app (goodIn_of _ (by decide +kernel)) ggX0_tailOf_X0_whole
set_option maxRecDepth 20000 in
theorem ggX0_tailOf_J13_numberOfTrailingZeros_95d88 : GoodIn wsX0_tailOf wsJ13_numberOfTrailingZeros_95d88 := goodIn_r _ [13, 14, 15, 16, 17, 18] (by decide +kernel) (by decide +kernel)
set_option maxRecDepth 20000 in
theorem gX0_tailOf_J13_numberOfTrailingZeros_95d88 : GoodIn wsX0_tailOf (va_wsS RX0 83 yJ13_numberOfTrailingZeros_95d88 wsJ13_numberOfTrailingZeros_95d88) := goodIn_app (goodIn_of _ (by decide +kernel)) ggX0_tailOf_J13_numberOfTrailingZeros_95d88
set_option maxRecDepth 20000 in
theorem ggX0_tailOf_X0_shift : GoodIn wsX0_tailOf wsX0_shift := goodIn_r _ [21, 22, 23, 24, 25, 7, 8, 3, 9] (by decide +kernel) (by decide +kernel)
set_option maxRecDepth 20000 in
theorem gX0_tailOf_X0_shift : GoodIn wsX0_tailOf (va_wsS RX0 73 yX0_shift wsX0_shift) := goodIn_app (goodIn_of _ (by decide +kernel)) ggX0_tailOf_X0_shift
theorem dX0_tailOf_0 : decode cX0_tailOf 0 = .ok (.lload_n 0, 1) := by decide +kernel
theorem dX0_tailOf_1 : decode cX0_tailOf 1 = .ok (.invokestatic 70, 3) := by decide +kernel
theorem dX0_tailOf_4 : decode cX0_tailOf 4 = .ok (.invokestatic 83, 3) := by decide +kernel
theorem dX0_tailOf_7 : decode cX0_tailOf 7 = .ok (.lload_n 0, 1) := by decide +kernel
theorem dX0_tailOf_8 : decode cX0_tailOf 8 = .ok (.invokestatic 73, 3) := by decide +kernel
theorem dX0_tailOf_11 : decode cX0_tailOf 11 = .ok (.iadd, 1) := by decide +kernel
theorem dX0_tailOf_12 : decode cX0_tailOf 12 = .ok (.sipush (-1074), 3) := by decide +kernel
theorem dX0_tailOf_15 : decode cX0_tailOf 15 = .ok (.iadd, 1) := by decide +kernel
theorem dX0_tailOf_16 : decode cX0_tailOf 16 = .ok (.ireturn, 1) := by decide +kernel
set_option maxRecDepth 20000 in
theorem ggX0_powerOfTwo_X0_nearest : GoodIn wsX0_powerOfTwo wsX0_nearest := goodIn_r _ [4, 5, 6, 7, 8, 9, 10, 11, 12, 13, 14, 15, 16, 3, 17] (by decide +kernel) (by decide +kernel)
set_option maxRecDepth 20000 in
theorem gX0_powerOfTwo_X0_nearest : GoodIn wsX0_powerOfTwo (va_wsS RX0 42 yX0_nearest wsX0_nearest) := goodIn_app (goodIn_of _ (by decide +kernel)) ggX0_powerOfTwo_X0_nearest
theorem dX0_powerOfTwo_0 : decode cX0_powerOfTwo 0 = .ok (.lconst 1, 1) := by decide +kernel
theorem dX0_powerOfTwo_1 : decode cX0_powerOfTwo 1 = .ok (.iload_n 0, 1) := by decide +kernel
theorem dX0_powerOfTwo_2 : decode cX0_powerOfTwo 2 = .ok (.sipush (-1074), 3) := by decide +kernel
theorem dX0_powerOfTwo_5 : decode cX0_powerOfTwo 5 = .ok (.isub, 1) := by decide +kernel
theorem dX0_powerOfTwo_6 : decode cX0_powerOfTwo 6 = .ok (.invokestatic 42, 3) := by decide +kernel
theorem dX0_powerOfTwo_9 : decode cX0_powerOfTwo 9 = .ok (.lreturn, 1) := by decide +kernel
set_option maxRecDepth 20000 in
theorem ggX0_whole_X0_exponentBits : GoodIn wsX0_whole wsX0_exponentBits := goodIn_r _ [6] (by decide +kernel) (by decide +kernel)
set_option maxRecDepth 20000 in
theorem gX0_whole_X0_exponentBits : GoodIn wsX0_whole (va_wsS RX0 30 yX0_exponentBits wsX0_exponentBits) := goodIn_app (goodIn_of _ (by decide +kernel)) ggX0_whole_X0_exponentBits
theorem dX0_whole_0 : decode cX0_whole 0 = .ok (.lload_n 0, 1) := by decide +kernel
theorem dX0_whole_1 : decode cX0_whole 1 = .ok (.ldc2_w 86, 3) := by decide +kernel
theorem dX0_whole_4 : decode cX0_whole 4 = .ok (.land, 1) := by decide +kernel
theorem dX0_whole_5 : decode cX0_whole 5 = .ok (.lstore_n 2, 1) := by decide +kernel
theorem dX0_whole_6 : decode cX0_whole 6 = .ok (.lload_n 0, 1) := by decide +kernel
theorem dX0_whole_7 : decode cX0_whole 7 = .ok (.invokestatic 30, 3) := by decide +kernel
theorem dX0_whole_10 : decode cX0_whole 10 = .ok (.ifCond .ne 7, 3) := by decide +kernel
theorem dX0_whole_13 : decode cX0_whole 13 = .ok (.lload_n 2, 1) := by decide +kernel
theorem dX0_whole_14 : decode cX0_whole 14 = .ok (.goto 8, 3) := by decide +kernel
theorem dX0_whole_17 : decode cX0_whole 17 = .ok (.lload_n 2, 1) := by decide +kernel
theorem dX0_whole_18 : decode cX0_whole 18 = .ok (.ldc2_w 88, 3) := by decide +kernel
theorem dX0_whole_21 : decode cX0_whole 21 = .ok (.lor, 1) := by decide +kernel
theorem dX0_whole_22 : decode cX0_whole 22 = .ok (.lreturn, 1) := by decide +kernel
set_option maxRecDepth 20000 in
theorem ggX0_shift_X0_exponentBits : GoodIn wsX0_shift wsX0_exponentBits := goodIn_r _ [8] (by decide +kernel) (by decide +kernel)
set_option maxRecDepth 20000 in
theorem gX0_shift_X0_exponentBits : GoodIn wsX0_shift (va_wsS RX0 30 yX0_exponentBits wsX0_exponentBits) := goodIn_app (goodIn_of _ (by decide +kernel)) ggX0_shift_X0_exponentBits
theorem dX0_shift_0 : decode cX0_shift 0 = .ok (.lload_n 0, 1) := by decide +kernel
theorem dX0_shift_1 : decode cX0_shift 1 = .ok (.invokestatic 30, 3) := by decide +kernel
theorem dX0_shift_4 : decode cX0_shift 4 = .ok (.iconst 1, 1) := by decide +kernel
theorem dX0_shift_5 : decode cX0_shift 5 = .ok (.invokestatic 90, 3) := by decide +kernel
theorem dX0_shift_8 : decode cX0_shift 8 = .ok (.iconst 1, 1) := by decide +kernel
theorem dX0_shift_9 : decode cX0_shift 9 = .ok (.isub, 1) := by decide +kernel
theorem dX0_shift_10 : decode cX0_shift 10 = .ok (.ireturn, 1) := by decide +kernel
theorem dX0_exponentBits_0 : decode cX0_exponentBits 0 = .ok (.lload_n 0, 1) := by decide +kernel
theorem dX0_exponentBits_1 : decode cX0_exponentBits 1 = .ok (.bipush 52, 2) := by decide +kernel
theorem dX0_exponentBits_3 : decode cX0_exponentBits 3 = .ok (.lshr, 1) := by decide +kernel
theorem dX0_exponentBits_4 : decode cX0_exponentBits 4 = .ok (.l2i, 1) := by decide +kernel
theorem dX0_exponentBits_5 : decode cX0_exponentBits 5 = .ok (.sipush 2047, 3) := by decide +kernel
theorem dX0_exponentBits_8 : decode cX0_exponentBits 8 = .ok (.iand, 1) := by decide +kernel
theorem dX0_exponentBits_9 : decode cX0_exponentBits 9 = .ok (.ireturn, 1) := by decide +kernel
set_option maxRecDepth 20000 in
theorem ggX0_nearest_J13_numberOfLeadingZeros_95d88 : GoodIn wsX0_nearest wsJ13_numberOfLeadingZeros_95d88 := goodIn_r _ [5, 6, 7, 8, 9, 10] (by decide +kernel) (by decide +kernel)
set_option maxRecDepth 20000 in
theorem gX0_nearest_J13_numberOfLeadingZeros_95d88 : GoodIn wsX0_nearest (va_wsS RX0 80 yJ13_numberOfLeadingZeros_95d88 wsJ13_numberOfLeadingZeros_95d88) := goodIn_app (goodIn_of _ (by decide +kernel)) ggX0_nearest_J13_numberOfLeadingZeros_95d88
set_option maxRecDepth 20000 in
theorem ggX0_nearest_X0_halved : GoodIn wsX0_nearest wsX0_halved := goodIn_r _ [14] (by decide +kernel) (by decide +kernel)
set_option maxRecDepth 20000 in
theorem gX0_nearest_X0_halved : GoodIn wsX0_nearest (va_wsS RX0 94 yX0_halved wsX0_halved) := goodIn_app (goodIn_of _ (by decide +kernel)) ggX0_nearest_X0_halved
theorem dX0_nearest_0 : decode cX0_nearest 0 = .ok (.bipush 63, 2) := by decide +kernel
theorem dX0_nearest_2 : decode cX0_nearest 2 = .ok (.lload_n 0, 1) := by decide +kernel
theorem dX0_nearest_3 : decode cX0_nearest 3 = .ok (.invokestatic 80, 3) := by decide +kernel
theorem dX0_nearest_6 : decode cX0_nearest 6 = .ok (.isub, 1) := by decide +kernel
theorem dX0_nearest_7 : decode cX0_nearest 7 = .ok (.istore_n 3, 1) := by decide +kernel
theorem dX0_nearest_8 : decode cX0_nearest 8 = .ok (.iload_n 3, 1) := by decide +kernel
theorem dX0_nearest_9 : decode cX0_nearest 9 = .ok (.iload_n 2, 1) := by decide +kernel
theorem dX0_nearest_10 : decode cX0_nearest 10 = .ok (.iadd, 1) := by decide +kernel
theorem dX0_nearest_11 : decode cX0_nearest 11 = .ok (.sipush 2097, 3) := by decide +kernel
theorem dX0_nearest_14 : decode cX0_nearest 14 = .ok (.if_icmp .le 7, 3) := by decide +kernel
theorem dX0_nearest_17 : decode cX0_nearest 17 = .ok (.ldc2_w 17, 3) := by decide +kernel
theorem dX0_nearest_20 : decode cX0_nearest 20 = .ok (.lreturn, 1) := by decide +kernel
theorem dX0_nearest_21 : decode cX0_nearest 21 = .ok (.iload_n 2, 1) := by decide +kernel
theorem dX0_nearest_22 : decode cX0_nearest 22 = .ok (.ifCond .ge 10, 3) := by decide +kernel
theorem dX0_nearest_25 : decode cX0_nearest 25 = .ok (.lload_n 0, 1) := by decide +kernel
theorem dX0_nearest_26 : decode cX0_nearest 26 = .ok (.iload_n 2, 1) := by decide +kernel
theorem dX0_nearest_27 : decode cX0_nearest 27 = .ok (.ineg, 1) := by decide +kernel
theorem dX0_nearest_28 : decode cX0_nearest 28 = .ok (.invokestatic 94, 3) := by decide +kernel
theorem dX0_nearest_31 : decode cX0_nearest 31 = .ok (.lreturn, 1) := by decide +kernel
theorem dX0_nearest_32 : decode cX0_nearest 32 = .ok (.bipush 52, 2) := by decide +kernel
theorem dX0_nearest_34 : decode cX0_nearest 34 = .ok (.iload_n 3, 1) := by decide +kernel
theorem dX0_nearest_35 : decode cX0_nearest 35 = .ok (.isub, 1) := by decide +kernel
theorem dX0_nearest_36 : decode cX0_nearest 36 = .ok (.istore 4, 2) := by decide +kernel
theorem dX0_nearest_38 : decode cX0_nearest 38 = .ok (.iload_n 2, 1) := by decide +kernel
theorem dX0_nearest_39 : decode cX0_nearest 39 = .ok (.iload 4, 2) := by decide +kernel
theorem dX0_nearest_41 : decode cX0_nearest 41 = .ok (.if_icmp .gt 7, 3) := by decide +kernel
theorem dX0_nearest_44 : decode cX0_nearest 44 = .ok (.lload_n 0, 1) := by decide +kernel
theorem dX0_nearest_45 : decode cX0_nearest 45 = .ok (.iload_n 2, 1) := by decide +kernel
theorem dX0_nearest_46 : decode cX0_nearest 46 = .ok (.lshl, 1) := by decide +kernel
theorem dX0_nearest_47 : decode cX0_nearest 47 = .ok (.lreturn, 1) := by decide +kernel
theorem dX0_nearest_48 : decode cX0_nearest 48 = .ok (.iload_n 2, 1) := by decide +kernel
theorem dX0_nearest_49 : decode cX0_nearest 49 = .ok (.iload 4, 2) := by decide +kernel
theorem dX0_nearest_51 : decode cX0_nearest 51 = .ok (.isub, 1) := by decide +kernel
theorem dX0_nearest_52 : decode cX0_nearest 52 = .ok (.i2l, 1) := by decide +kernel
theorem dX0_nearest_53 : decode cX0_nearest 53 = .ok (.bipush 52, 2) := by decide +kernel
theorem dX0_nearest_55 : decode cX0_nearest 55 = .ok (.lshl, 1) := by decide +kernel
theorem dX0_nearest_56 : decode cX0_nearest 56 = .ok (.lload_n 0, 1) := by decide +kernel
theorem dX0_nearest_57 : decode cX0_nearest 57 = .ok (.iload 4, 2) := by decide +kernel
theorem dX0_nearest_59 : decode cX0_nearest 59 = .ok (.lshl, 1) := by decide +kernel
theorem dX0_nearest_60 : decode cX0_nearest 60 = .ok (.ladd, 1) := by decide +kernel
theorem dX0_nearest_61 : decode cX0_nearest 61 = .ok (.lreturn, 1) := by decide +kernel
theorem dX0_halved_0 : decode cX0_halved 0 = .ok (.iload_n 2, 1) := by decide +kernel
theorem dX0_halved_1 : decode cX0_halved 1 = .ok (.bipush 54, 2) := by decide +kernel
theorem dX0_halved_3 : decode cX0_halved 3 = .ok (.if_icmp .le 5, 3) := by decide +kernel
theorem dX0_halved_6 : decode cX0_halved 6 = .ok (.lconst 0, 1) := by decide +kernel
theorem dX0_halved_7 : decode cX0_halved 7 = .ok (.lreturn, 1) := by decide +kernel
theorem dX0_halved_8 : decode cX0_halved 8 = .ok (.lload_n 0, 1) := by decide +kernel
theorem dX0_halved_9 : decode cX0_halved 9 = .ok (.iload_n 2, 1) := by decide +kernel
theorem dX0_halved_10 : decode cX0_halved 10 = .ok (.lshr, 1) := by decide +kernel
theorem dX0_halved_11 : decode cX0_halved 11 = .ok (.lstore_n 3, 1) := by decide +kernel
theorem dX0_halved_12 : decode cX0_halved 12 = .ok (.lload_n 0, 1) := by decide +kernel
theorem dX0_halved_13 : decode cX0_halved 13 = .ok (.lload_n 3, 1) := by decide +kernel
theorem dX0_halved_14 : decode cX0_halved 14 = .ok (.iload_n 2, 1) := by decide +kernel
theorem dX0_halved_15 : decode cX0_halved 15 = .ok (.lshl, 1) := by decide +kernel
theorem dX0_halved_16 : decode cX0_halved 16 = .ok (.lsub, 1) := by decide +kernel
theorem dX0_halved_17 : decode cX0_halved 17 = .ok (.lstore 5, 2) := by decide +kernel
theorem dX0_halved_19 : decode cX0_halved 19 = .ok (.lconst 1, 1) := by decide +kernel
theorem dX0_halved_20 : decode cX0_halved 20 = .ok (.iload_n 2, 1) := by decide +kernel
theorem dX0_halved_21 : decode cX0_halved 21 = .ok (.iconst 1, 1) := by decide +kernel
theorem dX0_halved_22 : decode cX0_halved 22 = .ok (.isub, 1) := by decide +kernel
theorem dX0_halved_23 : decode cX0_halved 23 = .ok (.lshl, 1) := by decide +kernel
theorem dX0_halved_24 : decode cX0_halved 24 = .ok (.lstore 7, 2) := by decide +kernel
theorem dX0_halved_26 : decode cX0_halved 26 = .ok (.lload 5, 2) := by decide +kernel
theorem dX0_halved_28 : decode cX0_halved 28 = .ok (.lload 7, 2) := by decide +kernel
theorem dX0_halved_30 : decode cX0_halved 30 = .ok (.lcmp, 1) := by decide +kernel
theorem dX0_halved_31 : decode cX0_halved 31 = .ok (.ifCond .gt 19, 3) := by decide +kernel
theorem dX0_halved_34 : decode cX0_halved 34 = .ok (.lload 5, 2) := by decide +kernel
theorem dX0_halved_36 : decode cX0_halved 36 = .ok (.lload 7, 2) := by decide +kernel
theorem dX0_halved_38 : decode cX0_halved 38 = .ok (.lcmp, 1) := by decide +kernel
theorem dX0_halved_39 : decode cX0_halved 39 = .ok (.ifCond .ne 15, 3) := by decide +kernel
theorem dX0_halved_42 : decode cX0_halved 42 = .ok (.lload_n 3, 1) := by decide +kernel
theorem dX0_halved_43 : decode cX0_halved 43 = .ok (.lconst 1, 1) := by decide +kernel
theorem dX0_halved_44 : decode cX0_halved 44 = .ok (.land, 1) := by decide +kernel
theorem dX0_halved_45 : decode cX0_halved 45 = .ok (.lconst 1, 1) := by decide +kernel
theorem dX0_halved_46 : decode cX0_halved 46 = .ok (.lcmp, 1) := by decide +kernel
theorem dX0_halved_47 : decode cX0_halved 47 = .ok (.ifCond .ne 7, 3) := by decide +kernel
theorem dX0_halved_50 : decode cX0_halved 50 = .ok (.iconst 1, 1) := by decide +kernel
theorem dX0_halved_51 : decode cX0_halved 51 = .ok (.goto 4, 3) := by decide +kernel
theorem dX0_halved_54 : decode cX0_halved 54 = .ok (.iconst 0, 1) := by decide +kernel
theorem dX0_halved_55 : decode cX0_halved 55 = .ok (.istore 9, 2) := by decide +kernel
theorem dX0_halved_57 : decode cX0_halved 57 = .ok (.iload 9, 2) := by decide +kernel
theorem dX0_halved_59 : decode cX0_halved 59 = .ok (.ifCond .eq 9, 3) := by decide +kernel
theorem dX0_halved_62 : decode cX0_halved 62 = .ok (.lload_n 3, 1) := by decide +kernel
theorem dX0_halved_63 : decode cX0_halved 63 = .ok (.lconst 1, 1) := by decide +kernel
theorem dX0_halved_64 : decode cX0_halved 64 = .ok (.ladd, 1) := by decide +kernel
theorem dX0_halved_65 : decode cX0_halved 65 = .ok (.goto 4, 3) := by decide +kernel
theorem dX0_halved_68 : decode cX0_halved 68 = .ok (.lload_n 3, 1) := by decide +kernel
theorem dX0_halved_69 : decode cX0_halved 69 = .ok (.lreturn, 1) := by decide +kernel
set_option maxRecDepth 20000 in
theorem ggX1_sizeRest_X0_whole : GoodIn wsX1_sizeRest wsX0_whole := goodIn_r _ [4, 5, 6, 7, 8, 3, 9] (by decide +kernel) (by decide +kernel)
set_option maxRecDepth 20000 in
theorem gX1_sizeRest_X0_whole : GoodIn wsX1_sizeRest (va_wsS RX1 7 yX0_whole wsX0_whole) := goodIn_app (goodIn_of _ (by decide +kernel)) ggX1_sizeRest_X0_whole
set_option maxRecDepth 20000 in
theorem ggX1_sizeRest_X0_shift : GoodIn wsX1_sizeRest wsX0_shift := goodIn_r _ [12, 13, 14, 15, 16, 7, 8, 3, 9] (by decide +kernel) (by decide +kernel)
set_option maxRecDepth 20000 in
theorem gX1_sizeRest_X0_shift : GoodIn wsX1_sizeRest (va_wsS RX1 13 yX0_shift wsX0_shift) := goodIn_app (goodIn_of _ (by decide +kernel)) ggX1_sizeRest_X0_shift
set_option maxRecDepth 20000 in
theorem ggX1_sizeRest_X1_powerRest : GoodIn wsX1_sizeRest wsX1_powerRest := goodIn_ca (goodIn_r _ [20] (by decide +kernel) (by decide +kernel)) (goodIn_sub (fun _ h => List.mem_cons_of_mem _ (List.mem_append_right _ h)) (by decide +kernel))
set_option maxRecDepth 20000 in
theorem gX1_sizeRest_X1_powerRest : GoodIn wsX1_sizeRest (va_wsS RX1 17 yX1_powerRest wsX1_powerRest) := goodIn_app (goodIn_of _ (by decide +kernel)) ggX1_sizeRest_X1_powerRest
theorem dX1_sizeRest_0 : decode cX1_sizeRest 0 = .ok (.lload_n 0, 1) := by decide +kernel
theorem dX1_sizeRest_1 : decode cX1_sizeRest 1 = .ok (.invokestatic 7, 3) := by decide +kernel
theorem dX1_sizeRest_4 : decode cX1_sizeRest 4 = .ok (.iload_n 2, 1) := by decide +kernel
theorem dX1_sizeRest_5 : decode cX1_sizeRest 5 = .ok (.i2l, 1) := by decide +kernel
theorem dX1_sizeRest_6 : decode cX1_sizeRest 6 = .ok (.lrem, 1) := by decide +kernel
theorem dX1_sizeRest_7 : decode cX1_sizeRest 7 = .ok (.lload_n 0, 1) := by decide +kernel
theorem dX1_sizeRest_8 : decode cX1_sizeRest 8 = .ok (.invokestatic 13, 3) := by decide +kernel
theorem dX1_sizeRest_11 : decode cX1_sizeRest 11 = .ok (.iload_n 2, 1) := by decide +kernel
theorem dX1_sizeRest_12 : decode cX1_sizeRest 12 = .ok (.invokestatic 17, 3) := by decide +kernel
theorem dX1_sizeRest_15 : decode cX1_sizeRest 15 = .ok (.lmul, 1) := by decide +kernel
theorem dX1_sizeRest_16 : decode cX1_sizeRest 16 = .ok (.lstore_n 3, 1) := by decide +kernel
theorem dX1_sizeRest_17 : decode cX1_sizeRest 17 = .ok (.lload_n 3, 1) := by decide +kernel
theorem dX1_sizeRest_18 : decode cX1_sizeRest 18 = .ok (.iload_n 2, 1) := by decide +kernel
theorem dX1_sizeRest_19 : decode cX1_sizeRest 19 = .ok (.i2l, 1) := by decide +kernel
theorem dX1_sizeRest_20 : decode cX1_sizeRest 20 = .ok (.lrem, 1) := by decide +kernel
theorem dX1_sizeRest_21 : decode cX1_sizeRest 21 = .ok (.l2i, 1) := by decide +kernel
theorem dX1_sizeRest_22 : decode cX1_sizeRest 22 = .ok (.ireturn, 1) := by decide +kernel
set_option maxRecDepth 20000 in
theorem ggX1_gapRest_X1_signedRest : GoodIn wsX1_gapRest wsX1_signedRest := goodIn_ca (goodIn_r _ [4, 5, 6, 3, 7, 8, 9, 10, 11, 12, 13, 14, 15, 16, 17, 18, 19, 20, 21, 22, 23, 24, 25, 26] (by decide +kernel) (by decide +kernel)) (goodIn_sub (fun _ h => List.mem_cons_of_mem _ (List.mem_append_right _ h)) (by decide +kernel))
set_option maxRecDepth 20000 in
theorem gX1_gapRest_X1_signedRest : GoodIn wsX1_gapRest (va_wsS RX1 23 yX1_signedRest wsX1_signedRest) := goodIn_app (goodIn_of _ (by decide +kernel)) ggX1_gapRest_X1_signedRest
set_option maxRecDepth 20000 in
theorem ggX1_gapRest_X0_order : GoodIn wsX1_gapRest wsX0_order := goodIn_r _ [29, 30, 31, 10, 32, 33, 34, 35, 36, 37] (by decide +kernel) (by decide +kernel)
set_option maxRecDepth 20000 in
theorem gX1_gapRest_X0_order : GoodIn wsX1_gapRest (va_wsS RX1 27 yX0_order wsX0_order) := goodIn_app (goodIn_of _ (by decide +kernel)) ggX1_gapRest_X0_order
set_option maxRecDepth 20000 in
theorem ggX1_gapRest_J9_floorMod_7cf53 : GoodIn wsX1_gapRest wsJ9_floorMod_7cf53 := goodIn_r _ [41] (by decide +kernel) (by decide +kernel)
set_option maxRecDepth 20000 in
theorem gX1_gapRest_J9_floorMod_7cf53 : GoodIn wsX1_gapRest (va_wsS RX1 31 yJ9_floorMod_7cf53 wsJ9_floorMod_7cf53) := goodIn_app (goodIn_of _ (by decide +kernel)) ggX1_gapRest_J9_floorMod_7cf53
theorem dX1_gapRest_0 : decode cX1_gapRest 0 = .ok (.lload_n 0, 1) := by decide +kernel
theorem dX1_gapRest_1 : decode cX1_gapRest 1 = .ok (.iload 4, 2) := by decide +kernel
theorem dX1_gapRest_3 : decode cX1_gapRest 3 = .ok (.invokestatic 23, 3) := by decide +kernel
theorem dX1_gapRest_6 : decode cX1_gapRest 6 = .ok (.lload_n 2, 1) := by decide +kernel
theorem dX1_gapRest_7 : decode cX1_gapRest 7 = .ok (.iload 4, 2) := by decide +kernel
theorem dX1_gapRest_9 : decode cX1_gapRest 9 = .ok (.invokestatic 23, 3) := by decide +kernel
theorem dX1_gapRest_12 : decode cX1_gapRest 12 = .ok (.isub, 1) := by decide +kernel
theorem dX1_gapRest_13 : decode cX1_gapRest 13 = .ok (.istore 5, 2) := by decide +kernel
theorem dX1_gapRest_15 : decode cX1_gapRest 15 = .ok (.lload_n 0, 1) := by decide +kernel
theorem dX1_gapRest_16 : decode cX1_gapRest 16 = .ok (.lload_n 2, 1) := by decide +kernel
theorem dX1_gapRest_17 : decode cX1_gapRest 17 = .ok (.invokestatic 27, 3) := by decide +kernel
theorem dX1_gapRest_20 : decode cX1_gapRest 20 = .ok (.ifCond .ge 9, 3) := by decide +kernel
theorem dX1_gapRest_23 : decode cX1_gapRest 23 = .ok (.iload 5, 2) := by decide +kernel
theorem dX1_gapRest_25 : decode cX1_gapRest 25 = .ok (.ineg, 1) := by decide +kernel
theorem dX1_gapRest_26 : decode cX1_gapRest 26 = .ok (.goto 5, 3) := by decide +kernel
theorem dX1_gapRest_29 : decode cX1_gapRest 29 = .ok (.iload 5, 2) := by decide +kernel
theorem dX1_gapRest_31 : decode cX1_gapRest 31 = .ok (.iload 4, 2) := by decide +kernel
theorem dX1_gapRest_33 : decode cX1_gapRest 33 = .ok (.invokestatic 31, 3) := by decide +kernel
theorem dX1_gapRest_36 : decode cX1_gapRest 36 = .ok (.ireturn, 1) := by decide +kernel
set_option maxRecDepth 20000 in
theorem ggX1_signedRest_X1_sizeRest : GoodIn wsX1_signedRest wsX1_sizeRest := goodIn_ca (goodIn_r _ [4, 5, 6, 7, 8, 9, 10, 11, 12, 13, 14, 15, 16, 17, 18, 19, 20, 21, 22, 3, 23] (by decide +kernel) (by decide +kernel)) (goodIn_sub (fun _ h => List.mem_cons_of_mem _ (List.mem_append_right _ h)) (by decide +kernel))
set_option maxRecDepth 20000 in
theorem gX1_signedRest_X1_sizeRest : GoodIn wsX1_signedRest (va_wsS RX1 37 yX1_sizeRest wsX1_sizeRest) := goodIn_app (goodIn_of _ (by decide +kernel)) ggX1_signedRest_X1_sizeRest
theorem dX1_signedRest_0 : decode cX1_signedRest 0 = .ok (.lload_n 0, 1) := by decide +kernel
theorem dX1_signedRest_1 : decode cX1_signedRest 1 = .ok (.iload_n 2, 1) := by decide +kernel
theorem dX1_signedRest_2 : decode cX1_signedRest 2 = .ok (.invokestatic 37, 3) := by decide +kernel
theorem dX1_signedRest_5 : decode cX1_signedRest 5 = .ok (.istore_n 3, 1) := by decide +kernel
theorem dX1_signedRest_6 : decode cX1_signedRest 6 = .ok (.lload_n 0, 1) := by decide +kernel
theorem dX1_signedRest_7 : decode cX1_signedRest 7 = .ok (.lconst 0, 1) := by decide +kernel
theorem dX1_signedRest_8 : decode cX1_signedRest 8 = .ok (.lcmp, 1) := by decide +kernel
theorem dX1_signedRest_9 : decode cX1_signedRest 9 = .ok (.ifCond .ge 8, 3) := by decide +kernel
theorem dX1_signedRest_12 : decode cX1_signedRest 12 = .ok (.iload_n 3, 1) := by decide +kernel
theorem dX1_signedRest_13 : decode cX1_signedRest 13 = .ok (.ineg, 1) := by decide +kernel
theorem dX1_signedRest_14 : decode cX1_signedRest 14 = .ok (.goto 4, 3) := by decide +kernel
theorem dX1_signedRest_17 : decode cX1_signedRest 17 = .ok (.iload_n 3, 1) := by decide +kernel
theorem dX1_signedRest_18 : decode cX1_signedRest 18 = .ok (.ireturn, 1) := by decide +kernel
theorem dX1_powerRest_0 : decode cX1_powerRest 0 = .ok (.iconst 1, 1) := by decide +kernel
theorem dX1_powerRest_1 : decode cX1_powerRest 1 = .ok (.iload_n 1, 1) := by decide +kernel
theorem dX1_powerRest_2 : decode cX1_powerRest 2 = .ok (.irem, 1) := by decide +kernel
theorem dX1_powerRest_3 : decode cX1_powerRest 3 = .ok (.i2l, 1) := by decide +kernel
theorem dX1_powerRest_4 : decode cX1_powerRest 4 = .ok (.lstore_n 2, 1) := by decide +kernel
theorem dX1_powerRest_5 : decode cX1_powerRest 5 = .ok (.iconst 2, 1) := by decide +kernel
theorem dX1_powerRest_6 : decode cX1_powerRest 6 = .ok (.iload_n 1, 1) := by decide +kernel
theorem dX1_powerRest_7 : decode cX1_powerRest 7 = .ok (.irem, 1) := by decide +kernel
theorem dX1_powerRest_8 : decode cX1_powerRest 8 = .ok (.i2l, 1) := by decide +kernel
theorem dX1_powerRest_9 : decode cX1_powerRest 9 = .ok (.lstore 4, 2) := by decide +kernel
theorem dX1_powerRest_11 : decode cX1_powerRest 11 = .ok (.iload_n 0, 1) := by decide +kernel
theorem dX1_powerRest_12 : decode cX1_powerRest 12 = .ok (.istore 6, 2) := by decide +kernel
theorem dX1_powerRest_14 : decode cX1_powerRest 14 = .ok (.iload 6, 2) := by decide +kernel
theorem dX1_powerRest_16 : decode cX1_powerRest 16 = .ok (.ifCond .le 38, 3) := by decide +kernel
theorem dX1_powerRest_19 : decode cX1_powerRest 19 = .ok (.iload 6, 2) := by decide +kernel
theorem dX1_powerRest_21 : decode cX1_powerRest 21 = .ok (.iconst 1, 1) := by decide +kernel
theorem dX1_powerRest_22 : decode cX1_powerRest 22 = .ok (.iand, 1) := by decide +kernel
theorem dX1_powerRest_23 : decode cX1_powerRest 23 = .ok (.iconst 1, 1) := by decide +kernel
theorem dX1_powerRest_24 : decode cX1_powerRest 24 = .ok (.if_icmp .ne 11, 3) := by decide +kernel
theorem dX1_powerRest_27 : decode cX1_powerRest 27 = .ok (.lload_n 2, 1) := by decide +kernel
theorem dX1_powerRest_28 : decode cX1_powerRest 28 = .ok (.lload 4, 2) := by decide +kernel
theorem dX1_powerRest_30 : decode cX1_powerRest 30 = .ok (.lmul, 1) := by decide +kernel
theorem dX1_powerRest_31 : decode cX1_powerRest 31 = .ok (.iload_n 1, 1) := by decide +kernel
theorem dX1_powerRest_32 : decode cX1_powerRest 32 = .ok (.i2l, 1) := by decide +kernel
theorem dX1_powerRest_33 : decode cX1_powerRest 33 = .ok (.lrem, 1) := by decide +kernel
theorem dX1_powerRest_34 : decode cX1_powerRest 34 = .ok (.lstore_n 2, 1) := by decide +kernel
theorem dX1_powerRest_35 : decode cX1_powerRest 35 = .ok (.lload 4, 2) := by decide +kernel
theorem dX1_powerRest_37 : decode cX1_powerRest 37 = .ok (.lload 4, 2) := by decide +kernel
theorem dX1_powerRest_39 : decode cX1_powerRest 39 = .ok (.lmul, 1) := by decide +kernel
theorem dX1_powerRest_40 : decode cX1_powerRest 40 = .ok (.iload_n 1, 1) := by decide +kernel
theorem dX1_powerRest_41 : decode cX1_powerRest 41 = .ok (.i2l, 1) := by decide +kernel
theorem dX1_powerRest_42 : decode cX1_powerRest 42 = .ok (.lrem, 1) := by decide +kernel
theorem dX1_powerRest_43 : decode cX1_powerRest 43 = .ok (.lstore 4, 2) := by decide +kernel
theorem dX1_powerRest_45 : decode cX1_powerRest 45 = .ok (.iload 6, 2) := by decide +kernel
theorem dX1_powerRest_47 : decode cX1_powerRest 47 = .ok (.iconst 1, 1) := by decide +kernel
theorem dX1_powerRest_48 : decode cX1_powerRest 48 = .ok (.ishr, 1) := by decide +kernel
theorem dX1_powerRest_49 : decode cX1_powerRest 49 = .ok (.istore 6, 2) := by decide +kernel
theorem dX1_powerRest_51 : decode cX1_powerRest 51 = .ok (.goto (-37), 3) := by decide +kernel
theorem dX1_powerRest_54 : decode cX1_powerRest 54 = .ok (.lload_n 2, 1) := by decide +kernel
theorem dX1_powerRest_55 : decode cX1_powerRest 55 = .ok (.lreturn, 1) := by decide +kernel
set_option maxRecDepth 20000 in
theorem ggX1_orderOfGaps_X0_order : GoodIn wsX1_orderOfGaps wsX0_order := goodIn_r _ [4, 5, 6, 3, 7, 8, 9, 10, 11, 12] (by decide +kernel) (by decide +kernel)
set_option maxRecDepth 20000 in
theorem gX1_orderOfGaps_X0_order : GoodIn wsX1_orderOfGaps (va_wsS RX1 27 yX0_order wsX0_order) := goodIn_app (goodIn_of _ (by decide +kernel)) ggX1_orderOfGaps_X0_order
set_option maxRecDepth 20000 in
theorem ggX1_orderOfGaps_X0_opposite : GoodIn wsX1_orderOfGaps wsX0_opposite := goodIn_r _ [15, 8] (by decide +kernel) (by decide +kernel)
set_option maxRecDepth 20000 in
theorem gX1_orderOfGaps_X0_opposite : GoodIn wsX1_orderOfGaps (va_wsS RX1 40 yX0_opposite wsX0_opposite) := goodIn_app (goodIn_of _ (by decide +kernel)) ggX1_orderOfGaps_X0_opposite
set_option maxRecDepth 20000 in
theorem ggX1_orderOfGaps_X1_signOfSum : GoodIn wsX1_orderOfGaps wsX1_signOfSum := goodIn_r _ [19, 20, 21, 22, 18, 23, 24, 25, 3, 26, 27, 28, 29, 30, 31, 32, 33, 34, 35, 36, 37, 38] (by decide +kernel) (by decide +kernel)
set_option maxRecDepth 20000 in
theorem gX1_orderOfGaps_X1_signOfSum : GoodIn wsX1_orderOfGaps (va_wsS RX1 43 yX1_signOfSum wsX1_signOfSum) := goodIn_app (goodIn_of _ (by decide +kernel)) ggX1_orderOfGaps_X1_signOfSum
theorem dX1_orderOfGaps_0 : decode cX1_orderOfGaps 0 = .ok (.lload_n 0, 1) := by decide +kernel
theorem dX1_orderOfGaps_1 : decode cX1_orderOfGaps 1 = .ok (.lload_n 2, 1) := by decide +kernel
theorem dX1_orderOfGaps_2 : decode cX1_orderOfGaps 2 = .ok (.invokestatic 27, 3) := by decide +kernel
theorem dX1_orderOfGaps_5 : decode cX1_orderOfGaps 5 = .ok (.ifCond .ge 7, 3) := by decide +kernel
theorem dX1_orderOfGaps_8 : decode cX1_orderOfGaps 8 = .ok (.iconst 1, 1) := by decide +kernel
theorem dX1_orderOfGaps_9 : decode cX1_orderOfGaps 9 = .ok (.goto 4, 3) := by decide +kernel
theorem dX1_orderOfGaps_12 : decode cX1_orderOfGaps 12 = .ok (.iconst 0, 1) := by decide +kernel
theorem dX1_orderOfGaps_13 : decode cX1_orderOfGaps 13 = .ok (.istore 8, 2) := by decide +kernel
theorem dX1_orderOfGaps_15 : decode cX1_orderOfGaps 15 = .ok (.lload 4, 2) := by decide +kernel
theorem dX1_orderOfGaps_17 : decode cX1_orderOfGaps 17 = .ok (.lload 6, 2) := by decide +kernel
theorem dX1_orderOfGaps_19 : decode cX1_orderOfGaps 19 = .ok (.invokestatic 27, 3) := by decide +kernel
theorem dX1_orderOfGaps_22 : decode cX1_orderOfGaps 22 = .ok (.ifCond .ge 7, 3) := by decide +kernel
theorem dX1_orderOfGaps_25 : decode cX1_orderOfGaps 25 = .ok (.iconst 1, 1) := by decide +kernel
theorem dX1_orderOfGaps_26 : decode cX1_orderOfGaps 26 = .ok (.goto 4, 3) := by decide +kernel
theorem dX1_orderOfGaps_29 : decode cX1_orderOfGaps 29 = .ok (.iconst 0, 1) := by decide +kernel
theorem dX1_orderOfGaps_30 : decode cX1_orderOfGaps 30 = .ok (.istore 9, 2) := by decide +kernel
theorem dX1_orderOfGaps_32 : decode cX1_orderOfGaps 32 = .ok (.iload 8, 2) := by decide +kernel
theorem dX1_orderOfGaps_34 : decode cX1_orderOfGaps 34 = .ok (.ifCond .eq 7, 3) := by decide +kernel
theorem dX1_orderOfGaps_37 : decode cX1_orderOfGaps 37 = .ok (.lload_n 2, 1) := by decide +kernel
theorem dX1_orderOfGaps_38 : decode cX1_orderOfGaps 38 = .ok (.goto 4, 3) := by decide +kernel
theorem dX1_orderOfGaps_41 : decode cX1_orderOfGaps 41 = .ok (.lload_n 0, 1) := by decide +kernel
theorem dX1_orderOfGaps_42 : decode cX1_orderOfGaps 42 = .ok (.iload 8, 2) := by decide +kernel
theorem dX1_orderOfGaps_44 : decode cX1_orderOfGaps 44 = .ok (.ifCond .eq 7, 3) := by decide +kernel
theorem dX1_orderOfGaps_47 : decode cX1_orderOfGaps 47 = .ok (.lload_n 0, 1) := by decide +kernel
theorem dX1_orderOfGaps_48 : decode cX1_orderOfGaps 48 = .ok (.goto 4, 3) := by decide +kernel
theorem dX1_orderOfGaps_51 : decode cX1_orderOfGaps 51 = .ok (.lload_n 2, 1) := by decide +kernel
theorem dX1_orderOfGaps_52 : decode cX1_orderOfGaps 52 = .ok (.invokestatic 40, 3) := by decide +kernel
theorem dX1_orderOfGaps_55 : decode cX1_orderOfGaps 55 = .ok (.iload 9, 2) := by decide +kernel
theorem dX1_orderOfGaps_57 : decode cX1_orderOfGaps 57 = .ok (.ifCond .eq 8, 3) := by decide +kernel
theorem dX1_orderOfGaps_60 : decode cX1_orderOfGaps 60 = .ok (.lload 6, 2) := by decide +kernel
theorem dX1_orderOfGaps_62 : decode cX1_orderOfGaps 62 = .ok (.goto 5, 3) := by decide +kernel
theorem dX1_orderOfGaps_65 : decode cX1_orderOfGaps 65 = .ok (.lload 4, 2) := by decide +kernel
theorem dX1_orderOfGaps_67 : decode cX1_orderOfGaps 67 = .ok (.invokestatic 40, 3) := by decide +kernel
theorem dX1_orderOfGaps_70 : decode cX1_orderOfGaps 70 = .ok (.iload 9, 2) := by decide +kernel
theorem dX1_orderOfGaps_72 : decode cX1_orderOfGaps 72 = .ok (.ifCond .eq 8, 3) := by decide +kernel
theorem dX1_orderOfGaps_75 : decode cX1_orderOfGaps 75 = .ok (.lload 4, 2) := by decide +kernel
theorem dX1_orderOfGaps_77 : decode cX1_orderOfGaps 77 = .ok (.goto 5, 3) := by decide +kernel
theorem dX1_orderOfGaps_80 : decode cX1_orderOfGaps 80 = .ok (.lload 6, 2) := by decide +kernel
theorem dX1_orderOfGaps_82 : decode cX1_orderOfGaps 82 = .ok (.invokestatic 43, 3) := by decide +kernel
theorem dX1_orderOfGaps_85 : decode cX1_orderOfGaps 85 = .ok (.ireturn, 1) := by decide +kernel
set_option maxRecDepth 20000 in
theorem ggX1_signOfSum_X1_signedPart : GoodIn wsX1_signOfSum wsX1_signedPart := goodIn_r _ [5, 1, 6, 7, 8, 9, 10, 11, 12, 13, 14, 15, 16, 17, 18, 19, 20, 21] (by decide +kernel) (by decide +kernel)
set_option maxRecDepth 20000 in
theorem gX1_signOfSum_X1_signedPart : GoodIn wsX1_signOfSum (va_wsS RX1 47 yX1_signedPart wsX1_signedPart) := goodIn_app (goodIn_of _ (by decide +kernel)) ggX1_signOfSum_X1_signedPart
theorem dX1_signOfSum_0 : decode cX1_signOfSum 0 = .ok (.lconst 0, 1) := by decide +kernel
theorem dX1_signOfSum_1 : decode cX1_signOfSum 1 = .ok (.lstore 8, 2) := by decide +kernel
theorem dX1_signOfSum_3 : decode cX1_signOfSum 3 = .ok (.iconst 0, 1) := by decide +kernel
theorem dX1_signOfSum_4 : decode cX1_signOfSum 4 = .ok (.istore 10, 2) := by decide +kernel
theorem dX1_signOfSum_6 : decode cX1_signOfSum 6 = .ok (.iconst 0, 1) := by decide +kernel
theorem dX1_signOfSum_7 : decode cX1_signOfSum 7 = .ok (.istore 11, 2) := by decide +kernel
theorem dX1_signOfSum_9 : decode cX1_signOfSum 9 = .ok (.iload 11, 2) := by decide +kernel
theorem dX1_signOfSum_11 : decode cX1_signOfSum 11 = .ok (.bipush 66, 2) := by decide +kernel
theorem dX1_signOfSum_13 : decode cX1_signOfSum 13 = .ok (.if_icmp .ge 73, 3) := by decide +kernel
theorem dX1_signOfSum_16 : decode cX1_signOfSum 16 = .ok (.lload 8, 2) := by decide +kernel
theorem dX1_signOfSum_18 : decode cX1_signOfSum 18 = .ok (.lload_n 0, 1) := by decide +kernel
theorem dX1_signOfSum_19 : decode cX1_signOfSum 19 = .ok (.iload 11, 2) := by decide +kernel
theorem dX1_signOfSum_21 : decode cX1_signOfSum 21 = .ok (.invokestatic 47, 3) := by decide +kernel
theorem dX1_signOfSum_24 : decode cX1_signOfSum 24 = .ok (.ladd, 1) := by decide +kernel
theorem dX1_signOfSum_25 : decode cX1_signOfSum 25 = .ok (.lload_n 2, 1) := by decide +kernel
theorem dX1_signOfSum_26 : decode cX1_signOfSum 26 = .ok (.iload 11, 2) := by decide +kernel
theorem dX1_signOfSum_28 : decode cX1_signOfSum 28 = .ok (.invokestatic 47, 3) := by decide +kernel
theorem dX1_signOfSum_31 : decode cX1_signOfSum 31 = .ok (.ladd, 1) := by decide +kernel
theorem dX1_signOfSum_32 : decode cX1_signOfSum 32 = .ok (.lload 4, 2) := by decide +kernel
theorem dX1_signOfSum_34 : decode cX1_signOfSum 34 = .ok (.iload 11, 2) := by decide +kernel
theorem dX1_signOfSum_36 : decode cX1_signOfSum 36 = .ok (.invokestatic 47, 3) := by decide +kernel
theorem dX1_signOfSum_39 : decode cX1_signOfSum 39 = .ok (.ladd, 1) := by decide +kernel
theorem dX1_signOfSum_40 : decode cX1_signOfSum 40 = .ok (.lload 6, 2) := by decide +kernel
theorem dX1_signOfSum_42 : decode cX1_signOfSum 42 = .ok (.iload 11, 2) := by decide +kernel
theorem dX1_signOfSum_44 : decode cX1_signOfSum 44 = .ok (.invokestatic 47, 3) := by decide +kernel
theorem dX1_signOfSum_47 : decode cX1_signOfSum 47 = .ok (.ladd, 1) := by decide +kernel
theorem dX1_signOfSum_48 : decode cX1_signOfSum 48 = .ok (.lstore 12, 2) := by decide +kernel
theorem dX1_signOfSum_50 : decode cX1_signOfSum 50 = .ok (.iload 10, 2) := by decide +kernel
theorem dX1_signOfSum_52 : decode cX1_signOfSum 52 = .ok (.ifCond .ne 14, 3) := by decide +kernel
theorem dX1_signOfSum_55 : decode cX1_signOfSum 55 = .ok (.lload 12, 2) := by decide +kernel
theorem dX1_signOfSum_57 : decode cX1_signOfSum 57 = .ok (.ldc2_w 51, 3) := by decide +kernel
theorem dX1_signOfSum_60 : decode cX1_signOfSum 60 = .ok (.land, 1) := by decide +kernel
theorem dX1_signOfSum_61 : decode cX1_signOfSum 61 = .ok (.lconst 0, 1) := by decide +kernel
theorem dX1_signOfSum_62 : decode cX1_signOfSum 62 = .ok (.lcmp, 1) := by decide +kernel
theorem dX1_signOfSum_63 : decode cX1_signOfSum 63 = .ok (.ifCond .eq 7, 3) := by decide +kernel
theorem dX1_signOfSum_66 : decode cX1_signOfSum 66 = .ok (.iconst 1, 1) := by decide +kernel
theorem dX1_signOfSum_67 : decode cX1_signOfSum 67 = .ok (.goto 4, 3) := by decide +kernel
theorem dX1_signOfSum_70 : decode cX1_signOfSum 70 = .ok (.iconst 0, 1) := by decide +kernel
theorem dX1_signOfSum_71 : decode cX1_signOfSum 71 = .ok (.istore 10, 2) := by decide +kernel
theorem dX1_signOfSum_73 : decode cX1_signOfSum 73 = .ok (.lload 12, 2) := by decide +kernel
theorem dX1_signOfSum_75 : decode cX1_signOfSum 75 = .ok (.bipush 32, 2) := by decide +kernel
theorem dX1_signOfSum_77 : decode cX1_signOfSum 77 = .ok (.lshr, 1) := by decide +kernel
theorem dX1_signOfSum_78 : decode cX1_signOfSum 78 = .ok (.lstore 8, 2) := by decide +kernel
theorem dX1_signOfSum_80 : decode cX1_signOfSum 80 = .ok (.iinc 11 1, 3) := by decide +kernel
theorem dX1_signOfSum_83 : decode cX1_signOfSum 83 = .ok (.goto (-74), 3) := by decide +kernel
theorem dX1_signOfSum_86 : decode cX1_signOfSum 86 = .ok (.lload 8, 2) := by decide +kernel
theorem dX1_signOfSum_88 : decode cX1_signOfSum 88 = .ok (.lconst 0, 1) := by decide +kernel
theorem dX1_signOfSum_89 : decode cX1_signOfSum 89 = .ok (.lcmp, 1) := by decide +kernel
theorem dX1_signOfSum_90 : decode cX1_signOfSum 90 = .ok (.ifCond .ge 5, 3) := by decide +kernel
theorem dX1_signOfSum_93 : decode cX1_signOfSum 93 = .ok (.iconst (-1), 1) := by decide +kernel
theorem dX1_signOfSum_94 : decode cX1_signOfSum 94 = .ok (.ireturn, 1) := by decide +kernel
theorem dX1_signOfSum_95 : decode cX1_signOfSum 95 = .ok (.iload 10, 2) := by decide +kernel
theorem dX1_signOfSum_97 : decode cX1_signOfSum 97 = .ok (.ifCond .eq 7, 3) := by decide +kernel
theorem dX1_signOfSum_100 : decode cX1_signOfSum 100 = .ok (.iconst 1, 1) := by decide +kernel
theorem dX1_signOfSum_101 : decode cX1_signOfSum 101 = .ok (.goto 4, 3) := by decide +kernel
theorem dX1_signOfSum_104 : decode cX1_signOfSum 104 = .ok (.iconst 0, 1) := by decide +kernel
theorem dX1_signOfSum_105 : decode cX1_signOfSum 105 = .ok (.ireturn, 1) := by decide +kernel
set_option maxRecDepth 20000 in
theorem ggX1_signedPart_X0_shift : GoodIn wsX1_signedPart wsX0_shift := goodIn_r _ [5, 6, 7, 8, 9, 10, 11, 4, 12] (by decide +kernel) (by decide +kernel)
set_option maxRecDepth 20000 in
theorem gX1_signedPart_X0_shift : GoodIn wsX1_signedPart (va_wsS RX1 13 yX0_shift wsX0_shift) := goodIn_app (goodIn_of _ (by decide +kernel)) ggX1_signedPart_X0_shift
set_option maxRecDepth 20000 in
theorem ggX1_signedPart_X0_whole : GoodIn wsX1_signedPart wsX0_whole := goodIn_r _ [15, 16, 17, 10, 11, 4, 12] (by decide +kernel) (by decide +kernel)
set_option maxRecDepth 20000 in
theorem gX1_signedPart_X0_whole : GoodIn wsX1_signedPart (va_wsS RX1 7 yX0_whole wsX0_whole) := goodIn_app (goodIn_of _ (by decide +kernel)) ggX1_signedPart_X0_whole
theorem dX1_signedPart_0 : decode cX1_signedPart 0 = .ok (.bipush 32, 2) := by decide +kernel
theorem dX1_signedPart_2 : decode cX1_signedPart 2 = .ok (.iload_n 2, 1) := by decide +kernel
theorem dX1_signedPart_3 : decode cX1_signedPart 3 = .ok (.imul, 1) := by decide +kernel
theorem dX1_signedPart_4 : decode cX1_signedPart 4 = .ok (.lload_n 0, 1) := by decide +kernel
theorem dX1_signedPart_5 : decode cX1_signedPart 5 = .ok (.invokestatic 13, 3) := by decide +kernel
theorem dX1_signedPart_8 : decode cX1_signedPart 8 = .ok (.isub, 1) := by decide +kernel
theorem dX1_signedPart_9 : decode cX1_signedPart 9 = .ok (.istore_n 3, 1) := by decide +kernel
theorem dX1_signedPart_10 : decode cX1_signedPart 10 = .ok (.lconst 0, 1) := by decide +kernel
theorem dX1_signedPart_11 : decode cX1_signedPart 11 = .ok (.lstore 4, 2) := by decide +kernel
theorem dX1_signedPart_13 : decode cX1_signedPart 13 = .ok (.iload_n 3, 1) := by decide +kernel
theorem dX1_signedPart_14 : decode cX1_signedPart 14 = .ok (.ifCond .lt 24, 3) := by decide +kernel
theorem dX1_signedPart_17 : decode cX1_signedPart 17 = .ok (.iload_n 3, 1) := by decide +kernel
theorem dX1_signedPart_18 : decode cX1_signedPart 18 = .ok (.bipush 64, 2) := by decide +kernel
theorem dX1_signedPart_20 : decode cX1_signedPart 20 = .ok (.if_icmp .ge 18, 3) := by decide +kernel
theorem dX1_signedPart_23 : decode cX1_signedPart 23 = .ok (.lload_n 0, 1) := by decide +kernel
theorem dX1_signedPart_24 : decode cX1_signedPart 24 = .ok (.invokestatic 7, 3) := by decide +kernel
theorem dX1_signedPart_27 : decode cX1_signedPart 27 = .ok (.iload_n 3, 1) := by decide +kernel
theorem dX1_signedPart_28 : decode cX1_signedPart 28 = .ok (.lshr, 1) := by decide +kernel
theorem dX1_signedPart_29 : decode cX1_signedPart 29 = .ok (.ldc2_w 51, 3) := by decide +kernel
theorem dX1_signedPart_32 : decode cX1_signedPart 32 = .ok (.land, 1) := by decide +kernel
theorem dX1_signedPart_33 : decode cX1_signedPart 33 = .ok (.lstore 4, 2) := by decide +kernel
theorem dX1_signedPart_35 : decode cX1_signedPart 35 = .ok (.goto 26, 3) := by decide +kernel
theorem dX1_signedPart_38 : decode cX1_signedPart 38 = .ok (.iload_n 3, 1) := by decide +kernel
theorem dX1_signedPart_39 : decode cX1_signedPart 39 = .ok (.ifCond .ge 22, 3) := by decide +kernel
theorem dX1_signedPart_42 : decode cX1_signedPart 42 = .ok (.iload_n 3, 1) := by decide +kernel
theorem dX1_signedPart_43 : decode cX1_signedPart 43 = .ok (.bipush (-32), 2) := by decide +kernel
theorem dX1_signedPart_45 : decode cX1_signedPart 45 = .ok (.if_icmp .le 16, 3) := by decide +kernel
theorem dX1_signedPart_48 : decode cX1_signedPart 48 = .ok (.lload_n 0, 1) := by decide +kernel
theorem dX1_signedPart_49 : decode cX1_signedPart 49 = .ok (.invokestatic 7, 3) := by decide +kernel
theorem dX1_signedPart_52 : decode cX1_signedPart 52 = .ok (.iload_n 3, 1) := by decide +kernel
theorem dX1_signedPart_53 : decode cX1_signedPart 53 = .ok (.ineg, 1) := by decide +kernel
theorem dX1_signedPart_54 : decode cX1_signedPart 54 = .ok (.lshl, 1) := by decide +kernel
theorem dX1_signedPart_55 : decode cX1_signedPart 55 = .ok (.ldc2_w 51, 3) := by decide +kernel
theorem dX1_signedPart_58 : decode cX1_signedPart 58 = .ok (.land, 1) := by decide +kernel
theorem dX1_signedPart_59 : decode cX1_signedPart 59 = .ok (.lstore 4, 2) := by decide +kernel
theorem dX1_signedPart_61 : decode cX1_signedPart 61 = .ok (.lload_n 0, 1) := by decide +kernel
theorem dX1_signedPart_62 : decode cX1_signedPart 62 = .ok (.lconst 0, 1) := by decide +kernel
theorem dX1_signedPart_63 : decode cX1_signedPart 63 = .ok (.lcmp, 1) := by decide +kernel
theorem dX1_signedPart_64 : decode cX1_signedPart 64 = .ok (.ifCond .ge 9, 3) := by decide +kernel
theorem dX1_signedPart_67 : decode cX1_signedPart 67 = .ok (.lload 4, 2) := by decide +kernel
theorem dX1_signedPart_69 : decode cX1_signedPart 69 = .ok (.lneg, 1) := by decide +kernel
theorem dX1_signedPart_70 : decode cX1_signedPart 70 = .ok (.goto 5, 3) := by decide +kernel
theorem dX1_signedPart_73 : decode cX1_signedPart 73 = .ok (.lload 4, 2) := by decide +kernel
theorem dX1_signedPart_75 : decode cX1_signedPart 75 = .ok (.lreturn, 1) := by decide +kernel
theorem dX2_init_0 : decode cX2_init 0 = .ok (.aload_n 0, 1) := by decide +kernel
theorem dX2_init_1 : decode cX2_init 1 = .ok (.invokespecial 1, 3) := by decide +kernel
theorem dX2_init_4 : decode cX2_init 4 = .ok (.aload_n 0, 1) := by decide +kernel
theorem dX2_init_5 : decode cX2_init 5 = .ok (.bipush 8, 2) := by decide +kernel
theorem dX2_init_7 : decode cX2_init 7 = .ok (.newarray .int, 2) := by decide +kernel
theorem dX2_init_9 : decode cX2_init 9 = .ok (.putfield 9, 3) := by decide +kernel
theorem dX2_init_12 : decode cX2_init 12 = .ok (.aload_n 0, 1) := by decide +kernel
theorem dX2_init_13 : decode cX2_init 13 = .ok (.bipush 8, 2) := by decide +kernel
theorem dX2_init_15 : decode cX2_init 15 = .ok (.newarray .long, 2) := by decide +kernel
theorem dX2_init_17 : decode cX2_init 17 = .ok (.putfield 13, 3) := by decide +kernel
theorem dX2_init_20 : decode cX2_init 20 = .ok (.aload_n 0, 1) := by decide +kernel
theorem dX2_init_21 : decode cX2_init 21 = .ok (.iconst 0, 1) := by decide +kernel
theorem dX2_init_22 : decode cX2_init 22 = .ok (.putfield 17, 3) := by decide +kernel
theorem dX2_init_25 : decode cX2_init 25 = .ok (.aload_n 0, 1) := by decide +kernel
theorem dX2_init_26 : decode cX2_init 26 = .ok (.iconst 0, 1) := by decide +kernel
theorem dX2_init_27 : decode cX2_init 27 = .ok (.putfield 21, 3) := by decide +kernel
theorem dX2_init_30 : decode cX2_init 30 = .ok (.return_, 1) := by decide +kernel
theorem dX2_isEmpty_0 : decode cX2_isEmpty 0 = .ok (.aload_n 0, 1) := by decide +kernel
theorem dX2_isEmpty_1 : decode cX2_isEmpty 1 = .ok (.getfield 21, 3) := by decide +kernel
theorem dX2_isEmpty_4 : decode cX2_isEmpty 4 = .ok (.ifCond .ne 7, 3) := by decide +kernel
theorem dX2_isEmpty_7 : decode cX2_isEmpty 7 = .ok (.iconst 1, 1) := by decide +kernel
theorem dX2_isEmpty_8 : decode cX2_isEmpty 8 = .ok (.goto 4, 3) := by decide +kernel
theorem dX2_isEmpty_11 : decode cX2_isEmpty 11 = .ok (.iconst 0, 1) := by decide +kernel
theorem dX2_isEmpty_12 : decode cX2_isEmpty 12 = .ok (.ireturn, 1) := by decide +kernel
theorem dX2_keep_0 : decode cX2_keep 0 = .ok (.aload_n 0, 1) := by decide +kernel
theorem dX2_keep_1 : decode cX2_keep 1 = .ok (.aload_n 0, 1) := by decide +kernel
theorem dX2_keep_2 : decode cX2_keep 2 = .ok (.getfield 17, 3) := by decide +kernel
theorem dX2_keep_5 : decode cX2_keep 5 = .ok (.iconst 1, 1) := by decide +kernel
theorem dX2_keep_6 : decode cX2_keep 6 = .ok (.iadd, 1) := by decide +kernel
theorem dX2_keep_7 : decode cX2_keep 7 = .ok (.bipush 8, 2) := by decide +kernel
theorem dX2_keep_9 : decode cX2_keep 9 = .ok (.irem, 1) := by decide +kernel
theorem dX2_keep_10 : decode cX2_keep 10 = .ok (.putfield 17, 3) := by decide +kernel
theorem dX2_keep_13 : decode cX2_keep 13 = .ok (.aload_n 0, 1) := by decide +kernel
theorem dX2_keep_14 : decode cX2_keep 14 = .ok (.getfield 9, 3) := by decide +kernel
theorem dX2_keep_17 : decode cX2_keep 17 = .ok (.aload_n 0, 1) := by decide +kernel
theorem dX2_keep_18 : decode cX2_keep 18 = .ok (.getfield 17, 3) := by decide +kernel
theorem dX2_keep_21 : decode cX2_keep 21 = .ok (.iload_n 1, 1) := by decide +kernel
theorem dX2_keep_22 : decode cX2_keep 22 = .ok (.iastore, 1) := by decide +kernel
theorem dX2_keep_23 : decode cX2_keep 23 = .ok (.aload_n 0, 1) := by decide +kernel
theorem dX2_keep_24 : decode cX2_keep 24 = .ok (.getfield 13, 3) := by decide +kernel
theorem dX2_keep_27 : decode cX2_keep 27 = .ok (.aload_n 0, 1) := by decide +kernel
theorem dX2_keep_28 : decode cX2_keep 28 = .ok (.getfield 17, 3) := by decide +kernel
theorem dX2_keep_31 : decode cX2_keep 31 = .ok (.lload_n 2, 1) := by decide +kernel
theorem dX2_keep_32 : decode cX2_keep 32 = .ok (.lastore, 1) := by decide +kernel
theorem dX2_keep_33 : decode cX2_keep 33 = .ok (.aload_n 0, 1) := by decide +kernel
theorem dX2_keep_34 : decode cX2_keep 34 = .ok (.aload_n 0, 1) := by decide +kernel
theorem dX2_keep_35 : decode cX2_keep 35 = .ok (.getfield 21, 3) := by decide +kernel
theorem dX2_keep_38 : decode cX2_keep 38 = .ok (.iconst 1, 1) := by decide +kernel
theorem dX2_keep_39 : decode cX2_keep 39 = .ok (.iadd, 1) := by decide +kernel
theorem dX2_keep_40 : decode cX2_keep 40 = .ok (.bipush 8, 2) := by decide +kernel
theorem dX2_keep_42 : decode cX2_keep 42 = .ok (.invokestatic 24, 3) := by decide +kernel
theorem dX2_keep_45 : decode cX2_keep 45 = .ok (.putfield 21, 3) := by decide +kernel
theorem dX2_keep_48 : decode cX2_keep 48 = .ok (.return_, 1) := by decide +kernel
theorem dX2_latestSlot_0 : decode cX2_latestSlot 0 = .ok (.aload_n 0, 1) := by decide +kernel
theorem dX2_latestSlot_1 : decode cX2_latestSlot 1 = .ok (.getfield 9, 3) := by decide +kernel
theorem dX2_latestSlot_4 : decode cX2_latestSlot 4 = .ok (.aload_n 0, 1) := by decide +kernel
theorem dX2_latestSlot_5 : decode cX2_latestSlot 5 = .ok (.getfield 17, 3) := by decide +kernel
theorem dX2_latestSlot_8 : decode cX2_latestSlot 8 = .ok (.iaload, 1) := by decide +kernel
theorem dX2_latestSlot_9 : decode cX2_latestSlot 9 = .ok (.ireturn, 1) := by decide +kernel
theorem dX2_latestNumber_0 : decode cX2_latestNumber 0 = .ok (.aload_n 0, 1) := by decide +kernel
theorem dX2_latestNumber_1 : decode cX2_latestNumber 1 = .ok (.getfield 13, 3) := by decide +kernel
theorem dX2_latestNumber_4 : decode cX2_latestNumber 4 = .ok (.aload_n 0, 1) := by decide +kernel
theorem dX2_latestNumber_5 : decode cX2_latestNumber 5 = .ok (.getfield 17, 3) := by decide +kernel
theorem dX2_latestNumber_8 : decode cX2_latestNumber 8 = .ok (.laload, 1) := by decide +kernel
theorem dX2_latestNumber_9 : decode cX2_latestNumber 9 = .ok (.lreturn, 1) := by decide +kernel
theorem dX2_forgetLatest_0 : decode cX2_forgetLatest 0 = .ok (.aload_n 0, 1) := by decide +kernel
theorem dX2_forgetLatest_1 : decode cX2_forgetLatest 1 = .ok (.aload_n 0, 1) := by decide +kernel
theorem dX2_forgetLatest_2 : decode cX2_forgetLatest 2 = .ok (.getfield 17, 3) := by decide +kernel
theorem dX2_forgetLatest_5 : decode cX2_forgetLatest 5 = .ok (.bipush 8, 2) := by decide +kernel
theorem dX2_forgetLatest_7 : decode cX2_forgetLatest 7 = .ok (.iadd, 1) := by decide +kernel
theorem dX2_forgetLatest_8 : decode cX2_forgetLatest 8 = .ok (.iconst 1, 1) := by decide +kernel
theorem dX2_forgetLatest_9 : decode cX2_forgetLatest 9 = .ok (.isub, 1) := by decide +kernel
theorem dX2_forgetLatest_10 : decode cX2_forgetLatest 10 = .ok (.bipush 8, 2) := by decide +kernel
theorem dX2_forgetLatest_12 : decode cX2_forgetLatest 12 = .ok (.irem, 1) := by decide +kernel
theorem dX2_forgetLatest_13 : decode cX2_forgetLatest 13 = .ok (.putfield 17, 3) := by decide +kernel
theorem dX2_forgetLatest_16 : decode cX2_forgetLatest 16 = .ok (.aload_n 0, 1) := by decide +kernel
theorem dX2_forgetLatest_17 : decode cX2_forgetLatest 17 = .ok (.dup, 1) := by decide +kernel
theorem dX2_forgetLatest_18 : decode cX2_forgetLatest 18 = .ok (.getfield 21, 3) := by decide +kernel
theorem dX2_forgetLatest_21 : decode cX2_forgetLatest 21 = .ok (.iconst 1, 1) := by decide +kernel
theorem dX2_forgetLatest_22 : decode cX2_forgetLatest 22 = .ok (.isub, 1) := by decide +kernel
theorem dX2_forgetLatest_23 : decode cX2_forgetLatest 23 = .ok (.putfield 21, 3) := by decide +kernel
theorem dX2_forgetLatest_26 : decode cX2_forgetLatest 26 = .ok (.return_, 1) := by decide +kernel
theorem dX3_init_0 : decode cX3_init 0 = .ok (.aload_n 0, 1) := by decide +kernel
theorem dX3_init_1 : decode cX3_init 1 = .ok (.invokespecial 1, 3) := by decide +kernel
theorem dX3_init_4 : decode cX3_init 4 = .ok (.aload_n 0, 1) := by decide +kernel
theorem dX3_init_5 : decode cX3_init 5 = .ok (.bipush 40, 2) := by decide +kernel
theorem dX3_init_7 : decode cX3_init 7 = .ok (.newarray .char, 2) := by decide +kernel
theorem dX3_init_9 : decode cX3_init 9 = .ok (.putfield 9, 3) := by decide +kernel
theorem dX3_init_12 : decode cX3_init 12 = .ok (.aload_n 0, 1) := by decide +kernel
theorem dX3_init_13 : decode cX3_init 13 = .ok (.bipush 40, 2) := by decide +kernel
theorem dX3_init_15 : decode cX3_init 15 = .ok (.newarray .int, 2) := by decide +kernel
theorem dX3_init_17 : decode cX3_init 17 = .ok (.putfield 13, 3) := by decide +kernel
theorem dX3_init_20 : decode cX3_init 20 = .ok (.aload_n 0, 1) := by decide +kernel
theorem dX3_init_21 : decode cX3_init 21 = .ok (.iconst 0, 1) := by decide +kernel
theorem dX3_init_22 : decode cX3_init 22 = .ok (.putfield 17, 3) := by decide +kernel
theorem dX3_init_25 : decode cX3_init 25 = .ok (.return_, 1) := by decide +kernel
theorem dX3_isWord_0 : decode cX3_isWord 0 = .ok (.iload_n 0, 1) := by decide +kernel
theorem dX3_isWord_1 : decode cX3_isWord 1 = .ok (.bipush 117, 2) := by decide +kernel
theorem dX3_isWord_3 : decode cX3_isWord 3 = .ok (.if_icmp .eq 9, 3) := by decide +kernel
theorem dX3_isWord_6 : decode cX3_isWord 6 = .ok (.iload_n 0, 1) := by decide +kernel
theorem dX3_isWord_7 : decode cX3_isWord 7 = .ok (.bipush 100, 2) := by decide +kernel
theorem dX3_isWord_9 : decode cX3_isWord 9 = .ok (.if_icmp .ne 19, 3) := by decide +kernel
theorem dX3_isWord_12 : decode cX3_isWord 12 = .ok (.iload_n 1, 1) := by decide +kernel
theorem dX3_isWord_13 : decode cX3_isWord 13 = .ok (.ifCond .lt 13, 3) := by decide +kernel
theorem dX3_isWord_16 : decode cX3_isWord 16 = .ok (.iload_n 1, 1) := by decide +kernel
theorem dX3_isWord_17 : decode cX3_isWord 17 = .ok (.bipush 15, 2) := by decide +kernel
theorem dX3_isWord_19 : decode cX3_isWord 19 = .ok (.if_icmp .gt 7, 3) := by decide +kernel
theorem dX3_isWord_22 : decode cX3_isWord 22 = .ok (.iconst 1, 1) := by decide +kernel
theorem dX3_isWord_23 : decode cX3_isWord 23 = .ok (.goto 4, 3) := by decide +kernel
theorem dX3_isWord_26 : decode cX3_isWord 26 = .ok (.iconst 0, 1) := by decide +kernel
theorem dX3_isWord_27 : decode cX3_isWord 27 = .ok (.ireturn, 1) := by decide +kernel
theorem dX3_isWord_28 : decode cX3_isWord 28 = .ok (.iload_n 0, 1) := by decide +kernel
theorem dX3_isWord_29 : decode cX3_isWord 29 = .ok (.bipush 120, 2) := by decide +kernel
theorem dX3_isWord_31 : decode cX3_isWord 31 = .ok (.if_icmp .ne 21, 3) := by decide +kernel
theorem dX3_isWord_34 : decode cX3_isWord 34 = .ok (.iload_n 1, 1) := by decide +kernel
theorem dX3_isWord_35 : decode cX3_isWord 35 = .ok (.bipush (-40), 2) := by decide +kernel
theorem dX3_isWord_37 : decode cX3_isWord 37 = .ok (.if_icmp .lt 13, 3) := by decide +kernel
theorem dX3_isWord_40 : decode cX3_isWord 40 = .ok (.iload_n 1, 1) := by decide +kernel
theorem dX3_isWord_41 : decode cX3_isWord 41 = .ok (.bipush 40, 2) := by decide +kernel
theorem dX3_isWord_43 : decode cX3_isWord 43 = .ok (.if_icmp .gt 7, 3) := by decide +kernel
theorem dX3_isWord_46 : decode cX3_isWord 46 = .ok (.iconst 1, 1) := by decide +kernel
theorem dX3_isWord_47 : decode cX3_isWord 47 = .ok (.goto 4, 3) := by decide +kernel
theorem dX3_isWord_50 : decode cX3_isWord 50 = .ok (.iconst 0, 1) := by decide +kernel
theorem dX3_isWord_51 : decode cX3_isWord 51 = .ok (.ireturn, 1) := by decide +kernel
theorem dX3_isWord_52 : decode cX3_isWord 52 = .ok (.iload_n 0, 1) := by decide +kernel
theorem dX3_isWord_53 : decode cX3_isWord 53 = .ok (.bipush 110, 2) := by decide +kernel
theorem dX3_isWord_55 : decode cX3_isWord 55 = .ok (.if_icmp .ne 11, 3) := by decide +kernel
theorem dX3_isWord_58 : decode cX3_isWord 58 = .ok (.iload_n 1, 1) := by decide +kernel
theorem dX3_isWord_59 : decode cX3_isWord 59 = .ok (.ifCond .ne 7, 3) := by decide +kernel
theorem dX3_isWord_62 : decode cX3_isWord 62 = .ok (.iconst 1, 1) := by decide +kernel
theorem dX3_isWord_63 : decode cX3_isWord 63 = .ok (.goto 4, 3) := by decide +kernel
theorem dX3_isWord_66 : decode cX3_isWord 66 = .ok (.iconst 0, 1) := by decide +kernel
theorem dX3_isWord_67 : decode cX3_isWord 67 = .ok (.ireturn, 1) := by decide +kernel
theorem dX3_size_0 : decode cX3_size 0 = .ok (.aload_n 0, 1) := by decide +kernel
theorem dX3_size_1 : decode cX3_size 1 = .ok (.getfield 17, 3) := by decide +kernel
theorem dX3_size_4 : decode cX3_size 4 = .ok (.ireturn, 1) := by decide +kernel
theorem dX3_isFull_0 : decode cX3_isFull 0 = .ok (.aload_n 0, 1) := by decide +kernel
theorem dX3_isFull_1 : decode cX3_isFull 1 = .ok (.getfield 17, 3) := by decide +kernel
theorem dX3_isFull_4 : decode cX3_isFull 4 = .ok (.bipush 40, 2) := by decide +kernel
theorem dX3_isFull_6 : decode cX3_isFull 6 = .ok (.if_icmp .lt 7, 3) := by decide +kernel
theorem dX3_isFull_9 : decode cX3_isFull 9 = .ok (.iconst 1, 1) := by decide +kernel
theorem dX3_isFull_10 : decode cX3_isFull 10 = .ok (.goto 4, 3) := by decide +kernel
theorem dX3_isFull_13 : decode cX3_isFull 13 = .ok (.iconst 0, 1) := by decide +kernel
theorem dX3_isFull_14 : decode cX3_isFull 14 = .ok (.ireturn, 1) := by decide +kernel
set_option maxRecDepth 20000 in
theorem ggX3_add_X3_isFull : GoodIn wsX3_add wsX3_isFull := goodIn_r _ [8, 2, 9, 10, 11] (by decide +kernel) (by decide +kernel)
set_option maxRecDepth 20000 in
theorem gX3_add_X3_isFull : GoodIn wsX3_add (wsV RX3 21 RX3 yX3_isFull wsX3_isFull) := goodIn_app (goodIn_of _ (by decide +kernel)) ggX3_add_X3_isFull
theorem dX3_add_0 : decode cX3_add 0 = .ok (.aload_n 0, 1) := by decide +kernel
theorem dX3_add_1 : decode cX3_add 1 = .ok (.invokevirtual 21, 3) := by decide +kernel
theorem dX3_add_4 : decode cX3_add 4 = .ok (.ifCond .ne 33, 3) := by decide +kernel
theorem dX3_add_7 : decode cX3_add 7 = .ok (.aload_n 0, 1) := by decide +kernel
theorem dX3_add_8 : decode cX3_add 8 = .ok (.getfield 9, 3) := by decide +kernel
theorem dX3_add_11 : decode cX3_add 11 = .ok (.aload_n 0, 1) := by decide +kernel
theorem dX3_add_12 : decode cX3_add 12 = .ok (.getfield 17, 3) := by decide +kernel
theorem dX3_add_15 : decode cX3_add 15 = .ok (.iload_n 1, 1) := by decide +kernel
theorem dX3_add_16 : decode cX3_add 16 = .ok (.castore, 1) := by decide +kernel
theorem dX3_add_17 : decode cX3_add 17 = .ok (.aload_n 0, 1) := by decide +kernel
theorem dX3_add_18 : decode cX3_add 18 = .ok (.getfield 13, 3) := by decide +kernel
theorem dX3_add_21 : decode cX3_add 21 = .ok (.aload_n 0, 1) := by decide +kernel
theorem dX3_add_22 : decode cX3_add 22 = .ok (.getfield 17, 3) := by decide +kernel
theorem dX3_add_25 : decode cX3_add 25 = .ok (.iload_n 2, 1) := by decide +kernel
theorem dX3_add_26 : decode cX3_add 26 = .ok (.iastore, 1) := by decide +kernel
theorem dX3_add_27 : decode cX3_add 27 = .ok (.aload_n 0, 1) := by decide +kernel
theorem dX3_add_28 : decode cX3_add 28 = .ok (.dup, 1) := by decide +kernel
theorem dX3_add_29 : decode cX3_add 29 = .ok (.getfield 17, 3) := by decide +kernel
theorem dX3_add_32 : decode cX3_add 32 = .ok (.iconst 1, 1) := by decide +kernel
theorem dX3_add_33 : decode cX3_add 33 = .ok (.iadd, 1) := by decide +kernel
theorem dX3_add_34 : decode cX3_add 34 = .ok (.putfield 17, 3) := by decide +kernel
theorem dX3_add_37 : decode cX3_add 37 = .ok (.return_, 1) := by decide +kernel
theorem dX3_clear_0 : decode cX3_clear 0 = .ok (.aload_n 0, 1) := by decide +kernel
theorem dX3_clear_1 : decode cX3_clear 1 = .ok (.iconst 0, 1) := by decide +kernel
theorem dX3_clear_2 : decode cX3_clear 2 = .ok (.putfield 17, 3) := by decide +kernel
theorem dX3_clear_5 : decode cX3_clear 5 = .ok (.return_, 1) := by decide +kernel
set_option maxRecDepth 20000 in
theorem ggX3_playedOn_X3_done : GoodIn wsX3_playedOn wsX3_done := goodIn_r _ [7, 8, 9, 10, 11, 12, 13, 14, 15, 16, 17, 18, 19, 20, 21, 22, 23, 24, 25, 26, 27, 28, 29, 30, 31, 32, 33, 34, 35, 36, 37, 38, 39, 40, 41, 42, 43, 44, 45, 46, 47, 48, 49, 50, 51, 52, 53, 54, 55, 56, 57, 58, 59, 60, 61, 62, 63, 64, 65, 66, 67, 68, 69, 70] (by decide +kernel) (by decide +kernel)
set_option maxRecDepth 20000 in
theorem gX3_playedOn_X3_done : GoodIn wsX3_playedOn (va_wsS RX3 25 yX3_done wsX3_done) := goodIn_app (goodIn_of _ (by decide +kernel)) ggX3_playedOn_X3_done
theorem dX3_playedOn_0 : decode cX3_playedOn 0 = .ok (.lload_n 1, 1) := by decide +kernel
theorem dX3_playedOn_1 : decode cX3_playedOn 1 = .ok (.lstore_n 3, 1) := by decide +kernel
theorem dX3_playedOn_2 : decode cX3_playedOn 2 = .ok (.iconst 0, 1) := by decide +kernel
theorem dX3_playedOn_3 : decode cX3_playedOn 3 = .ok (.istore 5, 2) := by decide +kernel
theorem dX3_playedOn_5 : decode cX3_playedOn 5 = .ok (.iload 5, 2) := by decide +kernel
theorem dX3_playedOn_7 : decode cX3_playedOn 7 = .ok (.aload_n 0, 1) := by decide +kernel
theorem dX3_playedOn_8 : decode cX3_playedOn 8 = .ok (.getfield 17, 3) := by decide +kernel
theorem dX3_playedOn_11 : decode cX3_playedOn 11 = .ok (.if_icmp .ge 28, 3) := by decide +kernel
theorem dX3_playedOn_14 : decode cX3_playedOn 14 = .ok (.aload_n 0, 1) := by decide +kernel
theorem dX3_playedOn_15 : decode cX3_playedOn 15 = .ok (.getfield 9, 3) := by decide +kernel
theorem dX3_playedOn_18 : decode cX3_playedOn 18 = .ok (.iload 5, 2) := by decide +kernel
theorem dX3_playedOn_20 : decode cX3_playedOn 20 = .ok (.caload, 1) := by decide +kernel
theorem dX3_playedOn_21 : decode cX3_playedOn 21 = .ok (.aload_n 0, 1) := by decide +kernel
theorem dX3_playedOn_22 : decode cX3_playedOn 22 = .ok (.getfield 13, 3) := by decide +kernel
theorem dX3_playedOn_25 : decode cX3_playedOn 25 = .ok (.iload 5, 2) := by decide +kernel
theorem dX3_playedOn_27 : decode cX3_playedOn 27 = .ok (.iaload, 1) := by decide +kernel
theorem dX3_playedOn_28 : decode cX3_playedOn 28 = .ok (.lload_n 3, 1) := by decide +kernel
theorem dX3_playedOn_29 : decode cX3_playedOn 29 = .ok (.invokestatic 25, 3) := by decide +kernel
theorem dX3_playedOn_32 : decode cX3_playedOn 32 = .ok (.lstore_n 3, 1) := by decide +kernel
theorem dX3_playedOn_33 : decode cX3_playedOn 33 = .ok (.iinc 5 1, 3) := by decide +kernel
theorem dX3_playedOn_36 : decode cX3_playedOn 36 = .ok (.goto (-31), 3) := by decide +kernel
theorem dX3_playedOn_39 : decode cX3_playedOn 39 = .ok (.lload_n 3, 1) := by decide +kernel
theorem dX3_playedOn_40 : decode cX3_playedOn 40 = .ok (.lreturn, 1) := by decide +kernel
set_option maxRecDepth 20000 in
theorem ggX3_playedBackOn_X3_done : GoodIn wsX3_playedBackOn wsX3_done := goodIn_r _ [7, 8, 9, 10, 11, 12, 13, 14, 15, 16, 17, 18, 19, 20, 21, 22, 23, 24, 25, 26, 27, 28, 29, 30, 31, 32, 33, 34, 35, 36, 37, 38, 39, 40, 41, 42, 43, 44, 45, 46, 47, 48, 49, 50, 51, 52, 53, 54, 55, 56, 57, 58, 59, 60, 61, 62, 63, 64, 65, 66, 67, 68, 69, 70] (by decide +kernel) (by decide +kernel)
set_option maxRecDepth 20000 in
theorem gX3_playedBackOn_X3_done : GoodIn wsX3_playedBackOn (va_wsS RX3 25 yX3_done wsX3_done) := goodIn_app (goodIn_of _ (by decide +kernel)) ggX3_playedBackOn_X3_done
theorem dX3_playedBackOn_0 : decode cX3_playedBackOn 0 = .ok (.lload_n 1, 1) := by decide +kernel
theorem dX3_playedBackOn_1 : decode cX3_playedBackOn 1 = .ok (.lstore_n 3, 1) := by decide +kernel
theorem dX3_playedBackOn_2 : decode cX3_playedBackOn 2 = .ok (.aload_n 0, 1) := by decide +kernel
theorem dX3_playedBackOn_3 : decode cX3_playedBackOn 3 = .ok (.getfield 17, 3) := by decide +kernel
theorem dX3_playedBackOn_6 : decode cX3_playedBackOn 6 = .ok (.iconst 1, 1) := by decide +kernel
theorem dX3_playedBackOn_7 : decode cX3_playedBackOn 7 = .ok (.isub, 1) := by decide +kernel
theorem dX3_playedBackOn_8 : decode cX3_playedBackOn 8 = .ok (.istore 5, 2) := by decide +kernel
theorem dX3_playedBackOn_10 : decode cX3_playedBackOn 10 = .ok (.iload 5, 2) := by decide +kernel
theorem dX3_playedBackOn_12 : decode cX3_playedBackOn 12 = .ok (.ifCond .lt 29, 3) := by decide +kernel
theorem dX3_playedBackOn_15 : decode cX3_playedBackOn 15 = .ok (.aload_n 0, 1) := by decide +kernel
theorem dX3_playedBackOn_16 : decode cX3_playedBackOn 16 = .ok (.getfield 9, 3) := by decide +kernel
theorem dX3_playedBackOn_19 : decode cX3_playedBackOn 19 = .ok (.iload 5, 2) := by decide +kernel
theorem dX3_playedBackOn_21 : decode cX3_playedBackOn 21 = .ok (.caload, 1) := by decide +kernel
theorem dX3_playedBackOn_22 : decode cX3_playedBackOn 22 = .ok (.aload_n 0, 1) := by decide +kernel
theorem dX3_playedBackOn_23 : decode cX3_playedBackOn 23 = .ok (.getfield 13, 3) := by decide +kernel
theorem dX3_playedBackOn_26 : decode cX3_playedBackOn 26 = .ok (.iload 5, 2) := by decide +kernel
theorem dX3_playedBackOn_28 : decode cX3_playedBackOn 28 = .ok (.iaload, 1) := by decide +kernel
theorem dX3_playedBackOn_29 : decode cX3_playedBackOn 29 = .ok (.ineg, 1) := by decide +kernel
theorem dX3_playedBackOn_30 : decode cX3_playedBackOn 30 = .ok (.lload_n 3, 1) := by decide +kernel
theorem dX3_playedBackOn_31 : decode cX3_playedBackOn 31 = .ok (.invokestatic 25, 3) := by decide +kernel
theorem dX3_playedBackOn_34 : decode cX3_playedBackOn 34 = .ok (.lstore_n 3, 1) := by decide +kernel
theorem dX3_playedBackOn_35 : decode cX3_playedBackOn 35 = .ok (.iinc 5 (-1), 3) := by decide +kernel
theorem dX3_playedBackOn_38 : decode cX3_playedBackOn 38 = .ok (.goto (-28), 3) := by decide +kernel
theorem dX3_playedBackOn_41 : decode cX3_playedBackOn 41 = .ok (.lload_n 3, 1) := by decide +kernel
theorem dX3_playedBackOn_42 : decode cX3_playedBackOn 42 = .ok (.lreturn, 1) := by decide +kernel
set_option maxRecDepth 20000 in
theorem ggX3_leadsHome_X3_playedOn : GoodIn wsX3_leadsHome wsX3_playedOn := goodIn_ca (goodIn_r _ [5, 6, 7, 8, 9, 10, 4, 11, 12, 13, 14, 15, 16, 17, 18, 19, 20, 21, 22, 23, 24, 25, 26, 27, 28, 29, 30, 31, 32, 33, 34, 35, 36, 37, 38, 39, 40, 41, 42, 43, 44, 45, 46, 47, 48, 49, 50, 51, 52, 53, 54, 55, 56, 57, 58, 59, 60, 61, 62, 63, 64, 65, 66, 67, 68, 69, 70, 71, 72, 73, 74, 79, 80, 81] (by decide +kernel) (by decide +kernel)) (goodIn_sub (fun _ h => List.mem_cons_of_mem _ (List.mem_append_right _ h)) (by decide +kernel))
set_option maxRecDepth 20000 in
theorem gX3_leadsHome_X3_playedOn : GoodIn wsX3_leadsHome (wsV RX3 29 RX3 yX3_playedOn wsX3_playedOn) := goodIn_app (goodIn_of _ (by decide +kernel)) ggX3_leadsHome_X3_playedOn
set_option maxRecDepth 20000 in
theorem ggX3_leadsHome_X3_playedBackOn : GoodIn wsX3_leadsHome wsX3_playedBackOn := goodIn_ca (goodIn_r _ [78, 6, 7, 8, 9, 10, 4, 11, 12, 13, 14, 15, 16, 17, 18, 19, 20, 21, 22, 23, 24, 25, 26, 27, 28, 29, 30, 31, 32, 33, 34, 35, 36, 37, 38, 39, 40, 41, 42, 43, 44, 45, 46, 47, 48, 49, 50, 51, 52, 53, 54, 55, 56, 57, 58, 59, 60, 61, 62, 63, 64, 65, 66, 67, 68, 69, 70, 71, 72, 73, 74, 79, 80, 81] (by decide +kernel) (by decide +kernel)) (goodIn_sub (fun _ h => List.mem_cons_of_mem _ (List.mem_append_right _ h)) (by decide +kernel))
set_option maxRecDepth 20000 in
theorem gX3_leadsHome_X3_playedBackOn : GoodIn wsX3_leadsHome (wsV RX3 33 RX3 yX3_playedBackOn wsX3_playedBackOn) := goodIn_app (goodIn_of _ (by decide +kernel)) ggX3_leadsHome_X3_playedBackOn
theorem dX3_leadsHome_0 : decode cX3_leadsHome 0 = .ok (.aload_n 0, 1) := by decide +kernel
theorem dX3_leadsHome_1 : decode cX3_leadsHome 1 = .ok (.aload_n 0, 1) := by decide +kernel
theorem dX3_leadsHome_2 : decode cX3_leadsHome 2 = .ok (.lload_n 1, 1) := by decide +kernel
theorem dX3_leadsHome_3 : decode cX3_leadsHome 3 = .ok (.invokevirtual 29, 3) := by decide +kernel
theorem dX3_leadsHome_6 : decode cX3_leadsHome 6 = .ok (.invokevirtual 33, 3) := by decide +kernel
theorem dX3_leadsHome_9 : decode cX3_leadsHome 9 = .ok (.lload_n 1, 1) := by decide +kernel
theorem dX3_leadsHome_10 : decode cX3_leadsHome 10 = .ok (.lcmp, 1) := by decide +kernel
theorem dX3_leadsHome_11 : decode cX3_leadsHome 11 = .ok (.ifCond .ne 7, 3) := by decide +kernel
theorem dX3_leadsHome_14 : decode cX3_leadsHome 14 = .ok (.iconst 1, 1) := by decide +kernel
theorem dX3_leadsHome_15 : decode cX3_leadsHome 15 = .ok (.goto 4, 3) := by decide +kernel
theorem dX3_leadsHome_18 : decode cX3_leadsHome 18 = .ok (.iconst 0, 1) := by decide +kernel
theorem dX3_leadsHome_19 : decode cX3_leadsHome 19 = .ok (.ireturn, 1) := by decide +kernel
set_option maxRecDepth 20000 in
theorem ggX3_lossesFrom_X3_done : GoodIn wsX3_lossesFrom wsX3_done := goodIn_r _ [7, 8, 9, 10, 11, 12, 13, 14, 15, 16, 17, 18, 19, 20, 21, 22, 23, 24, 25, 26, 27, 28, 29, 30, 31, 32, 33, 34, 35, 36, 37, 38, 39, 40, 41, 42, 43, 44, 45, 46, 47, 48, 49, 50, 51, 52, 53, 54, 55, 56, 57, 58, 59, 60, 61, 62, 63, 64, 65, 66, 67, 68, 69, 70] (by decide +kernel) (by decide +kernel)
set_option maxRecDepth 20000 in
theorem gX3_lossesFrom_X3_done : GoodIn wsX3_lossesFrom (va_wsS RX3 25 yX3_done wsX3_done) := goodIn_app (goodIn_of _ (by decide +kernel)) ggX3_lossesFrom_X3_done
theorem dX3_lossesFrom_0 : decode cX3_lossesFrom 0 = .ok (.iconst 0, 1) := by decide +kernel
theorem dX3_lossesFrom_1 : decode cX3_lossesFrom 1 = .ok (.istore_n 3, 1) := by decide +kernel
theorem dX3_lossesFrom_2 : decode cX3_lossesFrom 2 = .ok (.lload_n 1, 1) := by decide +kernel
theorem dX3_lossesFrom_3 : decode cX3_lossesFrom 3 = .ok (.lstore 4, 2) := by decide +kernel
theorem dX3_lossesFrom_5 : decode cX3_lossesFrom 5 = .ok (.iconst 0, 1) := by decide +kernel
theorem dX3_lossesFrom_6 : decode cX3_lossesFrom 6 = .ok (.istore 6, 2) := by decide +kernel
theorem dX3_lossesFrom_8 : decode cX3_lossesFrom 8 = .ok (.iload 6, 2) := by decide +kernel
theorem dX3_lossesFrom_10 : decode cX3_lossesFrom 10 = .ok (.aload_n 0, 1) := by decide +kernel
theorem dX3_lossesFrom_11 : decode cX3_lossesFrom 11 = .ok (.getfield 17, 3) := by decide +kernel
theorem dX3_lossesFrom_14 : decode cX3_lossesFrom 14 = .ok (.if_icmp .ge 63, 3) := by decide +kernel
theorem dX3_lossesFrom_17 : decode cX3_lossesFrom 17 = .ok (.aload_n 0, 1) := by decide +kernel
theorem dX3_lossesFrom_18 : decode cX3_lossesFrom 18 = .ok (.getfield 9, 3) := by decide +kernel
theorem dX3_lossesFrom_21 : decode cX3_lossesFrom 21 = .ok (.iload 6, 2) := by decide +kernel
theorem dX3_lossesFrom_23 : decode cX3_lossesFrom 23 = .ok (.caload, 1) := by decide +kernel
theorem dX3_lossesFrom_24 : decode cX3_lossesFrom 24 = .ok (.aload_n 0, 1) := by decide +kernel
theorem dX3_lossesFrom_25 : decode cX3_lossesFrom 25 = .ok (.getfield 13, 3) := by decide +kernel
theorem dX3_lossesFrom_28 : decode cX3_lossesFrom 28 = .ok (.iload 6, 2) := by decide +kernel
theorem dX3_lossesFrom_30 : decode cX3_lossesFrom 30 = .ok (.iaload, 1) := by decide +kernel
theorem dX3_lossesFrom_31 : decode cX3_lossesFrom 31 = .ok (.lload 4, 2) := by decide +kernel
theorem dX3_lossesFrom_33 : decode cX3_lossesFrom 33 = .ok (.invokestatic 25, 3) := by decide +kernel
theorem dX3_lossesFrom_36 : decode cX3_lossesFrom 36 = .ok (.lstore 7, 2) := by decide +kernel
theorem dX3_lossesFrom_38 : decode cX3_lossesFrom 38 = .ok (.aload_n 0, 1) := by decide +kernel
theorem dX3_lossesFrom_39 : decode cX3_lossesFrom 39 = .ok (.getfield 9, 3) := by decide +kernel
theorem dX3_lossesFrom_42 : decode cX3_lossesFrom 42 = .ok (.iload 6, 2) := by decide +kernel
theorem dX3_lossesFrom_44 : decode cX3_lossesFrom 44 = .ok (.caload, 1) := by decide +kernel
theorem dX3_lossesFrom_45 : decode cX3_lossesFrom 45 = .ok (.aload_n 0, 1) := by decide +kernel
theorem dX3_lossesFrom_46 : decode cX3_lossesFrom 46 = .ok (.getfield 13, 3) := by decide +kernel
theorem dX3_lossesFrom_49 : decode cX3_lossesFrom 49 = .ok (.iload 6, 2) := by decide +kernel
theorem dX3_lossesFrom_51 : decode cX3_lossesFrom 51 = .ok (.iaload, 1) := by decide +kernel
theorem dX3_lossesFrom_52 : decode cX3_lossesFrom 52 = .ok (.ineg, 1) := by decide +kernel
theorem dX3_lossesFrom_53 : decode cX3_lossesFrom 53 = .ok (.lload 7, 2) := by decide +kernel
theorem dX3_lossesFrom_55 : decode cX3_lossesFrom 55 = .ok (.invokestatic 25, 3) := by decide +kernel
theorem dX3_lossesFrom_58 : decode cX3_lossesFrom 58 = .ok (.lload 4, 2) := by decide +kernel
theorem dX3_lossesFrom_60 : decode cX3_lossesFrom 60 = .ok (.lcmp, 1) := by decide +kernel
theorem dX3_lossesFrom_61 : decode cX3_lossesFrom 61 = .ok (.ifCond .eq 6, 3) := by decide +kernel
theorem dX3_lossesFrom_64 : decode cX3_lossesFrom 64 = .ok (.iinc 3 1, 3) := by decide +kernel
theorem dX3_lossesFrom_67 : decode cX3_lossesFrom 67 = .ok (.lload 7, 2) := by decide +kernel
theorem dX3_lossesFrom_69 : decode cX3_lossesFrom 69 = .ok (.lstore 4, 2) := by decide +kernel
theorem dX3_lossesFrom_71 : decode cX3_lossesFrom 71 = .ok (.iinc 6 1, 3) := by decide +kernel
theorem dX3_lossesFrom_74 : decode cX3_lossesFrom 74 = .ok (.goto (-66), 3) := by decide +kernel
theorem dX3_lossesFrom_77 : decode cX3_lossesFrom 77 = .ok (.iload_n 3, 1) := by decide +kernel
theorem dX3_lossesFrom_78 : decode cX3_lossesFrom 78 = .ok (.ireturn, 1) := by decide +kernel
theorem dX3_addedTo_0 : decode cX3_addedTo 0 = .ok (.ldc2_w 36, 3) := by decide +kernel
theorem dX3_addedTo_3 : decode cX3_addedTo 3 = .ok (.lload_n 1, 1) := by decide +kernel
theorem dX3_addedTo_4 : decode cX3_addedTo 4 = .ok (.lmul, 1) := by decide +kernel
theorem dX3_addedTo_5 : decode cX3_addedTo 5 = .ok (.aload_n 0, 1) := by decide +kernel
theorem dX3_addedTo_6 : decode cX3_addedTo 6 = .ok (.getfield 17, 3) := by decide +kernel
theorem dX3_addedTo_9 : decode cX3_addedTo 9 = .ok (.i2l, 1) := by decide +kernel
theorem dX3_addedTo_10 : decode cX3_addedTo 10 = .ok (.ladd, 1) := by decide +kernel
theorem dX3_addedTo_11 : decode cX3_addedTo 11 = .ok (.lstore_n 3, 1) := by decide +kernel
theorem dX3_addedTo_12 : decode cX3_addedTo 12 = .ok (.iconst 0, 1) := by decide +kernel
theorem dX3_addedTo_13 : decode cX3_addedTo 13 = .ok (.istore 5, 2) := by decide +kernel
theorem dX3_addedTo_15 : decode cX3_addedTo 15 = .ok (.iload 5, 2) := by decide +kernel
theorem dX3_addedTo_17 : decode cX3_addedTo 17 = .ok (.aload_n 0, 1) := by decide +kernel
theorem dX3_addedTo_18 : decode cX3_addedTo 18 = .ok (.getfield 17, 3) := by decide +kernel
theorem dX3_addedTo_21 : decode cX3_addedTo 21 = .ok (.if_icmp .ge 39, 3) := by decide +kernel
theorem dX3_addedTo_24 : decode cX3_addedTo 24 = .ok (.ldc2_w 36, 3) := by decide +kernel
theorem dX3_addedTo_27 : decode cX3_addedTo 27 = .ok (.lload_n 3, 1) := by decide +kernel
theorem dX3_addedTo_28 : decode cX3_addedTo 28 = .ok (.lmul, 1) := by decide +kernel
theorem dX3_addedTo_29 : decode cX3_addedTo 29 = .ok (.aload_n 0, 1) := by decide +kernel
theorem dX3_addedTo_30 : decode cX3_addedTo 30 = .ok (.getfield 9, 3) := by decide +kernel
theorem dX3_addedTo_33 : decode cX3_addedTo 33 = .ok (.iload 5, 2) := by decide +kernel
theorem dX3_addedTo_35 : decode cX3_addedTo 35 = .ok (.caload, 1) := by decide +kernel
theorem dX3_addedTo_36 : decode cX3_addedTo 36 = .ok (.i2l, 1) := by decide +kernel
theorem dX3_addedTo_37 : decode cX3_addedTo 37 = .ok (.ladd, 1) := by decide +kernel
theorem dX3_addedTo_38 : decode cX3_addedTo 38 = .ok (.lstore_n 3, 1) := by decide +kernel
theorem dX3_addedTo_39 : decode cX3_addedTo 39 = .ok (.ldc2_w 36, 3) := by decide +kernel
theorem dX3_addedTo_42 : decode cX3_addedTo 42 = .ok (.lload_n 3, 1) := by decide +kernel
theorem dX3_addedTo_43 : decode cX3_addedTo 43 = .ok (.lmul, 1) := by decide +kernel
theorem dX3_addedTo_44 : decode cX3_addedTo 44 = .ok (.aload_n 0, 1) := by decide +kernel
theorem dX3_addedTo_45 : decode cX3_addedTo 45 = .ok (.getfield 13, 3) := by decide +kernel
theorem dX3_addedTo_48 : decode cX3_addedTo 48 = .ok (.iload 5, 2) := by decide +kernel
theorem dX3_addedTo_50 : decode cX3_addedTo 50 = .ok (.iaload, 1) := by decide +kernel
theorem dX3_addedTo_51 : decode cX3_addedTo 51 = .ok (.i2l, 1) := by decide +kernel
theorem dX3_addedTo_52 : decode cX3_addedTo 52 = .ok (.ladd, 1) := by decide +kernel
theorem dX3_addedTo_53 : decode cX3_addedTo 53 = .ok (.lstore_n 3, 1) := by decide +kernel
theorem dX3_addedTo_54 : decode cX3_addedTo 54 = .ok (.iinc 5 1, 3) := by decide +kernel
theorem dX3_addedTo_57 : decode cX3_addedTo 57 = .ok (.goto (-42), 3) := by decide +kernel
theorem dX3_addedTo_60 : decode cX3_addedTo 60 = .ok (.lload_n 3, 1) := by decide +kernel
theorem dX3_addedTo_61 : decode cX3_addedTo 61 = .ok (.lreturn, 1) := by decide +kernel
set_option maxRecDepth 20000 in
theorem ggX3_done_X0_opposite : GoodIn wsX3_done wsX0_opposite := goodIn_r _ [4, 5] (by decide +kernel) (by decide +kernel)
set_option maxRecDepth 20000 in
theorem gX3_done_X0_opposite : GoodIn wsX3_done (va_wsS RX3 38 yX0_opposite wsX0_opposite) := goodIn_app (goodIn_of _ (by decide +kernel)) ggX3_done_X0_opposite
set_option maxRecDepth 20000 in
theorem ggX3_done_X0_scaled : GoodIn wsX3_done wsX0_scaled := goodIn_r _ [8, 5, 9, 10, 3, 11, 12, 13, 14, 15, 16, 17, 18, 19, 20, 21, 22, 23, 24, 25, 26, 27, 28, 29, 30, 31, 32, 33, 34, 35, 36, 37, 38, 39, 40, 41, 42, 43, 44, 45, 46, 47, 48, 49] (by decide +kernel) (by decide +kernel)
set_option maxRecDepth 20000 in
theorem gX3_done_X0_scaled : GoodIn wsX3_done (va_wsS RX3 43 yX0_scaled wsX0_scaled) := goodIn_app (goodIn_of _ (by decide +kernel)) ggX3_done_X0_scaled
set_option maxRecDepth 20000 in
theorem ggX3_done_X0_lowered : GoodIn wsX3_done wsX0_lowered := goodIn_r _ [52, 53, 2, 3, 4, 5, 54, 55, 56, 19, 57, 58, 59, 60, 61, 62] (by decide +kernel) (by decide +kernel)
set_option maxRecDepth 20000 in
theorem gX3_done_X0_lowered : GoodIn wsX3_done (va_wsS RX3 47 yX0_lowered wsX0_lowered) := goodIn_app (goodIn_of _ (by decide +kernel)) ggX3_done_X0_lowered
set_option maxRecDepth 20000 in
theorem ggX3_done_X0_raised : GoodIn wsX3_done wsX0_raised := goodIn_r _ [56, 19, 5, 57, 58, 3, 59, 60, 61, 62] (by decide +kernel) (by decide +kernel)
set_option maxRecDepth 20000 in
theorem gX3_done_X0_raised : GoodIn wsX3_done (va_wsS RX3 50 yX0_raised wsX0_raised) := goodIn_app (goodIn_of _ (by decide +kernel)) ggX3_done_X0_raised
theorem dX3_done_0 : decode cX3_done 0 = .ok (.iload_n 0, 1) := by decide +kernel
theorem dX3_done_1 : decode cX3_done 1 = .ok (.bipush 110, 2) := by decide +kernel
theorem dX3_done_3 : decode cX3_done 3 = .ok (.if_icmp .ne 8, 3) := by decide +kernel
theorem dX3_done_6 : decode cX3_done 6 = .ok (.lload_n 2, 1) := by decide +kernel
theorem dX3_done_7 : decode cX3_done 7 = .ok (.invokestatic 38, 3) := by decide +kernel
theorem dX3_done_10 : decode cX3_done 10 = .ok (.lreturn, 1) := by decide +kernel
theorem dX3_done_11 : decode cX3_done 11 = .ok (.iload_n 0, 1) := by decide +kernel
theorem dX3_done_12 : decode cX3_done 12 = .ok (.bipush 120, 2) := by decide +kernel
theorem dX3_done_14 : decode cX3_done 14 = .ok (.if_icmp .ne 9, 3) := by decide +kernel
theorem dX3_done_17 : decode cX3_done 17 = .ok (.lload_n 2, 1) := by decide +kernel
theorem dX3_done_18 : decode cX3_done 18 = .ok (.iload_n 1, 1) := by decide +kernel
theorem dX3_done_19 : decode cX3_done 19 = .ok (.invokestatic 43, 3) := by decide +kernel
theorem dX3_done_22 : decode cX3_done 22 = .ok (.lreturn, 1) := by decide +kernel
theorem dX3_done_23 : decode cX3_done 23 = .ok (.iload_n 0, 1) := by decide +kernel
theorem dX3_done_24 : decode cX3_done 24 = .ok (.bipush 117, 2) := by decide +kernel
theorem dX3_done_26 : decode cX3_done 26 = .ok (.if_icmp .ne 7, 3) := by decide +kernel
theorem dX3_done_29 : decode cX3_done 29 = .ok (.iload_n 1, 1) := by decide +kernel
theorem dX3_done_30 : decode cX3_done 30 = .ok (.goto 5, 3) := by decide +kernel
theorem dX3_done_33 : decode cX3_done 33 = .ok (.iload_n 1, 1) := by decide +kernel
theorem dX3_done_34 : decode cX3_done 34 = .ok (.ineg, 1) := by decide +kernel
theorem dX3_done_35 : decode cX3_done 35 = .ok (.istore 4, 2) := by decide +kernel
theorem dX3_done_37 : decode cX3_done 37 = .ok (.iload 4, 2) := by decide +kernel
theorem dX3_done_39 : decode cX3_done 39 = .ok (.ifCond .ge 13, 3) := by decide +kernel
theorem dX3_done_42 : decode cX3_done 42 = .ok (.lload_n 2, 1) := by decide +kernel
theorem dX3_done_43 : decode cX3_done 43 = .ok (.iload 4, 2) := by decide +kernel
theorem dX3_done_45 : decode cX3_done 45 = .ok (.ineg, 1) := by decide +kernel
theorem dX3_done_46 : decode cX3_done 46 = .ok (.invokestatic 47, 3) := by decide +kernel
theorem dX3_done_49 : decode cX3_done 49 = .ok (.goto 9, 3) := by decide +kernel
theorem dX3_done_52 : decode cX3_done 52 = .ok (.lload_n 2, 1) := by decide +kernel
theorem dX3_done_53 : decode cX3_done 53 = .ok (.iload 4, 2) := by decide +kernel
theorem dX3_done_55 : decode cX3_done 55 = .ok (.invokestatic 50, 3) := by decide +kernel
theorem dX3_done_58 : decode cX3_done 58 = .ok (.lreturn, 1) := by decide +kernel
set_option maxRecDepth 20000 in
theorem ggX4_holdsAt_X4_stepsHold : GoodIn wsX4_holdsAt wsX4_stepsHold := goodIn_r _ [4, 5, 6, 7, 8, 9, 10, 11, 12, 13, 14, 15, 16, 17, 18, 19, 20, 21, 22, 23, 24, 25, 26, 27, 28, 29, 30, 31, 32] (by decide +kernel) (by decide +kernel)
set_option maxRecDepth 20000 in
theorem gX4_holdsAt_X4_stepsHold : GoodIn wsX4_holdsAt (va_wsS RX4 7 yX4_stepsHold wsX4_stepsHold) := goodIn_app (goodIn_of _ (by decide +kernel)) ggX4_holdsAt_X4_stepsHold
set_option maxRecDepth 20000 in
theorem ggX4_holdsAt_X0_opposite : GoodIn wsX4_holdsAt wsX0_opposite := goodIn_r _ [24, 11] (by decide +kernel) (by decide +kernel)
set_option maxRecDepth 20000 in
theorem gX4_holdsAt_X0_opposite : GoodIn wsX4_holdsAt (va_wsS RX4 13 yX0_opposite wsX0_opposite) := goodIn_app (goodIn_of _ (by decide +kernel)) ggX4_holdsAt_X0_opposite
set_option maxRecDepth 20000 in
theorem ggX4_holdsAt_X4_unitHolds : GoodIn wsX4_holdsAt wsX4_unitHolds := goodIn_r _ [36, 5, 37, 38, 8, 39, 10, 40, 41, 42, 43, 44, 45, 46, 47, 48, 49, 50, 51, 52, 53, 54, 55, 56, 57, 58, 59, 60, 61, 62, 63, 64, 31, 65, 66, 67, 68, 69, 70, 71, 72, 73, 74, 75, 6, 7, 9, 11, 12, 13, 14, 15, 16, 17, 33, 23, 24, 76, 77, 78, 79, 80, 81, 82, 83, 84, 85, 86, 87, 88, 89] (by decide +kernel) (by decide +kernel)
set_option maxRecDepth 20000 in
theorem gX4_holdsAt_X4_unitHolds : GoodIn wsX4_holdsAt (va_wsS RX4 19 yX4_unitHolds wsX4_unitHolds) := goodIn_app (goodIn_of _ (by decide +kernel)) ggX4_holdsAt_X4_unitHolds
set_option maxRecDepth 20000 in
theorem ggX4_holdsAt_X4_powersHold : GoodIn wsX4_holdsAt wsX4_powersHold := goodIn_r _ [92, 93, 94, 8, 95, 43, 44, 45, 46, 74, 41, 42, 10, 96, 97, 98, 11, 99, 40, 100, 86, 87, 88, 89, 54, 55, 56, 47, 48, 49, 50, 51, 52, 53, 60, 61, 62, 63, 64, 31, 65, 66, 67, 68, 69, 70, 71, 72, 73, 75, 101, 102, 103, 104, 58, 59, 105, 106, 107, 108, 109, 110, 111, 112, 113, 26, 27, 28, 12, 13, 14, 29, 30, 32] (by decide +kernel) (by decide +kernel)
set_option maxRecDepth 20000 in
theorem gX4_holdsAt_X4_powersHold : GoodIn wsX4_holdsAt (va_wsS RX4 22 yX4_powersHold wsX4_powersHold) := goodIn_app (goodIn_of _ (by decide +kernel)) ggX4_holdsAt_X4_powersHold
theorem dX4_holdsAt_0 : decode cX4_holdsAt 0 = .ok (.lload_n 0, 1) := by decide +kernel
theorem dX4_holdsAt_1 : decode cX4_holdsAt 1 = .ok (.invokestatic 7, 3) := by decide +kernel
theorem dX4_holdsAt_4 : decode cX4_holdsAt 4 = .ok (.ifCond .eq 31, 3) := by decide +kernel
theorem dX4_holdsAt_7 : decode cX4_holdsAt 7 = .ok (.lload_n 0, 1) := by decide +kernel
theorem dX4_holdsAt_8 : decode cX4_holdsAt 8 = .ok (.invokestatic 13, 3) := by decide +kernel
theorem dX4_holdsAt_11 : decode cX4_holdsAt 11 = .ok (.invokestatic 7, 3) := by decide +kernel
theorem dX4_holdsAt_14 : decode cX4_holdsAt 14 = .ok (.ifCond .eq 21, 3) := by decide +kernel
theorem dX4_holdsAt_17 : decode cX4_holdsAt 17 = .ok (.lload_n 0, 1) := by decide +kernel
theorem dX4_holdsAt_18 : decode cX4_holdsAt 18 = .ok (.invokestatic 19, 3) := by decide +kernel
theorem dX4_holdsAt_21 : decode cX4_holdsAt 21 = .ok (.ifCond .eq 14, 3) := by decide +kernel
theorem dX4_holdsAt_24 : decode cX4_holdsAt 24 = .ok (.lload_n 0, 1) := by decide +kernel
theorem dX4_holdsAt_25 : decode cX4_holdsAt 25 = .ok (.invokestatic 22, 3) := by decide +kernel
theorem dX4_holdsAt_28 : decode cX4_holdsAt 28 = .ok (.ifCond .eq 7, 3) := by decide +kernel
theorem dX4_holdsAt_31 : decode cX4_holdsAt 31 = .ok (.iconst 1, 1) := by decide +kernel
theorem dX4_holdsAt_32 : decode cX4_holdsAt 32 = .ok (.goto 4, 3) := by decide +kernel
theorem dX4_holdsAt_35 : decode cX4_holdsAt 35 = .ok (.iconst 0, 1) := by decide +kernel
theorem dX4_holdsAt_36 : decode cX4_holdsAt 36 = .ok (.ireturn, 1) := by decide +kernel
set_option maxRecDepth 20000 in
theorem ggX4_holdsBetween_X0_order : GoodIn wsX4_holdsBetween wsX0_order := goodIn_r _ [4, 5, 6, 3, 7, 8, 9, 10, 11, 12] (by decide +kernel) (by decide +kernel)
set_option maxRecDepth 20000 in
theorem gX4_holdsBetween_X0_order : GoodIn wsX4_holdsBetween (va_wsS RX4 25 yX0_order wsX0_order) := goodIn_app (goodIn_of _ (by decide +kernel)) ggX4_holdsBetween_X0_order
set_option maxRecDepth 20000 in
theorem ggX4_holdsBetween_X4_stepHolds : GoodIn wsX4_holdsBetween wsX4_stepHolds := goodIn_r _ [16, 17, 18, 3, 19, 20, 2, 4, 5, 6, 7, 8, 9, 10, 11, 12, 21, 22, 23, 24, 25, 26, 27, 28, 29, 30, 31, 32, 33, 1, 34, 35, 36] (by decide +kernel) (by decide +kernel)
set_option maxRecDepth 20000 in
theorem gX4_holdsBetween_X4_stepHolds : GoodIn wsX4_holdsBetween (va_wsS RX4 29 yX4_stepHolds wsX4_stepHolds) := goodIn_app (goodIn_of _ (by decide +kernel)) ggX4_holdsBetween_X4_stepHolds
theorem dX4_holdsBetween_0 : decode cX4_holdsBetween 0 = .ok (.lload_n 0, 1) := by decide +kernel
theorem dX4_holdsBetween_1 : decode cX4_holdsBetween 1 = .ok (.lload_n 2, 1) := by decide +kernel
theorem dX4_holdsBetween_2 : decode cX4_holdsBetween 2 = .ok (.invokestatic 25, 3) := by decide +kernel
theorem dX4_holdsBetween_5 : decode cX4_holdsBetween 5 = .ok (.lload_n 2, 1) := by decide +kernel
theorem dX4_holdsBetween_6 : decode cX4_holdsBetween 6 = .ok (.lload_n 0, 1) := by decide +kernel
theorem dX4_holdsBetween_7 : decode cX4_holdsBetween 7 = .ok (.invokestatic 25, 3) := by decide +kernel
theorem dX4_holdsBetween_10 : decode cX4_holdsBetween 10 = .ok (.ineg, 1) := by decide +kernel
theorem dX4_holdsBetween_11 : decode cX4_holdsBetween 11 = .ok (.if_icmp .ne 15, 3) := by decide +kernel
theorem dX4_holdsBetween_14 : decode cX4_holdsBetween 14 = .ok (.lload_n 0, 1) := by decide +kernel
theorem dX4_holdsBetween_15 : decode cX4_holdsBetween 15 = .ok (.lload_n 2, 1) := by decide +kernel
theorem dX4_holdsBetween_16 : decode cX4_holdsBetween 16 = .ok (.invokestatic 29, 3) := by decide +kernel
theorem dX4_holdsBetween_19 : decode cX4_holdsBetween 19 = .ok (.ifCond .eq 7, 3) := by decide +kernel
theorem dX4_holdsBetween_22 : decode cX4_holdsBetween 22 = .ok (.iconst 1, 1) := by decide +kernel
theorem dX4_holdsBetween_23 : decode cX4_holdsBetween 23 = .ok (.goto 4, 3) := by decide +kernel
theorem dX4_holdsBetween_26 : decode cX4_holdsBetween 26 = .ok (.iconst 0, 1) := by decide +kernel
theorem dX4_holdsBetween_27 : decode cX4_holdsBetween 27 = .ok (.ireturn, 1) := by decide +kernel
set_option maxRecDepth 20000 in
theorem ggX4_stepsHold_X0_raised : GoodIn wsX4_stepsHold wsX0_raised := goodIn_r _ [5, 6, 7, 8, 9, 4, 10, 11, 12, 13] (by decide +kernel) (by decide +kernel)
set_option maxRecDepth 20000 in
theorem gX4_stepsHold_X0_raised : GoodIn wsX4_stepsHold (va_wsS RX4 33 yX0_raised wsX0_raised) := goodIn_app (goodIn_of _ (by decide +kernel)) ggX4_stepsHold_X0_raised
set_option maxRecDepth 20000 in
theorem ggX4_stepsHold_X0_placeOf : GoodIn wsX4_stepsHold wsX0_placeOf := goodIn_r _ [10, 7] (by decide +kernel) (by decide +kernel)
set_option maxRecDepth 20000 in
theorem gX4_stepsHold_X0_placeOf : GoodIn wsX4_stepsHold (va_wsS RX4 39 yX0_placeOf wsX0_placeOf) := goodIn_app (goodIn_of _ (by decide +kernel)) ggX4_stepsHold_X0_placeOf
set_option maxRecDepth 20000 in
theorem ggX4_stepsHold_X0_lowered : GoodIn wsX4_stepsHold wsX0_lowered := goodIn_r _ [17, 18, 19, 4, 20, 7, 21, 3, 5, 6, 8, 9, 10, 11, 12, 13] (by decide +kernel) (by decide +kernel)
set_option maxRecDepth 20000 in
theorem gX4_stepsHold_X0_lowered : GoodIn wsX4_stepsHold (va_wsS RX4 42 yX0_lowered wsX0_lowered) := goodIn_app (goodIn_of _ (by decide +kernel)) ggX4_stepsHold_X0_lowered
set_option maxRecDepth 20000 in
theorem ggX4_stepsHold_X0_order : GoodIn wsX4_stepsHold wsX0_order := goodIn_r _ [24, 8, 9, 4, 10, 7, 25, 26, 27, 28] (by decide +kernel) (by decide +kernel)
set_option maxRecDepth 20000 in
theorem gX4_stepsHold_X0_order : GoodIn wsX4_stepsHold (va_wsS RX4 25 yX0_order wsX0_order) := goodIn_app (goodIn_of _ (by decide +kernel)) ggX4_stepsHold_X0_order
theorem dX4_stepsHold_0 : decode cX4_stepsHold 0 = .ok (.lload_n 0, 1) := by decide +kernel
theorem dX4_stepsHold_1 : decode cX4_stepsHold 1 = .ok (.iconst 1, 1) := by decide +kernel
theorem dX4_stepsHold_2 : decode cX4_stepsHold 2 = .ok (.invokestatic 33, 3) := by decide +kernel
theorem dX4_stepsHold_5 : decode cX4_stepsHold 5 = .ok (.lstore_n 2, 1) := by decide +kernel
theorem dX4_stepsHold_6 : decode cX4_stepsHold 6 = .ok (.lload_n 0, 1) := by decide +kernel
theorem dX4_stepsHold_7 : decode cX4_stepsHold 7 = .ok (.ldc2_w 37, 3) := by decide +kernel
theorem dX4_stepsHold_10 : decode cX4_stepsHold 10 = .ok (.lcmp, 1) := by decide +kernel
theorem dX4_stepsHold_11 : decode cX4_stepsHold 11 = .ok (.ifCond .ne 15, 3) := by decide +kernel
theorem dX4_stepsHold_14 : decode cX4_stepsHold 14 = .ok (.lload_n 2, 1) := by decide +kernel
theorem dX4_stepsHold_15 : decode cX4_stepsHold 15 = .ok (.lload_n 0, 1) := by decide +kernel
theorem dX4_stepsHold_16 : decode cX4_stepsHold 16 = .ok (.lcmp, 1) := by decide +kernel
theorem dX4_stepsHold_17 : decode cX4_stepsHold 17 = .ok (.ifCond .ne 7, 3) := by decide +kernel
theorem dX4_stepsHold_20 : decode cX4_stepsHold 20 = .ok (.iconst 1, 1) := by decide +kernel
theorem dX4_stepsHold_21 : decode cX4_stepsHold 21 = .ok (.goto 4, 3) := by decide +kernel
theorem dX4_stepsHold_24 : decode cX4_stepsHold 24 = .ok (.iconst 0, 1) := by decide +kernel
theorem dX4_stepsHold_25 : decode cX4_stepsHold 25 = .ok (.ireturn, 1) := by decide +kernel
theorem dX4_stepsHold_26 : decode cX4_stepsHold 26 = .ok (.lload_n 2, 1) := by decide +kernel
theorem dX4_stepsHold_27 : decode cX4_stepsHold 27 = .ok (.invokestatic 39, 3) := by decide +kernel
theorem dX4_stepsHold_30 : decode cX4_stepsHold 30 = .ok (.lload_n 0, 1) := by decide +kernel
theorem dX4_stepsHold_31 : decode cX4_stepsHold 31 = .ok (.invokestatic 39, 3) := by decide +kernel
theorem dX4_stepsHold_34 : decode cX4_stepsHold 34 = .ok (.lconst 1, 1) := by decide +kernel
theorem dX4_stepsHold_35 : decode cX4_stepsHold 35 = .ok (.ladd, 1) := by decide +kernel
theorem dX4_stepsHold_36 : decode cX4_stepsHold 36 = .ok (.lcmp, 1) := by decide +kernel
theorem dX4_stepsHold_37 : decode cX4_stepsHold 37 = .ok (.ifCond .ne 19, 3) := by decide +kernel
theorem dX4_stepsHold_40 : decode cX4_stepsHold 40 = .ok (.lload_n 2, 1) := by decide +kernel
theorem dX4_stepsHold_41 : decode cX4_stepsHold 41 = .ok (.iconst 1, 1) := by decide +kernel
theorem dX4_stepsHold_42 : decode cX4_stepsHold 42 = .ok (.invokestatic 42, 3) := by decide +kernel
theorem dX4_stepsHold_45 : decode cX4_stepsHold 45 = .ok (.lload_n 0, 1) := by decide +kernel
theorem dX4_stepsHold_46 : decode cX4_stepsHold 46 = .ok (.invokestatic 25, 3) := by decide +kernel
theorem dX4_stepsHold_49 : decode cX4_stepsHold 49 = .ok (.ifCond .ne 7, 3) := by decide +kernel
theorem dX4_stepsHold_52 : decode cX4_stepsHold 52 = .ok (.iconst 1, 1) := by decide +kernel
theorem dX4_stepsHold_53 : decode cX4_stepsHold 53 = .ok (.goto 4, 3) := by decide +kernel
theorem dX4_stepsHold_56 : decode cX4_stepsHold 56 = .ok (.iconst 0, 1) := by decide +kernel
theorem dX4_stepsHold_57 : decode cX4_stepsHold 57 = .ok (.ireturn, 1) := by decide +kernel
set_option maxRecDepth 20000 in
theorem ggX4_unitHolds_X0_unitOf : GoodIn wsX4_unitHolds wsX0_unitOf := goodIn_r _ [5, 6, 7, 8, 4, 9, 10, 11, 12, 13, 14, 15, 16, 17, 18, 19, 20, 21, 22, 23, 24, 25, 26, 27, 28, 29, 30, 31, 32, 33, 34, 35, 36, 37, 38, 39, 40, 41] (by decide +kernel) (by decide +kernel)
set_option maxRecDepth 20000 in
theorem gX4_unitHolds_X0_unitOf : GoodIn wsX4_unitHolds (va_wsS RX4 45 yX0_unitOf wsX0_unitOf) := goodIn_app (goodIn_of _ (by decide +kernel)) ggX4_unitHolds_X0_unitOf
set_option maxRecDepth 20000 in
theorem ggX4_unitHolds_X0_hasNoEnd : GoodIn wsX4_unitHolds wsX0_hasNoEnd := goodIn_r _ [9, 6, 10, 11, 4, 12, 13] (by decide +kernel) (by decide +kernel)
set_option maxRecDepth 20000 in
theorem gX4_unitHolds_X0_hasNoEnd : GoodIn wsX4_unitHolds (va_wsS RX4 48 yX0_hasNoEnd wsX0_hasNoEnd) := goodIn_app (goodIn_of _ (by decide +kernel)) ggX4_unitHolds_X0_hasNoEnd
set_option maxRecDepth 20000 in
theorem ggX4_unitHolds_X0_sizeOf : GoodIn wsX4_unitHolds wsX0_sizeOf := goodIn_r _ [12, 13] (by decide +kernel) (by decide +kernel)
set_option maxRecDepth 20000 in
theorem gX4_unitHolds_X0_sizeOf : GoodIn wsX4_unitHolds (va_wsS RX4 51 yX0_sizeOf wsX0_sizeOf) := goodIn_app (goodIn_of _ (by decide +kernel)) ggX4_unitHolds_X0_sizeOf
set_option maxRecDepth 20000 in
theorem ggX4_unitHolds_X0_raised : GoodIn wsX4_unitHolds wsX0_raised := goodIn_r _ [46, 6, 47, 48, 49, 4, 50, 51, 52, 53] (by decide +kernel) (by decide +kernel)
set_option maxRecDepth 20000 in
theorem gX4_unitHolds_X0_raised : GoodIn wsX4_unitHolds (va_wsS RX4 33 yX0_raised wsX0_raised) := goodIn_app (goodIn_of _ (by decide +kernel)) ggX4_unitHolds_X0_raised
set_option maxRecDepth 20000 in
theorem ggX4_unitHolds_X0_opposite : GoodIn wsX4_unitHolds wsX0_opposite := goodIn_r _ [56, 47] (by decide +kernel) (by decide +kernel)
set_option maxRecDepth 20000 in
theorem gX4_unitHolds_X0_opposite : GoodIn wsX4_unitHolds (va_wsS RX4 13 yX0_opposite wsX0_opposite) := goodIn_app (goodIn_of _ (by decide +kernel)) ggX4_unitHolds_X0_opposite
set_option maxRecDepth 20000 in
theorem ggX4_unitHolds_X1_signOfSum : GoodIn wsX4_unitHolds wsX1_signOfSum := goodIn_r _ [60, 61, 62, 63, 59, 64, 65, 15, 4, 16, 17, 18, 19, 20, 21, 22, 23, 66, 67, 68, 69, 70] (by decide +kernel) (by decide +kernel)
set_option maxRecDepth 20000 in
theorem gX4_unitHolds_X1_signOfSum : GoodIn wsX4_unitHolds (va_wsS RX4 54 yX1_signOfSum wsX1_signOfSum) := goodIn_app (goodIn_of _ (by decide +kernel)) ggX4_unitHolds_X1_signOfSum
theorem dX4_unitHolds_0 : decode cX4_unitHolds 0 = .ok (.lload_n 0, 1) := by decide +kernel
theorem dX4_unitHolds_1 : decode cX4_unitHolds 1 = .ok (.invokestatic 45, 3) := by decide +kernel
theorem dX4_unitHolds_4 : decode cX4_unitHolds 4 = .ok (.lstore_n 2, 1) := by decide +kernel
theorem dX4_unitHolds_5 : decode cX4_unitHolds 5 = .ok (.lload_n 0, 1) := by decide +kernel
theorem dX4_unitHolds_6 : decode cX4_unitHolds 6 = .ok (.invokestatic 48, 3) := by decide +kernel
theorem dX4_unitHolds_9 : decode cX4_unitHolds 9 = .ok (.ifCond .eq 17, 3) := by decide +kernel
theorem dX4_unitHolds_12 : decode cX4_unitHolds 12 = .ok (.lload_n 2, 1) := by decide +kernel
theorem dX4_unitHolds_13 : decode cX4_unitHolds 13 = .ok (.ldc2_w 37, 3) := by decide +kernel
theorem dX4_unitHolds_16 : decode cX4_unitHolds 16 = .ok (.lcmp, 1) := by decide +kernel
theorem dX4_unitHolds_17 : decode cX4_unitHolds 17 = .ok (.ifCond .ne 7, 3) := by decide +kernel
theorem dX4_unitHolds_20 : decode cX4_unitHolds 20 = .ok (.iconst 1, 1) := by decide +kernel
theorem dX4_unitHolds_21 : decode cX4_unitHolds 21 = .ok (.goto 4, 3) := by decide +kernel
theorem dX4_unitHolds_24 : decode cX4_unitHolds 24 = .ok (.iconst 0, 1) := by decide +kernel
theorem dX4_unitHolds_25 : decode cX4_unitHolds 25 = .ok (.ireturn, 1) := by decide +kernel
theorem dX4_unitHolds_26 : decode cX4_unitHolds 26 = .ok (.lload_n 0, 1) := by decide +kernel
theorem dX4_unitHolds_27 : decode cX4_unitHolds 27 = .ok (.invokestatic 51, 3) := by decide +kernel
theorem dX4_unitHolds_30 : decode cX4_unitHolds 30 = .ok (.lstore 4, 2) := by decide +kernel
theorem dX4_unitHolds_32 : decode cX4_unitHolds 32 = .ok (.lload 4, 2) := by decide +kernel
theorem dX4_unitHolds_34 : decode cX4_unitHolds 34 = .ok (.iconst 1, 1) := by decide +kernel
theorem dX4_unitHolds_35 : decode cX4_unitHolds 35 = .ok (.invokestatic 33, 3) := by decide +kernel
theorem dX4_unitHolds_38 : decode cX4_unitHolds 38 = .ok (.lstore 6, 2) := by decide +kernel
theorem dX4_unitHolds_40 : decode cX4_unitHolds 40 = .ok (.lload 6, 2) := by decide +kernel
theorem dX4_unitHolds_42 : decode cX4_unitHolds 42 = .ok (.invokestatic 48, 3) := by decide +kernel
theorem dX4_unitHolds_45 : decode cX4_unitHolds 45 = .ok (.ifCond .ne 21, 3) := by decide +kernel
theorem dX4_unitHolds_48 : decode cX4_unitHolds 48 = .ok (.lload 6, 2) := by decide +kernel
theorem dX4_unitHolds_50 : decode cX4_unitHolds 50 = .ok (.lload 4, 2) := by decide +kernel
theorem dX4_unitHolds_52 : decode cX4_unitHolds 52 = .ok (.invokestatic 13, 3) := by decide +kernel
theorem dX4_unitHolds_55 : decode cX4_unitHolds 55 = .ok (.lload_n 2, 1) := by decide +kernel
theorem dX4_unitHolds_56 : decode cX4_unitHolds 56 = .ok (.invokestatic 13, 3) := by decide +kernel
theorem dX4_unitHolds_59 : decode cX4_unitHolds 59 = .ok (.lconst 0, 1) := by decide +kernel
theorem dX4_unitHolds_60 : decode cX4_unitHolds 60 = .ok (.invokestatic 54, 3) := by decide +kernel
theorem dX4_unitHolds_63 : decode cX4_unitHolds 63 = .ok (.ifCond .ne 7, 3) := by decide +kernel
theorem dX4_unitHolds_66 : decode cX4_unitHolds 66 = .ok (.iconst 1, 1) := by decide +kernel
theorem dX4_unitHolds_67 : decode cX4_unitHolds 67 = .ok (.goto 4, 3) := by decide +kernel
theorem dX4_unitHolds_70 : decode cX4_unitHolds 70 = .ok (.iconst 0, 1) := by decide +kernel
theorem dX4_unitHolds_71 : decode cX4_unitHolds 71 = .ok (.ireturn, 1) := by decide +kernel
set_option maxRecDepth 20000 in
theorem ggX4_powersHold_X0_isZero : GoodIn wsX4_powersHold wsX0_isZero := goodIn_r _ [4, 5, 6, 3, 7, 8] (by decide +kernel) (by decide +kernel)
set_option maxRecDepth 20000 in
theorem gX4_powersHold_X0_isZero : GoodIn wsX4_powersHold (va_wsS RX4 60 yX0_isZero wsX0_isZero) := goodIn_app (goodIn_of _ (by decide +kernel)) ggX4_powersHold_X0_isZero
set_option maxRecDepth 20000 in
theorem ggX4_powersHold_X0_hasNoEnd : GoodIn wsX4_powersHold wsX0_hasNoEnd := goodIn_r _ [11, 12, 5, 6, 3, 7, 8] (by decide +kernel) (by decide +kernel)
set_option maxRecDepth 20000 in
theorem gX4_powersHold_X0_hasNoEnd : GoodIn wsX4_powersHold (va_wsS RX4 48 yX0_hasNoEnd wsX0_hasNoEnd) := goodIn_app (goodIn_of _ (by decide +kernel)) ggX4_powersHold_X0_hasNoEnd
set_option maxRecDepth 20000 in
theorem ggX4_powersHold_X0_scaled : GoodIn wsX4_powersHold wsX0_scaled := goodIn_r _ [15, 16, 17, 2, 3, 4, 5, 6, 7, 8, 18, 10, 11, 12, 19, 20, 21, 22, 23, 24, 25, 26, 27, 28, 29, 30, 31, 32, 33, 34, 35, 36, 37, 38, 39, 40, 41, 42, 43, 44, 45, 46, 47, 48] (by decide +kernel) (by decide +kernel)
set_option maxRecDepth 20000 in
theorem gX4_powersHold_X0_scaled : GoodIn wsX4_powersHold (va_wsS RX4 63 yX0_scaled wsX0_scaled) := goodIn_app (goodIn_of _ (by decide +kernel)) ggX4_powersHold_X0_scaled
set_option maxRecDepth 20000 in
theorem ggX4_powersHold_X0_sizeOf : GoodIn wsX4_powersHold wsX0_sizeOf := goodIn_r _ [7, 8] (by decide +kernel) (by decide +kernel)
set_option maxRecDepth 20000 in
theorem gX4_powersHold_X0_sizeOf : GoodIn wsX4_powersHold (va_wsS RX4 51 yX0_sizeOf wsX0_sizeOf) := goodIn_app (goodIn_of _ (by decide +kernel)) ggX4_powersHold_X0_sizeOf
set_option maxRecDepth 20000 in
theorem ggX4_powersHold_X0_leadOf : GoodIn wsX4_powersHold wsX0_leadOf := goodIn_r _ [52, 19, 20, 3, 21, 22, 23, 24, 25, 26, 37, 38, 39, 40, 41, 42, 43, 44, 45, 27, 28, 29, 30, 31, 32, 33] (by decide +kernel) (by decide +kernel)
set_option maxRecDepth 20000 in
theorem gX4_powersHold_X0_leadOf : GoodIn wsX4_powersHold (va_wsS RX4 66 yX0_leadOf wsX0_leadOf) := goodIn_app (goodIn_of _ (by decide +kernel)) ggX4_powersHold_X0_leadOf
set_option maxRecDepth 20000 in
theorem ggX4_powersHold_X0_powerOfTwo : GoodIn wsX4_powersHold wsX0_powerOfTwo := goodIn_r _ [55, 34, 35, 3, 36, 12, 37, 38, 39, 40, 41, 42, 43, 44, 45, 46, 47, 48] (by decide +kernel) (by decide +kernel)
set_option maxRecDepth 20000 in
theorem gX4_powersHold_X0_powerOfTwo : GoodIn wsX4_powersHold (va_wsS RX4 70 yX0_powerOfTwo wsX0_powerOfTwo) := goodIn_app (goodIn_of _ (by decide +kernel)) ggX4_powersHold_X0_powerOfTwo
set_option maxRecDepth 20000 in
theorem ggX4_powersHold_X0_tailOf : GoodIn wsX4_powersHold wsX0_tailOf := goodIn_r _ [58, 19, 20, 3, 21, 22, 23, 24, 25, 26, 59, 60, 39, 61, 62, 63, 43, 64, 45, 27, 28, 29, 30, 31, 32, 33] (by decide +kernel) (by decide +kernel)
set_option maxRecDepth 20000 in
theorem gX4_powersHold_X0_tailOf : GoodIn wsX4_powersHold (va_wsS RX4 74 yX0_tailOf wsX0_tailOf) := goodIn_app (goodIn_of _ (by decide +kernel)) ggX4_powersHold_X0_tailOf
set_option maxRecDepth 20000 in
theorem ggX4_powersHold_X0_order : GoodIn wsX4_powersHold wsX0_order := goodIn_r _ [67, 68, 69, 3, 70, 16, 71, 72, 39, 73] (by decide +kernel) (by decide +kernel)
set_option maxRecDepth 20000 in
theorem gX4_powersHold_X0_order : GoodIn wsX4_powersHold (va_wsS RX4 25 yX0_order wsX0_order) := goodIn_app (goodIn_of _ (by decide +kernel)) ggX4_powersHold_X0_order
theorem dX4_powersHold_0 : decode cX4_powersHold 0 = .ok (.lload_n 0, 1) := by decide +kernel
theorem dX4_powersHold_1 : decode cX4_powersHold 1 = .ok (.invokestatic 60, 3) := by decide +kernel
theorem dX4_powersHold_4 : decode cX4_powersHold 4 = .ok (.ifCond .ne 10, 3) := by decide +kernel
theorem dX4_powersHold_7 : decode cX4_powersHold 7 = .ok (.lload_n 0, 1) := by decide +kernel
theorem dX4_powersHold_8 : decode cX4_powersHold 8 = .ok (.invokestatic 48, 3) := by decide +kernel
theorem dX4_powersHold_11 : decode cX4_powersHold 11 = .ok (.ifCond .eq 19, 3) := by decide +kernel
theorem dX4_powersHold_14 : decode cX4_powersHold 14 = .ok (.lload_n 0, 1) := by decide +kernel
theorem dX4_powersHold_15 : decode cX4_powersHold 15 = .ok (.iconst 1, 1) := by decide +kernel
theorem dX4_powersHold_16 : decode cX4_powersHold 16 = .ok (.invokestatic 63, 3) := by decide +kernel
theorem dX4_powersHold_19 : decode cX4_powersHold 19 = .ok (.lload_n 0, 1) := by decide +kernel
theorem dX4_powersHold_20 : decode cX4_powersHold 20 = .ok (.lcmp, 1) := by decide +kernel
theorem dX4_powersHold_21 : decode cX4_powersHold 21 = .ok (.ifCond .ne 7, 3) := by decide +kernel
theorem dX4_powersHold_24 : decode cX4_powersHold 24 = .ok (.iconst 1, 1) := by decide +kernel
theorem dX4_powersHold_25 : decode cX4_powersHold 25 = .ok (.goto 4, 3) := by decide +kernel
theorem dX4_powersHold_28 : decode cX4_powersHold 28 = .ok (.iconst 0, 1) := by decide +kernel
theorem dX4_powersHold_29 : decode cX4_powersHold 29 = .ok (.ireturn, 1) := by decide +kernel
theorem dX4_powersHold_30 : decode cX4_powersHold 30 = .ok (.lload_n 0, 1) := by decide +kernel
theorem dX4_powersHold_31 : decode cX4_powersHold 31 = .ok (.invokestatic 51, 3) := by decide +kernel
theorem dX4_powersHold_34 : decode cX4_powersHold 34 = .ok (.lstore_n 2, 1) := by decide +kernel
theorem dX4_powersHold_35 : decode cX4_powersHold 35 = .ok (.lload_n 0, 1) := by decide +kernel
theorem dX4_powersHold_36 : decode cX4_powersHold 36 = .ok (.invokestatic 66, 3) := by decide +kernel
theorem dX4_powersHold_39 : decode cX4_powersHold 39 = .ok (.invokestatic 70, 3) := by decide +kernel
theorem dX4_powersHold_42 : decode cX4_powersHold 42 = .ok (.lstore 4, 2) := by decide +kernel
theorem dX4_powersHold_44 : decode cX4_powersHold 44 = .ok (.lload_n 0, 1) := by decide +kernel
theorem dX4_powersHold_45 : decode cX4_powersHold 45 = .ok (.iconst 1, 1) := by decide +kernel
theorem dX4_powersHold_46 : decode cX4_powersHold 46 = .ok (.invokestatic 63, 3) := by decide +kernel
theorem dX4_powersHold_49 : decode cX4_powersHold 49 = .ok (.lstore 6, 2) := by decide +kernel
theorem dX4_powersHold_51 : decode cX4_powersHold 51 = .ok (.lload_n 0, 1) := by decide +kernel
theorem dX4_powersHold_52 : decode cX4_powersHold 52 = .ok (.invokestatic 74, 3) := by decide +kernel
theorem dX4_powersHold_55 : decode cX4_powersHold 55 = .ok (.lload_n 0, 1) := by decide +kernel
theorem dX4_powersHold_56 : decode cX4_powersHold 56 = .ok (.invokestatic 66, 3) := by decide +kernel
theorem dX4_powersHold_59 : decode cX4_powersHold 59 = .ok (.if_icmp .gt 48, 3) := by decide +kernel
theorem dX4_powersHold_62 : decode cX4_powersHold 62 = .ok (.lload 4, 2) := by decide +kernel
theorem dX4_powersHold_64 : decode cX4_powersHold 64 = .ok (.lload_n 2, 1) := by decide +kernel
theorem dX4_powersHold_65 : decode cX4_powersHold 65 = .ok (.invokestatic 25, 3) := by decide +kernel
theorem dX4_powersHold_68 : decode cX4_powersHold 68 = .ok (.ifCond .gt 39, 3) := by decide +kernel
theorem dX4_powersHold_71 : decode cX4_powersHold 71 = .ok (.lload_n 2, 1) := by decide +kernel
theorem dX4_powersHold_72 : decode cX4_powersHold 72 = .ok (.lload 4, 2) := by decide +kernel
theorem dX4_powersHold_74 : decode cX4_powersHold 74 = .ok (.iconst 1, 1) := by decide +kernel
theorem dX4_powersHold_75 : decode cX4_powersHold 75 = .ok (.invokestatic 63, 3) := by decide +kernel
theorem dX4_powersHold_78 : decode cX4_powersHold 78 = .ok (.invokestatic 25, 3) := by decide +kernel
theorem dX4_powersHold_81 : decode cX4_powersHold 81 = .ok (.ifCond .ge 26, 3) := by decide +kernel
theorem dX4_powersHold_84 : decode cX4_powersHold 84 = .ok (.lload 6, 2) := by decide +kernel
theorem dX4_powersHold_86 : decode cX4_powersHold 86 = .ok (.invokestatic 48, 3) := by decide +kernel
theorem dX4_powersHold_89 : decode cX4_powersHold 89 = .ok (.ifCond .ne 14, 3) := by decide +kernel
theorem dX4_powersHold_92 : decode cX4_powersHold 92 = .ok (.lload 6, 2) := by decide +kernel
theorem dX4_powersHold_94 : decode cX4_powersHold 94 = .ok (.iconst (-1), 1) := by decide +kernel
theorem dX4_powersHold_95 : decode cX4_powersHold 95 = .ok (.invokestatic 63, 3) := by decide +kernel
theorem dX4_powersHold_98 : decode cX4_powersHold 98 = .ok (.lload_n 0, 1) := by decide +kernel
theorem dX4_powersHold_99 : decode cX4_powersHold 99 = .ok (.lcmp, 1) := by decide +kernel
theorem dX4_powersHold_100 : decode cX4_powersHold 100 = .ok (.ifCond .ne 7, 3) := by decide +kernel
theorem dX4_powersHold_103 : decode cX4_powersHold 103 = .ok (.iconst 1, 1) := by decide +kernel
theorem dX4_powersHold_104 : decode cX4_powersHold 104 = .ok (.goto 4, 3) := by decide +kernel
theorem dX4_powersHold_107 : decode cX4_powersHold 107 = .ok (.iconst 0, 1) := by decide +kernel
theorem dX4_powersHold_108 : decode cX4_powersHold 108 = .ok (.ireturn, 1) := by decide +kernel
set_option maxRecDepth 20000 in
theorem ggX4_stepHolds_X0_nearer : GoodIn wsX4_stepHolds wsX0_nearer := goodIn_r _ [4, 5, 6, 3, 7, 8, 9, 10, 11, 12, 13, 14, 15, 16, 17, 18, 19, 20, 21, 22, 23, 24, 25, 26, 27, 28] (by decide +kernel) (by decide +kernel)
set_option maxRecDepth 20000 in
theorem gX4_stepHolds_X0_nearer : GoodIn wsX4_stepHolds (va_wsS RX4 77 yX0_nearer wsX0_nearer) := goodIn_app (goodIn_of _ (by decide +kernel)) ggX4_stepHolds_X0_nearer
set_option maxRecDepth 20000 in
theorem ggX4_stepHolds_X0_order : GoodIn wsX4_stepHolds wsX0_order := goodIn_r _ [7, 8, 9, 3, 10, 11, 12, 13, 14, 15] (by decide +kernel) (by decide +kernel)
set_option maxRecDepth 20000 in
theorem gX4_stepHolds_X0_order : GoodIn wsX4_stepHolds (va_wsS RX4 25 yX0_order wsX0_order) := goodIn_app (goodIn_of _ (by decide +kernel)) ggX4_stepHolds_X0_order
set_option maxRecDepth 20000 in
theorem ggX4_stepHolds_X0_distance : GoodIn wsX4_stepHolds wsX0_distance := goodIn_r _ [32, 8, 9, 3, 10, 11, 5, 6, 7, 12, 13, 14, 15] (by decide +kernel) (by decide +kernel)
set_option maxRecDepth 20000 in
theorem gX4_stepHolds_X0_distance : GoodIn wsX4_stepHolds (va_wsS RX4 81 yX0_distance wsX0_distance) := goodIn_app (goodIn_of _ (by decide +kernel)) ggX4_stepHolds_X0_distance
theorem dX4_stepHolds_0 : decode cX4_stepHolds 0 = .ok (.lload_n 0, 1) := by decide +kernel
theorem dX4_stepHolds_1 : decode cX4_stepHolds 1 = .ok (.lload_n 2, 1) := by decide +kernel
theorem dX4_stepHolds_2 : decode cX4_stepHolds 2 = .ok (.invokestatic 77, 3) := by decide +kernel
theorem dX4_stepHolds_5 : decode cX4_stepHolds 5 = .ok (.lstore 4, 2) := by decide +kernel
theorem dX4_stepHolds_7 : decode cX4_stepHolds 7 = .ok (.lload_n 0, 1) := by decide +kernel
theorem dX4_stepHolds_8 : decode cX4_stepHolds 8 = .ok (.lload_n 2, 1) := by decide +kernel
theorem dX4_stepHolds_9 : decode cX4_stepHolds 9 = .ok (.invokestatic 25, 3) := by decide +kernel
theorem dX4_stepHolds_12 : decode cX4_stepHolds 12 = .ok (.ifCond .ne 16, 3) := by decide +kernel
theorem dX4_stepHolds_15 : decode cX4_stepHolds 15 = .ok (.lload 4, 2) := by decide +kernel
theorem dX4_stepHolds_17 : decode cX4_stepHolds 17 = .ok (.lload_n 2, 1) := by decide +kernel
theorem dX4_stepHolds_18 : decode cX4_stepHolds 18 = .ok (.lcmp, 1) := by decide +kernel
theorem dX4_stepHolds_19 : decode cX4_stepHolds 19 = .ok (.ifCond .ne 7, 3) := by decide +kernel
theorem dX4_stepHolds_22 : decode cX4_stepHolds 22 = .ok (.iconst 1, 1) := by decide +kernel
theorem dX4_stepHolds_23 : decode cX4_stepHolds 23 = .ok (.goto 4, 3) := by decide +kernel
theorem dX4_stepHolds_26 : decode cX4_stepHolds 26 = .ok (.iconst 0, 1) := by decide +kernel
theorem dX4_stepHolds_27 : decode cX4_stepHolds 27 = .ok (.ireturn, 1) := by decide +kernel
theorem dX4_stepHolds_28 : decode cX4_stepHolds 28 = .ok (.lload 4, 2) := by decide +kernel
theorem dX4_stepHolds_30 : decode cX4_stepHolds 30 = .ok (.lload_n 2, 1) := by decide +kernel
theorem dX4_stepHolds_31 : decode cX4_stepHolds 31 = .ok (.invokestatic 81, 3) := by decide +kernel
theorem dX4_stepHolds_34 : decode cX4_stepHolds 34 = .ok (.lload_n 0, 1) := by decide +kernel
theorem dX4_stepHolds_35 : decode cX4_stepHolds 35 = .ok (.lload_n 2, 1) := by decide +kernel
theorem dX4_stepHolds_36 : decode cX4_stepHolds 36 = .ok (.invokestatic 81, 3) := by decide +kernel
theorem dX4_stepHolds_39 : decode cX4_stepHolds 39 = .ok (.lconst 1, 1) := by decide +kernel
theorem dX4_stepHolds_40 : decode cX4_stepHolds 40 = .ok (.lsub, 1) := by decide +kernel
theorem dX4_stepHolds_41 : decode cX4_stepHolds 41 = .ok (.lcmp, 1) := by decide +kernel
theorem dX4_stepHolds_42 : decode cX4_stepHolds 42 = .ok (.ifCond .ne 7, 3) := by decide +kernel
theorem dX4_stepHolds_45 : decode cX4_stepHolds 45 = .ok (.iconst 1, 1) := by decide +kernel
theorem dX4_stepHolds_46 : decode cX4_stepHolds 46 = .ok (.goto 4, 3) := by decide +kernel
theorem dX4_stepHolds_49 : decode cX4_stepHolds 49 = .ok (.iconst 0, 1) := by decide +kernel
theorem dX4_stepHolds_50 : decode cX4_stepHolds 50 = .ok (.ireturn, 1) := by decide +kernel
