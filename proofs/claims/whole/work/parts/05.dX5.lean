set_option maxRecDepth 20000 in
theorem ggX5_init_X3_init : GoodIn wsX5_init wsX3_init := goodIn_r _ [16, 17, 2, 3, 18, 19, 20, 21, 22, 34, 35, 36] (by decide +kernel) (by decide +kernel)
set_option maxRecDepth 20000 in
theorem gX5_init_X3_init : GoodIn wsX5_init (wsX3_init) := ggX5_init_X3_init
set_option maxRecDepth 20000 in
theorem ggX5_init_X2_init : GoodIn wsX5_init wsX2_init := goodIn_r _ [25, 26, 2, 3, 20, 27, 4, 28, 29, 30, 37, 38, 39, 40] (by decide +kernel) (by decide +kernel)
set_option maxRecDepth 20000 in
theorem gX5_init_X2_init : GoodIn wsX5_init (wsX2_init) := ggX5_init_X2_init
theorem dX5_init_0 : decode cX5_init 0 = .ok (.aload_n 0, 1) := by decide +kernel
theorem dX5_init_1 : decode cX5_init 1 = .ok (.invokespecial 1, 3) := by decide +kernel
theorem dX5_init_4 : decode cX5_init 4 = .ok (.aload_n 0, 1) := by decide +kernel
theorem dX5_init_5 : decode cX5_init 5 = .ok (.bipush 8, 2) := by decide +kernel
theorem dX5_init_7 : decode cX5_init 7 = .ok (.newarray .long, 2) := by decide +kernel
theorem dX5_init_9 : decode cX5_init 9 = .ok (.putfield 9, 3) := by decide +kernel
theorem dX5_init_12 : decode cX5_init 12 = .ok (.aload_n 0, 1) := by decide +kernel
theorem dX5_init_13 : decode cX5_init 13 = .ok (.new 13, 3) := by decide +kernel
theorem dX5_init_16 : decode cX5_init 16 = .ok (.dup, 1) := by decide +kernel
theorem dX5_init_17 : decode cX5_init 17 = .ok (.invokespecial 15, 3) := by decide +kernel
theorem dX5_init_20 : decode cX5_init 20 = .ok (.putfield 16, 3) := by decide +kernel
theorem dX5_init_23 : decode cX5_init 23 = .ok (.aload_n 0, 1) := by decide +kernel
theorem dX5_init_24 : decode cX5_init 24 = .ok (.new 20, 3) := by decide +kernel
theorem dX5_init_27 : decode cX5_init 27 = .ok (.dup, 1) := by decide +kernel
theorem dX5_init_28 : decode cX5_init 28 = .ok (.invokespecial 22, 3) := by decide +kernel
theorem dX5_init_31 : decode cX5_init 31 = .ok (.putfield 23, 3) := by decide +kernel
theorem dX5_init_34 : decode cX5_init 34 = .ok (.return_, 1) := by decide +kernel
set_option maxRecDepth 20000 in
theorem ggX5_set_X5_checkSlot : GoodIn wsX5_set wsX5_checkSlot := goodIn_ca (goodIn_r _ [4, 5, 6] (by decide +kernel) (by decide +kernel)) (goodIn_sub (fun _ h => List.mem_cons_of_mem _ (List.mem_append_left _ (List.mem_append_left _ (List.mem_append_right _ h)))) (by decide +kernel))
set_option maxRecDepth 20000 in
theorem gX5_set_X5_checkSlot : GoodIn wsX5_set (va_wsS RX5 27 yX5_checkSlot wsX5_checkSlot) := goodIn_app (goodIn_of _ (by decide +kernel)) ggX5_set_X5_checkSlot
set_option maxRecDepth 20000 in
theorem ggX5_set_X5_checkRange : GoodIn wsX5_set wsX5_checkRange := goodIn_ca (goodIn_r _ [9, 10, 11] (by decide +kernel) (by decide +kernel)) (goodIn_sub (fun _ h => List.mem_cons_of_mem _ (List.mem_append_left _ (List.mem_append_right _ h))) (by decide +kernel))
set_option maxRecDepth 20000 in
theorem gX5_set_X5_checkRange : GoodIn wsX5_set (va_wsS RX5 31 yX5_checkRange wsX5_checkRange) := goodIn_app (goodIn_of _ (by decide +kernel)) ggX5_set_X5_checkRange
set_option maxRecDepth 20000 in
theorem ggX5_set_X0_handed : GoodIn wsX5_set wsX0_handed := goodIn_r _ [15, 16, 17, 18, 19, 20, 21, 14, 22, 23, 24, 25, 26, 27, 28, 29, 30, 31, 32, 33, 34, 35, 36, 37, 38, 39, 40, 41, 42] (by decide +kernel) (by decide +kernel)
set_option maxRecDepth 20000 in
theorem gX5_set_X0_handed : GoodIn wsX5_set (va_wsS RX5 35 yX0_handed wsX0_handed) := goodIn_app (goodIn_of _ (by decide +kernel)) ggX5_set_X0_handed
set_option maxRecDepth 20000 in
theorem ggX5_set_X5_become : GoodIn wsX5_set wsX5_become := goodIn_ca (goodIn_r _ [46, 47, 48, 49, 50, 51, 52, 53, 54, 55, 56, 57, 58, 59, 18, 60, 61, 62, 14, 63, 42, 64, 65, 66, 67, 68, 69, 70] (by decide +kernel) (by decide +kernel)) (goodIn_sub (fun _ h => List.mem_cons_of_mem _ (List.mem_append_right _ h)) (by decide +kernel))
set_option maxRecDepth 20000 in
theorem gX5_set_X5_become : GoodIn wsX5_set (wsV RX5 41 RX5 yX5_become wsX5_become) := goodIn_app (goodIn_of _ (by decide +kernel)) ggX5_set_X5_become
theorem dX5_set_0 : decode cX5_set 0 = .ok (.iload_n 1, 1) := by decide +kernel
theorem dX5_set_1 : decode cX5_set 1 = .ok (.invokestatic 27, 3) := by decide +kernel
theorem dX5_set_4 : decode cX5_set 4 = .ok (.iload_n 2, 1) := by decide +kernel
theorem dX5_set_5 : decode cX5_set 5 = .ok (.bipush (-128), 2) := by decide +kernel
theorem dX5_set_7 : decode cX5_set 7 = .ok (.bipush 127, 2) := by decide +kernel
theorem dX5_set_9 : decode cX5_set 9 = .ok (.invokestatic 31, 3) := by decide +kernel
theorem dX5_set_12 : decode cX5_set 12 = .ok (.iload_n 3, 1) := by decide +kernel
theorem dX5_set_13 : decode cX5_set 13 = .ok (.iconst 0, 1) := by decide +kernel
theorem dX5_set_14 : decode cX5_set 14 = .ok (.sipush 255, 3) := by decide +kernel
theorem dX5_set_17 : decode cX5_set 17 = .ok (.invokestatic 31, 3) := by decide +kernel
theorem dX5_set_20 : decode cX5_set 20 = .ok (.aload_n 0, 1) := by decide +kernel
theorem dX5_set_21 : decode cX5_set 21 = .ok (.iload_n 1, 1) := by decide +kernel
theorem dX5_set_22 : decode cX5_set 22 = .ok (.iload_n 2, 1) := by decide +kernel
theorem dX5_set_23 : decode cX5_set 23 = .ok (.iload_n 3, 1) := by decide +kernel
theorem dX5_set_24 : decode cX5_set 24 = .ok (.invokestatic 35, 3) := by decide +kernel
theorem dX5_set_27 : decode cX5_set 27 = .ok (.invokevirtual 41, 3) := by decide +kernel
theorem dX5_set_30 : decode cX5_set 30 = .ok (.lreturn, 1) := by decide +kernel
set_option maxRecDepth 20000 in
theorem ggX5_end_X5_checkSlot : GoodIn wsX5_end wsX5_checkSlot := goodIn_ca (goodIn_r _ [5, 6, 7] (by decide +kernel) (by decide +kernel)) (goodIn_sub (fun _ h => List.mem_cons_of_mem _ (List.mem_append_left _ (List.mem_append_right _ h))) (by decide +kernel))
set_option maxRecDepth 20000 in
theorem gX5_end_X5_checkSlot : GoodIn wsX5_end (va_wsS RX5 27 yX5_checkSlot wsX5_checkSlot) := goodIn_app (goodIn_of _ (by decide +kernel)) ggX5_end_X5_checkSlot
set_option maxRecDepth 20000 in
theorem ggX5_end_X0_opposite : GoodIn wsX5_end wsX0_opposite := goodIn_r _ [11, 12] (by decide +kernel) (by decide +kernel)
set_option maxRecDepth 20000 in
theorem gX5_end_X0_opposite : GoodIn wsX5_end (va_wsS RX5 47 yX0_opposite wsX0_opposite) := goodIn_app (goodIn_of _ (by decide +kernel)) ggX5_end_X0_opposite
set_option maxRecDepth 20000 in
theorem ggX5_end_X5_become : GoodIn wsX5_end wsX5_become := goodIn_ca (goodIn_r _ [16, 17, 18, 19, 20, 21, 22, 23, 24, 25, 26, 27, 28, 29, 30, 31, 32, 33, 10, 34, 12, 35, 36, 37, 38, 39, 40, 41] (by decide +kernel) (by decide +kernel)) (goodIn_sub (fun _ h => List.mem_cons_of_mem _ (List.mem_append_right _ h)) (by decide +kernel))
set_option maxRecDepth 20000 in
theorem gX5_end_X5_become : GoodIn wsX5_end (wsV RX5 41 RX5 yX5_become wsX5_become) := goodIn_app (goodIn_of _ (by decide +kernel)) ggX5_end_X5_become
theorem dX5_end_0 : decode cX5_end 0 = .ok (.iload_n 1, 1) := by decide +kernel
theorem dX5_end_1 : decode cX5_end 1 = .ok (.invokestatic 27, 3) := by decide +kernel
theorem dX5_end_4 : decode cX5_end 4 = .ok (.aload_n 0, 1) := by decide +kernel
theorem dX5_end_5 : decode cX5_end 5 = .ok (.iload_n 1, 1) := by decide +kernel
theorem dX5_end_6 : decode cX5_end 6 = .ok (.iload_n 2, 1) := by decide +kernel
theorem dX5_end_7 : decode cX5_end 7 = .ok (.ifCond .eq 9, 3) := by decide +kernel
theorem dX5_end_10 : decode cX5_end 10 = .ok (.ldc2_w 45, 3) := by decide +kernel
theorem dX5_end_13 : decode cX5_end 13 = .ok (.goto 9, 3) := by decide +kernel
theorem dX5_end_16 : decode cX5_end 16 = .ok (.ldc2_w 45, 3) := by decide +kernel
theorem dX5_end_19 : decode cX5_end 19 = .ok (.invokestatic 47, 3) := by decide +kernel
theorem dX5_end_22 : decode cX5_end 22 = .ok (.invokevirtual 41, 3) := by decide +kernel
theorem dX5_end_25 : decode cX5_end 25 = .ok (.lreturn, 1) := by decide +kernel
set_option maxRecDepth 20000 in
theorem ggX5_copy_X5_checkSlot : GoodIn wsX5_copy wsX5_checkSlot := goodIn_ca (goodIn_r _ [5, 6, 7] (by decide +kernel) (by decide +kernel)) (goodIn_sub (fun _ h => List.mem_cons_of_mem _ (List.mem_append_right _ h)) (by decide +kernel))
set_option maxRecDepth 20000 in
theorem gX5_copy_X5_checkSlot : GoodIn wsX5_copy (va_wsS RX5 27 yX5_checkSlot wsX5_checkSlot) := goodIn_app (goodIn_of _ (by decide +kernel)) ggX5_copy_X5_checkSlot
set_option maxRecDepth 20000 in
theorem ggX5_copy_X5_become : GoodIn wsX5_copy wsX5_become := goodIn_ca (goodIn_r _ [11, 12, 1, 13, 14, 15, 16, 17, 18, 19, 20, 21, 22, 23, 24, 25, 26, 27, 28, 29, 30, 31, 32, 33, 34, 35, 36, 37] (by decide +kernel) (by decide +kernel)) (goodIn_sub (fun _ h => List.mem_cons_of_mem _ (List.mem_append_left _ (List.mem_append_right _ h))) (by decide +kernel))
set_option maxRecDepth 20000 in
theorem gX5_copy_X5_become : GoodIn wsX5_copy (wsV RX5 41 RX5 yX5_become wsX5_become) := goodIn_app (goodIn_of _ (by decide +kernel)) ggX5_copy_X5_become
theorem dX5_copy_0 : decode cX5_copy 0 = .ok (.iload_n 1, 1) := by decide +kernel
theorem dX5_copy_1 : decode cX5_copy 1 = .ok (.invokestatic 27, 3) := by decide +kernel
theorem dX5_copy_4 : decode cX5_copy 4 = .ok (.iload_n 2, 1) := by decide +kernel
theorem dX5_copy_5 : decode cX5_copy 5 = .ok (.invokestatic 27, 3) := by decide +kernel
theorem dX5_copy_8 : decode cX5_copy 8 = .ok (.aload_n 0, 1) := by decide +kernel
theorem dX5_copy_9 : decode cX5_copy 9 = .ok (.iload_n 2, 1) := by decide +kernel
theorem dX5_copy_10 : decode cX5_copy 10 = .ok (.aload_n 0, 1) := by decide +kernel
theorem dX5_copy_11 : decode cX5_copy 11 = .ok (.getfield 9, 3) := by decide +kernel
theorem dX5_copy_14 : decode cX5_copy 14 = .ok (.iload_n 1, 1) := by decide +kernel
theorem dX5_copy_15 : decode cX5_copy 15 = .ok (.laload, 1) := by decide +kernel
theorem dX5_copy_16 : decode cX5_copy 16 = .ok (.invokevirtual 41, 3) := by decide +kernel
theorem dX5_copy_19 : decode cX5_copy 19 = .ok (.lreturn, 1) := by decide +kernel
set_option maxRecDepth 20000 in
theorem ggX5_negate_X5_checkSlot : GoodIn wsX5_negate wsX5_checkSlot := goodIn_ca (goodIn_r _ [5, 6, 7] (by decide +kernel) (by decide +kernel)) (goodIn_sub (fun _ h => List.mem_cons_of_mem _ (List.mem_append_right _ h)) (by decide +kernel))
set_option maxRecDepth 20000 in
theorem gX5_negate_X5_checkSlot : GoodIn wsX5_negate (va_wsS RX5 27 yX5_checkSlot wsX5_checkSlot) := goodIn_app (goodIn_of _ (by decide +kernel)) ggX5_negate_X5_checkSlot
set_option maxRecDepth 20000 in
theorem ggX5_negate_X0_opposite : GoodIn wsX5_negate wsX0_opposite := goodIn_r _ [11, 12] (by decide +kernel) (by decide +kernel)
set_option maxRecDepth 20000 in
theorem gX5_negate_X0_opposite : GoodIn wsX5_negate (va_wsS RX5 47 yX0_opposite wsX0_opposite) := goodIn_app (goodIn_of _ (by decide +kernel)) ggX5_negate_X0_opposite
set_option maxRecDepth 20000 in
theorem ggX5_negate_X5_become : GoodIn wsX5_negate wsX5_become := goodIn_ca (goodIn_r _ [16, 17, 1, 18, 19, 20, 21, 22, 23, 24, 25, 26, 27, 28, 29, 30, 31, 32, 10, 33, 12, 34, 35, 36, 37, 38, 39, 40] (by decide +kernel) (by decide +kernel)) (goodIn_sub (fun _ h => List.mem_cons_of_mem _ (List.mem_append_left _ (List.mem_append_right _ h))) (by decide +kernel))
set_option maxRecDepth 20000 in
theorem gX5_negate_X5_become : GoodIn wsX5_negate (wsV RX5 41 RX5 yX5_become wsX5_become) := goodIn_app (goodIn_of _ (by decide +kernel)) ggX5_negate_X5_become
theorem dX5_negate_0 : decode cX5_negate 0 = .ok (.iload_n 1, 1) := by decide +kernel
theorem dX5_negate_1 : decode cX5_negate 1 = .ok (.invokestatic 27, 3) := by decide +kernel
theorem dX5_negate_4 : decode cX5_negate 4 = .ok (.iload_n 2, 1) := by decide +kernel
theorem dX5_negate_5 : decode cX5_negate 5 = .ok (.invokestatic 27, 3) := by decide +kernel
theorem dX5_negate_8 : decode cX5_negate 8 = .ok (.aload_n 0, 1) := by decide +kernel
theorem dX5_negate_9 : decode cX5_negate 9 = .ok (.iload_n 2, 1) := by decide +kernel
theorem dX5_negate_10 : decode cX5_negate 10 = .ok (.aload_n 0, 1) := by decide +kernel
theorem dX5_negate_11 : decode cX5_negate 11 = .ok (.getfield 9, 3) := by decide +kernel
theorem dX5_negate_14 : decode cX5_negate 14 = .ok (.iload_n 1, 1) := by decide +kernel
theorem dX5_negate_15 : decode cX5_negate 15 = .ok (.laload, 1) := by decide +kernel
theorem dX5_negate_16 : decode cX5_negate 16 = .ok (.invokestatic 47, 3) := by decide +kernel
theorem dX5_negate_19 : decode cX5_negate 19 = .ok (.invokevirtual 41, 3) := by decide +kernel
theorem dX5_negate_22 : decode cX5_negate 22 = .ok (.lreturn, 1) := by decide +kernel
set_option maxRecDepth 20000 in
theorem ggX5_place_X5_checkSlot : GoodIn wsX5_place wsX5_checkSlot := goodIn_ca (goodIn_r _ [5, 6, 7] (by decide +kernel) (by decide +kernel)) (goodIn_sub (fun _ h => List.mem_cons_of_mem _ (List.mem_append_right _ h)) (by decide +kernel))
set_option maxRecDepth 20000 in
theorem gX5_place_X5_checkSlot : GoodIn wsX5_place (va_wsS RX5 27 yX5_checkSlot wsX5_checkSlot) := goodIn_app (goodIn_of _ (by decide +kernel)) ggX5_place_X5_checkSlot
set_option maxRecDepth 20000 in
theorem ggX5_place_X0_placeOf : GoodIn wsX5_place wsX0_placeOf := goodIn_r _ [11, 12] (by decide +kernel) (by decide +kernel)
set_option maxRecDepth 20000 in
theorem gX5_place_X0_placeOf : GoodIn wsX5_place (va_wsS RX5 51 yX0_placeOf wsX0_placeOf) := goodIn_app (goodIn_of _ (by decide +kernel)) ggX5_place_X0_placeOf
theorem dX5_place_0 : decode cX5_place 0 = .ok (.iload_n 1, 1) := by decide +kernel
theorem dX5_place_1 : decode cX5_place 1 = .ok (.invokestatic 27, 3) := by decide +kernel
theorem dX5_place_4 : decode cX5_place 4 = .ok (.aload_n 0, 1) := by decide +kernel
theorem dX5_place_5 : decode cX5_place 5 = .ok (.getfield 9, 3) := by decide +kernel
theorem dX5_place_8 : decode cX5_place 8 = .ok (.iload_n 1, 1) := by decide +kernel
theorem dX5_place_9 : decode cX5_place 9 = .ok (.laload, 1) := by decide +kernel
theorem dX5_place_10 : decode cX5_place 10 = .ok (.invokestatic 51, 3) := by decide +kernel
theorem dX5_place_13 : decode cX5_place 13 = .ok (.lreturn, 1) := by decide +kernel
set_option maxRecDepth 20000 in
theorem ggX5_bits_X5_checkSlot : GoodIn wsX5_bits wsX5_checkSlot := goodIn_ca (goodIn_r _ [5, 6, 7] (by decide +kernel) (by decide +kernel)) (goodIn_sub (fun _ h => List.mem_cons_of_mem _ (List.mem_append_right _ h)) (by decide +kernel))
set_option maxRecDepth 20000 in
theorem gX5_bits_X5_checkSlot : GoodIn wsX5_bits (va_wsS RX5 27 yX5_checkSlot wsX5_checkSlot) := goodIn_app (goodIn_of _ (by decide +kernel)) ggX5_bits_X5_checkSlot
theorem dX5_bits_0 : decode cX5_bits 0 = .ok (.iload_n 1, 1) := by decide +kernel
theorem dX5_bits_1 : decode cX5_bits 1 = .ok (.invokestatic 27, 3) := by decide +kernel
theorem dX5_bits_4 : decode cX5_bits 4 = .ok (.aload_n 0, 1) := by decide +kernel
theorem dX5_bits_5 : decode cX5_bits 5 = .ok (.getfield 9, 3) := by decide +kernel
theorem dX5_bits_8 : decode cX5_bits 8 = .ok (.iload_n 1, 1) := by decide +kernel
theorem dX5_bits_9 : decode cX5_bits 9 = .ok (.laload, 1) := by decide +kernel
theorem dX5_bits_10 : decode cX5_bits 10 = .ok (.lreturn, 1) := by decide +kernel
set_option maxRecDepth 20000 in
theorem ggX5_isEndless_X5_checkSlot : GoodIn wsX5_isEndless wsX5_checkSlot := goodIn_ca (goodIn_r _ [5, 6, 7] (by decide +kernel) (by decide +kernel)) (goodIn_sub (fun _ h => List.mem_cons_of_mem _ (List.mem_append_right _ h)) (by decide +kernel))
set_option maxRecDepth 20000 in
theorem gX5_isEndless_X5_checkSlot : GoodIn wsX5_isEndless (va_wsS RX5 27 yX5_checkSlot wsX5_checkSlot) := goodIn_app (goodIn_of _ (by decide +kernel)) ggX5_isEndless_X5_checkSlot
set_option maxRecDepth 20000 in
theorem ggX5_isEndless_X0_hasNoEnd : GoodIn wsX5_isEndless wsX0_hasNoEnd := goodIn_r _ [11, 12, 13, 14, 10, 15, 16] (by decide +kernel) (by decide +kernel)
set_option maxRecDepth 20000 in
theorem gX5_isEndless_X0_hasNoEnd : GoodIn wsX5_isEndless (va_wsS RX5 54 yX0_hasNoEnd wsX0_hasNoEnd) := goodIn_app (goodIn_of _ (by decide +kernel)) ggX5_isEndless_X0_hasNoEnd
theorem dX5_isEndless_0 : decode cX5_isEndless 0 = .ok (.iload_n 1, 1) := by decide +kernel
theorem dX5_isEndless_1 : decode cX5_isEndless 1 = .ok (.invokestatic 27, 3) := by decide +kernel
theorem dX5_isEndless_4 : decode cX5_isEndless 4 = .ok (.aload_n 0, 1) := by decide +kernel
theorem dX5_isEndless_5 : decode cX5_isEndless 5 = .ok (.getfield 9, 3) := by decide +kernel
theorem dX5_isEndless_8 : decode cX5_isEndless 8 = .ok (.iload_n 1, 1) := by decide +kernel
theorem dX5_isEndless_9 : decode cX5_isEndless 9 = .ok (.laload, 1) := by decide +kernel
theorem dX5_isEndless_10 : decode cX5_isEndless 10 = .ok (.invokestatic 54, 3) := by decide +kernel
theorem dX5_isEndless_13 : decode cX5_isEndless 13 = .ok (.ireturn, 1) := by decide +kernel
set_option maxRecDepth 20000 in
theorem ggX5_isWhole_X5_checkSlot : GoodIn wsX5_isWhole wsX5_checkSlot := goodIn_ca (goodIn_r _ [5, 6, 7] (by decide +kernel) (by decide +kernel)) (goodIn_sub (fun _ h => List.mem_cons_of_mem _ (List.mem_append_right _ h)) (by decide +kernel))
set_option maxRecDepth 20000 in
theorem gX5_isWhole_X5_checkSlot : GoodIn wsX5_isWhole (va_wsS RX5 27 yX5_checkSlot wsX5_checkSlot) := goodIn_app (goodIn_of _ (by decide +kernel)) ggX5_isWhole_X5_checkSlot
set_option maxRecDepth 20000 in
theorem ggX5_isWhole_X0_hasNoFraction : GoodIn wsX5_isWhole wsX0_hasNoFraction := goodIn_r _ [11, 12, 13, 10, 14, 15, 16, 17, 18, 19, 20, 21, 22, 23, 24, 25, 26, 27, 28, 29, 30, 31, 32, 33, 34, 35, 36, 37, 38, 39, 40, 41, 42, 43, 44, 45, 46, 47, 48, 49] (by decide +kernel) (by decide +kernel)
set_option maxRecDepth 20000 in
theorem gX5_isWhole_X0_hasNoFraction : GoodIn wsX5_isWhole (va_wsS RX5 58 yX0_hasNoFraction wsX0_hasNoFraction) := goodIn_app (goodIn_of _ (by decide +kernel)) ggX5_isWhole_X0_hasNoFraction
theorem dX5_isWhole_0 : decode cX5_isWhole 0 = .ok (.iload_n 1, 1) := by decide +kernel
theorem dX5_isWhole_1 : decode cX5_isWhole 1 = .ok (.invokestatic 27, 3) := by decide +kernel
theorem dX5_isWhole_4 : decode cX5_isWhole 4 = .ok (.aload_n 0, 1) := by decide +kernel
theorem dX5_isWhole_5 : decode cX5_isWhole 5 = .ok (.getfield 9, 3) := by decide +kernel
theorem dX5_isWhole_8 : decode cX5_isWhole 8 = .ok (.iload_n 1, 1) := by decide +kernel
theorem dX5_isWhole_9 : decode cX5_isWhole 9 = .ok (.laload, 1) := by decide +kernel
theorem dX5_isWhole_10 : decode cX5_isWhole 10 = .ok (.invokestatic 58, 3) := by decide +kernel
theorem dX5_isWhole_13 : decode cX5_isWhole 13 = .ok (.ireturn, 1) := by decide +kernel
set_option maxRecDepth 20000 in
theorem ggX5_isSmall_X5_checkSlot : GoodIn wsX5_isSmall wsX5_checkSlot := goodIn_ca (goodIn_r _ [5, 6, 7] (by decide +kernel) (by decide +kernel)) (goodIn_sub (fun _ h => List.mem_cons_of_mem _ (List.mem_append_right _ h)) (by decide +kernel))
set_option maxRecDepth 20000 in
theorem gX5_isSmall_X5_checkSlot : GoodIn wsX5_isSmall (va_wsS RX5 27 yX5_checkSlot wsX5_checkSlot) := goodIn_app (goodIn_of _ (by decide +kernel)) ggX5_isSmall_X5_checkSlot
set_option maxRecDepth 20000 in
theorem ggX5_isSmall_X0_hasLeastExponent : GoodIn wsX5_isSmall wsX0_hasLeastExponent := goodIn_r _ [11, 12, 13, 10, 14] (by decide +kernel) (by decide +kernel)
set_option maxRecDepth 20000 in
theorem gX5_isSmall_X0_hasLeastExponent : GoodIn wsX5_isSmall (va_wsS RX5 61 yX0_hasLeastExponent wsX0_hasLeastExponent) := goodIn_app (goodIn_of _ (by decide +kernel)) ggX5_isSmall_X0_hasLeastExponent
theorem dX5_isSmall_0 : decode cX5_isSmall 0 = .ok (.iload_n 1, 1) := by decide +kernel
theorem dX5_isSmall_1 : decode cX5_isSmall 1 = .ok (.invokestatic 27, 3) := by decide +kernel
theorem dX5_isSmall_4 : decode cX5_isSmall 4 = .ok (.aload_n 0, 1) := by decide +kernel
theorem dX5_isSmall_5 : decode cX5_isSmall 5 = .ok (.getfield 9, 3) := by decide +kernel
theorem dX5_isSmall_8 : decode cX5_isSmall 8 = .ok (.iload_n 1, 1) := by decide +kernel
theorem dX5_isSmall_9 : decode cX5_isSmall 9 = .ok (.laload, 1) := by decide +kernel
theorem dX5_isSmall_10 : decode cX5_isSmall 10 = .ok (.invokestatic 61, 3) := by decide +kernel
theorem dX5_isSmall_13 : decode cX5_isSmall 13 = .ok (.ireturn, 1) := by decide +kernel
set_option maxRecDepth 20000 in
theorem ggX5_up_X5_checkSlot : GoodIn wsX5_up wsX5_checkSlot := goodIn_ca (goodIn_r _ [5, 6, 7] (by decide +kernel) (by decide +kernel)) (goodIn_sub (fun _ h => List.mem_cons_of_mem _ (List.mem_append_left _ (List.mem_append_right _ h))) (by decide +kernel))
set_option maxRecDepth 20000 in
theorem gX5_up_X5_checkSlot : GoodIn wsX5_up (va_wsS RX5 27 yX5_checkSlot wsX5_checkSlot) := goodIn_app (goodIn_of _ (by decide +kernel)) ggX5_up_X5_checkSlot
set_option maxRecDepth 20000 in
theorem ggX5_up_X5_checkRange : GoodIn wsX5_up wsX5_checkRange := goodIn_ca (goodIn_r _ [10, 11, 12] (by decide +kernel) (by decide +kernel)) (goodIn_sub (fun _ h => List.mem_cons_of_mem _ (List.mem_append_right _ h)) (by decide +kernel))
set_option maxRecDepth 20000 in
theorem gX5_up_X5_checkRange : GoodIn wsX5_up (va_wsS RX5 31 yX5_checkRange wsX5_checkRange) := goodIn_app (goodIn_of _ (by decide +kernel)) ggX5_up_X5_checkRange
set_option maxRecDepth 20000 in
theorem ggX5_up_X0_raised : GoodIn wsX5_up wsX0_raised := goodIn_r _ [16, 17, 18, 19, 20, 15, 21, 22, 23, 24] (by decide +kernel) (by decide +kernel)
set_option maxRecDepth 20000 in
theorem gX5_up_X0_raised : GoodIn wsX5_up (va_wsS RX5 64 yX0_raised wsX0_raised) := goodIn_app (goodIn_of _ (by decide +kernel)) ggX5_up_X0_raised
set_option maxRecDepth 20000 in
theorem ggX5_up_X5_become : GoodIn wsX5_up wsX5_become := goodIn_ca (goodIn_r _ [28, 29, 1, 30, 31, 32, 33, 34, 35, 36, 37, 38, 39, 40, 41, 42, 43, 20, 15, 21, 18, 44, 45, 46, 47, 48, 49, 50] (by decide +kernel) (by decide +kernel)) (goodIn_sub (fun _ h => List.mem_cons_of_mem _ (List.mem_append_left _ (List.mem_append_left _ (List.mem_append_right _ h)))) (by decide +kernel))
set_option maxRecDepth 20000 in
theorem gX5_up_X5_become : GoodIn wsX5_up (wsV RX5 41 RX5 yX5_become wsX5_become) := goodIn_app (goodIn_of _ (by decide +kernel)) ggX5_up_X5_become
set_option maxRecDepth 20000 in
theorem ggX5_up_X0_placeOf : GoodIn wsX5_up wsX0_placeOf := goodIn_r _ [21, 18] (by decide +kernel) (by decide +kernel)
set_option maxRecDepth 20000 in
theorem gX5_up_X0_placeOf : GoodIn wsX5_up (va_wsS RX5 51 yX0_placeOf wsX0_placeOf) := goodIn_app (goodIn_of _ (by decide +kernel)) ggX5_up_X0_placeOf
theorem dX5_up_0 : decode cX5_up 0 = .ok (.iload_n 1, 1) := by decide +kernel
theorem dX5_up_1 : decode cX5_up 1 = .ok (.invokestatic 27, 3) := by decide +kernel
theorem dX5_up_4 : decode cX5_up 4 = .ok (.iload_n 2, 1) := by decide +kernel
theorem dX5_up_5 : decode cX5_up 5 = .ok (.iconst 0, 1) := by decide +kernel
theorem dX5_up_6 : decode cX5_up 6 = .ok (.bipush 64, 2) := by decide +kernel
theorem dX5_up_8 : decode cX5_up 8 = .ok (.invokestatic 31, 3) := by decide +kernel
theorem dX5_up_11 : decode cX5_up 11 = .ok (.aload_n 0, 1) := by decide +kernel
theorem dX5_up_12 : decode cX5_up 12 = .ok (.getfield 9, 3) := by decide +kernel
theorem dX5_up_15 : decode cX5_up 15 = .ok (.iload_n 1, 1) := by decide +kernel
theorem dX5_up_16 : decode cX5_up 16 = .ok (.laload, 1) := by decide +kernel
theorem dX5_up_17 : decode cX5_up 17 = .ok (.lstore_n 3, 1) := by decide +kernel
theorem dX5_up_18 : decode cX5_up 18 = .ok (.aload_n 0, 1) := by decide +kernel
theorem dX5_up_19 : decode cX5_up 19 = .ok (.iload_n 1, 1) := by decide +kernel
theorem dX5_up_20 : decode cX5_up 20 = .ok (.lload_n 3, 1) := by decide +kernel
theorem dX5_up_21 : decode cX5_up 21 = .ok (.iload_n 2, 1) := by decide +kernel
theorem dX5_up_22 : decode cX5_up 22 = .ok (.invokestatic 64, 3) := by decide +kernel
theorem dX5_up_25 : decode cX5_up 25 = .ok (.invokevirtual 41, 3) := by decide +kernel
theorem dX5_up_28 : decode cX5_up 28 = .ok (.lload_n 3, 1) := by decide +kernel
theorem dX5_up_29 : decode cX5_up 29 = .ok (.invokestatic 51, 3) := by decide +kernel
theorem dX5_up_32 : decode cX5_up 32 = .ok (.lsub, 1) := by decide +kernel
theorem dX5_up_33 : decode cX5_up 33 = .ok (.l2i, 1) := by decide +kernel
theorem dX5_up_34 : decode cX5_up 34 = .ok (.ireturn, 1) := by decide +kernel
set_option maxRecDepth 20000 in
theorem ggX5_down_X5_checkSlot : GoodIn wsX5_down wsX5_checkSlot := goodIn_ca (goodIn_r _ [5, 6, 7] (by decide +kernel) (by decide +kernel)) (goodIn_sub (fun _ h => List.mem_cons_of_mem _ (List.mem_append_left _ (List.mem_append_right _ h))) (by decide +kernel))
set_option maxRecDepth 20000 in
theorem gX5_down_X5_checkSlot : GoodIn wsX5_down (va_wsS RX5 27 yX5_checkSlot wsX5_checkSlot) := goodIn_app (goodIn_of _ (by decide +kernel)) ggX5_down_X5_checkSlot
set_option maxRecDepth 20000 in
theorem ggX5_down_X5_checkRange : GoodIn wsX5_down wsX5_checkRange := goodIn_ca (goodIn_r _ [10, 11, 12] (by decide +kernel) (by decide +kernel)) (goodIn_sub (fun _ h => List.mem_cons_of_mem _ (List.mem_append_right _ h)) (by decide +kernel))
set_option maxRecDepth 20000 in
theorem gX5_down_X5_checkRange : GoodIn wsX5_down (va_wsS RX5 31 yX5_checkRange wsX5_checkRange) := goodIn_app (goodIn_of _ (by decide +kernel)) ggX5_down_X5_checkRange
set_option maxRecDepth 20000 in
theorem ggX5_down_X0_placeOf : GoodIn wsX5_down wsX0_placeOf := goodIn_r _ [16, 17] (by decide +kernel) (by decide +kernel)
set_option maxRecDepth 20000 in
theorem gX5_down_X0_placeOf : GoodIn wsX5_down (va_wsS RX5 51 yX0_placeOf wsX0_placeOf) := goodIn_app (goodIn_of _ (by decide +kernel)) ggX5_down_X0_placeOf
set_option maxRecDepth 20000 in
theorem ggX5_down_X0_lowered : GoodIn wsX5_down wsX0_lowered := goodIn_r _ [20, 21, 22, 15, 23, 17, 24, 25, 26, 27, 28, 14, 16, 29, 30, 31] (by decide +kernel) (by decide +kernel)
set_option maxRecDepth 20000 in
theorem gX5_down_X0_lowered : GoodIn wsX5_down (va_wsS RX5 68 yX0_lowered wsX0_lowered) := goodIn_app (goodIn_of _ (by decide +kernel)) ggX5_down_X0_lowered
set_option maxRecDepth 20000 in
theorem ggX5_down_X5_become : GoodIn wsX5_down wsX5_become := goodIn_ca (goodIn_r _ [35, 36, 1, 37, 38, 39, 40, 41, 42, 43, 44, 45, 46, 47, 48, 49, 13, 14, 15, 16, 17, 50, 51, 52, 53, 54, 55, 56] (by decide +kernel) (by decide +kernel)) (goodIn_sub (fun _ h => List.mem_cons_of_mem _ (List.mem_append_left _ (List.mem_append_left _ (List.mem_append_right _ h)))) (by decide +kernel))
set_option maxRecDepth 20000 in
theorem gX5_down_X5_become : GoodIn wsX5_down (wsV RX5 41 RX5 yX5_become wsX5_become) := goodIn_app (goodIn_of _ (by decide +kernel)) ggX5_down_X5_become
theorem dX5_down_0 : decode cX5_down 0 = .ok (.iload_n 1, 1) := by decide +kernel
theorem dX5_down_1 : decode cX5_down 1 = .ok (.invokestatic 27, 3) := by decide +kernel
theorem dX5_down_4 : decode cX5_down 4 = .ok (.iload_n 2, 1) := by decide +kernel
theorem dX5_down_5 : decode cX5_down 5 = .ok (.iconst 0, 1) := by decide +kernel
theorem dX5_down_6 : decode cX5_down 6 = .ok (.bipush 64, 2) := by decide +kernel
theorem dX5_down_8 : decode cX5_down 8 = .ok (.invokestatic 31, 3) := by decide +kernel
theorem dX5_down_11 : decode cX5_down 11 = .ok (.aload_n 0, 1) := by decide +kernel
theorem dX5_down_12 : decode cX5_down 12 = .ok (.getfield 9, 3) := by decide +kernel
theorem dX5_down_15 : decode cX5_down 15 = .ok (.iload_n 1, 1) := by decide +kernel
theorem dX5_down_16 : decode cX5_down 16 = .ok (.laload, 1) := by decide +kernel
theorem dX5_down_17 : decode cX5_down 17 = .ok (.lstore_n 3, 1) := by decide +kernel
theorem dX5_down_18 : decode cX5_down 18 = .ok (.lload_n 3, 1) := by decide +kernel
theorem dX5_down_19 : decode cX5_down 19 = .ok (.invokestatic 51, 3) := by decide +kernel
theorem dX5_down_22 : decode cX5_down 22 = .ok (.aload_n 0, 1) := by decide +kernel
theorem dX5_down_23 : decode cX5_down 23 = .ok (.iload_n 1, 1) := by decide +kernel
theorem dX5_down_24 : decode cX5_down 24 = .ok (.lload_n 3, 1) := by decide +kernel
theorem dX5_down_25 : decode cX5_down 25 = .ok (.iload_n 2, 1) := by decide +kernel
theorem dX5_down_26 : decode cX5_down 26 = .ok (.invokestatic 68, 3) := by decide +kernel
theorem dX5_down_29 : decode cX5_down 29 = .ok (.invokevirtual 41, 3) := by decide +kernel
theorem dX5_down_32 : decode cX5_down 32 = .ok (.lsub, 1) := by decide +kernel
theorem dX5_down_33 : decode cX5_down 33 = .ok (.l2i, 1) := by decide +kernel
theorem dX5_down_34 : decode cX5_down 34 = .ok (.ireturn, 1) := by decide +kernel
set_option maxRecDepth 20000 in
theorem ggX5_toward_X5_checkSlot : GoodIn wsX5_toward wsX5_checkSlot := goodIn_ca (goodIn_r _ [5, 6, 7] (by decide +kernel) (by decide +kernel)) (goodIn_sub (fun _ h => List.mem_cons_of_mem _ (List.mem_append_left _ (List.mem_append_right _ h))) (by decide +kernel))
set_option maxRecDepth 20000 in
theorem gX5_toward_X5_checkSlot : GoodIn wsX5_toward (va_wsS RX5 27 yX5_checkSlot wsX5_checkSlot) := goodIn_app (goodIn_of _ (by decide +kernel)) ggX5_toward_X5_checkSlot
set_option maxRecDepth 20000 in
theorem ggX5_toward_X5_checkRange : GoodIn wsX5_toward wsX5_checkRange := goodIn_ca (goodIn_r _ [10, 11, 12] (by decide +kernel) (by decide +kernel)) (goodIn_sub (fun _ h => List.mem_cons_of_mem _ (List.mem_append_right _ h)) (by decide +kernel))
set_option maxRecDepth 20000 in
theorem gX5_toward_X5_checkRange : GoodIn wsX5_toward (va_wsS RX5 31 yX5_checkRange wsX5_checkRange) := goodIn_app (goodIn_of _ (by decide +kernel)) ggX5_toward_X5_checkRange
set_option maxRecDepth 20000 in
theorem ggX5_toward_X0_nearer : GoodIn wsX5_toward wsX0_nearer := goodIn_r _ [16, 17, 18, 15, 19, 20, 21, 22, 23, 24, 25, 26, 27, 28, 29, 30, 31, 32, 33, 34, 35, 36, 37, 38, 39, 40] (by decide +kernel) (by decide +kernel)
set_option maxRecDepth 20000 in
theorem gX5_toward_X0_nearer : GoodIn wsX5_toward (va_wsS RX5 71 yX0_nearer wsX0_nearer) := goodIn_app (goodIn_of _ (by decide +kernel)) ggX5_toward_X0_nearer
set_option maxRecDepth 20000 in
theorem ggX5_toward_X5_become : GoodIn wsX5_toward wsX5_become := goodIn_ca (goodIn_r _ [44, 45, 1, 46, 47, 48, 49, 50, 51, 52, 53, 54, 55, 56, 57, 58, 59, 21, 15, 22, 23, 60, 61, 62, 63, 64, 65, 66] (by decide +kernel) (by decide +kernel)) (goodIn_sub (fun _ h => List.mem_cons_of_mem _ (List.mem_append_left _ (List.mem_append_left _ (List.mem_append_right _ h)))) (by decide +kernel))
set_option maxRecDepth 20000 in
theorem gX5_toward_X5_become : GoodIn wsX5_toward (wsV RX5 41 RX5 yX5_become wsX5_become) := goodIn_app (goodIn_of _ (by decide +kernel)) ggX5_toward_X5_become
theorem dX5_toward_0 : decode cX5_toward 0 = .ok (.iload_n 1, 1) := by decide +kernel
theorem dX5_toward_1 : decode cX5_toward 1 = .ok (.invokestatic 27, 3) := by decide +kernel
theorem dX5_toward_4 : decode cX5_toward 4 = .ok (.iload_n 2, 1) := by decide +kernel
theorem dX5_toward_5 : decode cX5_toward 5 = .ok (.invokestatic 27, 3) := by decide +kernel
theorem dX5_toward_8 : decode cX5_toward 8 = .ok (.iload_n 3, 1) := by decide +kernel
theorem dX5_toward_9 : decode cX5_toward 9 = .ok (.iconst 0, 1) := by decide +kernel
theorem dX5_toward_10 : decode cX5_toward 10 = .ok (.bipush 64, 2) := by decide +kernel
theorem dX5_toward_12 : decode cX5_toward 12 = .ok (.invokestatic 31, 3) := by decide +kernel
theorem dX5_toward_15 : decode cX5_toward 15 = .ok (.aload_n 0, 1) := by decide +kernel
theorem dX5_toward_16 : decode cX5_toward 16 = .ok (.getfield 9, 3) := by decide +kernel
theorem dX5_toward_19 : decode cX5_toward 19 = .ok (.iload_n 2, 1) := by decide +kernel
theorem dX5_toward_20 : decode cX5_toward 20 = .ok (.laload, 1) := by decide +kernel
theorem dX5_toward_21 : decode cX5_toward 21 = .ok (.lstore 4, 2) := by decide +kernel
theorem dX5_toward_23 : decode cX5_toward 23 = .ok (.aload_n 0, 1) := by decide +kernel
theorem dX5_toward_24 : decode cX5_toward 24 = .ok (.getfield 9, 3) := by decide +kernel
theorem dX5_toward_27 : decode cX5_toward 27 = .ok (.iload_n 1, 1) := by decide +kernel
theorem dX5_toward_28 : decode cX5_toward 28 = .ok (.laload, 1) := by decide +kernel
theorem dX5_toward_29 : decode cX5_toward 29 = .ok (.lstore 6, 2) := by decide +kernel
theorem dX5_toward_31 : decode cX5_toward 31 = .ok (.iconst 0, 1) := by decide +kernel
theorem dX5_toward_32 : decode cX5_toward 32 = .ok (.istore 8, 2) := by decide +kernel
theorem dX5_toward_34 : decode cX5_toward 34 = .ok (.iconst 0, 1) := by decide +kernel
theorem dX5_toward_35 : decode cX5_toward 35 = .ok (.istore 9, 2) := by decide +kernel
theorem dX5_toward_37 : decode cX5_toward 37 = .ok (.iload 9, 2) := by decide +kernel
theorem dX5_toward_39 : decode cX5_toward 39 = .ok (.iload_n 3, 1) := by decide +kernel
theorem dX5_toward_40 : decode cX5_toward 40 = .ok (.if_icmp .ge 33, 3) := by decide +kernel
theorem dX5_toward_43 : decode cX5_toward 43 = .ok (.lload 6, 2) := by decide +kernel
theorem dX5_toward_45 : decode cX5_toward 45 = .ok (.lload 4, 2) := by decide +kernel
theorem dX5_toward_47 : decode cX5_toward 47 = .ok (.invokestatic 71, 3) := by decide +kernel
theorem dX5_toward_50 : decode cX5_toward 50 = .ok (.lstore 10, 2) := by decide +kernel
theorem dX5_toward_52 : decode cX5_toward 52 = .ok (.lload 10, 2) := by decide +kernel
theorem dX5_toward_54 : decode cX5_toward 54 = .ok (.lload 6, 2) := by decide +kernel
theorem dX5_toward_56 : decode cX5_toward 56 = .ok (.lcmp, 1) := by decide +kernel
theorem dX5_toward_57 : decode cX5_toward 57 = .ok (.ifCond .eq 6, 3) := by decide +kernel
theorem dX5_toward_60 : decode cX5_toward 60 = .ok (.iinc 8 1, 3) := by decide +kernel
theorem dX5_toward_63 : decode cX5_toward 63 = .ok (.lload 10, 2) := by decide +kernel
theorem dX5_toward_65 : decode cX5_toward 65 = .ok (.lstore 6, 2) := by decide +kernel
theorem dX5_toward_67 : decode cX5_toward 67 = .ok (.iinc 9 1, 3) := by decide +kernel
theorem dX5_toward_70 : decode cX5_toward 70 = .ok (.goto (-33), 3) := by decide +kernel
theorem dX5_toward_73 : decode cX5_toward 73 = .ok (.aload_n 0, 1) := by decide +kernel
theorem dX5_toward_74 : decode cX5_toward 74 = .ok (.iload_n 1, 1) := by decide +kernel
theorem dX5_toward_75 : decode cX5_toward 75 = .ok (.lload 6, 2) := by decide +kernel
theorem dX5_toward_77 : decode cX5_toward 77 = .ok (.invokevirtual 41, 3) := by decide +kernel
theorem dX5_toward_80 : decode cX5_toward 80 = .ok (.pop2, 1) := by decide +kernel
theorem dX5_toward_81 : decode cX5_toward 81 = .ok (.iload 8, 2) := by decide +kernel
theorem dX5_toward_83 : decode cX5_toward 83 = .ok (.ireturn, 1) := by decide +kernel
set_option maxRecDepth 20000 in
theorem ggX5_walk_X5_checkSlot : GoodIn wsX5_walk wsX5_checkSlot := goodIn_ca (goodIn_r _ [5, 6, 7] (by decide +kernel) (by decide +kernel)) (goodIn_sub (fun _ h => List.mem_cons_of_mem _ (List.mem_append_right _ h)) (by decide +kernel))
set_option maxRecDepth 20000 in
theorem gX5_walk_X5_checkSlot : GoodIn wsX5_walk (va_wsS RX5 27 yX5_checkSlot wsX5_checkSlot) := goodIn_app (goodIn_of _ (by decide +kernel)) ggX5_walk_X5_checkSlot
set_option maxRecDepth 20000 in
theorem ggX5_walk_X0_distance : GoodIn wsX5_walk wsX0_distance := goodIn_r _ [11, 12, 13, 10, 14, 15, 16, 17, 18, 19, 20, 21, 22] (by decide +kernel) (by decide +kernel)
set_option maxRecDepth 20000 in
theorem gX5_walk_X0_distance : GoodIn wsX5_walk (va_wsS RX5 75 yX0_distance wsX0_distance) := goodIn_app (goodIn_of _ (by decide +kernel)) ggX5_walk_X0_distance
set_option maxRecDepth 20000 in
theorem ggX5_walk_X0_isMoreThan : GoodIn wsX5_walk wsX0_isMoreThan := goodIn_r _ [25] (by decide +kernel) (by decide +kernel)
set_option maxRecDepth 20000 in
theorem gX5_walk_X0_isMoreThan : GoodIn wsX5_walk (va_wsS RX5 78 yX0_isMoreThan wsX0_isMoreThan) := goodIn_app (goodIn_of _ (by decide +kernel)) ggX5_walk_X0_isMoreThan
theorem dX5_walk_0 : decode cX5_walk 0 = .ok (.iload_n 1, 1) := by decide +kernel
theorem dX5_walk_1 : decode cX5_walk 1 = .ok (.invokestatic 27, 3) := by decide +kernel
theorem dX5_walk_4 : decode cX5_walk 4 = .ok (.iload_n 2, 1) := by decide +kernel
theorem dX5_walk_5 : decode cX5_walk 5 = .ok (.invokestatic 27, 3) := by decide +kernel
theorem dX5_walk_8 : decode cX5_walk 8 = .ok (.aload_n 0, 1) := by decide +kernel
theorem dX5_walk_9 : decode cX5_walk 9 = .ok (.getfield 9, 3) := by decide +kernel
theorem dX5_walk_12 : decode cX5_walk 12 = .ok (.iload_n 1, 1) := by decide +kernel
theorem dX5_walk_13 : decode cX5_walk 13 = .ok (.laload, 1) := by decide +kernel
theorem dX5_walk_14 : decode cX5_walk 14 = .ok (.aload_n 0, 1) := by decide +kernel
theorem dX5_walk_15 : decode cX5_walk 15 = .ok (.getfield 9, 3) := by decide +kernel
theorem dX5_walk_18 : decode cX5_walk 18 = .ok (.iload_n 2, 1) := by decide +kernel
theorem dX5_walk_19 : decode cX5_walk 19 = .ok (.laload, 1) := by decide +kernel
theorem dX5_walk_20 : decode cX5_walk 20 = .ok (.invokestatic 75, 3) := by decide +kernel
theorem dX5_walk_23 : decode cX5_walk 23 = .ok (.lstore_n 3, 1) := by decide +kernel
theorem dX5_walk_24 : decode cX5_walk 24 = .ok (.lload_n 3, 1) := by decide +kernel
theorem dX5_walk_25 : decode cX5_walk 25 = .ok (.bipush 64, 2) := by decide +kernel
theorem dX5_walk_27 : decode cX5_walk 27 = .ok (.invokestatic 78, 3) := by decide +kernel
theorem dX5_walk_30 : decode cX5_walk 30 = .ok (.ifCond .eq 7, 3) := by decide +kernel
theorem dX5_walk_33 : decode cX5_walk 33 = .ok (.iconst (-1), 1) := by decide +kernel
theorem dX5_walk_34 : decode cX5_walk 34 = .ok (.goto 5, 3) := by decide +kernel
theorem dX5_walk_37 : decode cX5_walk 37 = .ok (.lload_n 3, 1) := by decide +kernel
theorem dX5_walk_38 : decode cX5_walk 38 = .ok (.l2i, 1) := by decide +kernel
theorem dX5_walk_39 : decode cX5_walk 39 = .ok (.ireturn, 1) := by decide +kernel
set_option maxRecDepth 20000 in
theorem ggX5_apart_X5_checkSlot : GoodIn wsX5_apart wsX5_checkSlot := goodIn_ca (goodIn_r _ [5, 6, 7] (by decide +kernel) (by decide +kernel)) (goodIn_sub (fun _ h => List.mem_cons_of_mem _ (List.mem_append_right _ h)) (by decide +kernel))
set_option maxRecDepth 20000 in
theorem gX5_apart_X5_checkSlot : GoodIn wsX5_apart (va_wsS RX5 27 yX5_checkSlot wsX5_checkSlot) := goodIn_app (goodIn_of _ (by decide +kernel)) ggX5_apart_X5_checkSlot
set_option maxRecDepth 20000 in
theorem ggX5_apart_X0_distance : GoodIn wsX5_apart wsX0_distance := goodIn_r _ [11, 12, 13, 10, 14, 15, 16, 17, 18, 19, 20, 21, 22] (by decide +kernel) (by decide +kernel)
set_option maxRecDepth 20000 in
theorem gX5_apart_X0_distance : GoodIn wsX5_apart (va_wsS RX5 75 yX0_distance wsX0_distance) := goodIn_app (goodIn_of _ (by decide +kernel)) ggX5_apart_X0_distance
theorem dX5_apart_0 : decode cX5_apart 0 = .ok (.iload_n 1, 1) := by decide +kernel
theorem dX5_apart_1 : decode cX5_apart 1 = .ok (.invokestatic 27, 3) := by decide +kernel
theorem dX5_apart_4 : decode cX5_apart 4 = .ok (.iload_n 2, 1) := by decide +kernel
theorem dX5_apart_5 : decode cX5_apart 5 = .ok (.invokestatic 27, 3) := by decide +kernel
theorem dX5_apart_8 : decode cX5_apart 8 = .ok (.aload_n 0, 1) := by decide +kernel
theorem dX5_apart_9 : decode cX5_apart 9 = .ok (.getfield 9, 3) := by decide +kernel
theorem dX5_apart_12 : decode cX5_apart 12 = .ok (.iload_n 1, 1) := by decide +kernel
theorem dX5_apart_13 : decode cX5_apart 13 = .ok (.laload, 1) := by decide +kernel
theorem dX5_apart_14 : decode cX5_apart 14 = .ok (.aload_n 0, 1) := by decide +kernel
theorem dX5_apart_15 : decode cX5_apart 15 = .ok (.getfield 9, 3) := by decide +kernel
theorem dX5_apart_18 : decode cX5_apart 18 = .ok (.iload_n 2, 1) := by decide +kernel
theorem dX5_apart_19 : decode cX5_apart 19 = .ok (.laload, 1) := by decide +kernel
theorem dX5_apart_20 : decode cX5_apart 20 = .ok (.invokestatic 75, 3) := by decide +kernel
theorem dX5_apart_23 : decode cX5_apart 23 = .ok (.lreturn, 1) := by decide +kernel
set_option maxRecDepth 20000 in
theorem ggX5_areNext_X5_checkSlot : GoodIn wsX5_areNext wsX5_checkSlot := goodIn_ca (goodIn_r _ [5, 6, 7] (by decide +kernel) (by decide +kernel)) (goodIn_sub (fun _ h => List.mem_cons_of_mem _ (List.mem_append_right _ h)) (by decide +kernel))
set_option maxRecDepth 20000 in
theorem gX5_areNext_X5_checkSlot : GoodIn wsX5_areNext (va_wsS RX5 27 yX5_checkSlot wsX5_checkSlot) := goodIn_app (goodIn_of _ (by decide +kernel)) ggX5_areNext_X5_checkSlot
set_option maxRecDepth 20000 in
theorem ggX5_areNext_X0_distance : GoodIn wsX5_areNext wsX0_distance := goodIn_r _ [11, 12, 13, 10, 14, 15, 16, 17, 18, 19, 20, 21, 22] (by decide +kernel) (by decide +kernel)
set_option maxRecDepth 20000 in
theorem gX5_areNext_X0_distance : GoodIn wsX5_areNext (va_wsS RX5 75 yX0_distance wsX0_distance) := goodIn_app (goodIn_of _ (by decide +kernel)) ggX5_areNext_X0_distance
theorem dX5_areNext_0 : decode cX5_areNext 0 = .ok (.iload_n 1, 1) := by decide +kernel
theorem dX5_areNext_1 : decode cX5_areNext 1 = .ok (.invokestatic 27, 3) := by decide +kernel
theorem dX5_areNext_4 : decode cX5_areNext 4 = .ok (.iload_n 2, 1) := by decide +kernel
theorem dX5_areNext_5 : decode cX5_areNext 5 = .ok (.invokestatic 27, 3) := by decide +kernel
theorem dX5_areNext_8 : decode cX5_areNext 8 = .ok (.aload_n 0, 1) := by decide +kernel
theorem dX5_areNext_9 : decode cX5_areNext 9 = .ok (.getfield 9, 3) := by decide +kernel
theorem dX5_areNext_12 : decode cX5_areNext 12 = .ok (.iload_n 1, 1) := by decide +kernel
theorem dX5_areNext_13 : decode cX5_areNext 13 = .ok (.laload, 1) := by decide +kernel
theorem dX5_areNext_14 : decode cX5_areNext 14 = .ok (.aload_n 0, 1) := by decide +kernel
theorem dX5_areNext_15 : decode cX5_areNext 15 = .ok (.getfield 9, 3) := by decide +kernel
theorem dX5_areNext_18 : decode cX5_areNext 18 = .ok (.iload_n 2, 1) := by decide +kernel
theorem dX5_areNext_19 : decode cX5_areNext 19 = .ok (.laload, 1) := by decide +kernel
theorem dX5_areNext_20 : decode cX5_areNext 20 = .ok (.invokestatic 75, 3) := by decide +kernel
theorem dX5_areNext_23 : decode cX5_areNext 23 = .ok (.lconst 1, 1) := by decide +kernel
theorem dX5_areNext_24 : decode cX5_areNext 24 = .ok (.lcmp, 1) := by decide +kernel
theorem dX5_areNext_25 : decode cX5_areNext 25 = .ok (.ifCond .ne 7, 3) := by decide +kernel
theorem dX5_areNext_28 : decode cX5_areNext 28 = .ok (.iconst 1, 1) := by decide +kernel
theorem dX5_areNext_29 : decode cX5_areNext 29 = .ok (.goto 4, 3) := by decide +kernel
theorem dX5_areNext_32 : decode cX5_areNext 32 = .ok (.iconst 0, 1) := by decide +kernel
theorem dX5_areNext_33 : decode cX5_areNext 33 = .ok (.ireturn, 1) := by decide +kernel
set_option maxRecDepth 20000 in
theorem ggX5_middle_X5_checkSlot : GoodIn wsX5_middle wsX5_checkSlot := goodIn_ca (goodIn_r _ [5, 6, 7] (by decide +kernel) (by decide +kernel)) (goodIn_sub (fun _ h => List.mem_cons_of_mem _ (List.mem_append_right _ h)) (by decide +kernel))
set_option maxRecDepth 20000 in
theorem gX5_middle_X5_checkSlot : GoodIn wsX5_middle (va_wsS RX5 27 yX5_checkSlot wsX5_checkSlot) := goodIn_app (goodIn_of _ (by decide +kernel)) ggX5_middle_X5_checkSlot
set_option maxRecDepth 20000 in
theorem ggX5_middle_X0_between : GoodIn wsX5_middle wsX0_between := goodIn_r _ [11, 12, 13, 10, 14, 15, 16, 17, 18] (by decide +kernel) (by decide +kernel)
set_option maxRecDepth 20000 in
theorem gX5_middle_X0_between : GoodIn wsX5_middle (va_wsS RX5 82 yX0_between wsX0_between) := goodIn_app (goodIn_of _ (by decide +kernel)) ggX5_middle_X0_between
set_option maxRecDepth 20000 in
theorem ggX5_middle_X5_become : GoodIn wsX5_middle wsX5_become := goodIn_ca (goodIn_r _ [22, 23, 1, 24, 25, 26, 27, 28, 29, 30, 31, 32, 33, 34, 35, 36, 37, 13, 10, 14, 15, 38, 39, 40, 41, 42, 43, 44] (by decide +kernel) (by decide +kernel)) (goodIn_sub (fun _ h => List.mem_cons_of_mem _ (List.mem_append_left _ (List.mem_append_right _ h))) (by decide +kernel))
set_option maxRecDepth 20000 in
theorem gX5_middle_X5_become : GoodIn wsX5_middle (wsV RX5 41 RX5 yX5_become wsX5_become) := goodIn_app (goodIn_of _ (by decide +kernel)) ggX5_middle_X5_become
theorem dX5_middle_0 : decode cX5_middle 0 = .ok (.iload_n 1, 1) := by decide +kernel
theorem dX5_middle_1 : decode cX5_middle 1 = .ok (.invokestatic 27, 3) := by decide +kernel
theorem dX5_middle_4 : decode cX5_middle 4 = .ok (.iload_n 2, 1) := by decide +kernel
theorem dX5_middle_5 : decode cX5_middle 5 = .ok (.invokestatic 27, 3) := by decide +kernel
theorem dX5_middle_8 : decode cX5_middle 8 = .ok (.iload_n 3, 1) := by decide +kernel
theorem dX5_middle_9 : decode cX5_middle 9 = .ok (.invokestatic 27, 3) := by decide +kernel
theorem dX5_middle_12 : decode cX5_middle 12 = .ok (.aload_n 0, 1) := by decide +kernel
theorem dX5_middle_13 : decode cX5_middle 13 = .ok (.iload_n 3, 1) := by decide +kernel
theorem dX5_middle_14 : decode cX5_middle 14 = .ok (.aload_n 0, 1) := by decide +kernel
theorem dX5_middle_15 : decode cX5_middle 15 = .ok (.getfield 9, 3) := by decide +kernel
theorem dX5_middle_18 : decode cX5_middle 18 = .ok (.iload_n 1, 1) := by decide +kernel
theorem dX5_middle_19 : decode cX5_middle 19 = .ok (.laload, 1) := by decide +kernel
theorem dX5_middle_20 : decode cX5_middle 20 = .ok (.aload_n 0, 1) := by decide +kernel
theorem dX5_middle_21 : decode cX5_middle 21 = .ok (.getfield 9, 3) := by decide +kernel
theorem dX5_middle_24 : decode cX5_middle 24 = .ok (.iload_n 2, 1) := by decide +kernel
theorem dX5_middle_25 : decode cX5_middle 25 = .ok (.laload, 1) := by decide +kernel
theorem dX5_middle_26 : decode cX5_middle 26 = .ok (.invokestatic 82, 3) := by decide +kernel
theorem dX5_middle_29 : decode cX5_middle 29 = .ok (.invokevirtual 41, 3) := by decide +kernel
theorem dX5_middle_32 : decode cX5_middle 32 = .ok (.lreturn, 1) := by decide +kernel
set_option maxRecDepth 20000 in
theorem ggX5_halvings_X5_checkSlot : GoodIn wsX5_halvings wsX5_checkSlot := goodIn_ca (goodIn_r _ [5, 6, 7] (by decide +kernel) (by decide +kernel)) (goodIn_sub (fun _ h => List.mem_cons_of_mem _ (List.mem_append_right _ h)) (by decide +kernel))
set_option maxRecDepth 20000 in
theorem gX5_halvings_X5_checkSlot : GoodIn wsX5_halvings (va_wsS RX5 27 yX5_checkSlot wsX5_checkSlot) := goodIn_app (goodIn_of _ (by decide +kernel)) ggX5_halvings_X5_checkSlot
set_option maxRecDepth 20000 in
theorem ggX5_halvings_X0_distance : GoodIn wsX5_halvings wsX0_distance := goodIn_r _ [11, 12, 13, 10, 14, 15, 16, 17, 18, 19, 20, 21, 22] (by decide +kernel) (by decide +kernel)
set_option maxRecDepth 20000 in
theorem gX5_halvings_X0_distance : GoodIn wsX5_halvings (va_wsS RX5 75 yX0_distance wsX0_distance) := goodIn_app (goodIn_of _ (by decide +kernel)) ggX5_halvings_X0_distance
set_option maxRecDepth 20000 in
theorem ggX5_halvings_X0_isMoreThan : GoodIn wsX5_halvings wsX0_isMoreThan := goodIn_r _ [25] (by decide +kernel) (by decide +kernel)
set_option maxRecDepth 20000 in
theorem gX5_halvings_X0_isMoreThan : GoodIn wsX5_halvings (va_wsS RX5 78 yX0_isMoreThan wsX0_isMoreThan) := goodIn_app (goodIn_of _ (by decide +kernel)) ggX5_halvings_X0_isMoreThan
set_option maxRecDepth 20000 in
theorem ggX5_halvings_X0_between : GoodIn wsX5_halvings wsX0_between := goodIn_r _ [28, 12, 13, 10, 14, 15, 29, 30, 31] (by decide +kernel) (by decide +kernel)
set_option maxRecDepth 20000 in
theorem gX5_halvings_X0_between : GoodIn wsX5_halvings (va_wsS RX5 82 yX0_between wsX0_between) := goodIn_app (goodIn_of _ (by decide +kernel)) ggX5_halvings_X0_between
theorem dX5_halvings_0 : decode cX5_halvings 0 = .ok (.iload_n 1, 1) := by decide +kernel
theorem dX5_halvings_1 : decode cX5_halvings 1 = .ok (.invokestatic 27, 3) := by decide +kernel
theorem dX5_halvings_4 : decode cX5_halvings 4 = .ok (.iload_n 2, 1) := by decide +kernel
theorem dX5_halvings_5 : decode cX5_halvings 5 = .ok (.invokestatic 27, 3) := by decide +kernel
theorem dX5_halvings_8 : decode cX5_halvings 8 = .ok (.aload_n 0, 1) := by decide +kernel
theorem dX5_halvings_9 : decode cX5_halvings 9 = .ok (.getfield 9, 3) := by decide +kernel
theorem dX5_halvings_12 : decode cX5_halvings 12 = .ok (.iload_n 1, 1) := by decide +kernel
theorem dX5_halvings_13 : decode cX5_halvings 13 = .ok (.laload, 1) := by decide +kernel
theorem dX5_halvings_14 : decode cX5_halvings 14 = .ok (.lstore_n 3, 1) := by decide +kernel
theorem dX5_halvings_15 : decode cX5_halvings 15 = .ok (.aload_n 0, 1) := by decide +kernel
theorem dX5_halvings_16 : decode cX5_halvings 16 = .ok (.getfield 9, 3) := by decide +kernel
theorem dX5_halvings_19 : decode cX5_halvings 19 = .ok (.iload_n 2, 1) := by decide +kernel
theorem dX5_halvings_20 : decode cX5_halvings 20 = .ok (.laload, 1) := by decide +kernel
theorem dX5_halvings_21 : decode cX5_halvings 21 = .ok (.lstore 5, 2) := by decide +kernel
theorem dX5_halvings_23 : decode cX5_halvings 23 = .ok (.iconst 0, 1) := by decide +kernel
theorem dX5_halvings_24 : decode cX5_halvings 24 = .ok (.istore 7, 2) := by decide +kernel
theorem dX5_halvings_26 : decode cX5_halvings 26 = .ok (.iload 7, 2) := by decide +kernel
theorem dX5_halvings_28 : decode cX5_halvings 28 = .ok (.bipush 64, 2) := by decide +kernel
theorem dX5_halvings_30 : decode cX5_halvings 30 = .ok (.if_icmp .ge 29, 3) := by decide +kernel
theorem dX5_halvings_33 : decode cX5_halvings 33 = .ok (.lload_n 3, 1) := by decide +kernel
theorem dX5_halvings_34 : decode cX5_halvings 34 = .ok (.lload 5, 2) := by decide +kernel
theorem dX5_halvings_36 : decode cX5_halvings 36 = .ok (.invokestatic 75, 3) := by decide +kernel
theorem dX5_halvings_39 : decode cX5_halvings 39 = .ok (.iconst 1, 1) := by decide +kernel
theorem dX5_halvings_40 : decode cX5_halvings 40 = .ok (.invokestatic 78, 3) := by decide +kernel
theorem dX5_halvings_43 : decode cX5_halvings 43 = .ok (.ifCond .eq 16, 3) := by decide +kernel
theorem dX5_halvings_46 : decode cX5_halvings 46 = .ok (.lload_n 3, 1) := by decide +kernel
theorem dX5_halvings_47 : decode cX5_halvings 47 = .ok (.lload 5, 2) := by decide +kernel
theorem dX5_halvings_49 : decode cX5_halvings 49 = .ok (.invokestatic 82, 3) := by decide +kernel
theorem dX5_halvings_52 : decode cX5_halvings 52 = .ok (.lstore_n 3, 1) := by decide +kernel
theorem dX5_halvings_53 : decode cX5_halvings 53 = .ok (.iinc 7 1, 3) := by decide +kernel
theorem dX5_halvings_56 : decode cX5_halvings 56 = .ok (.goto (-30), 3) := by decide +kernel
theorem dX5_halvings_59 : decode cX5_halvings 59 = .ok (.iload 7, 2) := by decide +kernel
theorem dX5_halvings_61 : decode cX5_halvings 61 = .ok (.ireturn, 1) := by decide +kernel
set_option maxRecDepth 20000 in
theorem ggX5_compare_X5_checkSlot : GoodIn wsX5_compare wsX5_checkSlot := goodIn_ca (goodIn_r _ [5, 6, 7] (by decide +kernel) (by decide +kernel)) (goodIn_sub (fun _ h => List.mem_cons_of_mem _ (List.mem_append_right _ h)) (by decide +kernel))
set_option maxRecDepth 20000 in
theorem gX5_compare_X5_checkSlot : GoodIn wsX5_compare (va_wsS RX5 27 yX5_checkSlot wsX5_checkSlot) := goodIn_app (goodIn_of _ (by decide +kernel)) ggX5_compare_X5_checkSlot
set_option maxRecDepth 20000 in
theorem ggX5_compare_X0_order : GoodIn wsX5_compare wsX0_order := goodIn_r _ [11, 12, 13, 10, 14, 15, 16, 17, 18, 19] (by decide +kernel) (by decide +kernel)
set_option maxRecDepth 20000 in
theorem gX5_compare_X0_order : GoodIn wsX5_compare (va_wsS RX5 85 yX0_order wsX0_order) := goodIn_app (goodIn_of _ (by decide +kernel)) ggX5_compare_X0_order
theorem dX5_compare_0 : decode cX5_compare 0 = .ok (.iload_n 1, 1) := by decide +kernel
theorem dX5_compare_1 : decode cX5_compare 1 = .ok (.invokestatic 27, 3) := by decide +kernel
theorem dX5_compare_4 : decode cX5_compare 4 = .ok (.iload_n 2, 1) := by decide +kernel
theorem dX5_compare_5 : decode cX5_compare 5 = .ok (.invokestatic 27, 3) := by decide +kernel
theorem dX5_compare_8 : decode cX5_compare 8 = .ok (.aload_n 0, 1) := by decide +kernel
theorem dX5_compare_9 : decode cX5_compare 9 = .ok (.getfield 9, 3) := by decide +kernel
theorem dX5_compare_12 : decode cX5_compare 12 = .ok (.iload_n 1, 1) := by decide +kernel
theorem dX5_compare_13 : decode cX5_compare 13 = .ok (.laload, 1) := by decide +kernel
theorem dX5_compare_14 : decode cX5_compare 14 = .ok (.aload_n 0, 1) := by decide +kernel
theorem dX5_compare_15 : decode cX5_compare 15 = .ok (.getfield 9, 3) := by decide +kernel
theorem dX5_compare_18 : decode cX5_compare 18 = .ok (.iload_n 2, 1) := by decide +kernel
theorem dX5_compare_19 : decode cX5_compare 19 = .ok (.laload, 1) := by decide +kernel
theorem dX5_compare_20 : decode cX5_compare 20 = .ok (.invokestatic 85, 3) := by decide +kernel
theorem dX5_compare_23 : decode cX5_compare 23 = .ok (.ireturn, 1) := by decide +kernel
set_option maxRecDepth 20000 in
theorem ggX5_least_X0_order : GoodIn wsX5_least wsX0_order := goodIn_r _ [5, 6, 7, 4, 8, 9, 10, 11, 12, 13] (by decide +kernel) (by decide +kernel)
set_option maxRecDepth 20000 in
theorem gX5_least_X0_order : GoodIn wsX5_least (va_wsS RX5 85 yX0_order wsX0_order) := goodIn_app (goodIn_of _ (by decide +kernel)) ggX5_least_X0_order
theorem dX5_least_0 : decode cX5_least 0 = .ok (.iconst 0, 1) := by decide +kernel
theorem dX5_least_1 : decode cX5_least 1 = .ok (.istore_n 1, 1) := by decide +kernel
theorem dX5_least_2 : decode cX5_least 2 = .ok (.iconst 1, 1) := by decide +kernel
theorem dX5_least_3 : decode cX5_least 3 = .ok (.istore_n 2, 1) := by decide +kernel
theorem dX5_least_4 : decode cX5_least 4 = .ok (.iload_n 2, 1) := by decide +kernel
theorem dX5_least_5 : decode cX5_least 5 = .ok (.bipush 8, 2) := by decide +kernel
theorem dX5_least_7 : decode cX5_least 7 = .ok (.if_icmp .ge 29, 3) := by decide +kernel
theorem dX5_least_10 : decode cX5_least 10 = .ok (.aload_n 0, 1) := by decide +kernel
theorem dX5_least_11 : decode cX5_least 11 = .ok (.getfield 9, 3) := by decide +kernel
theorem dX5_least_14 : decode cX5_least 14 = .ok (.iload_n 2, 1) := by decide +kernel
theorem dX5_least_15 : decode cX5_least 15 = .ok (.laload, 1) := by decide +kernel
theorem dX5_least_16 : decode cX5_least 16 = .ok (.aload_n 0, 1) := by decide +kernel
theorem dX5_least_17 : decode cX5_least 17 = .ok (.getfield 9, 3) := by decide +kernel
theorem dX5_least_20 : decode cX5_least 20 = .ok (.iload_n 1, 1) := by decide +kernel
theorem dX5_least_21 : decode cX5_least 21 = .ok (.laload, 1) := by decide +kernel
theorem dX5_least_22 : decode cX5_least 22 = .ok (.invokestatic 85, 3) := by decide +kernel
theorem dX5_least_25 : decode cX5_least 25 = .ok (.ifCond .ge 5, 3) := by decide +kernel
theorem dX5_least_28 : decode cX5_least 28 = .ok (.iload_n 2, 1) := by decide +kernel
theorem dX5_least_29 : decode cX5_least 29 = .ok (.istore_n 1, 1) := by decide +kernel
theorem dX5_least_30 : decode cX5_least 30 = .ok (.iinc 2 1, 3) := by decide +kernel
theorem dX5_least_33 : decode cX5_least 33 = .ok (.goto (-29), 3) := by decide +kernel
theorem dX5_least_36 : decode cX5_least 36 = .ok (.iload_n 1, 1) := by decide +kernel
theorem dX5_least_37 : decode cX5_least 37 = .ok (.ireturn, 1) := by decide +kernel
set_option maxRecDepth 20000 in
theorem ggX5_rank_X5_checkSlot : GoodIn wsX5_rank wsX5_checkSlot := goodIn_ca (goodIn_r _ [5, 6, 7] (by decide +kernel) (by decide +kernel)) (goodIn_sub (fun _ h => List.mem_cons_of_mem _ (List.mem_append_right _ h)) (by decide +kernel))
set_option maxRecDepth 20000 in
theorem gX5_rank_X5_checkSlot : GoodIn wsX5_rank (va_wsS RX5 27 yX5_checkSlot wsX5_checkSlot) := goodIn_app (goodIn_of _ (by decide +kernel)) ggX5_rank_X5_checkSlot
set_option maxRecDepth 20000 in
theorem ggX5_rank_X0_order : GoodIn wsX5_rank wsX0_order := goodIn_r _ [11, 12, 13, 10, 14, 15, 16, 17, 18, 19] (by decide +kernel) (by decide +kernel)
set_option maxRecDepth 20000 in
theorem gX5_rank_X0_order : GoodIn wsX5_rank (va_wsS RX5 85 yX0_order wsX0_order) := goodIn_app (goodIn_of _ (by decide +kernel)) ggX5_rank_X0_order
theorem dX5_rank_0 : decode cX5_rank 0 = .ok (.iload_n 1, 1) := by decide +kernel
theorem dX5_rank_1 : decode cX5_rank 1 = .ok (.invokestatic 27, 3) := by decide +kernel
theorem dX5_rank_4 : decode cX5_rank 4 = .ok (.iconst 0, 1) := by decide +kernel
theorem dX5_rank_5 : decode cX5_rank 5 = .ok (.istore_n 2, 1) := by decide +kernel
theorem dX5_rank_6 : decode cX5_rank 6 = .ok (.iconst 0, 1) := by decide +kernel
theorem dX5_rank_7 : decode cX5_rank 7 = .ok (.istore_n 3, 1) := by decide +kernel
theorem dX5_rank_8 : decode cX5_rank 8 = .ok (.iload_n 3, 1) := by decide +kernel
theorem dX5_rank_9 : decode cX5_rank 9 = .ok (.bipush 8, 2) := by decide +kernel
theorem dX5_rank_11 : decode cX5_rank 11 = .ok (.if_icmp .ge 30, 3) := by decide +kernel
theorem dX5_rank_14 : decode cX5_rank 14 = .ok (.aload_n 0, 1) := by decide +kernel
theorem dX5_rank_15 : decode cX5_rank 15 = .ok (.getfield 9, 3) := by decide +kernel
theorem dX5_rank_18 : decode cX5_rank 18 = .ok (.iload_n 3, 1) := by decide +kernel
theorem dX5_rank_19 : decode cX5_rank 19 = .ok (.laload, 1) := by decide +kernel
theorem dX5_rank_20 : decode cX5_rank 20 = .ok (.aload_n 0, 1) := by decide +kernel
theorem dX5_rank_21 : decode cX5_rank 21 = .ok (.getfield 9, 3) := by decide +kernel
theorem dX5_rank_24 : decode cX5_rank 24 = .ok (.iload_n 1, 1) := by decide +kernel
theorem dX5_rank_25 : decode cX5_rank 25 = .ok (.laload, 1) := by decide +kernel
theorem dX5_rank_26 : decode cX5_rank 26 = .ok (.invokestatic 85, 3) := by decide +kernel
theorem dX5_rank_29 : decode cX5_rank 29 = .ok (.ifCond .ge 6, 3) := by decide +kernel
theorem dX5_rank_32 : decode cX5_rank 32 = .ok (.iinc 2 1, 3) := by decide +kernel
theorem dX5_rank_35 : decode cX5_rank 35 = .ok (.iinc 3 1, 3) := by decide +kernel
theorem dX5_rank_38 : decode cX5_rank 38 = .ok (.goto (-30), 3) := by decide +kernel
theorem dX5_rank_41 : decode cX5_rank 41 = .ok (.iload_n 2, 1) := by decide +kernel
theorem dX5_rank_42 : decode cX5_rank 42 = .ok (.ireturn, 1) := by decide +kernel
set_option maxRecDepth 20000 in
theorem ggX5_scale_X5_checkSlot : GoodIn wsX5_scale wsX5_checkSlot := goodIn_ca (goodIn_r _ [5, 6, 7] (by decide +kernel) (by decide +kernel)) (goodIn_sub (fun _ h => List.mem_cons_of_mem _ (List.mem_append_left _ (List.mem_append_right _ h))) (by decide +kernel))
set_option maxRecDepth 20000 in
theorem gX5_scale_X5_checkSlot : GoodIn wsX5_scale (va_wsS RX5 27 yX5_checkSlot wsX5_checkSlot) := goodIn_app (goodIn_of _ (by decide +kernel)) ggX5_scale_X5_checkSlot
set_option maxRecDepth 20000 in
theorem ggX5_scale_X5_checkRange : GoodIn wsX5_scale wsX5_checkRange := goodIn_ca (goodIn_r _ [10, 11, 12] (by decide +kernel) (by decide +kernel)) (goodIn_sub (fun _ h => List.mem_cons_of_mem _ (List.mem_append_right _ h)) (by decide +kernel))
set_option maxRecDepth 20000 in
theorem gX5_scale_X5_checkRange : GoodIn wsX5_scale (va_wsS RX5 31 yX5_checkRange wsX5_checkRange) := goodIn_app (goodIn_of _ (by decide +kernel)) ggX5_scale_X5_checkRange
set_option maxRecDepth 20000 in
theorem ggX5_scale_X0_scaled : GoodIn wsX5_scale wsX0_scaled := goodIn_r _ [16, 17, 18, 19, 15, 20, 21, 22, 23, 24, 25, 26, 27, 28, 29, 30, 31, 32, 33, 34, 35, 36, 37, 38, 39, 40, 41, 42, 43, 44, 45, 46, 47, 48, 49, 50, 51, 52, 53, 54, 55, 56, 57, 58] (by decide +kernel) (by decide +kernel)
set_option maxRecDepth 20000 in
theorem gX5_scale_X0_scaled : GoodIn wsX5_scale (va_wsS RX5 89 yX0_scaled wsX0_scaled) := goodIn_app (goodIn_of _ (by decide +kernel)) ggX5_scale_X0_scaled
set_option maxRecDepth 20000 in
theorem ggX5_scale_X5_become : GoodIn wsX5_scale wsX5_become := goodIn_ca (goodIn_r _ [62, 63, 1, 64, 65, 66, 67, 68, 69, 70, 71, 72, 73, 74, 42, 75, 76, 77, 15, 78, 17, 79, 80, 81, 82, 83, 84, 85] (by decide +kernel) (by decide +kernel)) (goodIn_sub (fun _ h => List.mem_cons_of_mem _ (List.mem_append_left _ (List.mem_append_left _ (List.mem_append_right _ h)))) (by decide +kernel))
set_option maxRecDepth 20000 in
theorem gX5_scale_X5_become : GoodIn wsX5_scale (wsV RX5 41 RX5 yX5_become wsX5_become) := goodIn_app (goodIn_of _ (by decide +kernel)) ggX5_scale_X5_become
theorem dX5_scale_0 : decode cX5_scale 0 = .ok (.iload_n 1, 1) := by decide +kernel
theorem dX5_scale_1 : decode cX5_scale 1 = .ok (.invokestatic 27, 3) := by decide +kernel
theorem dX5_scale_4 : decode cX5_scale 4 = .ok (.iload_n 3, 1) := by decide +kernel
theorem dX5_scale_5 : decode cX5_scale 5 = .ok (.invokestatic 27, 3) := by decide +kernel
theorem dX5_scale_8 : decode cX5_scale 8 = .ok (.iload_n 2, 1) := by decide +kernel
theorem dX5_scale_9 : decode cX5_scale 9 = .ok (.sipush (-4200), 3) := by decide +kernel
theorem dX5_scale_12 : decode cX5_scale 12 = .ok (.sipush 4200, 3) := by decide +kernel
theorem dX5_scale_15 : decode cX5_scale 15 = .ok (.invokestatic 31, 3) := by decide +kernel
theorem dX5_scale_18 : decode cX5_scale 18 = .ok (.aload_n 0, 1) := by decide +kernel
theorem dX5_scale_19 : decode cX5_scale 19 = .ok (.iload_n 3, 1) := by decide +kernel
theorem dX5_scale_20 : decode cX5_scale 20 = .ok (.aload_n 0, 1) := by decide +kernel
theorem dX5_scale_21 : decode cX5_scale 21 = .ok (.getfield 9, 3) := by decide +kernel
theorem dX5_scale_24 : decode cX5_scale 24 = .ok (.iload_n 1, 1) := by decide +kernel
theorem dX5_scale_25 : decode cX5_scale 25 = .ok (.laload, 1) := by decide +kernel
theorem dX5_scale_26 : decode cX5_scale 26 = .ok (.iload_n 2, 1) := by decide +kernel
theorem dX5_scale_27 : decode cX5_scale 27 = .ok (.invokestatic 89, 3) := by decide +kernel
theorem dX5_scale_30 : decode cX5_scale 30 = .ok (.invokevirtual 41, 3) := by decide +kernel
theorem dX5_scale_33 : decode cX5_scale 33 = .ok (.lreturn, 1) := by decide +kernel
set_option maxRecDepth 20000 in
theorem ggX5_isKept_X5_checkSlot : GoodIn wsX5_isKept wsX5_checkSlot := goodIn_ca (goodIn_r _ [5, 6, 7] (by decide +kernel) (by decide +kernel)) (goodIn_sub (fun _ h => List.mem_cons_of_mem _ (List.mem_append_left _ (List.mem_append_right _ h))) (by decide +kernel))
set_option maxRecDepth 20000 in
theorem gX5_isKept_X5_checkSlot : GoodIn wsX5_isKept (va_wsS RX5 27 yX5_checkSlot wsX5_checkSlot) := goodIn_app (goodIn_of _ (by decide +kernel)) ggX5_isKept_X5_checkSlot
set_option maxRecDepth 20000 in
theorem ggX5_isKept_X5_checkRange : GoodIn wsX5_isKept wsX5_checkRange := goodIn_ca (goodIn_r _ [10, 11, 12] (by decide +kernel) (by decide +kernel)) (goodIn_sub (fun _ h => List.mem_cons_of_mem _ (List.mem_append_right _ h)) (by decide +kernel))
set_option maxRecDepth 20000 in
theorem gX5_isKept_X5_checkRange : GoodIn wsX5_isKept (va_wsS RX5 31 yX5_checkRange wsX5_checkRange) := goodIn_app (goodIn_of _ (by decide +kernel)) ggX5_isKept_X5_checkRange
set_option maxRecDepth 20000 in
theorem ggX5_isKept_X0_scaled : GoodIn wsX5_isKept wsX0_scaled := goodIn_r _ [16, 17, 18, 19, 15, 20, 21, 22, 23, 24, 25, 26, 27, 28, 29, 30, 31, 32, 33, 34, 35, 36, 37, 38, 39, 40, 41, 42, 43, 44, 45, 46, 47, 48, 49, 50, 51, 52, 53, 54, 55, 56, 57, 58] (by decide +kernel) (by decide +kernel)
set_option maxRecDepth 20000 in
theorem gX5_isKept_X0_scaled : GoodIn wsX5_isKept (va_wsS RX5 89 yX0_scaled wsX0_scaled) := goodIn_app (goodIn_of _ (by decide +kernel)) ggX5_isKept_X0_scaled
theorem dX5_isKept_0 : decode cX5_isKept 0 = .ok (.iload_n 1, 1) := by decide +kernel
theorem dX5_isKept_1 : decode cX5_isKept 1 = .ok (.invokestatic 27, 3) := by decide +kernel
theorem dX5_isKept_4 : decode cX5_isKept 4 = .ok (.iload_n 2, 1) := by decide +kernel
theorem dX5_isKept_5 : decode cX5_isKept 5 = .ok (.sipush (-4200), 3) := by decide +kernel
theorem dX5_isKept_8 : decode cX5_isKept 8 = .ok (.sipush 4200, 3) := by decide +kernel
theorem dX5_isKept_11 : decode cX5_isKept 11 = .ok (.invokestatic 31, 3) := by decide +kernel
theorem dX5_isKept_14 : decode cX5_isKept 14 = .ok (.aload_n 0, 1) := by decide +kernel
theorem dX5_isKept_15 : decode cX5_isKept 15 = .ok (.getfield 9, 3) := by decide +kernel
theorem dX5_isKept_18 : decode cX5_isKept 18 = .ok (.iload_n 1, 1) := by decide +kernel
theorem dX5_isKept_19 : decode cX5_isKept 19 = .ok (.laload, 1) := by decide +kernel
theorem dX5_isKept_20 : decode cX5_isKept 20 = .ok (.lstore_n 3, 1) := by decide +kernel
theorem dX5_isKept_21 : decode cX5_isKept 21 = .ok (.lload_n 3, 1) := by decide +kernel
theorem dX5_isKept_22 : decode cX5_isKept 22 = .ok (.iload_n 2, 1) := by decide +kernel
theorem dX5_isKept_23 : decode cX5_isKept 23 = .ok (.invokestatic 89, 3) := by decide +kernel
theorem dX5_isKept_26 : decode cX5_isKept 26 = .ok (.iload_n 2, 1) := by decide +kernel
theorem dX5_isKept_27 : decode cX5_isKept 27 = .ok (.ineg, 1) := by decide +kernel
theorem dX5_isKept_28 : decode cX5_isKept 28 = .ok (.invokestatic 89, 3) := by decide +kernel
theorem dX5_isKept_31 : decode cX5_isKept 31 = .ok (.lload_n 3, 1) := by decide +kernel
theorem dX5_isKept_32 : decode cX5_isKept 32 = .ok (.lcmp, 1) := by decide +kernel
theorem dX5_isKept_33 : decode cX5_isKept 33 = .ok (.ifCond .ne 7, 3) := by decide +kernel
theorem dX5_isKept_36 : decode cX5_isKept 36 = .ok (.iconst 1, 1) := by decide +kernel
theorem dX5_isKept_37 : decode cX5_isKept 37 = .ok (.goto 4, 3) := by decide +kernel
theorem dX5_isKept_40 : decode cX5_isKept 40 = .ok (.iconst 0, 1) := by decide +kernel
theorem dX5_isKept_41 : decode cX5_isKept 41 = .ok (.ireturn, 1) := by decide +kernel
set_option maxRecDepth 20000 in
theorem ggX5_isOne_X5_checkSlot : GoodIn wsX5_isOne wsX5_checkSlot := goodIn_ca (goodIn_r _ [5, 6, 7] (by decide +kernel) (by decide +kernel)) (goodIn_sub (fun _ h => List.mem_cons_of_mem _ (List.mem_append_left _ (List.mem_append_right _ h))) (by decide +kernel))
set_option maxRecDepth 20000 in
theorem gX5_isOne_X5_checkSlot : GoodIn wsX5_isOne (va_wsS RX5 27 yX5_checkSlot wsX5_checkSlot) := goodIn_app (goodIn_of _ (by decide +kernel)) ggX5_isOne_X5_checkSlot
set_option maxRecDepth 20000 in
theorem ggX5_isOne_X5_checkRange : GoodIn wsX5_isOne wsX5_checkRange := goodIn_ca (goodIn_r _ [10, 11, 12] (by decide +kernel) (by decide +kernel)) (goodIn_sub (fun _ h => List.mem_cons_of_mem _ (List.mem_append_right _ h)) (by decide +kernel))
set_option maxRecDepth 20000 in
theorem gX5_isOne_X5_checkRange : GoodIn wsX5_isOne (va_wsS RX5 31 yX5_checkRange wsX5_checkRange) := goodIn_app (goodIn_of _ (by decide +kernel)) ggX5_isOne_X5_checkRange
set_option maxRecDepth 20000 in
theorem ggX5_isOne_X0_scaled : GoodIn wsX5_isOne wsX0_scaled := goodIn_r _ [16, 17, 18, 19, 15, 20, 21, 22, 23, 24, 25, 26, 27, 28, 29, 30, 31, 32, 33, 34, 35, 36, 37, 38, 39, 40, 41, 42, 43, 44, 45, 46, 47, 48, 49, 50, 51, 52, 53, 54, 55, 56, 57, 58] (by decide +kernel) (by decide +kernel)
set_option maxRecDepth 20000 in
theorem gX5_isOne_X0_scaled : GoodIn wsX5_isOne (va_wsS RX5 89 yX0_scaled wsX0_scaled) := goodIn_app (goodIn_of _ (by decide +kernel)) ggX5_isOne_X0_scaled
theorem dX5_isOne_0 : decode cX5_isOne 0 = .ok (.iload_n 1, 1) := by decide +kernel
theorem dX5_isOne_1 : decode cX5_isOne 1 = .ok (.invokestatic 27, 3) := by decide +kernel
theorem dX5_isOne_4 : decode cX5_isOne 4 = .ok (.iload_n 2, 1) := by decide +kernel
theorem dX5_isOne_5 : decode cX5_isOne 5 = .ok (.sipush (-2100), 3) := by decide +kernel
theorem dX5_isOne_8 : decode cX5_isOne 8 = .ok (.sipush 2100, 3) := by decide +kernel
theorem dX5_isOne_11 : decode cX5_isOne 11 = .ok (.invokestatic 31, 3) := by decide +kernel
theorem dX5_isOne_14 : decode cX5_isOne 14 = .ok (.iload_n 3, 1) := by decide +kernel
theorem dX5_isOne_15 : decode cX5_isOne 15 = .ok (.sipush (-2100), 3) := by decide +kernel
theorem dX5_isOne_18 : decode cX5_isOne 18 = .ok (.sipush 2100, 3) := by decide +kernel
theorem dX5_isOne_21 : decode cX5_isOne 21 = .ok (.invokestatic 31, 3) := by decide +kernel
theorem dX5_isOne_24 : decode cX5_isOne 24 = .ok (.aload_n 0, 1) := by decide +kernel
theorem dX5_isOne_25 : decode cX5_isOne 25 = .ok (.getfield 9, 3) := by decide +kernel
theorem dX5_isOne_28 : decode cX5_isOne 28 = .ok (.iload_n 1, 1) := by decide +kernel
theorem dX5_isOne_29 : decode cX5_isOne 29 = .ok (.laload, 1) := by decide +kernel
theorem dX5_isOne_30 : decode cX5_isOne 30 = .ok (.lstore 4, 2) := by decide +kernel
theorem dX5_isOne_32 : decode cX5_isOne 32 = .ok (.lload 4, 2) := by decide +kernel
theorem dX5_isOne_34 : decode cX5_isOne 34 = .ok (.iload_n 2, 1) := by decide +kernel
theorem dX5_isOne_35 : decode cX5_isOne 35 = .ok (.invokestatic 89, 3) := by decide +kernel
theorem dX5_isOne_38 : decode cX5_isOne 38 = .ok (.iload_n 3, 1) := by decide +kernel
theorem dX5_isOne_39 : decode cX5_isOne 39 = .ok (.invokestatic 89, 3) := by decide +kernel
theorem dX5_isOne_42 : decode cX5_isOne 42 = .ok (.lload 4, 2) := by decide +kernel
theorem dX5_isOne_44 : decode cX5_isOne 44 = .ok (.iload_n 2, 1) := by decide +kernel
theorem dX5_isOne_45 : decode cX5_isOne 45 = .ok (.iload_n 3, 1) := by decide +kernel
theorem dX5_isOne_46 : decode cX5_isOne 46 = .ok (.iadd, 1) := by decide +kernel
theorem dX5_isOne_47 : decode cX5_isOne 47 = .ok (.invokestatic 89, 3) := by decide +kernel
theorem dX5_isOne_50 : decode cX5_isOne 50 = .ok (.lcmp, 1) := by decide +kernel
theorem dX5_isOne_51 : decode cX5_isOne 51 = .ok (.ifCond .ne 7, 3) := by decide +kernel
theorem dX5_isOne_54 : decode cX5_isOne 54 = .ok (.iconst 1, 1) := by decide +kernel
theorem dX5_isOne_55 : decode cX5_isOne 55 = .ok (.goto 4, 3) := by decide +kernel
theorem dX5_isOne_58 : decode cX5_isOne 58 = .ok (.iconst 0, 1) := by decide +kernel
theorem dX5_isOne_59 : decode cX5_isOne 59 = .ok (.ireturn, 1) := by decide +kernel
set_option maxRecDepth 20000 in
theorem ggX5_exponent_X5_checkSlot : GoodIn wsX5_exponent wsX5_checkSlot := goodIn_ca (goodIn_r _ [5, 6, 7] (by decide +kernel) (by decide +kernel)) (goodIn_sub (fun _ h => List.mem_cons_of_mem _ (List.mem_append_right _ h)) (by decide +kernel))
set_option maxRecDepth 20000 in
theorem gX5_exponent_X5_checkSlot : GoodIn wsX5_exponent (va_wsS RX5 27 yX5_checkSlot wsX5_checkSlot) := goodIn_app (goodIn_of _ (by decide +kernel)) ggX5_exponent_X5_checkSlot
set_option maxRecDepth 20000 in
theorem ggX5_exponent_X0_exponentOf : GoodIn wsX5_exponent wsX0_exponentOf := goodIn_r _ [11, 12, 13, 10, 14] (by decide +kernel) (by decide +kernel)
set_option maxRecDepth 20000 in
theorem gX5_exponent_X0_exponentOf : GoodIn wsX5_exponent (va_wsS RX5 92 yX0_exponentOf wsX0_exponentOf) := goodIn_app (goodIn_of _ (by decide +kernel)) ggX5_exponent_X0_exponentOf
theorem dX5_exponent_0 : decode cX5_exponent 0 = .ok (.iload_n 1, 1) := by decide +kernel
theorem dX5_exponent_1 : decode cX5_exponent 1 = .ok (.invokestatic 27, 3) := by decide +kernel
theorem dX5_exponent_4 : decode cX5_exponent 4 = .ok (.aload_n 0, 1) := by decide +kernel
theorem dX5_exponent_5 : decode cX5_exponent 5 = .ok (.getfield 9, 3) := by decide +kernel
theorem dX5_exponent_8 : decode cX5_exponent 8 = .ok (.iload_n 1, 1) := by decide +kernel
theorem dX5_exponent_9 : decode cX5_exponent 9 = .ok (.laload, 1) := by decide +kernel
theorem dX5_exponent_10 : decode cX5_exponent 10 = .ok (.invokestatic 92, 3) := by decide +kernel
theorem dX5_exponent_13 : decode cX5_exponent 13 = .ok (.ireturn, 1) := by decide +kernel
set_option maxRecDepth 20000 in
theorem ggX5_unit_X5_checkSlot : GoodIn wsX5_unit wsX5_checkSlot := goodIn_ca (goodIn_r _ [5, 6, 7] (by decide +kernel) (by decide +kernel)) (goodIn_sub (fun _ h => List.mem_cons_of_mem _ (List.mem_append_right _ h)) (by decide +kernel))
set_option maxRecDepth 20000 in
theorem gX5_unit_X5_checkSlot : GoodIn wsX5_unit (va_wsS RX5 27 yX5_checkSlot wsX5_checkSlot) := goodIn_app (goodIn_of _ (by decide +kernel)) ggX5_unit_X5_checkSlot
set_option maxRecDepth 20000 in
theorem ggX5_unit_X0_unitOf : GoodIn wsX5_unit wsX0_unitOf := goodIn_r _ [11, 12, 13, 14, 10, 15, 16, 17, 18, 19, 20, 21, 22, 23, 24, 25, 26, 27, 28, 29, 30, 31, 32, 33, 34, 35, 36, 37, 38, 39, 40, 41, 42, 43, 44, 45, 46, 47] (by decide +kernel) (by decide +kernel)
set_option maxRecDepth 20000 in
theorem gX5_unit_X0_unitOf : GoodIn wsX5_unit (va_wsS RX5 96 yX0_unitOf wsX0_unitOf) := goodIn_app (goodIn_of _ (by decide +kernel)) ggX5_unit_X0_unitOf
set_option maxRecDepth 20000 in
theorem ggX5_unit_X5_become : GoodIn wsX5_unit wsX5_become := goodIn_ca (goodIn_r _ [51, 52, 1, 53, 54, 55, 56, 57, 58, 59, 60, 61, 62, 63, 25, 64, 65, 66, 10, 67, 68, 69, 70, 71, 72, 73, 74, 75] (by decide +kernel) (by decide +kernel)) (goodIn_sub (fun _ h => List.mem_cons_of_mem _ (List.mem_append_left _ (List.mem_append_right _ h))) (by decide +kernel))
set_option maxRecDepth 20000 in
theorem gX5_unit_X5_become : GoodIn wsX5_unit (wsV RX5 41 RX5 yX5_become wsX5_become) := goodIn_app (goodIn_of _ (by decide +kernel)) ggX5_unit_X5_become
theorem dX5_unit_0 : decode cX5_unit 0 = .ok (.iload_n 1, 1) := by decide +kernel
theorem dX5_unit_1 : decode cX5_unit 1 = .ok (.invokestatic 27, 3) := by decide +kernel
theorem dX5_unit_4 : decode cX5_unit 4 = .ok (.iload_n 2, 1) := by decide +kernel
theorem dX5_unit_5 : decode cX5_unit 5 = .ok (.invokestatic 27, 3) := by decide +kernel
theorem dX5_unit_8 : decode cX5_unit 8 = .ok (.aload_n 0, 1) := by decide +kernel
theorem dX5_unit_9 : decode cX5_unit 9 = .ok (.iload_n 2, 1) := by decide +kernel
theorem dX5_unit_10 : decode cX5_unit 10 = .ok (.aload_n 0, 1) := by decide +kernel
theorem dX5_unit_11 : decode cX5_unit 11 = .ok (.getfield 9, 3) := by decide +kernel
theorem dX5_unit_14 : decode cX5_unit 14 = .ok (.iload_n 1, 1) := by decide +kernel
theorem dX5_unit_15 : decode cX5_unit 15 = .ok (.laload, 1) := by decide +kernel
theorem dX5_unit_16 : decode cX5_unit 16 = .ok (.invokestatic 96, 3) := by decide +kernel
theorem dX5_unit_19 : decode cX5_unit 19 = .ok (.invokevirtual 41, 3) := by decide +kernel
theorem dX5_unit_22 : decode cX5_unit 22 = .ok (.lreturn, 1) := by decide +kernel
set_option maxRecDepth 20000 in
theorem ggX5_lead_X5_checkSlot : GoodIn wsX5_lead wsX5_checkSlot := goodIn_ca (goodIn_r _ [5, 6, 7] (by decide +kernel) (by decide +kernel)) (goodIn_sub (fun _ h => List.mem_cons_of_mem _ (List.mem_append_left _ (List.mem_append_right _ h))) (by decide +kernel))
set_option maxRecDepth 20000 in
theorem gX5_lead_X5_checkSlot : GoodIn wsX5_lead (va_wsS RX5 27 yX5_checkSlot wsX5_checkSlot) := goodIn_app (goodIn_of _ (by decide +kernel)) ggX5_lead_X5_checkSlot
set_option maxRecDepth 20000 in
theorem ggX5_lead_X5_checkHasPowers : GoodIn wsX5_lead wsX5_checkHasPowers := goodIn_ca (goodIn_r _ [10, 11, 12, 13, 14, 15, 16, 17, 18, 19, 20, 21, 22, 23, 24] (by decide +kernel) (by decide +kernel)) (goodIn_sub (fun _ h => List.mem_cons_of_mem _ (List.mem_append_right _ h)) (by decide +kernel))
set_option maxRecDepth 20000 in
theorem gX5_lead_X5_checkHasPowers : GoodIn wsX5_lead (va_wsS RX5 99 yX5_checkHasPowers wsX5_checkHasPowers) := goodIn_app (goodIn_of _ (by decide +kernel)) ggX5_lead_X5_checkHasPowers
set_option maxRecDepth 20000 in
theorem ggX5_lead_X0_leadOf : GoodIn wsX5_lead wsX0_leadOf := goodIn_r _ [27, 28, 29, 15, 30, 31, 32, 33, 34, 35, 36, 37, 38, 39, 40, 41, 42, 43, 44, 45, 46, 47, 48, 49, 50, 51] (by decide +kernel) (by decide +kernel)
set_option maxRecDepth 20000 in
theorem gX5_lead_X0_leadOf : GoodIn wsX5_lead (va_wsS RX5 103 yX0_leadOf wsX0_leadOf) := goodIn_app (goodIn_of _ (by decide +kernel)) ggX5_lead_X0_leadOf
theorem dX5_lead_0 : decode cX5_lead 0 = .ok (.iload_n 1, 1) := by decide +kernel
theorem dX5_lead_1 : decode cX5_lead 1 = .ok (.invokestatic 27, 3) := by decide +kernel
theorem dX5_lead_4 : decode cX5_lead 4 = .ok (.aload_n 0, 1) := by decide +kernel
theorem dX5_lead_5 : decode cX5_lead 5 = .ok (.getfield 9, 3) := by decide +kernel
theorem dX5_lead_8 : decode cX5_lead 8 = .ok (.iload_n 1, 1) := by decide +kernel
theorem dX5_lead_9 : decode cX5_lead 9 = .ok (.laload, 1) := by decide +kernel
theorem dX5_lead_10 : decode cX5_lead 10 = .ok (.invokestatic 99, 3) := by decide +kernel
theorem dX5_lead_13 : decode cX5_lead 13 = .ok (.aload_n 0, 1) := by decide +kernel
theorem dX5_lead_14 : decode cX5_lead 14 = .ok (.getfield 9, 3) := by decide +kernel
theorem dX5_lead_17 : decode cX5_lead 17 = .ok (.iload_n 1, 1) := by decide +kernel
theorem dX5_lead_18 : decode cX5_lead 18 = .ok (.laload, 1) := by decide +kernel
theorem dX5_lead_19 : decode cX5_lead 19 = .ok (.invokestatic 103, 3) := by decide +kernel
theorem dX5_lead_22 : decode cX5_lead 22 = .ok (.ireturn, 1) := by decide +kernel
set_option maxRecDepth 20000 in
theorem ggX5_tail_X5_checkSlot : GoodIn wsX5_tail wsX5_checkSlot := goodIn_ca (goodIn_r _ [5, 6, 7] (by decide +kernel) (by decide +kernel)) (goodIn_sub (fun _ h => List.mem_cons_of_mem _ (List.mem_append_left _ (List.mem_append_right _ h))) (by decide +kernel))
set_option maxRecDepth 20000 in
theorem gX5_tail_X5_checkSlot : GoodIn wsX5_tail (va_wsS RX5 27 yX5_checkSlot wsX5_checkSlot) := goodIn_app (goodIn_of _ (by decide +kernel)) ggX5_tail_X5_checkSlot
set_option maxRecDepth 20000 in
theorem ggX5_tail_X5_checkHasPowers : GoodIn wsX5_tail wsX5_checkHasPowers := goodIn_ca (goodIn_r _ [10, 11, 12, 13, 14, 15, 16, 17, 18, 19, 20, 21, 22, 23, 24] (by decide +kernel) (by decide +kernel)) (goodIn_sub (fun _ h => List.mem_cons_of_mem _ (List.mem_append_right _ h)) (by decide +kernel))
set_option maxRecDepth 20000 in
theorem gX5_tail_X5_checkHasPowers : GoodIn wsX5_tail (va_wsS RX5 99 yX5_checkHasPowers wsX5_checkHasPowers) := goodIn_app (goodIn_of _ (by decide +kernel)) ggX5_tail_X5_checkHasPowers
set_option maxRecDepth 20000 in
theorem ggX5_tail_X0_tailOf : GoodIn wsX5_tail wsX0_tailOf := goodIn_r _ [27, 28, 29, 15, 30, 31, 32, 33, 34, 35, 36, 37, 38, 39, 40, 41, 42, 43, 44, 45, 46, 47, 48, 49, 50, 51] (by decide +kernel) (by decide +kernel)
set_option maxRecDepth 20000 in
theorem gX5_tail_X0_tailOf : GoodIn wsX5_tail (va_wsS RX5 106 yX0_tailOf wsX0_tailOf) := goodIn_app (goodIn_of _ (by decide +kernel)) ggX5_tail_X0_tailOf
theorem dX5_tail_0 : decode cX5_tail 0 = .ok (.iload_n 1, 1) := by decide +kernel
theorem dX5_tail_1 : decode cX5_tail 1 = .ok (.invokestatic 27, 3) := by decide +kernel
theorem dX5_tail_4 : decode cX5_tail 4 = .ok (.aload_n 0, 1) := by decide +kernel
theorem dX5_tail_5 : decode cX5_tail 5 = .ok (.getfield 9, 3) := by decide +kernel
theorem dX5_tail_8 : decode cX5_tail 8 = .ok (.iload_n 1, 1) := by decide +kernel
theorem dX5_tail_9 : decode cX5_tail 9 = .ok (.laload, 1) := by decide +kernel
theorem dX5_tail_10 : decode cX5_tail 10 = .ok (.invokestatic 99, 3) := by decide +kernel
theorem dX5_tail_13 : decode cX5_tail 13 = .ok (.aload_n 0, 1) := by decide +kernel
theorem dX5_tail_14 : decode cX5_tail 14 = .ok (.getfield 9, 3) := by decide +kernel
theorem dX5_tail_17 : decode cX5_tail 17 = .ok (.iload_n 1, 1) := by decide +kernel
theorem dX5_tail_18 : decode cX5_tail 18 = .ok (.laload, 1) := by decide +kernel
theorem dX5_tail_19 : decode cX5_tail 19 = .ok (.invokestatic 106, 3) := by decide +kernel
theorem dX5_tail_22 : decode cX5_tail 22 = .ok (.ireturn, 1) := by decide +kernel
set_option maxRecDepth 20000 in
theorem ggX5_power_X5_checkSlot : GoodIn wsX5_power wsX5_checkSlot := goodIn_ca (goodIn_r _ [5, 6, 7] (by decide +kernel) (by decide +kernel)) (goodIn_sub (fun _ h => List.mem_cons_of_mem _ (List.mem_append_left _ (List.mem_append_right _ h))) (by decide +kernel))
set_option maxRecDepth 20000 in
theorem gX5_power_X5_checkSlot : GoodIn wsX5_power (va_wsS RX5 27 yX5_checkSlot wsX5_checkSlot) := goodIn_app (goodIn_of _ (by decide +kernel)) ggX5_power_X5_checkSlot
set_option maxRecDepth 20000 in
theorem ggX5_power_X5_checkHasPowers : GoodIn wsX5_power wsX5_checkHasPowers := goodIn_ca (goodIn_r _ [10, 11, 12, 13, 14, 15, 16, 17, 18, 19, 20, 21, 22, 23, 24] (by decide +kernel) (by decide +kernel)) (goodIn_sub (fun _ h => List.mem_cons_of_mem _ (List.mem_append_right _ h)) (by decide +kernel))
set_option maxRecDepth 20000 in
theorem gX5_power_X5_checkHasPowers : GoodIn wsX5_power (va_wsS RX5 99 yX5_checkHasPowers wsX5_checkHasPowers) := goodIn_app (goodIn_of _ (by decide +kernel)) ggX5_power_X5_checkHasPowers
set_option maxRecDepth 20000 in
theorem ggX5_power_X0_leadOf : GoodIn wsX5_power wsX0_leadOf := goodIn_r _ [27, 28, 29, 15, 30, 31, 32, 33, 34, 35, 36, 37, 38, 39, 40, 41, 42, 43, 44, 45, 46, 47, 48, 49, 50, 51] (by decide +kernel) (by decide +kernel)
set_option maxRecDepth 20000 in
theorem gX5_power_X0_leadOf : GoodIn wsX5_power (va_wsS RX5 103 yX0_leadOf wsX0_leadOf) := goodIn_app (goodIn_of _ (by decide +kernel)) ggX5_power_X0_leadOf
set_option maxRecDepth 20000 in
theorem ggX5_power_X0_powerOfTwo : GoodIn wsX5_power wsX0_powerOfTwo := goodIn_r _ [54, 55, 56, 15, 57, 24, 36, 37, 38, 39, 40, 41, 42, 43, 44, 58, 59, 60] (by decide +kernel) (by decide +kernel)
set_option maxRecDepth 20000 in
theorem gX5_power_X0_powerOfTwo : GoodIn wsX5_power (va_wsS RX5 109 yX0_powerOfTwo wsX0_powerOfTwo) := goodIn_app (goodIn_of _ (by decide +kernel)) ggX5_power_X0_powerOfTwo
set_option maxRecDepth 20000 in
theorem ggX5_power_X5_become : GoodIn wsX5_power wsX5_become := goodIn_ca (goodIn_r _ [64, 65, 1, 66, 67, 68, 69, 70, 71, 72, 73, 74, 75, 76, 50, 77, 78, 79, 15, 80, 81, 82, 83, 84, 85, 86, 87, 88] (by decide +kernel) (by decide +kernel)) (goodIn_sub (fun _ h => List.mem_cons_of_mem _ (List.mem_append_left _ (List.mem_append_left _ (List.mem_append_right _ h)))) (by decide +kernel))
set_option maxRecDepth 20000 in
theorem gX5_power_X5_become : GoodIn wsX5_power (wsV RX5 41 RX5 yX5_become wsX5_become) := goodIn_app (goodIn_of _ (by decide +kernel)) ggX5_power_X5_become
theorem dX5_power_0 : decode cX5_power 0 = .ok (.iload_n 1, 1) := by decide +kernel
theorem dX5_power_1 : decode cX5_power 1 = .ok (.invokestatic 27, 3) := by decide +kernel
theorem dX5_power_4 : decode cX5_power 4 = .ok (.iload_n 2, 1) := by decide +kernel
theorem dX5_power_5 : decode cX5_power 5 = .ok (.invokestatic 27, 3) := by decide +kernel
theorem dX5_power_8 : decode cX5_power 8 = .ok (.aload_n 0, 1) := by decide +kernel
theorem dX5_power_9 : decode cX5_power 9 = .ok (.getfield 9, 3) := by decide +kernel
theorem dX5_power_12 : decode cX5_power 12 = .ok (.iload_n 1, 1) := by decide +kernel
theorem dX5_power_13 : decode cX5_power 13 = .ok (.laload, 1) := by decide +kernel
theorem dX5_power_14 : decode cX5_power 14 = .ok (.invokestatic 99, 3) := by decide +kernel
theorem dX5_power_17 : decode cX5_power 17 = .ok (.aload_n 0, 1) := by decide +kernel
theorem dX5_power_18 : decode cX5_power 18 = .ok (.iload_n 2, 1) := by decide +kernel
theorem dX5_power_19 : decode cX5_power 19 = .ok (.aload_n 0, 1) := by decide +kernel
theorem dX5_power_20 : decode cX5_power 20 = .ok (.getfield 9, 3) := by decide +kernel
theorem dX5_power_23 : decode cX5_power 23 = .ok (.iload_n 1, 1) := by decide +kernel
theorem dX5_power_24 : decode cX5_power 24 = .ok (.laload, 1) := by decide +kernel
theorem dX5_power_25 : decode cX5_power 25 = .ok (.invokestatic 103, 3) := by decide +kernel
theorem dX5_power_28 : decode cX5_power 28 = .ok (.invokestatic 109, 3) := by decide +kernel
theorem dX5_power_31 : decode cX5_power 31 = .ok (.invokevirtual 41, 3) := by decide +kernel
theorem dX5_power_34 : decode cX5_power 34 = .ok (.lreturn, 1) := by decide +kernel
set_option maxRecDepth 20000 in
theorem ggX5_grains_X5_checkSlot : GoodIn wsX5_grains wsX5_checkSlot := goodIn_ca (goodIn_r _ [6, 7, 8] (by decide +kernel) (by decide +kernel)) (goodIn_sub (fun _ h => List.mem_cons_of_mem _ (List.mem_append_left _ (List.mem_append_left _ (List.mem_append_left _ (List.mem_append_right _ h))))) (by decide +kernel))
set_option maxRecDepth 20000 in
theorem gX5_grains_X5_checkSlot : GoodIn wsX5_grains (va_wsS RX5 27 yX5_checkSlot wsX5_checkSlot) := goodIn_app (goodIn_of _ (by decide +kernel)) ggX5_grains_X5_checkSlot
set_option maxRecDepth 20000 in
theorem ggX5_grains_X5_checkRange : GoodIn wsX5_grains wsX5_checkRange := goodIn_ca (goodIn_r _ [11, 12, 13] (by decide +kernel) (by decide +kernel)) (goodIn_sub (fun _ h => List.mem_cons_of_mem _ (List.mem_append_left _ (List.mem_append_left _ (List.mem_append_right _ h)))) (by decide +kernel))
set_option maxRecDepth 20000 in
theorem gX5_grains_X5_checkRange : GoodIn wsX5_grains (va_wsS RX5 31 yX5_checkRange wsX5_checkRange) := goodIn_app (goodIn_of _ (by decide +kernel)) ggX5_grains_X5_checkRange
set_option maxRecDepth 20000 in
theorem ggX5_grains_X5_checkHasEnd : GoodIn wsX5_grains wsX5_checkHasEnd := goodIn_ca (goodIn_r _ [16, 17, 18, 19, 20, 21, 22, 23, 24, 25, 26, 27] (by decide +kernel) (by decide +kernel)) (goodIn_sub (fun _ h => List.mem_cons_of_mem _ (List.mem_append_left _ (List.mem_append_right _ h))) (by decide +kernel))
set_option maxRecDepth 20000 in
theorem gX5_grains_X5_checkHasEnd : GoodIn wsX5_grains (va_wsS RX5 114 yX5_checkHasEnd wsX5_checkHasEnd) := goodIn_app (goodIn_of _ (by decide +kernel)) ggX5_grains_X5_checkHasEnd
set_option maxRecDepth 20000 in
theorem ggX5_grains_X1_sizeRest : GoodIn wsX5_grains wsX1_sizeRest := goodIn_ca (goodIn_r _ [31, 32, 33, 21, 34, 35, 36, 37, 38, 39, 40, 41, 42, 43, 44, 45, 46, 47, 48, 30, 49] (by decide +kernel) (by decide +kernel)) (goodIn_sub (fun _ h => List.mem_cons_of_mem _ (List.mem_append_right _ h)) (by decide +kernel))
set_option maxRecDepth 20000 in
theorem gX5_grains_X1_sizeRest : GoodIn wsX5_grains (va_wsS RX5 117 yX1_sizeRest wsX1_sizeRest) := goodIn_app (goodIn_of _ (by decide +kernel)) ggX5_grains_X1_sizeRest
theorem dX5_grains_0 : decode cX5_grains 0 = .ok (.iload_n 1, 1) := by decide +kernel
theorem dX5_grains_1 : decode cX5_grains 1 = .ok (.invokestatic 27, 3) := by decide +kernel
theorem dX5_grains_4 : decode cX5_grains 4 = .ok (.iload_n 2, 1) := by decide +kernel
theorem dX5_grains_5 : decode cX5_grains 5 = .ok (.iconst 1, 1) := by decide +kernel
theorem dX5_grains_6 : decode cX5_grains 6 = .ok (.ldc 113, 2) := by decide +kernel
theorem dX5_grains_8 : decode cX5_grains 8 = .ok (.invokestatic 31, 3) := by decide +kernel
theorem dX5_grains_11 : decode cX5_grains 11 = .ok (.aload_n 0, 1) := by decide +kernel
theorem dX5_grains_12 : decode cX5_grains 12 = .ok (.getfield 9, 3) := by decide +kernel
theorem dX5_grains_15 : decode cX5_grains 15 = .ok (.iload_n 1, 1) := by decide +kernel
theorem dX5_grains_16 : decode cX5_grains 16 = .ok (.laload, 1) := by decide +kernel
theorem dX5_grains_17 : decode cX5_grains 17 = .ok (.invokestatic 114, 3) := by decide +kernel
theorem dX5_grains_20 : decode cX5_grains 20 = .ok (.aload_n 0, 1) := by decide +kernel
theorem dX5_grains_21 : decode cX5_grains 21 = .ok (.getfield 9, 3) := by decide +kernel
theorem dX5_grains_24 : decode cX5_grains 24 = .ok (.iload_n 1, 1) := by decide +kernel
theorem dX5_grains_25 : decode cX5_grains 25 = .ok (.laload, 1) := by decide +kernel
theorem dX5_grains_26 : decode cX5_grains 26 = .ok (.iload_n 2, 1) := by decide +kernel
theorem dX5_grains_27 : decode cX5_grains 27 = .ok (.invokestatic 117, 3) := by decide +kernel
theorem dX5_grains_30 : decode cX5_grains 30 = .ok (.ireturn, 1) := by decide +kernel
set_option maxRecDepth 20000 in
theorem ggX5_gap_X5_checkSlot : GoodIn wsX5_gap wsX5_checkSlot := goodIn_ca (goodIn_r _ [6, 7, 8] (by decide +kernel) (by decide +kernel)) (goodIn_sub (fun _ h => List.mem_cons_of_mem _ (List.mem_append_left _ (List.mem_append_left _ (List.mem_append_left _ (List.mem_append_right _ h))))) (by decide +kernel))
set_option maxRecDepth 20000 in
theorem gX5_gap_X5_checkSlot : GoodIn wsX5_gap (va_wsS RX5 27 yX5_checkSlot wsX5_checkSlot) := goodIn_app (goodIn_of _ (by decide +kernel)) ggX5_gap_X5_checkSlot
set_option maxRecDepth 20000 in
theorem ggX5_gap_X5_checkRange : GoodIn wsX5_gap wsX5_checkRange := goodIn_ca (goodIn_r _ [11, 12, 13] (by decide +kernel) (by decide +kernel)) (goodIn_sub (fun _ h => List.mem_cons_of_mem _ (List.mem_append_left _ (List.mem_append_left _ (List.mem_append_right _ h)))) (by decide +kernel))
set_option maxRecDepth 20000 in
theorem gX5_gap_X5_checkRange : GoodIn wsX5_gap (va_wsS RX5 31 yX5_checkRange wsX5_checkRange) := goodIn_app (goodIn_of _ (by decide +kernel)) ggX5_gap_X5_checkRange
set_option maxRecDepth 20000 in
theorem ggX5_gap_X5_checkHasEnd : GoodIn wsX5_gap wsX5_checkHasEnd := goodIn_ca (goodIn_r _ [16, 17, 18, 19, 20, 21, 22, 23, 24, 25, 26, 27] (by decide +kernel) (by decide +kernel)) (goodIn_sub (fun _ h => List.mem_cons_of_mem _ (List.mem_append_left _ (List.mem_append_right _ h))) (by decide +kernel))
set_option maxRecDepth 20000 in
theorem gX5_gap_X5_checkHasEnd : GoodIn wsX5_gap (va_wsS RX5 114 yX5_checkHasEnd wsX5_checkHasEnd) := goodIn_app (goodIn_of _ (by decide +kernel)) ggX5_gap_X5_checkHasEnd
set_option maxRecDepth 20000 in
theorem ggX5_gap_X1_gapRest : GoodIn wsX5_gap wsX1_gapRest := goodIn_ca (goodIn_r _ [31, 32, 33, 30, 34, 35, 36, 37, 38, 39, 21, 40, 41, 42, 43, 44, 45, 46, 47, 48, 49, 50, 51, 52, 53, 54, 55, 56, 57, 58, 59, 60, 61, 62, 63, 64, 65, 66, 67, 68, 69, 70] (by decide +kernel) (by decide +kernel)) (goodIn_sub (fun _ h => List.mem_cons_of_mem _ (List.mem_append_right _ h)) (by decide +kernel))
set_option maxRecDepth 20000 in
theorem gX5_gap_X1_gapRest : GoodIn wsX5_gap (va_wsS RX5 123 yX1_gapRest wsX1_gapRest) := goodIn_app (goodIn_of _ (by decide +kernel)) ggX5_gap_X1_gapRest
theorem dX5_gap_0 : decode cX5_gap 0 = .ok (.iload_n 1, 1) := by decide +kernel
theorem dX5_gap_1 : decode cX5_gap 1 = .ok (.invokestatic 27, 3) := by decide +kernel
theorem dX5_gap_4 : decode cX5_gap 4 = .ok (.iload_n 2, 1) := by decide +kernel
theorem dX5_gap_5 : decode cX5_gap 5 = .ok (.invokestatic 27, 3) := by decide +kernel
theorem dX5_gap_8 : decode cX5_gap 8 = .ok (.iload_n 3, 1) := by decide +kernel
theorem dX5_gap_9 : decode cX5_gap 9 = .ok (.iconst 1, 1) := by decide +kernel
theorem dX5_gap_10 : decode cX5_gap 10 = .ok (.ldc 113, 2) := by decide +kernel
theorem dX5_gap_12 : decode cX5_gap 12 = .ok (.invokestatic 31, 3) := by decide +kernel
theorem dX5_gap_15 : decode cX5_gap 15 = .ok (.aload_n 0, 1) := by decide +kernel
theorem dX5_gap_16 : decode cX5_gap 16 = .ok (.getfield 9, 3) := by decide +kernel
theorem dX5_gap_19 : decode cX5_gap 19 = .ok (.iload_n 1, 1) := by decide +kernel
theorem dX5_gap_20 : decode cX5_gap 20 = .ok (.laload, 1) := by decide +kernel
theorem dX5_gap_21 : decode cX5_gap 21 = .ok (.invokestatic 114, 3) := by decide +kernel
theorem dX5_gap_24 : decode cX5_gap 24 = .ok (.aload_n 0, 1) := by decide +kernel
theorem dX5_gap_25 : decode cX5_gap 25 = .ok (.getfield 9, 3) := by decide +kernel
theorem dX5_gap_28 : decode cX5_gap 28 = .ok (.iload_n 2, 1) := by decide +kernel
theorem dX5_gap_29 : decode cX5_gap 29 = .ok (.laload, 1) := by decide +kernel
theorem dX5_gap_30 : decode cX5_gap 30 = .ok (.invokestatic 114, 3) := by decide +kernel
theorem dX5_gap_33 : decode cX5_gap 33 = .ok (.aload_n 0, 1) := by decide +kernel
theorem dX5_gap_34 : decode cX5_gap 34 = .ok (.getfield 9, 3) := by decide +kernel
theorem dX5_gap_37 : decode cX5_gap 37 = .ok (.iload_n 1, 1) := by decide +kernel
theorem dX5_gap_38 : decode cX5_gap 38 = .ok (.laload, 1) := by decide +kernel
theorem dX5_gap_39 : decode cX5_gap 39 = .ok (.aload_n 0, 1) := by decide +kernel
theorem dX5_gap_40 : decode cX5_gap 40 = .ok (.getfield 9, 3) := by decide +kernel
theorem dX5_gap_43 : decode cX5_gap 43 = .ok (.iload_n 2, 1) := by decide +kernel
theorem dX5_gap_44 : decode cX5_gap 44 = .ok (.laload, 1) := by decide +kernel
theorem dX5_gap_45 : decode cX5_gap 45 = .ok (.iload_n 3, 1) := by decide +kernel
theorem dX5_gap_46 : decode cX5_gap 46 = .ok (.invokestatic 123, 3) := by decide +kernel
theorem dX5_gap_49 : decode cX5_gap 49 = .ok (.ireturn, 1) := by decide +kernel
set_option maxRecDepth 20000 in
theorem ggX5_compareGaps_X5_checkSlot : GoodIn wsX5_compareGaps wsX5_checkSlot := goodIn_ca (goodIn_r _ [5, 6, 7] (by decide +kernel) (by decide +kernel)) (goodIn_sub (fun _ h => List.mem_cons_of_mem _ (List.mem_append_left _ (List.mem_append_right _ h))) (by decide +kernel))
set_option maxRecDepth 20000 in
theorem gX5_compareGaps_X5_checkSlot : GoodIn wsX5_compareGaps (va_wsS RX5 27 yX5_checkSlot wsX5_checkSlot) := goodIn_app (goodIn_of _ (by decide +kernel)) ggX5_compareGaps_X5_checkSlot
set_option maxRecDepth 20000 in
theorem ggX5_compareGaps_X5_checkHasEnd : GoodIn wsX5_compareGaps wsX5_checkHasEnd := goodIn_ca (goodIn_r _ [10, 11, 12, 13, 14, 15, 16, 17, 18, 19, 20, 21] (by decide +kernel) (by decide +kernel)) (goodIn_sub (fun _ h => List.mem_cons_of_mem _ (List.mem_append_right _ h)) (by decide +kernel))
set_option maxRecDepth 20000 in
theorem gX5_compareGaps_X5_checkHasEnd : GoodIn wsX5_compareGaps (va_wsS RX5 114 yX5_checkHasEnd wsX5_checkHasEnd) := goodIn_app (goodIn_of _ (by decide +kernel)) ggX5_compareGaps_X5_checkHasEnd
set_option maxRecDepth 20000 in
theorem ggX5_compareGaps_X1_orderOfGaps : GoodIn wsX5_compareGaps wsX1_orderOfGaps := goodIn_r _ [25, 26, 27, 15, 28, 29, 30, 31, 32, 33, 34, 35, 36, 37, 38, 39, 40, 41, 24, 42, 43, 44, 45, 46, 47, 48, 49, 50, 51, 52, 53, 54, 55, 56, 57, 58, 59, 60, 61] (by decide +kernel) (by decide +kernel)
set_option maxRecDepth 20000 in
theorem gX5_compareGaps_X1_orderOfGaps : GoodIn wsX5_compareGaps (va_wsS RX5 127 yX1_orderOfGaps wsX1_orderOfGaps) := goodIn_app (goodIn_of _ (by decide +kernel)) ggX5_compareGaps_X1_orderOfGaps
theorem dX5_compareGaps_0 : decode cX5_compareGaps 0 = .ok (.iload_n 1, 1) := by decide +kernel
theorem dX5_compareGaps_1 : decode cX5_compareGaps 1 = .ok (.invokestatic 27, 3) := by decide +kernel
theorem dX5_compareGaps_4 : decode cX5_compareGaps 4 = .ok (.iload_n 2, 1) := by decide +kernel
theorem dX5_compareGaps_5 : decode cX5_compareGaps 5 = .ok (.invokestatic 27, 3) := by decide +kernel
theorem dX5_compareGaps_8 : decode cX5_compareGaps 8 = .ok (.iload_n 3, 1) := by decide +kernel
theorem dX5_compareGaps_9 : decode cX5_compareGaps 9 = .ok (.invokestatic 27, 3) := by decide +kernel
theorem dX5_compareGaps_12 : decode cX5_compareGaps 12 = .ok (.iload 4, 2) := by decide +kernel
theorem dX5_compareGaps_14 : decode cX5_compareGaps 14 = .ok (.invokestatic 27, 3) := by decide +kernel
theorem dX5_compareGaps_17 : decode cX5_compareGaps 17 = .ok (.aload_n 0, 1) := by decide +kernel
theorem dX5_compareGaps_18 : decode cX5_compareGaps 18 = .ok (.getfield 9, 3) := by decide +kernel
theorem dX5_compareGaps_21 : decode cX5_compareGaps 21 = .ok (.iload_n 1, 1) := by decide +kernel
theorem dX5_compareGaps_22 : decode cX5_compareGaps 22 = .ok (.laload, 1) := by decide +kernel
theorem dX5_compareGaps_23 : decode cX5_compareGaps 23 = .ok (.invokestatic 114, 3) := by decide +kernel
theorem dX5_compareGaps_26 : decode cX5_compareGaps 26 = .ok (.aload_n 0, 1) := by decide +kernel
theorem dX5_compareGaps_27 : decode cX5_compareGaps 27 = .ok (.getfield 9, 3) := by decide +kernel
theorem dX5_compareGaps_30 : decode cX5_compareGaps 30 = .ok (.iload_n 2, 1) := by decide +kernel
theorem dX5_compareGaps_31 : decode cX5_compareGaps 31 = .ok (.laload, 1) := by decide +kernel
theorem dX5_compareGaps_32 : decode cX5_compareGaps 32 = .ok (.invokestatic 114, 3) := by decide +kernel
theorem dX5_compareGaps_35 : decode cX5_compareGaps 35 = .ok (.aload_n 0, 1) := by decide +kernel
theorem dX5_compareGaps_36 : decode cX5_compareGaps 36 = .ok (.getfield 9, 3) := by decide +kernel
theorem dX5_compareGaps_39 : decode cX5_compareGaps 39 = .ok (.iload_n 3, 1) := by decide +kernel
theorem dX5_compareGaps_40 : decode cX5_compareGaps 40 = .ok (.laload, 1) := by decide +kernel
theorem dX5_compareGaps_41 : decode cX5_compareGaps 41 = .ok (.invokestatic 114, 3) := by decide +kernel
theorem dX5_compareGaps_44 : decode cX5_compareGaps 44 = .ok (.aload_n 0, 1) := by decide +kernel
theorem dX5_compareGaps_45 : decode cX5_compareGaps 45 = .ok (.getfield 9, 3) := by decide +kernel
theorem dX5_compareGaps_48 : decode cX5_compareGaps 48 = .ok (.iload 4, 2) := by decide +kernel
theorem dX5_compareGaps_50 : decode cX5_compareGaps 50 = .ok (.laload, 1) := by decide +kernel
theorem dX5_compareGaps_51 : decode cX5_compareGaps 51 = .ok (.invokestatic 114, 3) := by decide +kernel
theorem dX5_compareGaps_54 : decode cX5_compareGaps 54 = .ok (.aload_n 0, 1) := by decide +kernel
theorem dX5_compareGaps_55 : decode cX5_compareGaps 55 = .ok (.getfield 9, 3) := by decide +kernel
theorem dX5_compareGaps_58 : decode cX5_compareGaps 58 = .ok (.iload_n 1, 1) := by decide +kernel
theorem dX5_compareGaps_59 : decode cX5_compareGaps 59 = .ok (.laload, 1) := by decide +kernel
theorem dX5_compareGaps_60 : decode cX5_compareGaps 60 = .ok (.aload_n 0, 1) := by decide +kernel
theorem dX5_compareGaps_61 : decode cX5_compareGaps 61 = .ok (.getfield 9, 3) := by decide +kernel
theorem dX5_compareGaps_64 : decode cX5_compareGaps 64 = .ok (.iload_n 2, 1) := by decide +kernel
theorem dX5_compareGaps_65 : decode cX5_compareGaps 65 = .ok (.laload, 1) := by decide +kernel
theorem dX5_compareGaps_66 : decode cX5_compareGaps 66 = .ok (.aload_n 0, 1) := by decide +kernel
theorem dX5_compareGaps_67 : decode cX5_compareGaps 67 = .ok (.getfield 9, 3) := by decide +kernel
theorem dX5_compareGaps_70 : decode cX5_compareGaps 70 = .ok (.iload_n 3, 1) := by decide +kernel
theorem dX5_compareGaps_71 : decode cX5_compareGaps 71 = .ok (.laload, 1) := by decide +kernel
theorem dX5_compareGaps_72 : decode cX5_compareGaps 72 = .ok (.aload_n 0, 1) := by decide +kernel
theorem dX5_compareGaps_73 : decode cX5_compareGaps 73 = .ok (.getfield 9, 3) := by decide +kernel
theorem dX5_compareGaps_76 : decode cX5_compareGaps 76 = .ok (.iload 4, 2) := by decide +kernel
theorem dX5_compareGaps_78 : decode cX5_compareGaps 78 = .ok (.laload, 1) := by decide +kernel
theorem dX5_compareGaps_79 : decode cX5_compareGaps 79 = .ok (.invokestatic 127, 3) := by decide +kernel
theorem dX5_compareGaps_82 : decode cX5_compareGaps 82 = .ok (.ireturn, 1) := by decide +kernel
set_option maxRecDepth 20000 in
theorem ggX5_say_X3_isWord : GoodIn wsX5_say wsX3_isWord := goodIn_r _ [9] (by decide +kernel) (by decide +kernel)
set_option maxRecDepth 20000 in
theorem gX5_say_X3_isWord : GoodIn wsX5_say (va_wsS RX5 131 yX3_isWord wsX3_isWord) := goodIn_app (goodIn_of _ (by decide +kernel)) ggX5_say_X3_isWord
set_option maxRecDepth 20000 in
theorem ggX5_say_X3_isFull : GoodIn wsX5_say wsX3_isFull := goodIn_r _ [13, 14, 29, 30, 31] (by decide +kernel) (by decide +kernel)
set_option maxRecDepth 20000 in
theorem gX5_say_X3_isFull : GoodIn wsX5_say (wsV RX5 142 RX3 yX3_isFull wsX3_isFull) := goodIn_app (goodIn_of _ (by decide +kernel)) ggX5_say_X3_isFull
set_option maxRecDepth 20000 in
theorem ggX5_say_X3_add : GoodIn wsX5_say wsX3_add := goodIn_ca (goodIn_r _ [18, 19, 14, 20, 21, 11, 12, 8, 13, 29, 30, 31] (by decide +kernel) (by decide +kernel)) (goodIn_sub (fun _ h => List.mem_cons_of_mem _ (List.mem_append_right _ h)) (by decide +kernel))
set_option maxRecDepth 20000 in
theorem gX5_say_X3_add : GoodIn wsX5_say (wsV RX5 151 RX3 yX3_add wsX3_add) := goodIn_app (goodIn_of _ (by decide +kernel)) ggX5_say_X3_add
set_option maxRecDepth 20000 in
theorem ggX5_say_X3_size : GoodIn wsX5_say wsX3_size := goodIn_r _ [25, 14, 29, 30, 31] (by decide +kernel) (by decide +kernel)
set_option maxRecDepth 20000 in
theorem gX5_say_X3_size : GoodIn wsX5_say (wsV RX5 155 RX3 yX3_size wsX3_size) := goodIn_app (goodIn_of _ (by decide +kernel)) ggX5_say_X3_size
theorem dX5_say_0 : decode cX5_say 0 = .ok (.iload_n 1, 1) := by decide +kernel
theorem dX5_say_1 : decode cX5_say 1 = .ok (.iload_n 2, 1) := by decide +kernel
theorem dX5_say_2 : decode cX5_say 2 = .ok (.invokestatic 131, 3) := by decide +kernel
theorem dX5_say_5 : decode cX5_say 5 = .ok (.ifCond .ne 13, 3) := by decide +kernel
theorem dX5_say_8 : decode cX5_say 8 = .ok (.new 135, 3) := by decide +kernel
theorem dX5_say_11 : decode cX5_say 11 = .ok (.dup, 1) := by decide +kernel
theorem dX5_say_12 : decode cX5_say 12 = .ok (.ldc 137, 2) := by decide +kernel
theorem dX5_say_14 : decode cX5_say 14 = .ok (.invokespecial 139, 3) := by decide +kernel
theorem dX5_say_17 : decode cX5_say 17 = .ok (.athrow, 1) := by decide +kernel
theorem dX5_say_18 : decode cX5_say 18 = .ok (.aload_n 0, 1) := by decide +kernel
theorem dX5_say_19 : decode cX5_say 19 = .ok (.getfield 16, 3) := by decide +kernel
theorem dX5_say_22 : decode cX5_say 22 = .ok (.invokevirtual 142, 3) := by decide +kernel
theorem dX5_say_25 : decode cX5_say 25 = .ok (.ifCond .eq 13, 3) := by decide +kernel
theorem dX5_say_28 : decode cX5_say 28 = .ok (.new 146, 3) := by decide +kernel
theorem dX5_say_31 : decode cX5_say 31 = .ok (.dup, 1) := by decide +kernel
theorem dX5_say_32 : decode cX5_say 32 = .ok (.ldc 148, 2) := by decide +kernel
theorem dX5_say_34 : decode cX5_say 34 = .ok (.invokespecial 150, 3) := by decide +kernel
theorem dX5_say_37 : decode cX5_say 37 = .ok (.athrow, 1) := by decide +kernel
theorem dX5_say_38 : decode cX5_say 38 = .ok (.aload_n 0, 1) := by decide +kernel
theorem dX5_say_39 : decode cX5_say 39 = .ok (.getfield 16, 3) := by decide +kernel
theorem dX5_say_42 : decode cX5_say 42 = .ok (.iload_n 1, 1) := by decide +kernel
theorem dX5_say_43 : decode cX5_say 43 = .ok (.iload_n 2, 1) := by decide +kernel
theorem dX5_say_44 : decode cX5_say 44 = .ok (.invokevirtual 151, 3) := by decide +kernel
theorem dX5_say_47 : decode cX5_say 47 = .ok (.aload_n 0, 1) := by decide +kernel
theorem dX5_say_48 : decode cX5_say 48 = .ok (.getfield 16, 3) := by decide +kernel
theorem dX5_say_51 : decode cX5_say 51 = .ok (.invokevirtual 155, 3) := by decide +kernel
theorem dX5_say_54 : decode cX5_say 54 = .ok (.ireturn, 1) := by decide +kernel
set_option maxRecDepth 20000 in
theorem ggX5_hush_X3_size : GoodIn wsX5_hush wsX3_size := goodIn_r _ [6, 7, 15, 16, 17] (by decide +kernel) (by decide +kernel)
set_option maxRecDepth 20000 in
theorem gX5_hush_X3_size : GoodIn wsX5_hush (wsV RX5 155 RX3 yX3_size wsX3_size) := goodIn_app (goodIn_of _ (by decide +kernel)) ggX5_hush_X3_size
set_option maxRecDepth 20000 in
theorem ggX5_hush_X3_clear : GoodIn wsX5_hush wsX3_clear := goodIn_r _ [11, 7, 15, 16, 17] (by decide +kernel) (by decide +kernel)
set_option maxRecDepth 20000 in
theorem gX5_hush_X3_clear : GoodIn wsX5_hush (wsV RX5 159 RX3 yX3_clear wsX3_clear) := goodIn_app (goodIn_of _ (by decide +kernel)) ggX5_hush_X3_clear
theorem dX5_hush_0 : decode cX5_hush 0 = .ok (.aload_n 0, 1) := by decide +kernel
theorem dX5_hush_1 : decode cX5_hush 1 = .ok (.getfield 16, 3) := by decide +kernel
theorem dX5_hush_4 : decode cX5_hush 4 = .ok (.invokevirtual 155, 3) := by decide +kernel
theorem dX5_hush_7 : decode cX5_hush 7 = .ok (.istore_n 1, 1) := by decide +kernel
theorem dX5_hush_8 : decode cX5_hush 8 = .ok (.aload_n 0, 1) := by decide +kernel
theorem dX5_hush_9 : decode cX5_hush 9 = .ok (.getfield 16, 3) := by decide +kernel
theorem dX5_hush_12 : decode cX5_hush 12 = .ok (.invokevirtual 159, 3) := by decide +kernel
theorem dX5_hush_15 : decode cX5_hush 15 = .ok (.iload_n 1, 1) := by decide +kernel
theorem dX5_hush_16 : decode cX5_hush 16 = .ok (.ireturn, 1) := by decide +kernel
set_option maxRecDepth 20000 in
theorem ggX5_play_X5_checkSlot : GoodIn wsX5_play wsX5_checkSlot := goodIn_ca (goodIn_r _ [6, 7, 8] (by decide +kernel) (by decide +kernel)) (goodIn_sub (fun _ h => List.mem_cons_of_mem _ (List.mem_append_right _ h)) (by decide +kernel))
set_option maxRecDepth 20000 in
theorem gX5_play_X5_checkSlot : GoodIn wsX5_play (va_wsS RX5 27 yX5_checkSlot wsX5_checkSlot) := goodIn_app (goodIn_of _ (by decide +kernel)) ggX5_play_X5_checkSlot
set_option maxRecDepth 20000 in
theorem ggX5_play_X3_playedOn : GoodIn wsX5_play wsX3_playedOn := goodIn_ca (goodIn_r _ [13, 14, 15, 16, 17, 18, 12, 19, 20, 21, 22, 23, 24, 25, 26, 27, 28, 29, 30, 31, 32, 33, 34, 35, 36, 37, 38, 39, 40, 41, 42, 43, 44, 45, 46, 47, 48, 49, 50, 51, 52, 53, 54, 55, 56, 57, 58, 59, 60, 61, 62, 63, 64, 65, 66, 67, 68, 69, 70, 71, 72, 73, 74, 75, 76, 77, 78, 79, 80, 81, 82, 104, 105, 106] (by decide +kernel) (by decide +kernel)) (goodIn_sub (fun _ h => List.mem_cons_of_mem _ (List.mem_append_left _ (List.mem_append_right _ h))) (by decide +kernel))
set_option maxRecDepth 20000 in
theorem gX5_play_X3_playedOn : GoodIn wsX5_play (wsV RX5 162 RX3 yX3_playedOn wsX3_playedOn) := goodIn_app (goodIn_of _ (by decide +kernel)) ggX5_play_X3_playedOn
set_option maxRecDepth 20000 in
theorem ggX5_play_X5_become : GoodIn wsX5_play wsX5_become := goodIn_ca (goodIn_r _ [86, 87, 2, 88, 89, 90, 91, 92, 93, 94, 95, 96, 97, 98, 52, 99, 100, 77, 22, 78, 24, 101, 102, 103, 107, 108, 109, 110] (by decide +kernel) (by decide +kernel)) (goodIn_sub (fun _ h => List.mem_cons_of_mem _ (List.mem_append_left _ (List.mem_append_right _ h))) (by decide +kernel))
set_option maxRecDepth 20000 in
theorem gX5_play_X5_become : GoodIn wsX5_play (wsV RX5 41 RX5 yX5_become wsX5_become) := goodIn_app (goodIn_of _ (by decide +kernel)) ggX5_play_X5_become
theorem dX5_play_0 : decode cX5_play 0 = .ok (.iload_n 1, 1) := by decide +kernel
theorem dX5_play_1 : decode cX5_play 1 = .ok (.invokestatic 27, 3) := by decide +kernel
theorem dX5_play_4 : decode cX5_play 4 = .ok (.iload_n 2, 1) := by decide +kernel
theorem dX5_play_5 : decode cX5_play 5 = .ok (.invokestatic 27, 3) := by decide +kernel
theorem dX5_play_8 : decode cX5_play 8 = .ok (.aload_n 0, 1) := by decide +kernel
theorem dX5_play_9 : decode cX5_play 9 = .ok (.iload_n 2, 1) := by decide +kernel
theorem dX5_play_10 : decode cX5_play 10 = .ok (.aload_n 0, 1) := by decide +kernel
theorem dX5_play_11 : decode cX5_play 11 = .ok (.getfield 16, 3) := by decide +kernel
theorem dX5_play_14 : decode cX5_play 14 = .ok (.aload_n 0, 1) := by decide +kernel
theorem dX5_play_15 : decode cX5_play 15 = .ok (.getfield 9, 3) := by decide +kernel
theorem dX5_play_18 : decode cX5_play 18 = .ok (.iload_n 1, 1) := by decide +kernel
theorem dX5_play_19 : decode cX5_play 19 = .ok (.laload, 1) := by decide +kernel
theorem dX5_play_20 : decode cX5_play 20 = .ok (.invokevirtual 162, 3) := by decide +kernel
theorem dX5_play_23 : decode cX5_play 23 = .ok (.invokevirtual 41, 3) := by decide +kernel
theorem dX5_play_26 : decode cX5_play 26 = .ok (.lreturn, 1) := by decide +kernel
set_option maxRecDepth 20000 in
theorem ggX5_playBack_X5_checkSlot : GoodIn wsX5_playBack wsX5_checkSlot := goodIn_ca (goodIn_r _ [6, 7, 8] (by decide +kernel) (by decide +kernel)) (goodIn_sub (fun _ h => List.mem_cons_of_mem _ (List.mem_append_right _ h)) (by decide +kernel))
set_option maxRecDepth 20000 in
theorem gX5_playBack_X5_checkSlot : GoodIn wsX5_playBack (va_wsS RX5 27 yX5_checkSlot wsX5_checkSlot) := goodIn_app (goodIn_of _ (by decide +kernel)) ggX5_playBack_X5_checkSlot
set_option maxRecDepth 20000 in
theorem ggX5_playBack_X3_playedBackOn : GoodIn wsX5_playBack wsX3_playedBackOn := goodIn_ca (goodIn_r _ [13, 14, 15, 16, 17, 18, 12, 19, 20, 21, 22, 23, 24, 25, 26, 27, 28, 29, 30, 31, 32, 33, 34, 35, 36, 37, 38, 39, 40, 41, 42, 43, 44, 45, 46, 47, 48, 49, 50, 51, 52, 53, 54, 55, 56, 57, 58, 59, 60, 61, 62, 63, 64, 65, 66, 67, 68, 69, 70, 71, 72, 73, 74, 75, 76, 77, 78, 79, 80, 81, 82, 104, 105, 106] (by decide +kernel) (by decide +kernel)) (goodIn_sub (fun _ h => List.mem_cons_of_mem _ (List.mem_append_left _ (List.mem_append_right _ h))) (by decide +kernel))
set_option maxRecDepth 20000 in
theorem gX5_playBack_X3_playedBackOn : GoodIn wsX5_playBack (wsV RX5 165 RX3 yX3_playedBackOn wsX3_playedBackOn) := goodIn_app (goodIn_of _ (by decide +kernel)) ggX5_playBack_X3_playedBackOn
set_option maxRecDepth 20000 in
theorem ggX5_playBack_X5_become : GoodIn wsX5_playBack wsX5_become := goodIn_ca (goodIn_r _ [86, 87, 2, 88, 89, 90, 91, 92, 93, 94, 95, 96, 97, 98, 52, 99, 100, 77, 22, 78, 24, 101, 102, 103, 107, 108, 109, 110] (by decide +kernel) (by decide +kernel)) (goodIn_sub (fun _ h => List.mem_cons_of_mem _ (List.mem_append_left _ (List.mem_append_right _ h))) (by decide +kernel))
set_option maxRecDepth 20000 in
theorem gX5_playBack_X5_become : GoodIn wsX5_playBack (wsV RX5 41 RX5 yX5_become wsX5_become) := goodIn_app (goodIn_of _ (by decide +kernel)) ggX5_playBack_X5_become
theorem dX5_playBack_0 : decode cX5_playBack 0 = .ok (.iload_n 1, 1) := by decide +kernel
theorem dX5_playBack_1 : decode cX5_playBack 1 = .ok (.invokestatic 27, 3) := by decide +kernel
theorem dX5_playBack_4 : decode cX5_playBack 4 = .ok (.iload_n 2, 1) := by decide +kernel
theorem dX5_playBack_5 : decode cX5_playBack 5 = .ok (.invokestatic 27, 3) := by decide +kernel
theorem dX5_playBack_8 : decode cX5_playBack 8 = .ok (.aload_n 0, 1) := by decide +kernel
theorem dX5_playBack_9 : decode cX5_playBack 9 = .ok (.iload_n 2, 1) := by decide +kernel
theorem dX5_playBack_10 : decode cX5_playBack 10 = .ok (.aload_n 0, 1) := by decide +kernel
theorem dX5_playBack_11 : decode cX5_playBack 11 = .ok (.getfield 16, 3) := by decide +kernel
theorem dX5_playBack_14 : decode cX5_playBack 14 = .ok (.aload_n 0, 1) := by decide +kernel
theorem dX5_playBack_15 : decode cX5_playBack 15 = .ok (.getfield 9, 3) := by decide +kernel
theorem dX5_playBack_18 : decode cX5_playBack 18 = .ok (.iload_n 1, 1) := by decide +kernel
theorem dX5_playBack_19 : decode cX5_playBack 19 = .ok (.laload, 1) := by decide +kernel
theorem dX5_playBack_20 : decode cX5_playBack 20 = .ok (.invokevirtual 165, 3) := by decide +kernel
theorem dX5_playBack_23 : decode cX5_playBack 23 = .ok (.invokevirtual 41, 3) := by decide +kernel
theorem dX5_playBack_26 : decode cX5_playBack 26 = .ok (.lreturn, 1) := by decide +kernel
set_option maxRecDepth 20000 in
theorem ggX5_isHome_X5_checkSlot : GoodIn wsX5_isHome wsX5_checkSlot := goodIn_ca (goodIn_r _ [6, 7, 8] (by decide +kernel) (by decide +kernel)) (goodIn_sub (fun _ h => List.mem_cons_of_mem _ (List.mem_append_right _ h)) (by decide +kernel))
set_option maxRecDepth 20000 in
theorem gX5_isHome_X5_checkSlot : GoodIn wsX5_isHome (va_wsS RX5 27 yX5_checkSlot wsX5_checkSlot) := goodIn_app (goodIn_of _ (by decide +kernel)) ggX5_isHome_X5_checkSlot
set_option maxRecDepth 20000 in
theorem ggX5_isHome_X3_leadsHome : GoodIn wsX5_isHome wsX3_leadsHome := goodIn_ca (goodIn_r _ [13, 14, 15, 16, 12, 17, 18, 19, 20, 21, 22, 23, 24, 25, 26, 27, 28, 29, 30, 31, 32, 33, 34, 35, 36, 37, 38, 39, 40, 41, 42, 43, 44, 45, 46, 47, 48, 49, 50, 51, 52, 53, 54, 55, 56, 57, 58, 59, 60, 61, 62, 63, 64, 65, 66, 67, 68, 69, 70, 71, 72, 73, 74, 75, 76, 77, 78, 79, 80, 81, 82, 83, 84, 85, 86, 87, 88, 89, 90, 94, 95, 96] (by decide +kernel) (by decide +kernel)) (goodIn_sub (fun _ h => List.mem_cons_of_mem _ (List.mem_append_left _ (List.mem_append_right _ h))) (by decide +kernel))
set_option maxRecDepth 20000 in
theorem gX5_isHome_X3_leadsHome : GoodIn wsX5_isHome (wsV RX5 168 RX3 yX3_leadsHome wsX3_leadsHome) := goodIn_app (goodIn_of _ (by decide +kernel)) ggX5_isHome_X3_leadsHome
theorem dX5_isHome_0 : decode cX5_isHome 0 = .ok (.iload_n 1, 1) := by decide +kernel
theorem dX5_isHome_1 : decode cX5_isHome 1 = .ok (.invokestatic 27, 3) := by decide +kernel
theorem dX5_isHome_4 : decode cX5_isHome 4 = .ok (.aload_n 0, 1) := by decide +kernel
theorem dX5_isHome_5 : decode cX5_isHome 5 = .ok (.getfield 16, 3) := by decide +kernel
theorem dX5_isHome_8 : decode cX5_isHome 8 = .ok (.aload_n 0, 1) := by decide +kernel
theorem dX5_isHome_9 : decode cX5_isHome 9 = .ok (.getfield 9, 3) := by decide +kernel
theorem dX5_isHome_12 : decode cX5_isHome 12 = .ok (.iload_n 1, 1) := by decide +kernel
theorem dX5_isHome_13 : decode cX5_isHome 13 = .ok (.laload, 1) := by decide +kernel
theorem dX5_isHome_14 : decode cX5_isHome 14 = .ok (.invokevirtual 168, 3) := by decide +kernel
theorem dX5_isHome_17 : decode cX5_isHome 17 = .ok (.ireturn, 1) := by decide +kernel
set_option maxRecDepth 20000 in
theorem ggX5_losses_X5_checkSlot : GoodIn wsX5_losses wsX5_checkSlot := goodIn_ca (goodIn_r _ [6, 7, 8] (by decide +kernel) (by decide +kernel)) (goodIn_sub (fun _ h => List.mem_cons_of_mem _ (List.mem_append_right _ h)) (by decide +kernel))
set_option maxRecDepth 20000 in
theorem gX5_losses_X5_checkSlot : GoodIn wsX5_losses (va_wsS RX5 27 yX5_checkSlot wsX5_checkSlot) := goodIn_app (goodIn_of _ (by decide +kernel)) ggX5_losses_X5_checkSlot
set_option maxRecDepth 20000 in
theorem ggX5_losses_X3_lossesFrom : GoodIn wsX5_losses wsX3_lossesFrom := goodIn_ca (goodIn_r _ [13, 14, 15, 16, 17, 18, 12, 19, 20, 21, 22, 23, 24, 25, 26, 27, 28, 29, 30, 31, 32, 33, 34, 35, 36, 37, 38, 39, 40, 41, 42, 43, 44, 45, 46, 47, 48, 49, 50, 51, 52, 53, 54, 55, 56, 57, 58, 59, 60, 61, 62, 63, 64, 65, 66, 67, 68, 69, 70, 71, 72, 73, 74, 75, 76, 77, 78, 79, 80, 81, 82, 86, 87, 88] (by decide +kernel) (by decide +kernel)) (goodIn_sub (fun _ h => List.mem_cons_of_mem _ (List.mem_append_left _ (List.mem_append_right _ h))) (by decide +kernel))
set_option maxRecDepth 20000 in
theorem gX5_losses_X3_lossesFrom : GoodIn wsX5_losses (wsV RX5 171 RX3 yX3_lossesFrom wsX3_lossesFrom) := goodIn_app (goodIn_of _ (by decide +kernel)) ggX5_losses_X3_lossesFrom
theorem dX5_losses_0 : decode cX5_losses 0 = .ok (.iload_n 1, 1) := by decide +kernel
theorem dX5_losses_1 : decode cX5_losses 1 = .ok (.invokestatic 27, 3) := by decide +kernel
theorem dX5_losses_4 : decode cX5_losses 4 = .ok (.aload_n 0, 1) := by decide +kernel
theorem dX5_losses_5 : decode cX5_losses 5 = .ok (.getfield 16, 3) := by decide +kernel
theorem dX5_losses_8 : decode cX5_losses 8 = .ok (.aload_n 0, 1) := by decide +kernel
theorem dX5_losses_9 : decode cX5_losses 9 = .ok (.getfield 9, 3) := by decide +kernel
theorem dX5_losses_12 : decode cX5_losses 12 = .ok (.iload_n 1, 1) := by decide +kernel
theorem dX5_losses_13 : decode cX5_losses 13 = .ok (.laload, 1) := by decide +kernel
theorem dX5_losses_14 : decode cX5_losses 14 = .ok (.invokevirtual 171, 3) := by decide +kernel
theorem dX5_losses_17 : decode cX5_losses 17 = .ok (.ireturn, 1) := by decide +kernel
set_option maxRecDepth 20000 in
theorem ggX5_undo_X2_isEmpty : GoodIn wsX5_undo wsX2_isEmpty := goodIn_r _ [9, 10, 29, 30, 31, 32] (by decide +kernel) (by decide +kernel)
set_option maxRecDepth 20000 in
theorem gX5_undo_X2_isEmpty : GoodIn wsX5_undo (wsV RX5 174 RX2 yX2_isEmpty wsX2_isEmpty) := goodIn_app (goodIn_of _ (by decide +kernel)) ggX5_undo_X2_isEmpty
set_option maxRecDepth 20000 in
theorem ggX5_undo_X2_latestSlot : GoodIn wsX5_undo wsX2_latestSlot := goodIn_ca (goodIn_r _ [14, 15, 16, 29, 30, 31, 32] (by decide +kernel) (by decide +kernel)) (goodIn_sub (fun _ h => List.mem_cons_of_mem _ (List.mem_append_right _ h)) (by decide +kernel))
set_option maxRecDepth 20000 in
theorem gX5_undo_X2_latestSlot : GoodIn wsX5_undo (wsV RX5 182 RX2 yX2_latestSlot wsX2_latestSlot) := goodIn_app (goodIn_of _ (by decide +kernel)) ggX5_undo_X2_latestSlot
set_option maxRecDepth 20000 in
theorem ggX5_undo_X2_latestNumber : GoodIn wsX5_undo wsX2_latestNumber := goodIn_ca (goodIn_r _ [20, 21, 16, 29, 30, 31, 32] (by decide +kernel) (by decide +kernel)) (goodIn_sub (fun _ h => List.mem_cons_of_mem _ (List.mem_append_right _ h)) (by decide +kernel))
set_option maxRecDepth 20000 in
theorem gX5_undo_X2_latestNumber : GoodIn wsX5_undo (wsV RX5 185 RX2 yX2_latestNumber wsX2_latestNumber) := goodIn_app (goodIn_of _ (by decide +kernel)) ggX5_undo_X2_latestNumber
set_option maxRecDepth 20000 in
theorem ggX5_undo_X2_forgetLatest : GoodIn wsX5_undo wsX2_forgetLatest := goodIn_r _ [25, 16, 10, 29, 30, 31, 32] (by decide +kernel) (by decide +kernel)
set_option maxRecDepth 20000 in
theorem gX5_undo_X2_forgetLatest : GoodIn wsX5_undo (wsV RX5 189 RX2 yX2_forgetLatest wsX2_forgetLatest) := goodIn_app (goodIn_of _ (by decide +kernel)) ggX5_undo_X2_forgetLatest
theorem dX5_undo_0 : decode cX5_undo 0 = .ok (.aload_n 0, 1) := by decide +kernel
theorem dX5_undo_1 : decode cX5_undo 1 = .ok (.getfield 23, 3) := by decide +kernel
theorem dX5_undo_4 : decode cX5_undo 4 = .ok (.invokevirtual 174, 3) := by decide +kernel
theorem dX5_undo_7 : decode cX5_undo 7 = .ok (.ifCond .eq 13, 3) := by decide +kernel
theorem dX5_undo_10 : decode cX5_undo 10 = .ok (.new 177, 3) := by decide +kernel
theorem dX5_undo_13 : decode cX5_undo 13 = .ok (.dup, 1) := by decide +kernel
theorem dX5_undo_14 : decode cX5_undo 14 = .ok (.ldc 179, 2) := by decide +kernel
theorem dX5_undo_16 : decode cX5_undo 16 = .ok (.invokespecial 181, 3) := by decide +kernel
theorem dX5_undo_19 : decode cX5_undo 19 = .ok (.athrow, 1) := by decide +kernel
theorem dX5_undo_20 : decode cX5_undo 20 = .ok (.aload_n 0, 1) := by decide +kernel
theorem dX5_undo_21 : decode cX5_undo 21 = .ok (.getfield 23, 3) := by decide +kernel
theorem dX5_undo_24 : decode cX5_undo 24 = .ok (.invokevirtual 182, 3) := by decide +kernel
theorem dX5_undo_27 : decode cX5_undo 27 = .ok (.istore_n 1, 1) := by decide +kernel
theorem dX5_undo_28 : decode cX5_undo 28 = .ok (.aload_n 0, 1) := by decide +kernel
theorem dX5_undo_29 : decode cX5_undo 29 = .ok (.getfield 9, 3) := by decide +kernel
theorem dX5_undo_32 : decode cX5_undo 32 = .ok (.iload_n 1, 1) := by decide +kernel
theorem dX5_undo_33 : decode cX5_undo 33 = .ok (.aload_n 0, 1) := by decide +kernel
theorem dX5_undo_34 : decode cX5_undo 34 = .ok (.getfield 23, 3) := by decide +kernel
theorem dX5_undo_37 : decode cX5_undo 37 = .ok (.invokevirtual 185, 3) := by decide +kernel
theorem dX5_undo_40 : decode cX5_undo 40 = .ok (.lastore, 1) := by decide +kernel
theorem dX5_undo_41 : decode cX5_undo 41 = .ok (.aload_n 0, 1) := by decide +kernel
theorem dX5_undo_42 : decode cX5_undo 42 = .ok (.getfield 23, 3) := by decide +kernel
theorem dX5_undo_45 : decode cX5_undo 45 = .ok (.invokevirtual 189, 3) := by decide +kernel
theorem dX5_undo_48 : decode cX5_undo 48 = .ok (.iload_n 1, 1) := by decide +kernel
theorem dX5_undo_49 : decode cX5_undo 49 = .ok (.ireturn, 1) := by decide +kernel
set_option maxRecDepth 20000 in
theorem ggX5_share_X0_hasLeastExponent : GoodIn wsX5_share wsX0_hasLeastExponent := goodIn_r _ [6, 7, 8, 5, 9] (by decide +kernel) (by decide +kernel)
set_option maxRecDepth 20000 in
theorem gX5_share_X0_hasLeastExponent : GoodIn wsX5_share (va_wsS RX5 61 yX0_hasLeastExponent wsX0_hasLeastExponent) := goodIn_app (goodIn_of _ (by decide +kernel)) ggX5_share_X0_hasLeastExponent
theorem dX5_share_0 : decode cX5_share 0 = .ok (.iconst 0, 1) := by decide +kernel
theorem dX5_share_1 : decode cX5_share 1 = .ok (.istore_n 1, 1) := by decide +kernel
theorem dX5_share_2 : decode cX5_share 2 = .ok (.iconst 0, 1) := by decide +kernel
theorem dX5_share_3 : decode cX5_share 3 = .ok (.istore_n 2, 1) := by decide +kernel
theorem dX5_share_4 : decode cX5_share 4 = .ok (.iload_n 2, 1) := by decide +kernel
theorem dX5_share_5 : decode cX5_share 5 = .ok (.bipush 8, 2) := by decide +kernel
theorem dX5_share_7 : decode cX5_share 7 = .ok (.if_icmp .ge 24, 3) := by decide +kernel
theorem dX5_share_10 : decode cX5_share 10 = .ok (.aload_n 0, 1) := by decide +kernel
theorem dX5_share_11 : decode cX5_share 11 = .ok (.getfield 9, 3) := by decide +kernel
theorem dX5_share_14 : decode cX5_share 14 = .ok (.iload_n 2, 1) := by decide +kernel
theorem dX5_share_15 : decode cX5_share 15 = .ok (.laload, 1) := by decide +kernel
theorem dX5_share_16 : decode cX5_share 16 = .ok (.invokestatic 61, 3) := by decide +kernel
theorem dX5_share_19 : decode cX5_share 19 = .ok (.ifCond .eq 6, 3) := by decide +kernel
theorem dX5_share_22 : decode cX5_share 22 = .ok (.iinc 1 1, 3) := by decide +kernel
theorem dX5_share_25 : decode cX5_share 25 = .ok (.iinc 2 1, 3) := by decide +kernel
theorem dX5_share_28 : decode cX5_share 28 = .ok (.goto (-24), 3) := by decide +kernel
theorem dX5_share_31 : decode cX5_share 31 = .ok (.iload_n 1, 1) := by decide +kernel
theorem dX5_share_32 : decode cX5_share 32 = .ok (.i2f, 1) := by decide +kernel
theorem dX5_share_33 : decode cX5_share 33 = .ok (.ldc 192, 2) := by decide +kernel
theorem dX5_share_35 : decode cX5_share 35 = .ok (.fdiv, 1) := by decide +kernel
theorem dX5_share_36 : decode cX5_share 36 = .ok (.freturn, 1) := by decide +kernel
set_option maxRecDepth 20000 in
theorem ggX5_meanExponent_X0_exponentOf : GoodIn wsX5_meanExponent wsX0_exponentOf := goodIn_r _ [6, 7, 8, 5, 9] (by decide +kernel) (by decide +kernel)
set_option maxRecDepth 20000 in
theorem gX5_meanExponent_X0_exponentOf : GoodIn wsX5_meanExponent (va_wsS RX5 92 yX0_exponentOf wsX0_exponentOf) := goodIn_app (goodIn_of _ (by decide +kernel)) ggX5_meanExponent_X0_exponentOf
theorem dX5_meanExponent_0 : decode cX5_meanExponent 0 = .ok (.iconst 0, 1) := by decide +kernel
theorem dX5_meanExponent_1 : decode cX5_meanExponent 1 = .ok (.istore_n 1, 1) := by decide +kernel
theorem dX5_meanExponent_2 : decode cX5_meanExponent 2 = .ok (.iconst 0, 1) := by decide +kernel
theorem dX5_meanExponent_3 : decode cX5_meanExponent 3 = .ok (.istore_n 2, 1) := by decide +kernel
theorem dX5_meanExponent_4 : decode cX5_meanExponent 4 = .ok (.iload_n 2, 1) := by decide +kernel
theorem dX5_meanExponent_5 : decode cX5_meanExponent 5 = .ok (.bipush 8, 2) := by decide +kernel
theorem dX5_meanExponent_7 : decode cX5_meanExponent 7 = .ok (.if_icmp .ge 21, 3) := by decide +kernel
theorem dX5_meanExponent_10 : decode cX5_meanExponent 10 = .ok (.iload_n 1, 1) := by decide +kernel
theorem dX5_meanExponent_11 : decode cX5_meanExponent 11 = .ok (.aload_n 0, 1) := by decide +kernel
theorem dX5_meanExponent_12 : decode cX5_meanExponent 12 = .ok (.getfield 9, 3) := by decide +kernel
theorem dX5_meanExponent_15 : decode cX5_meanExponent 15 = .ok (.iload_n 2, 1) := by decide +kernel
theorem dX5_meanExponent_16 : decode cX5_meanExponent 16 = .ok (.laload, 1) := by decide +kernel
theorem dX5_meanExponent_17 : decode cX5_meanExponent 17 = .ok (.invokestatic 92, 3) := by decide +kernel
theorem dX5_meanExponent_20 : decode cX5_meanExponent 20 = .ok (.iadd, 1) := by decide +kernel
theorem dX5_meanExponent_21 : decode cX5_meanExponent 21 = .ok (.istore_n 1, 1) := by decide +kernel
theorem dX5_meanExponent_22 : decode cX5_meanExponent 22 = .ok (.iinc 2 1, 3) := by decide +kernel
theorem dX5_meanExponent_25 : decode cX5_meanExponent 25 = .ok (.goto (-21), 3) := by decide +kernel
theorem dX5_meanExponent_28 : decode cX5_meanExponent 28 = .ok (.iload_n 1, 1) := by decide +kernel
theorem dX5_meanExponent_29 : decode cX5_meanExponent 29 = .ok (.i2d, 1) := by decide +kernel
theorem dX5_meanExponent_30 : decode cX5_meanExponent 30 = .ok (.ldc2_w 193, 3) := by decide +kernel
theorem dX5_meanExponent_33 : decode cX5_meanExponent 33 = .ok (.ddiv, 1) := by decide +kernel
theorem dX5_meanExponent_34 : decode cX5_meanExponent 34 = .ok (.dreturn, 1) := by decide +kernel
set_option maxRecDepth 20000 in
theorem ggX5_checksum_X3_addedTo : GoodIn wsX5_checksum wsX3_addedTo := goodIn_ca (goodIn_r _ [9, 10, 11, 12, 13, 17, 18, 19] (by decide +kernel) (by decide +kernel)) (goodIn_sub (fun _ h => List.mem_cons_of_mem _ (List.mem_append_right _ h)) (by decide +kernel))
set_option maxRecDepth 20000 in
theorem gX5_checksum_X3_addedTo : GoodIn wsX5_checksum (wsV RX5 199 RX3 yX3_addedTo wsX3_addedTo) := goodIn_app (goodIn_of _ (by decide +kernel)) ggX5_checksum_X3_addedTo
theorem dX5_checksum_0 : decode cX5_checksum 0 = .ok (.ldc2_w 195, 3) := by decide +kernel
theorem dX5_checksum_3 : decode cX5_checksum 3 = .ok (.lstore_n 1, 1) := by decide +kernel
theorem dX5_checksum_4 : decode cX5_checksum 4 = .ok (.iconst 0, 1) := by decide +kernel
theorem dX5_checksum_5 : decode cX5_checksum 5 = .ok (.istore_n 3, 1) := by decide +kernel
theorem dX5_checksum_6 : decode cX5_checksum 6 = .ok (.iload_n 3, 1) := by decide +kernel
theorem dX5_checksum_7 : decode cX5_checksum 7 = .ok (.bipush 8, 2) := by decide +kernel
theorem dX5_checksum_9 : decode cX5_checksum 9 = .ok (.if_icmp .ge 22, 3) := by decide +kernel
theorem dX5_checksum_12 : decode cX5_checksum 12 = .ok (.ldc2_w 197, 3) := by decide +kernel
theorem dX5_checksum_15 : decode cX5_checksum 15 = .ok (.lload_n 1, 1) := by decide +kernel
theorem dX5_checksum_16 : decode cX5_checksum 16 = .ok (.lmul, 1) := by decide +kernel
theorem dX5_checksum_17 : decode cX5_checksum 17 = .ok (.aload_n 0, 1) := by decide +kernel
theorem dX5_checksum_18 : decode cX5_checksum 18 = .ok (.getfield 9, 3) := by decide +kernel
theorem dX5_checksum_21 : decode cX5_checksum 21 = .ok (.iload_n 3, 1) := by decide +kernel
theorem dX5_checksum_22 : decode cX5_checksum 22 = .ok (.laload, 1) := by decide +kernel
theorem dX5_checksum_23 : decode cX5_checksum 23 = .ok (.ladd, 1) := by decide +kernel
theorem dX5_checksum_24 : decode cX5_checksum 24 = .ok (.lstore_n 1, 1) := by decide +kernel
theorem dX5_checksum_25 : decode cX5_checksum 25 = .ok (.iinc 3 1, 3) := by decide +kernel
theorem dX5_checksum_28 : decode cX5_checksum 28 = .ok (.goto (-22), 3) := by decide +kernel
theorem dX5_checksum_31 : decode cX5_checksum 31 = .ok (.aload_n 0, 1) := by decide +kernel
theorem dX5_checksum_32 : decode cX5_checksum 32 = .ok (.getfield 16, 3) := by decide +kernel
theorem dX5_checksum_35 : decode cX5_checksum 35 = .ok (.lload_n 1, 1) := by decide +kernel
theorem dX5_checksum_36 : decode cX5_checksum 36 = .ok (.invokevirtual 199, 3) := by decide +kernel
theorem dX5_checksum_39 : decode cX5_checksum 39 = .ok (.lreturn, 1) := by decide +kernel
set_option maxRecDepth 20000 in
theorem ggX5_isSound_X4_holdsAt : GoodIn wsX5_isSound wsX4_holdsAt := goodIn_r _ [6, 7, 8, 5, 9, 10, 11, 12, 13, 14, 15, 16, 17, 18, 19, 20, 21, 22, 23, 24, 25, 26, 27, 28, 29, 30, 31, 32, 33, 34, 35, 36, 37, 38, 39, 40, 41, 42, 43, 44, 45, 46, 47, 48, 49, 50, 51, 52, 53, 54, 55, 56, 57, 58, 59, 60, 61, 62, 63, 64, 65, 66, 67, 68, 69, 70, 71, 72, 73, 74, 75, 76, 77, 78, 79, 80, 81, 82, 83, 84, 85, 86, 87, 88, 89, 90, 91, 92, 93, 94, 95, 96, 97, 98, 99, 100, 101, 102, 103, 104, 105, 106, 107, 108, 109, 110, 111, 112, 113, 114, 115, 116, 117, 118] (by decide +kernel) (by decide +kernel)
set_option maxRecDepth 20000 in
theorem gX5_isSound_X4_holdsAt : GoodIn wsX5_isSound (va_wsS RX5 202 yX4_holdsAt wsX4_holdsAt) := goodIn_app (goodIn_of _ (by decide +kernel)) ggX5_isSound_X4_holdsAt
set_option maxRecDepth 20000 in
theorem ggX5_isSound_X3_lossesFrom : GoodIn wsX5_isSound wsX3_lossesFrom := goodIn_ca (goodIn_r _ [123, 124, 125, 126, 127, 128, 122, 129, 130, 28, 13, 29, 16, 131, 102, 103, 104, 99, 100, 48, 49, 50, 51, 45, 46, 47, 15, 105, 91, 92, 93, 94, 59, 60, 61, 52, 53, 54, 55, 56, 57, 58, 65, 66, 67, 68, 69, 36, 70, 71, 72, 73, 74, 75, 76, 77, 78, 132, 25, 26, 27, 30, 12, 14, 17, 18, 19, 20, 21, 22, 133, 163, 164, 165] (by decide +kernel) (by decide +kernel)) (goodIn_sub (fun _ h => List.mem_cons_of_mem _ (List.mem_append_right _ h)) (by decide +kernel))
set_option maxRecDepth 20000 in
theorem gX5_isSound_X3_lossesFrom : GoodIn wsX5_isSound (wsV RX5 171 RX3 yX3_lossesFrom wsX3_lossesFrom) := goodIn_app (goodIn_of _ (by decide +kernel)) ggX5_isSound_X3_lossesFrom
set_option maxRecDepth 20000 in
theorem ggX5_isSound_X3_leadsHome : GoodIn wsX5_isSound wsX3_leadsHome := goodIn_ca (goodIn_r _ [137, 138, 139, 140, 122, 141, 124, 125, 126, 127, 128, 129, 130, 28, 13, 29, 16, 131, 102, 103, 104, 99, 100, 48, 49, 50, 51, 45, 46, 47, 15, 105, 91, 92, 93, 94, 59, 60, 61, 52, 53, 54, 55, 56, 57, 58, 65, 66, 67, 68, 69, 36, 70, 71, 72, 73, 74, 75, 76, 77, 78, 132, 25, 26, 27, 30, 12, 14, 17, 18, 19, 20, 21, 22, 133, 142, 143, 144, 145, 163, 164, 165] (by decide +kernel) (by decide +kernel)) (goodIn_sub (fun _ h => List.mem_cons_of_mem _ (List.mem_append_right _ h)) (by decide +kernel))
set_option maxRecDepth 20000 in
theorem gX5_isSound_X3_leadsHome : GoodIn wsX5_isSound (wsV RX5 168 RX3 yX3_leadsHome wsX3_leadsHome) := goodIn_app (goodIn_of _ (by decide +kernel)) ggX5_isSound_X3_leadsHome
set_option maxRecDepth 20000 in
theorem ggX5_isSound_X4_holdsBetween : GoodIn wsX5_isSound wsX4_holdsBetween := goodIn_r _ [148, 31, 32, 13, 33, 17, 18, 19, 16, 34, 35, 36, 37, 149, 150, 5, 151, 152, 153, 154, 155, 30, 12, 14, 15, 20, 21, 22, 156, 25, 26, 27, 28, 29, 157, 158, 159] (by decide +kernel) (by decide +kernel)
set_option maxRecDepth 20000 in
theorem gX5_isSound_X4_holdsBetween : GoodIn wsX5_isSound (va_wsS RX5 207 yX4_holdsBetween wsX4_holdsBetween) := goodIn_app (goodIn_of _ (by decide +kernel)) ggX5_isSound_X4_holdsBetween
theorem dX5_isSound_0 : decode cX5_isSound 0 = .ok (.iconst 0, 1) := by decide +kernel
theorem dX5_isSound_1 : decode cX5_isSound 1 = .ok (.istore_n 1, 1) := by decide +kernel
theorem dX5_isSound_2 : decode cX5_isSound 2 = .ok (.iload_n 1, 1) := by decide +kernel
theorem dX5_isSound_3 : decode cX5_isSound 3 = .ok (.bipush 8, 2) := by decide +kernel
theorem dX5_isSound_5 : decode cX5_isSound 5 = .ok (.if_icmp .ge 89, 3) := by decide +kernel
theorem dX5_isSound_8 : decode cX5_isSound 8 = .ok (.aload_n 0, 1) := by decide +kernel
theorem dX5_isSound_9 : decode cX5_isSound 9 = .ok (.getfield 9, 3) := by decide +kernel
theorem dX5_isSound_12 : decode cX5_isSound 12 = .ok (.iload_n 1, 1) := by decide +kernel
theorem dX5_isSound_13 : decode cX5_isSound 13 = .ok (.laload, 1) := by decide +kernel
theorem dX5_isSound_14 : decode cX5_isSound 14 = .ok (.invokestatic 202, 3) := by decide +kernel
theorem dX5_isSound_17 : decode cX5_isSound 17 = .ok (.ifCond .eq 35, 3) := by decide +kernel
theorem dX5_isSound_20 : decode cX5_isSound 20 = .ok (.aload_n 0, 1) := by decide +kernel
theorem dX5_isSound_21 : decode cX5_isSound 21 = .ok (.getfield 16, 3) := by decide +kernel
theorem dX5_isSound_24 : decode cX5_isSound 24 = .ok (.aload_n 0, 1) := by decide +kernel
theorem dX5_isSound_25 : decode cX5_isSound 25 = .ok (.getfield 9, 3) := by decide +kernel
theorem dX5_isSound_28 : decode cX5_isSound 28 = .ok (.iload_n 1, 1) := by decide +kernel
theorem dX5_isSound_29 : decode cX5_isSound 29 = .ok (.laload, 1) := by decide +kernel
theorem dX5_isSound_30 : decode cX5_isSound 30 = .ok (.invokevirtual 171, 3) := by decide +kernel
theorem dX5_isSound_33 : decode cX5_isSound 33 = .ok (.ifCond .ne 21, 3) := by decide +kernel
theorem dX5_isSound_36 : decode cX5_isSound 36 = .ok (.aload_n 0, 1) := by decide +kernel
theorem dX5_isSound_37 : decode cX5_isSound 37 = .ok (.getfield 16, 3) := by decide +kernel
theorem dX5_isSound_40 : decode cX5_isSound 40 = .ok (.aload_n 0, 1) := by decide +kernel
theorem dX5_isSound_41 : decode cX5_isSound 41 = .ok (.getfield 9, 3) := by decide +kernel
theorem dX5_isSound_44 : decode cX5_isSound 44 = .ok (.iload_n 1, 1) := by decide +kernel
theorem dX5_isSound_45 : decode cX5_isSound 45 = .ok (.laload, 1) := by decide +kernel
theorem dX5_isSound_46 : decode cX5_isSound 46 = .ok (.invokevirtual 168, 3) := by decide +kernel
theorem dX5_isSound_49 : decode cX5_isSound 49 = .ok (.ifCond .ne 5, 3) := by decide +kernel
theorem dX5_isSound_52 : decode cX5_isSound 52 = .ok (.iconst 0, 1) := by decide +kernel
theorem dX5_isSound_53 : decode cX5_isSound 53 = .ok (.ireturn, 1) := by decide +kernel
theorem dX5_isSound_54 : decode cX5_isSound 54 = .ok (.iconst 0, 1) := by decide +kernel
theorem dX5_isSound_55 : decode cX5_isSound 55 = .ok (.istore_n 2, 1) := by decide +kernel
theorem dX5_isSound_56 : decode cX5_isSound 56 = .ok (.iload_n 2, 1) := by decide +kernel
theorem dX5_isSound_57 : decode cX5_isSound 57 = .ok (.bipush 8, 2) := by decide +kernel
theorem dX5_isSound_59 : decode cX5_isSound 59 = .ok (.if_icmp .ge 29, 3) := by decide +kernel
theorem dX5_isSound_62 : decode cX5_isSound 62 = .ok (.aload_n 0, 1) := by decide +kernel
theorem dX5_isSound_63 : decode cX5_isSound 63 = .ok (.getfield 9, 3) := by decide +kernel
theorem dX5_isSound_66 : decode cX5_isSound 66 = .ok (.iload_n 1, 1) := by decide +kernel
theorem dX5_isSound_67 : decode cX5_isSound 67 = .ok (.laload, 1) := by decide +kernel
theorem dX5_isSound_68 : decode cX5_isSound 68 = .ok (.aload_n 0, 1) := by decide +kernel
theorem dX5_isSound_69 : decode cX5_isSound 69 = .ok (.getfield 9, 3) := by decide +kernel
theorem dX5_isSound_72 : decode cX5_isSound 72 = .ok (.iload_n 2, 1) := by decide +kernel
theorem dX5_isSound_73 : decode cX5_isSound 73 = .ok (.laload, 1) := by decide +kernel
theorem dX5_isSound_74 : decode cX5_isSound 74 = .ok (.invokestatic 207, 3) := by decide +kernel
theorem dX5_isSound_77 : decode cX5_isSound 77 = .ok (.ifCond .ne 5, 3) := by decide +kernel
theorem dX5_isSound_80 : decode cX5_isSound 80 = .ok (.iconst 0, 1) := by decide +kernel
theorem dX5_isSound_81 : decode cX5_isSound 81 = .ok (.ireturn, 1) := by decide +kernel
theorem dX5_isSound_82 : decode cX5_isSound 82 = .ok (.iinc 2 1, 3) := by decide +kernel
theorem dX5_isSound_85 : decode cX5_isSound 85 = .ok (.goto (-29), 3) := by decide +kernel
theorem dX5_isSound_88 : decode cX5_isSound 88 = .ok (.iinc 1 1, 3) := by decide +kernel
theorem dX5_isSound_91 : decode cX5_isSound 91 = .ok (.goto (-89), 3) := by decide +kernel
theorem dX5_isSound_94 : decode cX5_isSound 94 = .ok (.iconst 1, 1) := by decide +kernel
theorem dX5_isSound_95 : decode cX5_isSound 95 = .ok (.ireturn, 1) := by decide +kernel
set_option maxRecDepth 20000 in
theorem ggX5_become_X2_keep : GoodIn wsX5_become wsX2_keep := goodIn_ca (goodIn_r _ [7, 8, 9, 10, 11, 12, 13, 14, 15, 24, 25, 26, 27] (by decide +kernel) (by decide +kernel)) (goodIn_sub (fun _ h => List.mem_cons_of_mem _ (List.mem_append_right _ h)) (by decide +kernel))
set_option maxRecDepth 20000 in
theorem gX5_become_X2_keep : GoodIn wsX5_become (wsV RX5 211 RX2 yX2_keep wsX2_keep) := goodIn_app (goodIn_of _ (by decide +kernel)) ggX5_become_X2_keep
set_option maxRecDepth 20000 in
theorem ggX5_become_X0_placeOf : GoodIn wsX5_become wsX0_placeOf := goodIn_r _ [19, 20] (by decide +kernel) (by decide +kernel)
set_option maxRecDepth 20000 in
theorem gX5_become_X0_placeOf : GoodIn wsX5_become (va_wsS RX5 51 yX0_placeOf wsX0_placeOf) := goodIn_app (goodIn_of _ (by decide +kernel)) ggX5_become_X0_placeOf
theorem dX5_become_0 : decode cX5_become 0 = .ok (.aload_n 0, 1) := by decide +kernel
theorem dX5_become_1 : decode cX5_become 1 = .ok (.getfield 23, 3) := by decide +kernel
theorem dX5_become_4 : decode cX5_become 4 = .ok (.iload_n 1, 1) := by decide +kernel
theorem dX5_become_5 : decode cX5_become 5 = .ok (.aload_n 0, 1) := by decide +kernel
theorem dX5_become_6 : decode cX5_become 6 = .ok (.getfield 9, 3) := by decide +kernel
theorem dX5_become_9 : decode cX5_become 9 = .ok (.iload_n 1, 1) := by decide +kernel
theorem dX5_become_10 : decode cX5_become 10 = .ok (.laload, 1) := by decide +kernel
theorem dX5_become_11 : decode cX5_become 11 = .ok (.invokevirtual 211, 3) := by decide +kernel
theorem dX5_become_14 : decode cX5_become 14 = .ok (.aload_n 0, 1) := by decide +kernel
theorem dX5_become_15 : decode cX5_become 15 = .ok (.getfield 9, 3) := by decide +kernel
theorem dX5_become_18 : decode cX5_become 18 = .ok (.iload_n 1, 1) := by decide +kernel
theorem dX5_become_19 : decode cX5_become 19 = .ok (.lload_n 2, 1) := by decide +kernel
theorem dX5_become_20 : decode cX5_become 20 = .ok (.lastore, 1) := by decide +kernel
theorem dX5_become_21 : decode cX5_become 21 = .ok (.lload_n 2, 1) := by decide +kernel
theorem dX5_become_22 : decode cX5_become 22 = .ok (.invokestatic 51, 3) := by decide +kernel
theorem dX5_become_25 : decode cX5_become 25 = .ok (.lreturn, 1) := by decide +kernel
theorem dX5_checkSlot_0 : decode cX5_checkSlot 0 = .ok (.iload_n 0, 1) := by decide +kernel
theorem dX5_checkSlot_1 : decode cX5_checkSlot 1 = .ok (.ifCond .lt 9, 3) := by decide +kernel
theorem dX5_checkSlot_4 : decode cX5_checkSlot 4 = .ok (.iload_n 0, 1) := by decide +kernel
theorem dX5_checkSlot_5 : decode cX5_checkSlot 5 = .ok (.bipush 8, 2) := by decide +kernel
theorem dX5_checkSlot_7 : decode cX5_checkSlot 7 = .ok (.if_icmp .lt 13, 3) := by decide +kernel
theorem dX5_checkSlot_10 : decode cX5_checkSlot 10 = .ok (.new 215, 3) := by decide +kernel
theorem dX5_checkSlot_13 : decode cX5_checkSlot 13 = .ok (.dup, 1) := by decide +kernel
theorem dX5_checkSlot_14 : decode cX5_checkSlot 14 = .ok (.ldc 217, 2) := by decide +kernel
theorem dX5_checkSlot_16 : decode cX5_checkSlot 16 = .ok (.invokespecial 219, 3) := by decide +kernel
theorem dX5_checkSlot_19 : decode cX5_checkSlot 19 = .ok (.athrow, 1) := by decide +kernel
theorem dX5_checkSlot_20 : decode cX5_checkSlot 20 = .ok (.return_, 1) := by decide +kernel
theorem dX5_checkRange_0 : decode cX5_checkRange 0 = .ok (.iload_n 0, 1) := by decide +kernel
theorem dX5_checkRange_1 : decode cX5_checkRange 1 = .ok (.iload_n 1, 1) := by decide +kernel
theorem dX5_checkRange_2 : decode cX5_checkRange 2 = .ok (.if_icmp .lt 8, 3) := by decide +kernel
theorem dX5_checkRange_5 : decode cX5_checkRange 5 = .ok (.iload_n 0, 1) := by decide +kernel
theorem dX5_checkRange_6 : decode cX5_checkRange 6 = .ok (.iload_n 2, 1) := by decide +kernel
theorem dX5_checkRange_7 : decode cX5_checkRange 7 = .ok (.if_icmp .le 13, 3) := by decide +kernel
theorem dX5_checkRange_10 : decode cX5_checkRange 10 = .ok (.new 135, 3) := by decide +kernel
theorem dX5_checkRange_13 : decode cX5_checkRange 13 = .ok (.dup, 1) := by decide +kernel
theorem dX5_checkRange_14 : decode cX5_checkRange 14 = .ok (.ldc 220, 2) := by decide +kernel
theorem dX5_checkRange_16 : decode cX5_checkRange 16 = .ok (.invokespecial 139, 3) := by decide +kernel
theorem dX5_checkRange_19 : decode cX5_checkRange 19 = .ok (.athrow, 1) := by decide +kernel
theorem dX5_checkRange_20 : decode cX5_checkRange 20 = .ok (.return_, 1) := by decide +kernel
set_option maxRecDepth 20000 in
theorem ggX5_checkHasPowers_X0_isZero : GoodIn wsX5_checkHasPowers wsX0_isZero := goodIn_r _ [6, 7, 8, 5, 9, 10] (by decide +kernel) (by decide +kernel)
set_option maxRecDepth 20000 in
theorem gX5_checkHasPowers_X0_isZero : GoodIn wsX5_checkHasPowers (va_wsS RX5 222 yX0_isZero wsX0_isZero) := goodIn_app (goodIn_of _ (by decide +kernel)) ggX5_checkHasPowers_X0_isZero
set_option maxRecDepth 20000 in
theorem ggX5_checkHasPowers_X0_hasNoEnd : GoodIn wsX5_checkHasPowers wsX0_hasNoEnd := goodIn_r _ [13, 14, 7, 8, 5, 9, 10] (by decide +kernel) (by decide +kernel)
set_option maxRecDepth 20000 in
theorem gX5_checkHasPowers_X0_hasNoEnd : GoodIn wsX5_checkHasPowers (va_wsS RX5 54 yX0_hasNoEnd wsX0_hasNoEnd) := goodIn_app (goodIn_of _ (by decide +kernel)) ggX5_checkHasPowers_X0_hasNoEnd
theorem dX5_checkHasPowers_0 : decode cX5_checkHasPowers 0 = .ok (.lload_n 0, 1) := by decide +kernel
theorem dX5_checkHasPowers_1 : decode cX5_checkHasPowers 1 = .ok (.invokestatic 222, 3) := by decide +kernel
theorem dX5_checkHasPowers_4 : decode cX5_checkHasPowers 4 = .ok (.ifCond .ne 10, 3) := by decide +kernel
theorem dX5_checkHasPowers_7 : decode cX5_checkHasPowers 7 = .ok (.lload_n 0, 1) := by decide +kernel
theorem dX5_checkHasPowers_8 : decode cX5_checkHasPowers 8 = .ok (.invokestatic 54, 3) := by decide +kernel
theorem dX5_checkHasPowers_11 : decode cX5_checkHasPowers 11 = .ok (.ifCond .eq 13, 3) := by decide +kernel
theorem dX5_checkHasPowers_14 : decode cX5_checkHasPowers 14 = .ok (.new 225, 3) := by decide +kernel
theorem dX5_checkHasPowers_17 : decode cX5_checkHasPowers 17 = .ok (.dup, 1) := by decide +kernel
theorem dX5_checkHasPowers_18 : decode cX5_checkHasPowers 18 = .ok (.ldc 227, 2) := by decide +kernel
theorem dX5_checkHasPowers_20 : decode cX5_checkHasPowers 20 = .ok (.invokespecial 229, 3) := by decide +kernel
theorem dX5_checkHasPowers_23 : decode cX5_checkHasPowers 23 = .ok (.athrow, 1) := by decide +kernel
theorem dX5_checkHasPowers_24 : decode cX5_checkHasPowers 24 = .ok (.return_, 1) := by decide +kernel
set_option maxRecDepth 20000 in
theorem ggX5_checkHasEnd_X0_hasNoEnd : GoodIn wsX5_checkHasEnd wsX0_hasNoEnd := goodIn_r _ [6, 7, 8, 9, 5, 10, 11] (by decide +kernel) (by decide +kernel)
set_option maxRecDepth 20000 in
theorem gX5_checkHasEnd_X0_hasNoEnd : GoodIn wsX5_checkHasEnd (va_wsS RX5 54 yX0_hasNoEnd wsX0_hasNoEnd) := goodIn_app (goodIn_of _ (by decide +kernel)) ggX5_checkHasEnd_X0_hasNoEnd
theorem dX5_checkHasEnd_0 : decode cX5_checkHasEnd 0 = .ok (.lload_n 0, 1) := by decide +kernel
theorem dX5_checkHasEnd_1 : decode cX5_checkHasEnd 1 = .ok (.invokestatic 54, 3) := by decide +kernel
theorem dX5_checkHasEnd_4 : decode cX5_checkHasEnd 4 = .ok (.ifCond .eq 13, 3) := by decide +kernel
theorem dX5_checkHasEnd_7 : decode cX5_checkHasEnd 7 = .ok (.new 146, 3) := by decide +kernel
theorem dX5_checkHasEnd_10 : decode cX5_checkHasEnd 10 = .ok (.dup, 1) := by decide +kernel
theorem dX5_checkHasEnd_11 : decode cX5_checkHasEnd 11 = .ok (.ldc 230, 2) := by decide +kernel
theorem dX5_checkHasEnd_13 : decode cX5_checkHasEnd 13 = .ok (.invokespecial 150, 3) := by decide +kernel
theorem dX5_checkHasEnd_16 : decode cX5_checkHasEnd 16 = .ok (.athrow, 1) := by decide +kernel
theorem dX5_checkHasEnd_17 : decode cX5_checkHasEnd 17 = .ok (.return_, 1) := by decide +kernel
