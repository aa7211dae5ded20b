set_option maxRecDepth 20000 in
theorem ggL_set_X5_set : GoodIn wsL_set wsX5_set := goodIn_ca (goodIn_ca (goodIn_ca (goodIn_r _ [7, 8, 9, 6, 10, 11, 12, 13, 14, 15, 16, 17, 18, 19, 20, 21, 22, 23, 24, 25, 26, 27, 28, 29, 30, 31, 32, 33, 34, 35, 36, 37, 38, 39, 40, 41, 42, 43, 44, 45, 46, 47, 48, 49, 50, 51, 52, 53, 54, 55, 56, 57, 58, 59, 60, 61, 62, 63, 64, 65, 66, 67, 68, 69, 70, 71, 72, 73, 74, 75, 76] (by decide +kernel) (by decide +kernel)) (goodIn_sub (fun _ h => List.mem_cons_of_mem _ (List.mem_append_left _ (List.mem_append_right _ h))) (by decide +kernel))) (goodIn_sub (fun _ h => List.mem_cons_of_mem _ (List.mem_append_right _ h)) (by decide +kernel))) (goodIn_sub (fun _ h => List.mem_cons_of_mem _ (List.mem_append_left _ (List.mem_append_left _ (List.mem_append_right _ h)))) (by decide +kernel))
set_option maxRecDepth 20000 in
theorem gL_set_X5_set : GoodIn wsL_set (wsV RL 7 RX5 yX5_set wsX5_set) := goodIn_app (goodIn_of _ (by decide +kernel)) ggL_set_X5_set
theorem dL_set_0 : decode cL_set 0 = .ok (.aload 4, 2) := by decide +kernel
theorem dL_set_2 : decode cL_set 2 = .ok (.iconst 0, 1) := by decide +kernel
theorem dL_set_3 : decode cL_set 3 = .ok (.aload_n 0, 1) := by decide +kernel
theorem dL_set_4 : decode cL_set 4 = .ok (.iload_n 1, 1) := by decide +kernel
theorem dL_set_5 : decode cL_set 5 = .ok (.iload_n 2, 1) := by decide +kernel
theorem dL_set_6 : decode cL_set 6 = .ok (.iload_n 3, 1) := by decide +kernel
theorem dL_set_7 : decode cL_set 7 = .ok (.invokevirtual 7, 3) := by decide +kernel
theorem dL_set_10 : decode cL_set 10 = .ok (.lastore, 1) := by decide +kernel
theorem dL_set_11 : decode cL_set 11 = .ok (.goto 11, 3) := by decide +kernel
theorem dL_set_14 : decode cL_set 14 = .ok (.astore 5, 2) := by decide +kernel
theorem dL_set_16 : decode cL_set 16 = .ok (.iconst 1, 1) := by decide +kernel
theorem dL_set_17 : decode cL_set 17 = .ok (.ireturn, 1) := by decide +kernel
theorem dL_set_18 : decode cL_set 18 = .ok (.astore 5, 2) := by decide +kernel
theorem dL_set_20 : decode cL_set 20 = .ok (.iconst 2, 1) := by decide +kernel
theorem dL_set_21 : decode cL_set 21 = .ok (.ireturn, 1) := by decide +kernel
theorem dL_set_22 : decode cL_set 22 = .ok (.iconst 0, 1) := by decide +kernel
theorem dL_set_23 : decode cL_set 23 = .ok (.ireturn, 1) := by decide +kernel
set_option maxRecDepth 20000 in
theorem ggL_end_X5_end : GoodIn wsL_end wsX5_end := goodIn_ca (goodIn_ca (goodIn_r _ [6, 7, 8, 9, 5, 10, 11, 12, 13, 14, 15, 16, 17, 18, 19, 20, 21, 22, 23, 24, 25, 26, 27, 28, 29, 30, 31, 32, 33, 34, 35, 36, 37, 38, 39, 40, 41, 42, 43, 44, 45, 46] (by decide +kernel) (by decide +kernel)) (goodIn_sub (fun _ h => List.mem_cons_of_mem _ (List.mem_append_right _ h)) (by decide +kernel))) (goodIn_sub (fun _ h => List.mem_cons_of_mem _ (List.mem_append_left _ (List.mem_append_right _ h))) (by decide +kernel))
set_option maxRecDepth 20000 in
theorem gL_end_X5_end : GoodIn wsL_end (wsV RL 17 RX5 yX5_end wsX5_end) := goodIn_app (goodIn_of _ (by decide +kernel)) ggL_end_X5_end
theorem dL_end_0 : decode cL_end 0 = .ok (.aload_n 3, 1) := by decide +kernel
theorem dL_end_1 : decode cL_end 1 = .ok (.iconst 0, 1) := by decide +kernel
theorem dL_end_2 : decode cL_end 2 = .ok (.aload_n 0, 1) := by decide +kernel
theorem dL_end_3 : decode cL_end 3 = .ok (.iload_n 1, 1) := by decide +kernel
theorem dL_end_4 : decode cL_end 4 = .ok (.iload_n 2, 1) := by decide +kernel
theorem dL_end_5 : decode cL_end 5 = .ok (.invokevirtual 17, 3) := by decide +kernel
theorem dL_end_8 : decode cL_end 8 = .ok (.lastore, 1) := by decide +kernel
theorem dL_end_9 : decode cL_end 9 = .ok (.goto 7, 3) := by decide +kernel
theorem dL_end_12 : decode cL_end 12 = .ok (.astore 4, 2) := by decide +kernel
theorem dL_end_14 : decode cL_end 14 = .ok (.iconst 1, 1) := by decide +kernel
theorem dL_end_15 : decode cL_end 15 = .ok (.ireturn, 1) := by decide +kernel
theorem dL_end_16 : decode cL_end 16 = .ok (.iconst 0, 1) := by decide +kernel
theorem dL_end_17 : decode cL_end 17 = .ok (.ireturn, 1) := by decide +kernel
set_option maxRecDepth 20000 in
theorem ggL_copy_X5_copy : GoodIn wsL_copy wsX5_copy := goodIn_ca (goodIn_ca (goodIn_r _ [6, 7, 8, 9, 5, 10, 11, 12, 13, 14, 15, 16, 17, 18, 19, 20, 21, 22, 23, 24, 25, 26, 27, 28, 29, 30, 31, 32, 33, 34, 35, 36, 37, 38, 39, 40, 41, 42] (by decide +kernel) (by decide +kernel)) (goodIn_sub (fun _ h => List.mem_cons_of_mem _ (List.mem_append_left _ (List.mem_append_right _ h))) (by decide +kernel))) (goodIn_sub (fun _ h => List.mem_cons_of_mem _ (List.mem_append_right _ h)) (by decide +kernel))
set_option maxRecDepth 20000 in
theorem gL_copy_X5_copy : GoodIn wsL_copy (wsV RL 21 RX5 yX5_copy wsX5_copy) := goodIn_app (goodIn_of _ (by decide +kernel)) ggL_copy_X5_copy
theorem dL_copy_0 : decode cL_copy 0 = .ok (.aload_n 3, 1) := by decide +kernel
theorem dL_copy_1 : decode cL_copy 1 = .ok (.iconst 0, 1) := by decide +kernel
theorem dL_copy_2 : decode cL_copy 2 = .ok (.aload_n 0, 1) := by decide +kernel
theorem dL_copy_3 : decode cL_copy 3 = .ok (.iload_n 1, 1) := by decide +kernel
theorem dL_copy_4 : decode cL_copy 4 = .ok (.iload_n 2, 1) := by decide +kernel
theorem dL_copy_5 : decode cL_copy 5 = .ok (.invokevirtual 21, 3) := by decide +kernel
theorem dL_copy_8 : decode cL_copy 8 = .ok (.lastore, 1) := by decide +kernel
theorem dL_copy_9 : decode cL_copy 9 = .ok (.goto 7, 3) := by decide +kernel
theorem dL_copy_12 : decode cL_copy 12 = .ok (.astore 4, 2) := by decide +kernel
theorem dL_copy_14 : decode cL_copy 14 = .ok (.iconst 1, 1) := by decide +kernel
theorem dL_copy_15 : decode cL_copy 15 = .ok (.ireturn, 1) := by decide +kernel
theorem dL_copy_16 : decode cL_copy 16 = .ok (.iconst 0, 1) := by decide +kernel
theorem dL_copy_17 : decode cL_copy 17 = .ok (.ireturn, 1) := by decide +kernel
set_option maxRecDepth 20000 in
theorem ggL_negate_X5_negate : GoodIn wsL_negate wsX5_negate := goodIn_ca (goodIn_ca (goodIn_r _ [6, 7, 8, 9, 5, 10, 11, 12, 13, 14, 15, 16, 17, 18, 19, 20, 21, 22, 23, 24, 25, 26, 27, 28, 29, 30, 31, 32, 33, 34, 35, 36, 37, 38, 39, 40, 41, 42, 43, 44, 45] (by decide +kernel) (by decide +kernel)) (goodIn_sub (fun _ h => List.mem_cons_of_mem _ (List.mem_append_left _ (List.mem_append_right _ h))) (by decide +kernel))) (goodIn_sub (fun _ h => List.mem_cons_of_mem _ (List.mem_append_right _ h)) (by decide +kernel))
set_option maxRecDepth 20000 in
theorem gL_negate_X5_negate : GoodIn wsL_negate (wsV RL 25 RX5 yX5_negate wsX5_negate) := goodIn_app (goodIn_of _ (by decide +kernel)) ggL_negate_X5_negate
theorem dL_negate_0 : decode cL_negate 0 = .ok (.aload_n 3, 1) := by decide +kernel
theorem dL_negate_1 : decode cL_negate 1 = .ok (.iconst 0, 1) := by decide +kernel
theorem dL_negate_2 : decode cL_negate 2 = .ok (.aload_n 0, 1) := by decide +kernel
theorem dL_negate_3 : decode cL_negate 3 = .ok (.iload_n 1, 1) := by decide +kernel
theorem dL_negate_4 : decode cL_negate 4 = .ok (.iload_n 2, 1) := by decide +kernel
theorem dL_negate_5 : decode cL_negate 5 = .ok (.invokevirtual 25, 3) := by decide +kernel
theorem dL_negate_8 : decode cL_negate 8 = .ok (.lastore, 1) := by decide +kernel
theorem dL_negate_9 : decode cL_negate 9 = .ok (.goto 7, 3) := by decide +kernel
theorem dL_negate_12 : decode cL_negate 12 = .ok (.astore 4, 2) := by decide +kernel
theorem dL_negate_14 : decode cL_negate 14 = .ok (.iconst 1, 1) := by decide +kernel
theorem dL_negate_15 : decode cL_negate 15 = .ok (.ireturn, 1) := by decide +kernel
theorem dL_negate_16 : decode cL_negate 16 = .ok (.iconst 0, 1) := by decide +kernel
theorem dL_negate_17 : decode cL_negate 17 = .ok (.ireturn, 1) := by decide +kernel
set_option maxRecDepth 20000 in
theorem ggL_place_X5_place : GoodIn wsL_place wsX5_place := goodIn_ca (goodIn_ca (goodIn_r _ [6, 7, 8, 9, 5, 10, 11, 12, 13, 14, 15, 16, 17, 18, 19, 20] (by decide +kernel) (by decide +kernel)) (goodIn_sub (fun _ h => List.mem_cons_of_mem _ (List.mem_append_left _ (List.mem_append_right _ h))) (by decide +kernel))) (goodIn_sub (fun _ h => List.mem_cons_of_mem _ (List.mem_append_right _ h)) (by decide +kernel))
set_option maxRecDepth 20000 in
theorem gL_place_X5_place : GoodIn wsL_place (wsV RL 28 RX5 yX5_place wsX5_place) := goodIn_app (goodIn_of _ (by decide +kernel)) ggL_place_X5_place
theorem dL_place_0 : decode cL_place 0 = .ok (.aload_n 2, 1) := by decide +kernel
theorem dL_place_1 : decode cL_place 1 = .ok (.iconst 0, 1) := by decide +kernel
theorem dL_place_2 : decode cL_place 2 = .ok (.aload_n 0, 1) := by decide +kernel
theorem dL_place_3 : decode cL_place 3 = .ok (.iload_n 1, 1) := by decide +kernel
theorem dL_place_4 : decode cL_place 4 = .ok (.invokevirtual 28, 3) := by decide +kernel
theorem dL_place_7 : decode cL_place 7 = .ok (.lastore, 1) := by decide +kernel
theorem dL_place_8 : decode cL_place 8 = .ok (.goto 6, 3) := by decide +kernel
theorem dL_place_11 : decode cL_place 11 = .ok (.astore_n 3, 1) := by decide +kernel
theorem dL_place_12 : decode cL_place 12 = .ok (.iconst 1, 1) := by decide +kernel
theorem dL_place_13 : decode cL_place 13 = .ok (.ireturn, 1) := by decide +kernel
theorem dL_place_14 : decode cL_place 14 = .ok (.iconst 0, 1) := by decide +kernel
theorem dL_place_15 : decode cL_place 15 = .ok (.ireturn, 1) := by decide +kernel
set_option maxRecDepth 20000 in
theorem ggL_bits_X5_bits : GoodIn wsL_bits wsX5_bits := goodIn_ca (goodIn_ca (goodIn_r _ [6, 7, 8, 9, 5, 10, 11, 12, 13, 14, 15] (by decide +kernel) (by decide +kernel)) (goodIn_sub (fun _ h => List.mem_cons_of_mem _ (List.mem_append_left _ (List.mem_append_right _ h))) (by decide +kernel))) (goodIn_sub (fun _ h => List.mem_cons_of_mem _ (List.mem_append_right _ h)) (by decide +kernel))
set_option maxRecDepth 20000 in
theorem gL_bits_X5_bits : GoodIn wsL_bits (wsV RL 32 RX5 yX5_bits wsX5_bits) := goodIn_app (goodIn_of _ (by decide +kernel)) ggL_bits_X5_bits
theorem dL_bits_0 : decode cL_bits 0 = .ok (.aload_n 2, 1) := by decide +kernel
theorem dL_bits_1 : decode cL_bits 1 = .ok (.iconst 0, 1) := by decide +kernel
theorem dL_bits_2 : decode cL_bits 2 = .ok (.aload_n 0, 1) := by decide +kernel
theorem dL_bits_3 : decode cL_bits 3 = .ok (.iload_n 1, 1) := by decide +kernel
theorem dL_bits_4 : decode cL_bits 4 = .ok (.invokevirtual 32, 3) := by decide +kernel
theorem dL_bits_7 : decode cL_bits 7 = .ok (.lastore, 1) := by decide +kernel
theorem dL_bits_8 : decode cL_bits 8 = .ok (.goto 6, 3) := by decide +kernel
theorem dL_bits_11 : decode cL_bits 11 = .ok (.astore_n 3, 1) := by decide +kernel
theorem dL_bits_12 : decode cL_bits 12 = .ok (.iconst 1, 1) := by decide +kernel
theorem dL_bits_13 : decode cL_bits 13 = .ok (.ireturn, 1) := by decide +kernel
theorem dL_bits_14 : decode cL_bits 14 = .ok (.iconst 0, 1) := by decide +kernel
theorem dL_bits_15 : decode cL_bits 15 = .ok (.ireturn, 1) := by decide +kernel
set_option maxRecDepth 20000 in
theorem ggL_isEndless_X5_isEndless : GoodIn wsL_isEndless wsX5_isEndless := goodIn_ca (goodIn_ca (goodIn_r _ [6, 7, 8, 9, 5, 10, 11, 12, 13, 14, 15, 16, 17, 18, 19, 20, 21, 22, 23, 24] (by decide +kernel) (by decide +kernel)) (goodIn_sub (fun _ h => List.mem_cons_of_mem _ (List.mem_append_left _ (List.mem_append_right _ h))) (by decide +kernel))) (goodIn_sub (fun _ h => List.mem_cons_of_mem _ (List.mem_append_right _ h)) (by decide +kernel))
set_option maxRecDepth 20000 in
theorem gL_isEndless_X5_isEndless : GoodIn wsL_isEndless (wsV RL 35 RX5 yX5_isEndless wsX5_isEndless) := goodIn_app (goodIn_of _ (by decide +kernel)) ggL_isEndless_X5_isEndless
theorem dL_isEndless_0 : decode cL_isEndless 0 = .ok (.aload_n 2, 1) := by decide +kernel
theorem dL_isEndless_1 : decode cL_isEndless 1 = .ok (.iconst 0, 1) := by decide +kernel
theorem dL_isEndless_2 : decode cL_isEndless 2 = .ok (.aload_n 0, 1) := by decide +kernel
theorem dL_isEndless_3 : decode cL_isEndless 3 = .ok (.iload_n 1, 1) := by decide +kernel
theorem dL_isEndless_4 : decode cL_isEndless 4 = .ok (.invokevirtual 35, 3) := by decide +kernel
theorem dL_isEndless_7 : decode cL_isEndless 7 = .ok (.ifCond .eq 7, 3) := by decide +kernel
theorem dL_isEndless_10 : decode cL_isEndless 10 = .ok (.lconst 1, 1) := by decide +kernel
theorem dL_isEndless_11 : decode cL_isEndless 11 = .ok (.goto 4, 3) := by decide +kernel
theorem dL_isEndless_14 : decode cL_isEndless 14 = .ok (.lconst 0, 1) := by decide +kernel
theorem dL_isEndless_15 : decode cL_isEndless 15 = .ok (.lastore, 1) := by decide +kernel
theorem dL_isEndless_16 : decode cL_isEndless 16 = .ok (.goto 6, 3) := by decide +kernel
theorem dL_isEndless_19 : decode cL_isEndless 19 = .ok (.astore_n 3, 1) := by decide +kernel
theorem dL_isEndless_20 : decode cL_isEndless 20 = .ok (.iconst 1, 1) := by decide +kernel
theorem dL_isEndless_21 : decode cL_isEndless 21 = .ok (.ireturn, 1) := by decide +kernel
theorem dL_isEndless_22 : decode cL_isEndless 22 = .ok (.iconst 0, 1) := by decide +kernel
theorem dL_isEndless_23 : decode cL_isEndless 23 = .ok (.ireturn, 1) := by decide +kernel
set_option maxRecDepth 20000 in
theorem ggL_isWhole_X5_isWhole : GoodIn wsL_isWhole wsX5_isWhole := goodIn_ca (goodIn_ca (goodIn_r _ [6, 7, 8, 9, 5, 10, 11, 12, 13, 14, 15, 16, 17, 18, 19, 20, 21, 22, 23, 24, 25, 26, 27, 28, 29, 30, 31, 32, 33, 34, 35, 36, 37, 38, 39, 40, 41, 42, 43, 44, 45, 46, 47, 48, 49, 50, 51, 52, 53, 54, 55, 56, 57] (by decide +kernel) (by decide +kernel)) (goodIn_sub (fun _ h => List.mem_cons_of_mem _ (List.mem_append_left _ (List.mem_append_right _ h))) (by decide +kernel))) (goodIn_sub (fun _ h => List.mem_cons_of_mem _ (List.mem_append_right _ h)) (by decide +kernel))
set_option maxRecDepth 20000 in
theorem gL_isWhole_X5_isWhole : GoodIn wsL_isWhole (wsV RL 39 RX5 yX5_isWhole wsX5_isWhole) := goodIn_app (goodIn_of _ (by decide +kernel)) ggL_isWhole_X5_isWhole
theorem dL_isWhole_0 : decode cL_isWhole 0 = .ok (.aload_n 2, 1) := by decide +kernel
theorem dL_isWhole_1 : decode cL_isWhole 1 = .ok (.iconst 0, 1) := by decide +kernel
theorem dL_isWhole_2 : decode cL_isWhole 2 = .ok (.aload_n 0, 1) := by decide +kernel
theorem dL_isWhole_3 : decode cL_isWhole 3 = .ok (.iload_n 1, 1) := by decide +kernel
theorem dL_isWhole_4 : decode cL_isWhole 4 = .ok (.invokevirtual 39, 3) := by decide +kernel
theorem dL_isWhole_7 : decode cL_isWhole 7 = .ok (.ifCond .eq 7, 3) := by decide +kernel
theorem dL_isWhole_10 : decode cL_isWhole 10 = .ok (.lconst 1, 1) := by decide +kernel
theorem dL_isWhole_11 : decode cL_isWhole 11 = .ok (.goto 4, 3) := by decide +kernel
theorem dL_isWhole_14 : decode cL_isWhole 14 = .ok (.lconst 0, 1) := by decide +kernel
theorem dL_isWhole_15 : decode cL_isWhole 15 = .ok (.lastore, 1) := by decide +kernel
theorem dL_isWhole_16 : decode cL_isWhole 16 = .ok (.goto 6, 3) := by decide +kernel
theorem dL_isWhole_19 : decode cL_isWhole 19 = .ok (.astore_n 3, 1) := by decide +kernel
theorem dL_isWhole_20 : decode cL_isWhole 20 = .ok (.iconst 1, 1) := by decide +kernel
theorem dL_isWhole_21 : decode cL_isWhole 21 = .ok (.ireturn, 1) := by decide +kernel
theorem dL_isWhole_22 : decode cL_isWhole 22 = .ok (.iconst 0, 1) := by decide +kernel
theorem dL_isWhole_23 : decode cL_isWhole 23 = .ok (.ireturn, 1) := by decide +kernel
set_option maxRecDepth 20000 in
theorem ggL_isSmall_X5_isSmall : GoodIn wsL_isSmall wsX5_isSmall := goodIn_ca (goodIn_ca (goodIn_r _ [6, 7, 8, 9, 5, 10, 11, 12, 13, 14, 15, 16, 17, 18, 19, 20, 21, 22] (by decide +kernel) (by decide +kernel)) (goodIn_sub (fun _ h => List.mem_cons_of_mem _ (List.mem_append_left _ (List.mem_append_right _ h))) (by decide +kernel))) (goodIn_sub (fun _ h => List.mem_cons_of_mem _ (List.mem_append_right _ h)) (by decide +kernel))
set_option maxRecDepth 20000 in
theorem gL_isSmall_X5_isSmall : GoodIn wsL_isSmall (wsV RL 42 RX5 yX5_isSmall wsX5_isSmall) := goodIn_app (goodIn_of _ (by decide +kernel)) ggL_isSmall_X5_isSmall
theorem dL_isSmall_0 : decode cL_isSmall 0 = .ok (.aload_n 2, 1) := by decide +kernel
theorem dL_isSmall_1 : decode cL_isSmall 1 = .ok (.iconst 0, 1) := by decide +kernel
theorem dL_isSmall_2 : decode cL_isSmall 2 = .ok (.aload_n 0, 1) := by decide +kernel
theorem dL_isSmall_3 : decode cL_isSmall 3 = .ok (.iload_n 1, 1) := by decide +kernel
theorem dL_isSmall_4 : decode cL_isSmall 4 = .ok (.invokevirtual 42, 3) := by decide +kernel
theorem dL_isSmall_7 : decode cL_isSmall 7 = .ok (.ifCond .eq 7, 3) := by decide +kernel
theorem dL_isSmall_10 : decode cL_isSmall 10 = .ok (.lconst 1, 1) := by decide +kernel
theorem dL_isSmall_11 : decode cL_isSmall 11 = .ok (.goto 4, 3) := by decide +kernel
theorem dL_isSmall_14 : decode cL_isSmall 14 = .ok (.lconst 0, 1) := by decide +kernel
theorem dL_isSmall_15 : decode cL_isSmall 15 = .ok (.lastore, 1) := by decide +kernel
theorem dL_isSmall_16 : decode cL_isSmall 16 = .ok (.goto 6, 3) := by decide +kernel
theorem dL_isSmall_19 : decode cL_isSmall 19 = .ok (.astore_n 3, 1) := by decide +kernel
theorem dL_isSmall_20 : decode cL_isSmall 20 = .ok (.iconst 1, 1) := by decide +kernel
theorem dL_isSmall_21 : decode cL_isSmall 21 = .ok (.ireturn, 1) := by decide +kernel
theorem dL_isSmall_22 : decode cL_isSmall 22 = .ok (.iconst 0, 1) := by decide +kernel
theorem dL_isSmall_23 : decode cL_isSmall 23 = .ok (.ireturn, 1) := by decide +kernel
set_option maxRecDepth 20000 in
theorem ggL_up_X5_up : GoodIn wsL_up wsX5_up := goodIn_ca (goodIn_ca (goodIn_ca (goodIn_r _ [7, 8, 9, 10, 6, 11, 12, 13, 14, 15, 16, 17, 18, 19, 20, 21, 22, 23, 24, 25, 26, 27, 28, 29, 30, 31, 32, 33, 34, 35, 36, 37, 38, 39, 40, 41, 42, 43, 44, 45, 46, 47, 48, 49, 50, 51, 52, 53, 54, 55, 56] (by decide +kernel) (by decide +kernel)) (goodIn_sub (fun _ h => List.mem_cons_of_mem _ (List.mem_append_left _ (List.mem_append_left _ (List.mem_append_right _ h)))) (by decide +kernel))) (goodIn_sub (fun _ h => List.mem_cons_of_mem _ (List.mem_append_left _ (List.mem_append_right _ h))) (by decide +kernel))) (goodIn_sub (fun _ h => List.mem_cons_of_mem _ (List.mem_append_right _ h)) (by decide +kernel))
set_option maxRecDepth 20000 in
theorem gL_up_X5_up : GoodIn wsL_up (wsV RL 45 RX5 yX5_up wsX5_up) := goodIn_app (goodIn_of _ (by decide +kernel)) ggL_up_X5_up
theorem dL_up_0 : decode cL_up 0 = .ok (.aload_n 3, 1) := by decide +kernel
theorem dL_up_1 : decode cL_up 1 = .ok (.iconst 0, 1) := by decide +kernel
theorem dL_up_2 : decode cL_up 2 = .ok (.aload_n 0, 1) := by decide +kernel
theorem dL_up_3 : decode cL_up 3 = .ok (.iload_n 1, 1) := by decide +kernel
theorem dL_up_4 : decode cL_up 4 = .ok (.iload_n 2, 1) := by decide +kernel
theorem dL_up_5 : decode cL_up 5 = .ok (.invokevirtual 45, 3) := by decide +kernel
theorem dL_up_8 : decode cL_up 8 = .ok (.i2l, 1) := by decide +kernel
theorem dL_up_9 : decode cL_up 9 = .ok (.lastore, 1) := by decide +kernel
theorem dL_up_10 : decode cL_up 10 = .ok (.goto 11, 3) := by decide +kernel
theorem dL_up_13 : decode cL_up 13 = .ok (.astore 4, 2) := by decide +kernel
theorem dL_up_15 : decode cL_up 15 = .ok (.iconst 1, 1) := by decide +kernel
theorem dL_up_16 : decode cL_up 16 = .ok (.ireturn, 1) := by decide +kernel
theorem dL_up_17 : decode cL_up 17 = .ok (.astore 4, 2) := by decide +kernel
theorem dL_up_19 : decode cL_up 19 = .ok (.iconst 2, 1) := by decide +kernel
theorem dL_up_20 : decode cL_up 20 = .ok (.ireturn, 1) := by decide +kernel
theorem dL_up_21 : decode cL_up 21 = .ok (.iconst 0, 1) := by decide +kernel
theorem dL_up_22 : decode cL_up 22 = .ok (.ireturn, 1) := by decide +kernel
set_option maxRecDepth 20000 in
theorem ggL_down_X5_down : GoodIn wsL_down wsX5_down := goodIn_ca (goodIn_ca (goodIn_ca (goodIn_r _ [7, 8, 9, 10, 6, 11, 12, 13, 14, 15, 16, 17, 18, 19, 20, 21, 22, 23, 24, 25, 26, 27, 28, 29, 30, 31, 32, 33, 34, 35, 36, 37, 38, 39, 40, 41, 42, 43, 44, 45, 46, 47, 48, 49, 50, 51, 52, 53, 54, 55, 56, 57, 58, 59, 60, 61, 62] (by decide +kernel) (by decide +kernel)) (goodIn_sub (fun _ h => List.mem_cons_of_mem _ (List.mem_append_left _ (List.mem_append_left _ (List.mem_append_right _ h)))) (by decide +kernel))) (goodIn_sub (fun _ h => List.mem_cons_of_mem _ (List.mem_append_left _ (List.mem_append_right _ h))) (by decide +kernel))) (goodIn_sub (fun _ h => List.mem_cons_of_mem _ (List.mem_append_right _ h)) (by decide +kernel))
set_option maxRecDepth 20000 in
theorem gL_down_X5_down : GoodIn wsL_down (wsV RL 49 RX5 yX5_down wsX5_down) := goodIn_app (goodIn_of _ (by decide +kernel)) ggL_down_X5_down
theorem dL_down_0 : decode cL_down 0 = .ok (.aload_n 3, 1) := by decide +kernel
theorem dL_down_1 : decode cL_down 1 = .ok (.iconst 0, 1) := by decide +kernel
theorem dL_down_2 : decode cL_down 2 = .ok (.aload_n 0, 1) := by decide +kernel
theorem dL_down_3 : decode cL_down 3 = .ok (.iload_n 1, 1) := by decide +kernel
theorem dL_down_4 : decode cL_down 4 = .ok (.iload_n 2, 1) := by decide +kernel
theorem dL_down_5 : decode cL_down 5 = .ok (.invokevirtual 49, 3) := by decide +kernel
theorem dL_down_8 : decode cL_down 8 = .ok (.i2l, 1) := by decide +kernel
theorem dL_down_9 : decode cL_down 9 = .ok (.lastore, 1) := by decide +kernel
theorem dL_down_10 : decode cL_down 10 = .ok (.goto 11, 3) := by decide +kernel
theorem dL_down_13 : decode cL_down 13 = .ok (.astore 4, 2) := by decide +kernel
theorem dL_down_15 : decode cL_down 15 = .ok (.iconst 1, 1) := by decide +kernel
theorem dL_down_16 : decode cL_down 16 = .ok (.ireturn, 1) := by decide +kernel
theorem dL_down_17 : decode cL_down 17 = .ok (.astore 4, 2) := by decide +kernel
theorem dL_down_19 : decode cL_down 19 = .ok (.iconst 2, 1) := by decide +kernel
theorem dL_down_20 : decode cL_down 20 = .ok (.ireturn, 1) := by decide +kernel
theorem dL_down_21 : decode cL_down 21 = .ok (.iconst 0, 1) := by decide +kernel
theorem dL_down_22 : decode cL_down 22 = .ok (.ireturn, 1) := by decide +kernel
set_option maxRecDepth 20000 in
theorem ggL_toward_X5_toward : GoodIn wsL_toward wsX5_toward := goodIn_ca (goodIn_ca (goodIn_ca (goodIn_r _ [7, 8, 9, 10, 6, 11, 12, 13, 14, 15, 16, 17, 18, 19, 20, 21, 22, 23, 24, 25, 26, 27, 28, 29, 30, 31, 32, 33, 34, 35, 36, 37, 38, 39, 40, 41, 42, 43, 44, 45, 46, 47, 48, 49, 50, 51, 52, 53, 54, 55, 56, 57, 58, 59, 60, 61, 62, 63, 64, 65, 66, 67, 68, 69, 70, 71, 72] (by decide +kernel) (by decide +kernel)) (goodIn_sub (fun _ h => List.mem_cons_of_mem _ (List.mem_append_left _ (List.mem_append_left _ (List.mem_append_right _ h)))) (by decide +kernel))) (goodIn_sub (fun _ h => List.mem_cons_of_mem _ (List.mem_append_left _ (List.mem_append_right _ h))) (by decide +kernel))) (goodIn_sub (fun _ h => List.mem_cons_of_mem _ (List.mem_append_right _ h)) (by decide +kernel))
set_option maxRecDepth 20000 in
theorem gL_toward_X5_toward : GoodIn wsL_toward (wsV RL 52 RX5 yX5_toward wsX5_toward) := goodIn_app (goodIn_of _ (by decide +kernel)) ggL_toward_X5_toward
theorem dL_toward_0 : decode cL_toward 0 = .ok (.aload 4, 2) := by decide +kernel
theorem dL_toward_2 : decode cL_toward 2 = .ok (.iconst 0, 1) := by decide +kernel
theorem dL_toward_3 : decode cL_toward 3 = .ok (.aload_n 0, 1) := by decide +kernel
theorem dL_toward_4 : decode cL_toward 4 = .ok (.iload_n 1, 1) := by decide +kernel
theorem dL_toward_5 : decode cL_toward 5 = .ok (.iload_n 2, 1) := by decide +kernel
theorem dL_toward_6 : decode cL_toward 6 = .ok (.iload_n 3, 1) := by decide +kernel
theorem dL_toward_7 : decode cL_toward 7 = .ok (.invokevirtual 52, 3) := by decide +kernel
theorem dL_toward_10 : decode cL_toward 10 = .ok (.i2l, 1) := by decide +kernel
theorem dL_toward_11 : decode cL_toward 11 = .ok (.lastore, 1) := by decide +kernel
theorem dL_toward_12 : decode cL_toward 12 = .ok (.goto 11, 3) := by decide +kernel
theorem dL_toward_15 : decode cL_toward 15 = .ok (.astore 5, 2) := by decide +kernel
theorem dL_toward_17 : decode cL_toward 17 = .ok (.iconst 1, 1) := by decide +kernel
theorem dL_toward_18 : decode cL_toward 18 = .ok (.ireturn, 1) := by decide +kernel
theorem dL_toward_19 : decode cL_toward 19 = .ok (.astore 5, 2) := by decide +kernel
theorem dL_toward_21 : decode cL_toward 21 = .ok (.iconst 2, 1) := by decide +kernel
theorem dL_toward_22 : decode cL_toward 22 = .ok (.ireturn, 1) := by decide +kernel
theorem dL_toward_23 : decode cL_toward 23 = .ok (.iconst 0, 1) := by decide +kernel
theorem dL_toward_24 : decode cL_toward 24 = .ok (.ireturn, 1) := by decide +kernel
set_option maxRecDepth 20000 in
theorem ggL_walk_X5_walk : GoodIn wsL_walk wsX5_walk := goodIn_ca (goodIn_ca (goodIn_r _ [6, 7, 8, 9, 5, 10, 11, 12, 13, 14, 15, 16, 17, 18, 19, 20, 21, 22, 23, 24, 25, 26, 27, 28, 29, 30, 31, 32, 33] (by decide +kernel) (by decide +kernel)) (goodIn_sub (fun _ h => List.mem_cons_of_mem _ (List.mem_append_left _ (List.mem_append_right _ h))) (by decide +kernel))) (goodIn_sub (fun _ h => List.mem_cons_of_mem _ (List.mem_append_right _ h)) (by decide +kernel))
set_option maxRecDepth 20000 in
theorem gL_walk_X5_walk : GoodIn wsL_walk (wsV RL 56 RX5 yX5_walk wsX5_walk) := goodIn_app (goodIn_of _ (by decide +kernel)) ggL_walk_X5_walk
theorem dL_walk_0 : decode cL_walk 0 = .ok (.aload_n 3, 1) := by decide +kernel
theorem dL_walk_1 : decode cL_walk 1 = .ok (.iconst 0, 1) := by decide +kernel
theorem dL_walk_2 : decode cL_walk 2 = .ok (.aload_n 0, 1) := by decide +kernel
theorem dL_walk_3 : decode cL_walk 3 = .ok (.iload_n 1, 1) := by decide +kernel
theorem dL_walk_4 : decode cL_walk 4 = .ok (.iload_n 2, 1) := by decide +kernel
theorem dL_walk_5 : decode cL_walk 5 = .ok (.invokevirtual 56, 3) := by decide +kernel
theorem dL_walk_8 : decode cL_walk 8 = .ok (.i2l, 1) := by decide +kernel
theorem dL_walk_9 : decode cL_walk 9 = .ok (.lastore, 1) := by decide +kernel
theorem dL_walk_10 : decode cL_walk 10 = .ok (.goto 7, 3) := by decide +kernel
theorem dL_walk_13 : decode cL_walk 13 = .ok (.astore 4, 2) := by decide +kernel
theorem dL_walk_15 : decode cL_walk 15 = .ok (.iconst 1, 1) := by decide +kernel
theorem dL_walk_16 : decode cL_walk 16 = .ok (.ireturn, 1) := by decide +kernel
theorem dL_walk_17 : decode cL_walk 17 = .ok (.iconst 0, 1) := by decide +kernel
theorem dL_walk_18 : decode cL_walk 18 = .ok (.ireturn, 1) := by decide +kernel
set_option maxRecDepth 20000 in
theorem ggL_apart_X5_apart : GoodIn wsL_apart wsX5_apart := goodIn_ca (goodIn_ca (goodIn_r _ [6, 7, 8, 9, 5, 10, 11, 12, 13, 14, 15, 16, 17, 18, 19, 20, 21, 22, 23, 24, 25, 26, 27, 28, 29, 30] (by decide +kernel) (by decide +kernel)) (goodIn_sub (fun _ h => List.mem_cons_of_mem _ (List.mem_append_left _ (List.mem_append_right _ h))) (by decide +kernel))) (goodIn_sub (fun _ h => List.mem_cons_of_mem _ (List.mem_append_right _ h)) (by decide +kernel))
set_option maxRecDepth 20000 in
theorem gL_apart_X5_apart : GoodIn wsL_apart (wsV RL 59 RX5 yX5_apart wsX5_apart) := goodIn_app (goodIn_of _ (by decide +kernel)) ggL_apart_X5_apart
theorem dL_apart_0 : decode cL_apart 0 = .ok (.aload_n 3, 1) := by decide +kernel
theorem dL_apart_1 : decode cL_apart 1 = .ok (.iconst 0, 1) := by decide +kernel
theorem dL_apart_2 : decode cL_apart 2 = .ok (.aload_n 0, 1) := by decide +kernel
theorem dL_apart_3 : decode cL_apart 3 = .ok (.iload_n 1, 1) := by decide +kernel
theorem dL_apart_4 : decode cL_apart 4 = .ok (.iload_n 2, 1) := by decide +kernel
theorem dL_apart_5 : decode cL_apart 5 = .ok (.invokevirtual 59, 3) := by decide +kernel
theorem dL_apart_8 : decode cL_apart 8 = .ok (.lastore, 1) := by decide +kernel
theorem dL_apart_9 : decode cL_apart 9 = .ok (.goto 7, 3) := by decide +kernel
theorem dL_apart_12 : decode cL_apart 12 = .ok (.astore 4, 2) := by decide +kernel
theorem dL_apart_14 : decode cL_apart 14 = .ok (.iconst 1, 1) := by decide +kernel
theorem dL_apart_15 : decode cL_apart 15 = .ok (.ireturn, 1) := by decide +kernel
theorem dL_apart_16 : decode cL_apart 16 = .ok (.iconst 0, 1) := by decide +kernel
theorem dL_apart_17 : decode cL_apart 17 = .ok (.ireturn, 1) := by decide +kernel
set_option maxRecDepth 20000 in
theorem ggL_areNext_X5_areNext : GoodIn wsL_areNext wsX5_areNext := goodIn_ca (goodIn_ca (goodIn_r _ [6, 7, 8, 9, 5, 10, 11, 12, 13, 14, 15, 16, 17, 18, 19, 20, 21, 22, 23, 24, 25, 26, 27, 28, 29, 30] (by decide +kernel) (by decide +kernel)) (goodIn_sub (fun _ h => List.mem_cons_of_mem _ (List.mem_append_left _ (List.mem_append_right _ h))) (by decide +kernel))) (goodIn_sub (fun _ h => List.mem_cons_of_mem _ (List.mem_append_right _ h)) (by decide +kernel))
set_option maxRecDepth 20000 in
theorem gL_areNext_X5_areNext : GoodIn wsL_areNext (wsV RL 62 RX5 yX5_areNext wsX5_areNext) := goodIn_app (goodIn_of _ (by decide +kernel)) ggL_areNext_X5_areNext
theorem dL_areNext_0 : decode cL_areNext 0 = .ok (.aload_n 3, 1) := by decide +kernel
theorem dL_areNext_1 : decode cL_areNext 1 = .ok (.iconst 0, 1) := by decide +kernel
theorem dL_areNext_2 : decode cL_areNext 2 = .ok (.aload_n 0, 1) := by decide +kernel
theorem dL_areNext_3 : decode cL_areNext 3 = .ok (.iload_n 1, 1) := by decide +kernel
theorem dL_areNext_4 : decode cL_areNext 4 = .ok (.iload_n 2, 1) := by decide +kernel
theorem dL_areNext_5 : decode cL_areNext 5 = .ok (.invokevirtual 62, 3) := by decide +kernel
theorem dL_areNext_8 : decode cL_areNext 8 = .ok (.ifCond .eq 7, 3) := by decide +kernel
theorem dL_areNext_11 : decode cL_areNext 11 = .ok (.lconst 1, 1) := by decide +kernel
theorem dL_areNext_12 : decode cL_areNext 12 = .ok (.goto 4, 3) := by decide +kernel
theorem dL_areNext_15 : decode cL_areNext 15 = .ok (.lconst 0, 1) := by decide +kernel
theorem dL_areNext_16 : decode cL_areNext 16 = .ok (.lastore, 1) := by decide +kernel
theorem dL_areNext_17 : decode cL_areNext 17 = .ok (.goto 7, 3) := by decide +kernel
theorem dL_areNext_20 : decode cL_areNext 20 = .ok (.astore 4, 2) := by decide +kernel
theorem dL_areNext_22 : decode cL_areNext 22 = .ok (.iconst 1, 1) := by decide +kernel
theorem dL_areNext_23 : decode cL_areNext 23 = .ok (.ireturn, 1) := by decide +kernel
theorem dL_areNext_24 : decode cL_areNext 24 = .ok (.iconst 0, 1) := by decide +kernel
theorem dL_areNext_25 : decode cL_areNext 25 = .ok (.ireturn, 1) := by decide +kernel
set_option maxRecDepth 20000 in
theorem ggL_middle_X5_middle : GoodIn wsL_middle wsX5_middle := goodIn_ca (goodIn_ca (goodIn_r _ [6, 7, 8, 9, 5, 10, 11, 12, 13, 14, 15, 16, 17, 18, 19, 20, 21, 22, 23, 24, 25, 26, 27, 28, 29, 30, 31, 32, 33, 34, 35, 36, 37, 38, 39, 40, 41, 42, 43, 44, 45, 46, 47, 48, 49] (by decide +kernel) (by decide +kernel)) (goodIn_sub (fun _ h => List.mem_cons_of_mem _ (List.mem_append_left _ (List.mem_append_right _ h))) (by decide +kernel))) (goodIn_sub (fun _ h => List.mem_cons_of_mem _ (List.mem_append_right _ h)) (by decide +kernel))
set_option maxRecDepth 20000 in
theorem gL_middle_X5_middle : GoodIn wsL_middle (wsV RL 66 RX5 yX5_middle wsX5_middle) := goodIn_app (goodIn_of _ (by decide +kernel)) ggL_middle_X5_middle
theorem dL_middle_0 : decode cL_middle 0 = .ok (.aload 4, 2) := by decide +kernel
theorem dL_middle_2 : decode cL_middle 2 = .ok (.iconst 0, 1) := by decide +kernel
theorem dL_middle_3 : decode cL_middle 3 = .ok (.aload_n 0, 1) := by decide +kernel
theorem dL_middle_4 : decode cL_middle 4 = .ok (.iload_n 1, 1) := by decide +kernel
theorem dL_middle_5 : decode cL_middle 5 = .ok (.iload_n 2, 1) := by decide +kernel
theorem dL_middle_6 : decode cL_middle 6 = .ok (.iload_n 3, 1) := by decide +kernel
theorem dL_middle_7 : decode cL_middle 7 = .ok (.invokevirtual 66, 3) := by decide +kernel
theorem dL_middle_10 : decode cL_middle 10 = .ok (.lastore, 1) := by decide +kernel
theorem dL_middle_11 : decode cL_middle 11 = .ok (.goto 7, 3) := by decide +kernel
theorem dL_middle_14 : decode cL_middle 14 = .ok (.astore 5, 2) := by decide +kernel
theorem dL_middle_16 : decode cL_middle 16 = .ok (.iconst 1, 1) := by decide +kernel
theorem dL_middle_17 : decode cL_middle 17 = .ok (.ireturn, 1) := by decide +kernel
theorem dL_middle_18 : decode cL_middle 18 = .ok (.iconst 0, 1) := by decide +kernel
theorem dL_middle_19 : decode cL_middle 19 = .ok (.ireturn, 1) := by decide +kernel
set_option maxRecDepth 20000 in
theorem ggL_halvings_X5_halvings : GoodIn wsL_halvings wsX5_halvings := goodIn_ca (goodIn_ca (goodIn_r _ [6, 7, 8, 9, 5, 10, 11, 12, 13, 14, 15, 16, 17, 18, 19, 20, 21, 22, 23, 24, 25, 26, 27, 28, 29, 30, 31, 32, 33, 34, 35, 36, 37, 38, 39] (by decide +kernel) (by decide +kernel)) (goodIn_sub (fun _ h => List.mem_cons_of_mem _ (List.mem_append_left _ (List.mem_append_right _ h))) (by decide +kernel))) (goodIn_sub (fun _ h => List.mem_cons_of_mem _ (List.mem_append_right _ h)) (by decide +kernel))
set_option maxRecDepth 20000 in
theorem gL_halvings_X5_halvings : GoodIn wsL_halvings (wsV RL 69 RX5 yX5_halvings wsX5_halvings) := goodIn_app (goodIn_of _ (by decide +kernel)) ggL_halvings_X5_halvings
theorem dL_halvings_0 : decode cL_halvings 0 = .ok (.aload_n 3, 1) := by decide +kernel
theorem dL_halvings_1 : decode cL_halvings 1 = .ok (.iconst 0, 1) := by decide +kernel
theorem dL_halvings_2 : decode cL_halvings 2 = .ok (.aload_n 0, 1) := by decide +kernel
theorem dL_halvings_3 : decode cL_halvings 3 = .ok (.iload_n 1, 1) := by decide +kernel
theorem dL_halvings_4 : decode cL_halvings 4 = .ok (.iload_n 2, 1) := by decide +kernel
theorem dL_halvings_5 : decode cL_halvings 5 = .ok (.invokevirtual 69, 3) := by decide +kernel
theorem dL_halvings_8 : decode cL_halvings 8 = .ok (.i2l, 1) := by decide +kernel
theorem dL_halvings_9 : decode cL_halvings 9 = .ok (.lastore, 1) := by decide +kernel
theorem dL_halvings_10 : decode cL_halvings 10 = .ok (.goto 7, 3) := by decide +kernel
theorem dL_halvings_13 : decode cL_halvings 13 = .ok (.astore 4, 2) := by decide +kernel
theorem dL_halvings_15 : decode cL_halvings 15 = .ok (.iconst 1, 1) := by decide +kernel
theorem dL_halvings_16 : decode cL_halvings 16 = .ok (.ireturn, 1) := by decide +kernel
theorem dL_halvings_17 : decode cL_halvings 17 = .ok (.iconst 0, 1) := by decide +kernel
theorem dL_halvings_18 : decode cL_halvings 18 = .ok (.ireturn, 1) := by decide +kernel
set_option maxRecDepth 20000 in
theorem ggL_compare_X5_compare : GoodIn wsL_compare wsX5_compare := goodIn_ca (goodIn_ca (goodIn_r _ [6, 7, 8, 9, 5, 10, 11, 12, 13, 14, 15, 16, 17, 18, 19, 20, 21, 22, 23, 24, 25, 26, 27] (by decide +kernel) (by decide +kernel)) (goodIn_sub (fun _ h => List.mem_cons_of_mem _ (List.mem_append_left _ (List.mem_append_right _ h))) (by decide +kernel))) (goodIn_sub (fun _ h => List.mem_cons_of_mem _ (List.mem_append_right _ h)) (by decide +kernel))
set_option maxRecDepth 20000 in
theorem gL_compare_X5_compare : GoodIn wsL_compare (wsV RL 72 RX5 yX5_compare wsX5_compare) := goodIn_app (goodIn_of _ (by decide +kernel)) ggL_compare_X5_compare
theorem dL_compare_0 : decode cL_compare 0 = .ok (.aload_n 3, 1) := by decide +kernel
theorem dL_compare_1 : decode cL_compare 1 = .ok (.iconst 0, 1) := by decide +kernel
theorem dL_compare_2 : decode cL_compare 2 = .ok (.aload_n 0, 1) := by decide +kernel
theorem dL_compare_3 : decode cL_compare 3 = .ok (.iload_n 1, 1) := by decide +kernel
theorem dL_compare_4 : decode cL_compare 4 = .ok (.iload_n 2, 1) := by decide +kernel
theorem dL_compare_5 : decode cL_compare 5 = .ok (.invokevirtual 72, 3) := by decide +kernel
theorem dL_compare_8 : decode cL_compare 8 = .ok (.i2l, 1) := by decide +kernel
theorem dL_compare_9 : decode cL_compare 9 = .ok (.lastore, 1) := by decide +kernel
theorem dL_compare_10 : decode cL_compare 10 = .ok (.goto 7, 3) := by decide +kernel
theorem dL_compare_13 : decode cL_compare 13 = .ok (.astore 4, 2) := by decide +kernel
theorem dL_compare_15 : decode cL_compare 15 = .ok (.iconst 1, 1) := by decide +kernel
theorem dL_compare_16 : decode cL_compare 16 = .ok (.ireturn, 1) := by decide +kernel
theorem dL_compare_17 : decode cL_compare 17 = .ok (.iconst 0, 1) := by decide +kernel
theorem dL_compare_18 : decode cL_compare 18 = .ok (.ireturn, 1) := by decide +kernel
set_option maxRecDepth 20000 in
theorem ggL_rank_X5_rank : GoodIn wsL_rank wsX5_rank := goodIn_ca (goodIn_ca (goodIn_r _ [6, 7, 8, 9, 5, 10, 11, 12, 13, 14, 15, 16, 17, 18, 19, 20, 21, 22, 23, 24, 25, 26, 27] (by decide +kernel) (by decide +kernel)) (goodIn_sub (fun _ h => List.mem_cons_of_mem _ (List.mem_append_left _ (List.mem_append_right _ h))) (by decide +kernel))) (goodIn_sub (fun _ h => List.mem_cons_of_mem _ (List.mem_append_right _ h)) (by decide +kernel))
set_option maxRecDepth 20000 in
theorem gL_rank_X5_rank : GoodIn wsL_rank (wsV RL 75 RX5 yX5_rank wsX5_rank) := goodIn_app (goodIn_of _ (by decide +kernel)) ggL_rank_X5_rank
theorem dL_rank_0 : decode cL_rank 0 = .ok (.aload_n 2, 1) := by decide +kernel
theorem dL_rank_1 : decode cL_rank 1 = .ok (.iconst 0, 1) := by decide +kernel
theorem dL_rank_2 : decode cL_rank 2 = .ok (.aload_n 0, 1) := by decide +kernel
theorem dL_rank_3 : decode cL_rank 3 = .ok (.iload_n 1, 1) := by decide +kernel
theorem dL_rank_4 : decode cL_rank 4 = .ok (.invokevirtual 75, 3) := by decide +kernel
theorem dL_rank_7 : decode cL_rank 7 = .ok (.i2l, 1) := by decide +kernel
theorem dL_rank_8 : decode cL_rank 8 = .ok (.lastore, 1) := by decide +kernel
theorem dL_rank_9 : decode cL_rank 9 = .ok (.goto 6, 3) := by decide +kernel
theorem dL_rank_12 : decode cL_rank 12 = .ok (.astore_n 3, 1) := by decide +kernel
theorem dL_rank_13 : decode cL_rank 13 = .ok (.iconst 1, 1) := by decide +kernel
theorem dL_rank_14 : decode cL_rank 14 = .ok (.ireturn, 1) := by decide +kernel
theorem dL_rank_15 : decode cL_rank 15 = .ok (.iconst 0, 1) := by decide +kernel
theorem dL_rank_16 : decode cL_rank 16 = .ok (.ireturn, 1) := by decide +kernel
set_option maxRecDepth 20000 in
theorem ggL_scale_X5_scale : GoodIn wsL_scale wsX5_scale := goodIn_ca (goodIn_ca (goodIn_ca (goodIn_r _ [7, 8, 9, 10, 6, 11, 12, 13, 14, 15, 16, 17, 18, 19, 20, 21, 22, 23, 24, 25, 26, 27, 28, 29, 30, 31, 32, 33, 34, 35, 36, 37, 38, 39, 40, 41, 42, 43, 44, 45, 46, 47, 48, 49, 50, 51, 52, 53, 54, 55, 56, 57, 58, 59, 60, 61, 62, 63, 64, 65, 66, 67, 68, 69, 70, 71, 72, 73, 74, 75, 76, 77, 78, 79, 80, 81, 82, 83, 84, 85, 86, 87, 88, 89, 90, 91] (by decide +kernel) (by decide +kernel)) (goodIn_sub (fun _ h => List.mem_cons_of_mem _ (List.mem_append_left _ (List.mem_append_left _ (List.mem_append_right _ h)))) (by decide +kernel))) (goodIn_sub (fun _ h => List.mem_cons_of_mem _ (List.mem_append_left _ (List.mem_append_right _ h))) (by decide +kernel))) (goodIn_sub (fun _ h => List.mem_cons_of_mem _ (List.mem_append_right _ h)) (by decide +kernel))
set_option maxRecDepth 20000 in
theorem gL_scale_X5_scale : GoodIn wsL_scale (wsV RL 79 RX5 yX5_scale wsX5_scale) := goodIn_app (goodIn_of _ (by decide +kernel)) ggL_scale_X5_scale
theorem dL_scale_0 : decode cL_scale 0 = .ok (.aload 4, 2) := by decide +kernel
theorem dL_scale_2 : decode cL_scale 2 = .ok (.iconst 0, 1) := by decide +kernel
theorem dL_scale_3 : decode cL_scale 3 = .ok (.aload_n 0, 1) := by decide +kernel
theorem dL_scale_4 : decode cL_scale 4 = .ok (.iload_n 1, 1) := by decide +kernel
theorem dL_scale_5 : decode cL_scale 5 = .ok (.iload_n 2, 1) := by decide +kernel
theorem dL_scale_6 : decode cL_scale 6 = .ok (.iload_n 3, 1) := by decide +kernel
theorem dL_scale_7 : decode cL_scale 7 = .ok (.invokevirtual 79, 3) := by decide +kernel
theorem dL_scale_10 : decode cL_scale 10 = .ok (.lastore, 1) := by decide +kernel
theorem dL_scale_11 : decode cL_scale 11 = .ok (.goto 11, 3) := by decide +kernel
theorem dL_scale_14 : decode cL_scale 14 = .ok (.astore 5, 2) := by decide +kernel
theorem dL_scale_16 : decode cL_scale 16 = .ok (.iconst 1, 1) := by decide +kernel
theorem dL_scale_17 : decode cL_scale 17 = .ok (.ireturn, 1) := by decide +kernel
theorem dL_scale_18 : decode cL_scale 18 = .ok (.astore 5, 2) := by decide +kernel
theorem dL_scale_20 : decode cL_scale 20 = .ok (.iconst 2, 1) := by decide +kernel
theorem dL_scale_21 : decode cL_scale 21 = .ok (.ireturn, 1) := by decide +kernel
theorem dL_scale_22 : decode cL_scale 22 = .ok (.iconst 0, 1) := by decide +kernel
theorem dL_scale_23 : decode cL_scale 23 = .ok (.ireturn, 1) := by decide +kernel
set_option maxRecDepth 20000 in
theorem ggL_isKept_X5_isKept : GoodIn wsL_isKept wsX5_isKept := goodIn_ca (goodIn_ca (goodIn_ca (goodIn_r _ [7, 8, 9, 10, 6, 11, 12, 13, 14, 15, 16, 17, 18, 19, 20, 21, 22, 23, 24, 25, 26, 27, 28, 29, 30, 31, 32, 33, 34, 35, 36, 37, 38, 39, 40, 41, 42, 43, 44, 45, 46, 47, 48, 49, 50, 51, 52, 53, 54, 55, 56, 57, 58, 59, 60, 61, 62, 63, 64, 65, 66, 67] (by decide +kernel) (by decide +kernel)) (goodIn_sub (fun _ h => List.mem_cons_of_mem _ (List.mem_append_left _ (List.mem_append_left _ (List.mem_append_right _ h)))) (by decide +kernel))) (goodIn_sub (fun _ h => List.mem_cons_of_mem _ (List.mem_append_left _ (List.mem_append_right _ h))) (by decide +kernel))) (goodIn_sub (fun _ h => List.mem_cons_of_mem _ (List.mem_append_right _ h)) (by decide +kernel))
set_option maxRecDepth 20000 in
theorem gL_isKept_X5_isKept : GoodIn wsL_isKept (wsV RL 82 RX5 yX5_isKept wsX5_isKept) := goodIn_app (goodIn_of _ (by decide +kernel)) ggL_isKept_X5_isKept
theorem dL_isKept_0 : decode cL_isKept 0 = .ok (.aload_n 3, 1) := by decide +kernel
theorem dL_isKept_1 : decode cL_isKept 1 = .ok (.iconst 0, 1) := by decide +kernel
theorem dL_isKept_2 : decode cL_isKept 2 = .ok (.aload_n 0, 1) := by decide +kernel
theorem dL_isKept_3 : decode cL_isKept 3 = .ok (.iload_n 1, 1) := by decide +kernel
theorem dL_isKept_4 : decode cL_isKept 4 = .ok (.iload_n 2, 1) := by decide +kernel
theorem dL_isKept_5 : decode cL_isKept 5 = .ok (.invokevirtual 82, 3) := by decide +kernel
theorem dL_isKept_8 : decode cL_isKept 8 = .ok (.ifCond .eq 7, 3) := by decide +kernel
theorem dL_isKept_11 : decode cL_isKept 11 = .ok (.lconst 1, 1) := by decide +kernel
theorem dL_isKept_12 : decode cL_isKept 12 = .ok (.goto 4, 3) := by decide +kernel
theorem dL_isKept_15 : decode cL_isKept 15 = .ok (.lconst 0, 1) := by decide +kernel
theorem dL_isKept_16 : decode cL_isKept 16 = .ok (.lastore, 1) := by decide +kernel
theorem dL_isKept_17 : decode cL_isKept 17 = .ok (.goto 11, 3) := by decide +kernel
theorem dL_isKept_20 : decode cL_isKept 20 = .ok (.astore 4, 2) := by decide +kernel
theorem dL_isKept_22 : decode cL_isKept 22 = .ok (.iconst 1, 1) := by decide +kernel
theorem dL_isKept_23 : decode cL_isKept 23 = .ok (.ireturn, 1) := by decide +kernel
theorem dL_isKept_24 : decode cL_isKept 24 = .ok (.astore 4, 2) := by decide +kernel
theorem dL_isKept_26 : decode cL_isKept 26 = .ok (.iconst 2, 1) := by decide +kernel
theorem dL_isKept_27 : decode cL_isKept 27 = .ok (.ireturn, 1) := by decide +kernel
theorem dL_isKept_28 : decode cL_isKept 28 = .ok (.iconst 0, 1) := by decide +kernel
theorem dL_isKept_29 : decode cL_isKept 29 = .ok (.ireturn, 1) := by decide +kernel
set_option maxRecDepth 20000 in
theorem ggL_isOne_X5_isOne : GoodIn wsL_isOne wsX5_isOne := goodIn_ca (goodIn_ca (goodIn_ca (goodIn_r _ [7, 8, 9, 10, 6, 11, 12, 13, 14, 15, 16, 17, 18, 19, 20, 21, 22, 23, 24, 25, 26, 27, 28, 29, 30, 31, 32, 33, 34, 35, 36, 37, 38, 39, 40, 41, 42, 43, 44, 45, 46, 47, 48, 49, 50, 51, 52, 53, 54, 55, 56, 57, 58, 59, 60, 61, 62, 63, 64, 65, 66, 67] (by decide +kernel) (by decide +kernel)) (goodIn_sub (fun _ h => List.mem_cons_of_mem _ (List.mem_append_left _ (List.mem_append_left _ (List.mem_append_right _ h)))) (by decide +kernel))) (goodIn_sub (fun _ h => List.mem_cons_of_mem _ (List.mem_append_left _ (List.mem_append_right _ h))) (by decide +kernel))) (goodIn_sub (fun _ h => List.mem_cons_of_mem _ (List.mem_append_right _ h)) (by decide +kernel))
set_option maxRecDepth 20000 in
theorem gL_isOne_X5_isOne : GoodIn wsL_isOne (wsV RL 85 RX5 yX5_isOne wsX5_isOne) := goodIn_app (goodIn_of _ (by decide +kernel)) ggL_isOne_X5_isOne
theorem dL_isOne_0 : decode cL_isOne 0 = .ok (.aload 4, 2) := by decide +kernel
theorem dL_isOne_2 : decode cL_isOne 2 = .ok (.iconst 0, 1) := by decide +kernel
theorem dL_isOne_3 : decode cL_isOne 3 = .ok (.aload_n 0, 1) := by decide +kernel
theorem dL_isOne_4 : decode cL_isOne 4 = .ok (.iload_n 1, 1) := by decide +kernel
theorem dL_isOne_5 : decode cL_isOne 5 = .ok (.iload_n 2, 1) := by decide +kernel
theorem dL_isOne_6 : decode cL_isOne 6 = .ok (.iload_n 3, 1) := by decide +kernel
theorem dL_isOne_7 : decode cL_isOne 7 = .ok (.invokevirtual 85, 3) := by decide +kernel
theorem dL_isOne_10 : decode cL_isOne 10 = .ok (.ifCond .eq 7, 3) := by decide +kernel
theorem dL_isOne_13 : decode cL_isOne 13 = .ok (.lconst 1, 1) := by decide +kernel
theorem dL_isOne_14 : decode cL_isOne 14 = .ok (.goto 4, 3) := by decide +kernel
theorem dL_isOne_17 : decode cL_isOne 17 = .ok (.lconst 0, 1) := by decide +kernel
theorem dL_isOne_18 : decode cL_isOne 18 = .ok (.lastore, 1) := by decide +kernel
theorem dL_isOne_19 : decode cL_isOne 19 = .ok (.goto 11, 3) := by decide +kernel
theorem dL_isOne_22 : decode cL_isOne 22 = .ok (.astore 5, 2) := by decide +kernel
theorem dL_isOne_24 : decode cL_isOne 24 = .ok (.iconst 1, 1) := by decide +kernel
theorem dL_isOne_25 : decode cL_isOne 25 = .ok (.ireturn, 1) := by decide +kernel
theorem dL_isOne_26 : decode cL_isOne 26 = .ok (.astore 5, 2) := by decide +kernel
theorem dL_isOne_28 : decode cL_isOne 28 = .ok (.iconst 2, 1) := by decide +kernel
theorem dL_isOne_29 : decode cL_isOne 29 = .ok (.ireturn, 1) := by decide +kernel
theorem dL_isOne_30 : decode cL_isOne 30 = .ok (.iconst 0, 1) := by decide +kernel
theorem dL_isOne_31 : decode cL_isOne 31 = .ok (.ireturn, 1) := by decide +kernel
set_option maxRecDepth 20000 in
theorem ggL_exponent_X5_exponent : GoodIn wsL_exponent wsX5_exponent := goodIn_ca (goodIn_ca (goodIn_r _ [6, 7, 8, 9, 5, 10, 11, 12, 13, 14, 15, 16, 17, 18, 19, 20, 21, 22] (by decide +kernel) (by decide +kernel)) (goodIn_sub (fun _ h => List.mem_cons_of_mem _ (List.mem_append_left _ (List.mem_append_right _ h))) (by decide +kernel))) (goodIn_sub (fun _ h => List.mem_cons_of_mem _ (List.mem_append_right _ h)) (by decide +kernel))
set_option maxRecDepth 20000 in
theorem gL_exponent_X5_exponent : GoodIn wsL_exponent (wsV RL 89 RX5 yX5_exponent wsX5_exponent) := goodIn_app (goodIn_of _ (by decide +kernel)) ggL_exponent_X5_exponent
theorem dL_exponent_0 : decode cL_exponent 0 = .ok (.aload_n 2, 1) := by decide +kernel
theorem dL_exponent_1 : decode cL_exponent 1 = .ok (.iconst 0, 1) := by decide +kernel
theorem dL_exponent_2 : decode cL_exponent 2 = .ok (.aload_n 0, 1) := by decide +kernel
theorem dL_exponent_3 : decode cL_exponent 3 = .ok (.iload_n 1, 1) := by decide +kernel
theorem dL_exponent_4 : decode cL_exponent 4 = .ok (.invokevirtual 89, 3) := by decide +kernel
theorem dL_exponent_7 : decode cL_exponent 7 = .ok (.i2l, 1) := by decide +kernel
theorem dL_exponent_8 : decode cL_exponent 8 = .ok (.lastore, 1) := by decide +kernel
theorem dL_exponent_9 : decode cL_exponent 9 = .ok (.goto 6, 3) := by decide +kernel
theorem dL_exponent_12 : decode cL_exponent 12 = .ok (.astore_n 3, 1) := by decide +kernel
theorem dL_exponent_13 : decode cL_exponent 13 = .ok (.iconst 1, 1) := by decide +kernel
theorem dL_exponent_14 : decode cL_exponent 14 = .ok (.ireturn, 1) := by decide +kernel
theorem dL_exponent_15 : decode cL_exponent 15 = .ok (.iconst 0, 1) := by decide +kernel
theorem dL_exponent_16 : decode cL_exponent 16 = .ok (.ireturn, 1) := by decide +kernel
set_option maxRecDepth 20000 in
theorem ggL_unit_X5_unit : GoodIn wsL_unit wsX5_unit := goodIn_ca (goodIn_ca (goodIn_r _ [6, 7, 8, 9, 5, 10, 11, 12, 13, 14, 15, 16, 17, 18, 19, 20, 21, 22, 23, 24, 25, 26, 27, 28, 29, 30, 31, 32, 33, 34, 35, 36, 37, 38, 39, 40, 41, 42, 43, 44, 45, 46, 47, 48, 49, 50, 51, 52, 53, 54, 55, 56, 57, 58, 59, 60, 61, 62, 63, 64, 65, 66, 67, 68, 69, 70, 71, 72, 73, 74, 75, 76, 77, 78, 79, 80] (by decide +kernel) (by decide +kernel)) (goodIn_sub (fun _ h => List.mem_cons_of_mem _ (List.mem_append_left _ (List.mem_append_right _ h))) (by decide +kernel))) (goodIn_sub (fun _ h => List.mem_cons_of_mem _ (List.mem_append_right _ h)) (by decide +kernel))
set_option maxRecDepth 20000 in
theorem gL_unit_X5_unit : GoodIn wsL_unit (wsV RL 92 RX5 yX5_unit wsX5_unit) := goodIn_app (goodIn_of _ (by decide +kernel)) ggL_unit_X5_unit
theorem dL_unit_0 : decode cL_unit 0 = .ok (.aload_n 3, 1) := by decide +kernel
theorem dL_unit_1 : decode cL_unit 1 = .ok (.iconst 0, 1) := by decide +kernel
theorem dL_unit_2 : decode cL_unit 2 = .ok (.aload_n 0, 1) := by decide +kernel
theorem dL_unit_3 : decode cL_unit 3 = .ok (.iload_n 1, 1) := by decide +kernel
theorem dL_unit_4 : decode cL_unit 4 = .ok (.iload_n 2, 1) := by decide +kernel
theorem dL_unit_5 : decode cL_unit 5 = .ok (.invokevirtual 92, 3) := by decide +kernel
theorem dL_unit_8 : decode cL_unit 8 = .ok (.lastore, 1) := by decide +kernel
theorem dL_unit_9 : decode cL_unit 9 = .ok (.goto 7, 3) := by decide +kernel
theorem dL_unit_12 : decode cL_unit 12 = .ok (.astore 4, 2) := by decide +kernel
theorem dL_unit_14 : decode cL_unit 14 = .ok (.iconst 1, 1) := by decide +kernel
theorem dL_unit_15 : decode cL_unit 15 = .ok (.ireturn, 1) := by decide +kernel
theorem dL_unit_16 : decode cL_unit 16 = .ok (.iconst 0, 1) := by decide +kernel
theorem dL_unit_17 : decode cL_unit 17 = .ok (.ireturn, 1) := by decide +kernel
set_option maxRecDepth 20000 in
theorem ggL_lead_X5_lead : GoodIn wsL_lead wsX5_lead := goodIn_ca (goodIn_ca (goodIn_ca (goodIn_r _ [7, 8, 9, 10, 6, 11, 12, 13, 14, 15, 16, 17, 18, 19, 20, 21, 22, 23, 24, 25, 26, 27, 28, 29, 30, 31, 32, 33, 34, 35, 36, 37, 38, 39, 40, 41, 42, 43, 44, 45, 46, 47, 48, 49, 50, 51, 52, 53, 54, 55, 56, 57, 58, 59, 60] (by decide +kernel) (by decide +kernel)) (goodIn_sub (fun _ h => List.mem_cons_of_mem _ (List.mem_append_left _ (List.mem_append_left _ (List.mem_append_right _ h)))) (by decide +kernel))) (goodIn_sub (fun _ h => List.mem_cons_of_mem _ (List.mem_append_left _ (List.mem_append_right _ h))) (by decide +kernel))) (goodIn_sub (fun _ h => List.mem_cons_of_mem _ (List.mem_append_right _ h)) (by decide +kernel))
set_option maxRecDepth 20000 in
theorem gL_lead_X5_lead : GoodIn wsL_lead (wsV RL 95 RX5 yX5_lead wsX5_lead) := goodIn_app (goodIn_of _ (by decide +kernel)) ggL_lead_X5_lead
theorem dL_lead_0 : decode cL_lead 0 = .ok (.aload_n 2, 1) := by decide +kernel
theorem dL_lead_1 : decode cL_lead 1 = .ok (.iconst 0, 1) := by decide +kernel
theorem dL_lead_2 : decode cL_lead 2 = .ok (.aload_n 0, 1) := by decide +kernel
theorem dL_lead_3 : decode cL_lead 3 = .ok (.iload_n 1, 1) := by decide +kernel
theorem dL_lead_4 : decode cL_lead 4 = .ok (.invokevirtual 95, 3) := by decide +kernel
theorem dL_lead_7 : decode cL_lead 7 = .ok (.i2l, 1) := by decide +kernel
theorem dL_lead_8 : decode cL_lead 8 = .ok (.lastore, 1) := by decide +kernel
theorem dL_lead_9 : decode cL_lead 9 = .ok (.goto 9, 3) := by decide +kernel
theorem dL_lead_12 : decode cL_lead 12 = .ok (.astore_n 3, 1) := by decide +kernel
theorem dL_lead_13 : decode cL_lead 13 = .ok (.iconst 1, 1) := by decide +kernel
theorem dL_lead_14 : decode cL_lead 14 = .ok (.ireturn, 1) := by decide +kernel
theorem dL_lead_15 : decode cL_lead 15 = .ok (.astore_n 3, 1) := by decide +kernel
theorem dL_lead_16 : decode cL_lead 16 = .ok (.iconst 2, 1) := by decide +kernel
theorem dL_lead_17 : decode cL_lead 17 = .ok (.ireturn, 1) := by decide +kernel
theorem dL_lead_18 : decode cL_lead 18 = .ok (.iconst 0, 1) := by decide +kernel
theorem dL_lead_19 : decode cL_lead 19 = .ok (.ireturn, 1) := by decide +kernel
set_option maxRecDepth 20000 in
theorem ggL_tail_X5_tail : GoodIn wsL_tail wsX5_tail := goodIn_ca (goodIn_ca (goodIn_ca (goodIn_r _ [7, 8, 9, 10, 6, 11, 12, 13, 14, 15, 16, 17, 18, 19, 20, 21, 22, 23, 24, 25, 26, 27, 28, 29, 30, 31, 32, 33, 34, 35, 36, 37, 38, 39, 40, 41, 42, 43, 44, 45, 46, 47, 48, 49, 50, 51, 52, 53, 54, 55, 56, 57, 58, 59, 60] (by decide +kernel) (by decide +kernel)) (goodIn_sub (fun _ h => List.mem_cons_of_mem _ (List.mem_append_left _ (List.mem_append_left _ (List.mem_append_right _ h)))) (by decide +kernel))) (goodIn_sub (fun _ h => List.mem_cons_of_mem _ (List.mem_append_left _ (List.mem_append_right _ h))) (by decide +kernel))) (goodIn_sub (fun _ h => List.mem_cons_of_mem _ (List.mem_append_right _ h)) (by decide +kernel))
set_option maxRecDepth 20000 in
theorem gL_tail_X5_tail : GoodIn wsL_tail (wsV RL 100 RX5 yX5_tail wsX5_tail) := goodIn_app (goodIn_of _ (by decide +kernel)) ggL_tail_X5_tail
theorem dL_tail_0 : decode cL_tail 0 = .ok (.aload_n 2, 1) := by decide +kernel
theorem dL_tail_1 : decode cL_tail 1 = .ok (.iconst 0, 1) := by decide +kernel
theorem dL_tail_2 : decode cL_tail 2 = .ok (.aload_n 0, 1) := by decide +kernel
theorem dL_tail_3 : decode cL_tail 3 = .ok (.iload_n 1, 1) := by decide +kernel
theorem dL_tail_4 : decode cL_tail 4 = .ok (.invokevirtual 100, 3) := by decide +kernel
theorem dL_tail_7 : decode cL_tail 7 = .ok (.i2l, 1) := by decide +kernel
theorem dL_tail_8 : decode cL_tail 8 = .ok (.lastore, 1) := by decide +kernel
theorem dL_tail_9 : decode cL_tail 9 = .ok (.goto 9, 3) := by decide +kernel
theorem dL_tail_12 : decode cL_tail 12 = .ok (.astore_n 3, 1) := by decide +kernel
theorem dL_tail_13 : decode cL_tail 13 = .ok (.iconst 1, 1) := by decide +kernel
theorem dL_tail_14 : decode cL_tail 14 = .ok (.ireturn, 1) := by decide +kernel
theorem dL_tail_15 : decode cL_tail 15 = .ok (.astore_n 3, 1) := by decide +kernel
theorem dL_tail_16 : decode cL_tail 16 = .ok (.iconst 2, 1) := by decide +kernel
theorem dL_tail_17 : decode cL_tail 17 = .ok (.ireturn, 1) := by decide +kernel
theorem dL_tail_18 : decode cL_tail 18 = .ok (.iconst 0, 1) := by decide +kernel
theorem dL_tail_19 : decode cL_tail 19 = .ok (.ireturn, 1) := by decide +kernel
set_option maxRecDepth 20000 in
theorem ggL_power_X5_power : GoodIn wsL_power wsX5_power := goodIn_ca (goodIn_ca (goodIn_ca (goodIn_r _ [7, 8, 9, 10, 6, 11, 12, 13, 14, 15, 16, 17, 18, 19, 20, 21, 22, 23, 24, 25, 26, 27, 28, 29, 30, 31, 32, 33, 34, 35, 36, 37, 38, 39, 40, 41, 42, 43, 44, 45, 46, 47, 48, 49, 50, 51, 52, 53, 54, 55, 56, 57, 58, 59, 60, 61, 62, 63, 64, 65, 66, 67, 68, 69, 70, 71, 72, 73, 74, 75, 76, 77, 78, 79, 80, 81, 82, 83, 84, 85, 86, 87, 88, 89, 90, 91, 92, 93, 94] (by decide +kernel) (by decide +kernel)) (goodIn_sub (fun _ h => List.mem_cons_of_mem _ (List.mem_append_left _ (List.mem_append_left _ (List.mem_append_right _ h)))) (by decide +kernel))) (goodIn_sub (fun _ h => List.mem_cons_of_mem _ (List.mem_append_left _ (List.mem_append_right _ h))) (by decide +kernel))) (goodIn_sub (fun _ h => List.mem_cons_of_mem _ (List.mem_append_right _ h)) (by decide +kernel))
set_option maxRecDepth 20000 in
theorem gL_power_X5_power : GoodIn wsL_power (wsV RL 103 RX5 yX5_power wsX5_power) := goodIn_app (goodIn_of _ (by decide +kernel)) ggL_power_X5_power
theorem dL_power_0 : decode cL_power 0 = .ok (.aload_n 3, 1) := by decide +kernel
theorem dL_power_1 : decode cL_power 1 = .ok (.iconst 0, 1) := by decide +kernel
theorem dL_power_2 : decode cL_power 2 = .ok (.aload_n 0, 1) := by decide +kernel
theorem dL_power_3 : decode cL_power 3 = .ok (.iload_n 1, 1) := by decide +kernel
theorem dL_power_4 : decode cL_power 4 = .ok (.iload_n 2, 1) := by decide +kernel
theorem dL_power_5 : decode cL_power 5 = .ok (.invokevirtual 103, 3) := by decide +kernel
theorem dL_power_8 : decode cL_power 8 = .ok (.lastore, 1) := by decide +kernel
theorem dL_power_9 : decode cL_power 9 = .ok (.goto 11, 3) := by decide +kernel
theorem dL_power_12 : decode cL_power 12 = .ok (.astore 4, 2) := by decide +kernel
theorem dL_power_14 : decode cL_power 14 = .ok (.iconst 1, 1) := by decide +kernel
theorem dL_power_15 : decode cL_power 15 = .ok (.ireturn, 1) := by decide +kernel
theorem dL_power_16 : decode cL_power 16 = .ok (.astore 4, 2) := by decide +kernel
theorem dL_power_18 : decode cL_power 18 = .ok (.iconst 2, 1) := by decide +kernel
theorem dL_power_19 : decode cL_power 19 = .ok (.ireturn, 1) := by decide +kernel
theorem dL_power_20 : decode cL_power 20 = .ok (.iconst 0, 1) := by decide +kernel
theorem dL_power_21 : decode cL_power 21 = .ok (.ireturn, 1) := by decide +kernel
set_option maxRecDepth 20000 in
theorem ggL_grains_X5_grains : GoodIn wsL_grains wsX5_grains := goodIn_ca (goodIn_ca (goodIn_ca (goodIn_ca (goodIn_ca (goodIn_r _ [8, 9, 10, 11, 12, 7, 13, 14, 15, 16, 17, 18, 19, 20, 21, 22, 23, 24, 25, 26, 27, 28, 29, 30, 31, 32, 33, 34, 35, 36, 37, 38, 39, 40, 41, 42, 43, 44, 45, 46, 47, 48, 49, 50, 51, 52, 53, 54, 55, 56, 57, 58, 59] (by decide +kernel) (by decide +kernel)) (goodIn_sub (fun _ h => List.mem_cons_of_mem _ (List.mem_append_left _ (List.mem_append_left _ (List.mem_append_left _ (List.mem_append_left _ (List.mem_append_right _ h)))))) (by decide +kernel))) (goodIn_sub (fun _ h => List.mem_cons_of_mem _ (List.mem_append_left _ (List.mem_append_left _ (List.mem_append_left _ (List.mem_append_right _ h))))) (by decide +kernel))) (goodIn_sub (fun _ h => List.mem_cons_of_mem _ (List.mem_append_left _ (List.mem_append_left _ (List.mem_append_right _ h)))) (by decide +kernel))) (goodIn_sub (fun _ h => List.mem_cons_of_mem _ (List.mem_append_left _ (List.mem_append_right _ h))) (by decide +kernel))) (goodIn_sub (fun _ h => List.mem_cons_of_mem _ (List.mem_append_right _ h)) (by decide +kernel))
set_option maxRecDepth 20000 in
theorem gL_grains_X5_grains : GoodIn wsL_grains (wsV RL 106 RX5 yX5_grains wsX5_grains) := goodIn_app (goodIn_of _ (by decide +kernel)) ggL_grains_X5_grains
theorem dL_grains_0 : decode cL_grains 0 = .ok (.aload_n 3, 1) := by decide +kernel
theorem dL_grains_1 : decode cL_grains 1 = .ok (.iconst 0, 1) := by decide +kernel
theorem dL_grains_2 : decode cL_grains 2 = .ok (.aload_n 0, 1) := by decide +kernel
theorem dL_grains_3 : decode cL_grains 3 = .ok (.iload_n 1, 1) := by decide +kernel
theorem dL_grains_4 : decode cL_grains 4 = .ok (.iload_n 2, 1) := by decide +kernel
theorem dL_grains_5 : decode cL_grains 5 = .ok (.invokevirtual 106, 3) := by decide +kernel
theorem dL_grains_8 : decode cL_grains 8 = .ok (.i2l, 1) := by decide +kernel
theorem dL_grains_9 : decode cL_grains 9 = .ok (.lastore, 1) := by decide +kernel
theorem dL_grains_10 : decode cL_grains 10 = .ok (.goto 15, 3) := by decide +kernel
theorem dL_grains_13 : decode cL_grains 13 = .ok (.astore 4, 2) := by decide +kernel
theorem dL_grains_15 : decode cL_grains 15 = .ok (.iconst 1, 1) := by decide +kernel
theorem dL_grains_16 : decode cL_grains 16 = .ok (.ireturn, 1) := by decide +kernel
theorem dL_grains_17 : decode cL_grains 17 = .ok (.astore 4, 2) := by decide +kernel
theorem dL_grains_19 : decode cL_grains 19 = .ok (.iconst 2, 1) := by decide +kernel
theorem dL_grains_20 : decode cL_grains 20 = .ok (.ireturn, 1) := by decide +kernel
theorem dL_grains_21 : decode cL_grains 21 = .ok (.astore 4, 2) := by decide +kernel
theorem dL_grains_23 : decode cL_grains 23 = .ok (.iconst 3, 1) := by decide +kernel
theorem dL_grains_24 : decode cL_grains 24 = .ok (.ireturn, 1) := by decide +kernel
theorem dL_grains_25 : decode cL_grains 25 = .ok (.iconst 0, 1) := by decide +kernel
theorem dL_grains_26 : decode cL_grains 26 = .ok (.ireturn, 1) := by decide +kernel
set_option maxRecDepth 20000 in
theorem ggL_gap_X5_gap : GoodIn wsL_gap wsX5_gap := goodIn_ca (goodIn_ca (goodIn_ca (goodIn_ca (goodIn_ca (goodIn_r _ [8, 9, 10, 11, 12, 7, 13, 14, 15, 16, 17, 18, 19, 20, 21, 22, 23, 24, 25, 26, 27, 28, 29, 30, 31, 32, 33, 34, 35, 36, 37, 38, 39, 40, 41, 42, 43, 44, 45, 46, 47, 48, 49, 50, 51, 52, 53, 54, 55, 56, 57, 58, 59, 60, 61, 62, 63, 64, 65, 66, 67, 68, 69, 70, 71, 72, 73, 74, 75, 76, 77, 78, 79, 80] (by decide +kernel) (by decide +kernel)) (goodIn_sub (fun _ h => List.mem_cons_of_mem _ (List.mem_append_left _ (List.mem_append_left _ (List.mem_append_left _ (List.mem_append_left _ (List.mem_append_right _ h)))))) (by decide +kernel))) (goodIn_sub (fun _ h => List.mem_cons_of_mem _ (List.mem_append_left _ (List.mem_append_left _ (List.mem_append_left _ (List.mem_append_right _ h))))) (by decide +kernel))) (goodIn_sub (fun _ h => List.mem_cons_of_mem _ (List.mem_append_left _ (List.mem_append_left _ (List.mem_append_right _ h)))) (by decide +kernel))) (goodIn_sub (fun _ h => List.mem_cons_of_mem _ (List.mem_append_left _ (List.mem_append_right _ h))) (by decide +kernel))) (goodIn_sub (fun _ h => List.mem_cons_of_mem _ (List.mem_append_right _ h)) (by decide +kernel))
set_option maxRecDepth 20000 in
theorem gL_gap_X5_gap : GoodIn wsL_gap (wsV RL 111 RX5 yX5_gap wsX5_gap) := goodIn_app (goodIn_of _ (by decide +kernel)) ggL_gap_X5_gap
theorem dL_gap_0 : decode cL_gap 0 = .ok (.aload 4, 2) := by decide +kernel
theorem dL_gap_2 : decode cL_gap 2 = .ok (.iconst 0, 1) := by decide +kernel
theorem dL_gap_3 : decode cL_gap 3 = .ok (.aload_n 0, 1) := by decide +kernel
theorem dL_gap_4 : decode cL_gap 4 = .ok (.iload_n 1, 1) := by decide +kernel
theorem dL_gap_5 : decode cL_gap 5 = .ok (.iload_n 2, 1) := by decide +kernel
theorem dL_gap_6 : decode cL_gap 6 = .ok (.iload_n 3, 1) := by decide +kernel
theorem dL_gap_7 : decode cL_gap 7 = .ok (.invokevirtual 111, 3) := by decide +kernel
theorem dL_gap_10 : decode cL_gap 10 = .ok (.i2l, 1) := by decide +kernel
theorem dL_gap_11 : decode cL_gap 11 = .ok (.lastore, 1) := by decide +kernel
theorem dL_gap_12 : decode cL_gap 12 = .ok (.goto 15, 3) := by decide +kernel
theorem dL_gap_15 : decode cL_gap 15 = .ok (.astore 5, 2) := by decide +kernel
theorem dL_gap_17 : decode cL_gap 17 = .ok (.iconst 1, 1) := by decide +kernel
theorem dL_gap_18 : decode cL_gap 18 = .ok (.ireturn, 1) := by decide +kernel
theorem dL_gap_19 : decode cL_gap 19 = .ok (.astore 5, 2) := by decide +kernel
theorem dL_gap_21 : decode cL_gap 21 = .ok (.iconst 2, 1) := by decide +kernel
theorem dL_gap_22 : decode cL_gap 22 = .ok (.ireturn, 1) := by decide +kernel
theorem dL_gap_23 : decode cL_gap 23 = .ok (.astore 5, 2) := by decide +kernel
theorem dL_gap_25 : decode cL_gap 25 = .ok (.iconst 3, 1) := by decide +kernel
theorem dL_gap_26 : decode cL_gap 26 = .ok (.ireturn, 1) := by decide +kernel
theorem dL_gap_27 : decode cL_gap 27 = .ok (.iconst 0, 1) := by decide +kernel
theorem dL_gap_28 : decode cL_gap 28 = .ok (.ireturn, 1) := by decide +kernel
set_option maxRecDepth 20000 in
theorem ggL_compareGaps_X5_compareGaps : GoodIn wsL_compareGaps wsX5_compareGaps := goodIn_ca (goodIn_ca (goodIn_ca (goodIn_r _ [7, 8, 9, 10, 6, 11, 12, 13, 14, 15, 16, 17, 18, 19, 20, 21, 22, 23, 24, 25, 26, 27, 28, 29, 30, 31, 32, 33, 34, 35, 36, 37, 38, 39, 40, 41, 42, 43, 44, 45, 46, 47, 48, 49, 50, 51, 52, 53, 54, 55, 56, 57, 58, 59, 60, 61, 62, 63, 64, 65, 66, 67, 68, 69, 70] (by decide +kernel) (by decide +kernel)) (goodIn_sub (fun _ h => List.mem_cons_of_mem _ (List.mem_append_left _ (List.mem_append_left _ (List.mem_append_right _ h)))) (by decide +kernel))) (goodIn_sub (fun _ h => List.mem_cons_of_mem _ (List.mem_append_left _ (List.mem_append_right _ h))) (by decide +kernel))) (goodIn_sub (fun _ h => List.mem_cons_of_mem _ (List.mem_append_right _ h)) (by decide +kernel))
set_option maxRecDepth 20000 in
theorem gL_compareGaps_X5_compareGaps : GoodIn wsL_compareGaps (wsV RL 114 RX5 yX5_compareGaps wsX5_compareGaps) := goodIn_app (goodIn_of _ (by decide +kernel)) ggL_compareGaps_X5_compareGaps
theorem dL_compareGaps_0 : decode cL_compareGaps 0 = .ok (.aload 5, 2) := by decide +kernel
theorem dL_compareGaps_2 : decode cL_compareGaps 2 = .ok (.iconst 0, 1) := by decide +kernel
theorem dL_compareGaps_3 : decode cL_compareGaps 3 = .ok (.aload_n 0, 1) := by decide +kernel
theorem dL_compareGaps_4 : decode cL_compareGaps 4 = .ok (.iload_n 1, 1) := by decide +kernel
theorem dL_compareGaps_5 : decode cL_compareGaps 5 = .ok (.iload_n 2, 1) := by decide +kernel
theorem dL_compareGaps_6 : decode cL_compareGaps 6 = .ok (.iload_n 3, 1) := by decide +kernel
theorem dL_compareGaps_7 : decode cL_compareGaps 7 = .ok (.iload 4, 2) := by decide +kernel
theorem dL_compareGaps_9 : decode cL_compareGaps 9 = .ok (.invokevirtual 114, 3) := by decide +kernel
theorem dL_compareGaps_12 : decode cL_compareGaps 12 = .ok (.i2l, 1) := by decide +kernel
theorem dL_compareGaps_13 : decode cL_compareGaps 13 = .ok (.lastore, 1) := by decide +kernel
theorem dL_compareGaps_14 : decode cL_compareGaps 14 = .ok (.goto 11, 3) := by decide +kernel
theorem dL_compareGaps_17 : decode cL_compareGaps 17 = .ok (.astore 6, 2) := by decide +kernel
theorem dL_compareGaps_19 : decode cL_compareGaps 19 = .ok (.iconst 1, 1) := by decide +kernel
theorem dL_compareGaps_20 : decode cL_compareGaps 20 = .ok (.ireturn, 1) := by decide +kernel
theorem dL_compareGaps_21 : decode cL_compareGaps 21 = .ok (.astore 6, 2) := by decide +kernel
theorem dL_compareGaps_23 : decode cL_compareGaps 23 = .ok (.iconst 2, 1) := by decide +kernel
theorem dL_compareGaps_24 : decode cL_compareGaps 24 = .ok (.ireturn, 1) := by decide +kernel
theorem dL_compareGaps_25 : decode cL_compareGaps 25 = .ok (.iconst 0, 1) := by decide +kernel
theorem dL_compareGaps_26 : decode cL_compareGaps 26 = .ok (.ireturn, 1) := by decide +kernel
set_option maxRecDepth 20000 in
theorem ggL_say_X5_say : GoodIn wsL_say wsX5_say := goodIn_ca (goodIn_ca (goodIn_ca (goodIn_r _ [7, 8, 9, 10, 11, 12, 13, 14, 15, 16, 17, 18, 19, 20, 21, 22, 23, 24, 25, 26, 27, 28, 29, 30, 31, 32, 33, 34, 35, 36, 37, 38] (by decide +kernel) (by decide +kernel)) (goodIn_sub (fun _ h => List.mem_cons_of_mem _ (List.mem_append_left _ (List.mem_append_right _ h))) (by decide +kernel))) (goodIn_sub (fun _ h => List.mem_cons_of_mem _ (List.mem_append_right _ h)) (by decide +kernel))) (goodIn_sub (fun _ h => List.mem_cons_of_mem _ (List.mem_append_left _ (List.mem_append_left _ (List.mem_append_right _ h)))) (by decide +kernel))
set_option maxRecDepth 20000 in
theorem gL_say_X5_say : GoodIn wsL_say (wsV RL 118 RX5 yX5_say wsX5_say) := goodIn_app (goodIn_of _ (by decide +kernel)) ggL_say_X5_say
theorem dL_say_0 : decode cL_say 0 = .ok (.aload_n 3, 1) := by decide +kernel
theorem dL_say_1 : decode cL_say 1 = .ok (.iconst 0, 1) := by decide +kernel
theorem dL_say_2 : decode cL_say 2 = .ok (.aload_n 0, 1) := by decide +kernel
theorem dL_say_3 : decode cL_say 3 = .ok (.iload_n 1, 1) := by decide +kernel
theorem dL_say_4 : decode cL_say 4 = .ok (.iload_n 2, 1) := by decide +kernel
theorem dL_say_5 : decode cL_say 5 = .ok (.invokevirtual 118, 3) := by decide +kernel
theorem dL_say_8 : decode cL_say 8 = .ok (.i2l, 1) := by decide +kernel
theorem dL_say_9 : decode cL_say 9 = .ok (.lastore, 1) := by decide +kernel
theorem dL_say_10 : decode cL_say 10 = .ok (.goto 11, 3) := by decide +kernel
theorem dL_say_13 : decode cL_say 13 = .ok (.astore 4, 2) := by decide +kernel
theorem dL_say_15 : decode cL_say 15 = .ok (.iconst 1, 1) := by decide +kernel
theorem dL_say_16 : decode cL_say 16 = .ok (.ireturn, 1) := by decide +kernel
theorem dL_say_17 : decode cL_say 17 = .ok (.astore 4, 2) := by decide +kernel
theorem dL_say_19 : decode cL_say 19 = .ok (.iconst 2, 1) := by decide +kernel
theorem dL_say_20 : decode cL_say 20 = .ok (.ireturn, 1) := by decide +kernel
theorem dL_say_21 : decode cL_say 21 = .ok (.iconst 0, 1) := by decide +kernel
theorem dL_say_22 : decode cL_say 22 = .ok (.ireturn, 1) := by decide +kernel
set_option maxRecDepth 20000 in
theorem ggL_play_X5_play : GoodIn wsL_play wsX5_play := goodIn_ca (goodIn_ca (goodIn_r _ [6, 7, 8, 9, 10, 5, 11, 12, 13, 14, 15, 16, 17, 18, 19, 20, 21, 22, 23, 24, 25, 26, 27, 28, 29, 30, 31, 32, 33, 34, 35, 36, 37, 38, 39, 40, 41, 42, 43, 44, 45, 46, 47, 48, 49, 50, 51, 52, 53, 54, 55, 56, 57, 58, 59, 60, 61, 62, 63, 64, 65, 66, 67, 68, 69, 70, 71, 72, 73, 74, 75, 76, 77, 78, 79, 80, 81, 82, 83, 84, 85, 86, 87, 88, 89, 90, 91, 92, 93, 94, 95, 96, 97, 98, 99, 100, 101, 102, 103, 104, 105, 106, 107, 108, 109, 110, 111, 112, 113, 114, 115] (by decide +kernel) (by decide +kernel)) (goodIn_sub (fun _ h => List.mem_cons_of_mem _ (List.mem_append_left _ (List.mem_append_right _ h))) (by decide +kernel))) (goodIn_sub (fun _ h => List.mem_cons_of_mem _ (List.mem_append_right _ h)) (by decide +kernel))
set_option maxRecDepth 20000 in
theorem gL_play_X5_play : GoodIn wsL_play (wsV RL 122 RX5 yX5_play wsX5_play) := goodIn_app (goodIn_of _ (by decide +kernel)) ggL_play_X5_play
theorem dL_play_0 : decode cL_play 0 = .ok (.aload_n 3, 1) := by decide +kernel
theorem dL_play_1 : decode cL_play 1 = .ok (.iconst 0, 1) := by decide +kernel
theorem dL_play_2 : decode cL_play 2 = .ok (.aload_n 0, 1) := by decide +kernel
theorem dL_play_3 : decode cL_play 3 = .ok (.iload_n 1, 1) := by decide +kernel
theorem dL_play_4 : decode cL_play 4 = .ok (.iload_n 2, 1) := by decide +kernel
theorem dL_play_5 : decode cL_play 5 = .ok (.invokevirtual 122, 3) := by decide +kernel
theorem dL_play_8 : decode cL_play 8 = .ok (.lastore, 1) := by decide +kernel
theorem dL_play_9 : decode cL_play 9 = .ok (.goto 7, 3) := by decide +kernel
theorem dL_play_12 : decode cL_play 12 = .ok (.astore 4, 2) := by decide +kernel
theorem dL_play_14 : decode cL_play 14 = .ok (.iconst 1, 1) := by decide +kernel
theorem dL_play_15 : decode cL_play 15 = .ok (.ireturn, 1) := by decide +kernel
theorem dL_play_16 : decode cL_play 16 = .ok (.iconst 0, 1) := by decide +kernel
theorem dL_play_17 : decode cL_play 17 = .ok (.ireturn, 1) := by decide +kernel
set_option maxRecDepth 20000 in
theorem ggL_playBack_X5_playBack : GoodIn wsL_playBack wsX5_playBack := goodIn_ca (goodIn_ca (goodIn_r _ [6, 7, 8, 9, 10, 5, 11, 12, 13, 14, 15, 16, 17, 18, 19, 20, 21, 22, 23, 24, 25, 26, 27, 28, 29, 30, 31, 32, 33, 34, 35, 36, 37, 38, 39, 40, 41, 42, 43, 44, 45, 46, 47, 48, 49, 50, 51, 52, 53, 54, 55, 56, 57, 58, 59, 60, 61, 62, 63, 64, 65, 66, 67, 68, 69, 70, 71, 72, 73, 74, 75, 76, 77, 78, 79, 80, 81, 82, 83, 84, 85, 86, 87, 88, 89, 90, 91, 92, 93, 94, 95, 96, 97, 98, 99, 100, 101, 102, 103, 104, 105, 106, 107, 108, 109, 110, 111, 112, 113, 114, 115] (by decide +kernel) (by decide +kernel)) (goodIn_sub (fun _ h => List.mem_cons_of_mem _ (List.mem_append_left _ (List.mem_append_right _ h))) (by decide +kernel))) (goodIn_sub (fun _ h => List.mem_cons_of_mem _ (List.mem_append_right _ h)) (by decide +kernel))
set_option maxRecDepth 20000 in
theorem gL_playBack_X5_playBack : GoodIn wsL_playBack (wsV RL 125 RX5 yX5_playBack wsX5_playBack) := goodIn_app (goodIn_of _ (by decide +kernel)) ggL_playBack_X5_playBack
theorem dL_playBack_0 : decode cL_playBack 0 = .ok (.aload_n 3, 1) := by decide +kernel
theorem dL_playBack_1 : decode cL_playBack 1 = .ok (.iconst 0, 1) := by decide +kernel
theorem dL_playBack_2 : decode cL_playBack 2 = .ok (.aload_n 0, 1) := by decide +kernel
theorem dL_playBack_3 : decode cL_playBack 3 = .ok (.iload_n 1, 1) := by decide +kernel
theorem dL_playBack_4 : decode cL_playBack 4 = .ok (.iload_n 2, 1) := by decide +kernel
theorem dL_playBack_5 : decode cL_playBack 5 = .ok (.invokevirtual 125, 3) := by decide +kernel
theorem dL_playBack_8 : decode cL_playBack 8 = .ok (.lastore, 1) := by decide +kernel
theorem dL_playBack_9 : decode cL_playBack 9 = .ok (.goto 7, 3) := by decide +kernel
theorem dL_playBack_12 : decode cL_playBack 12 = .ok (.astore 4, 2) := by decide +kernel
theorem dL_playBack_14 : decode cL_playBack 14 = .ok (.iconst 1, 1) := by decide +kernel
theorem dL_playBack_15 : decode cL_playBack 15 = .ok (.ireturn, 1) := by decide +kernel
theorem dL_playBack_16 : decode cL_playBack 16 = .ok (.iconst 0, 1) := by decide +kernel
theorem dL_playBack_17 : decode cL_playBack 17 = .ok (.ireturn, 1) := by decide +kernel
set_option maxRecDepth 20000 in
theorem ggL_isHome_X5_isHome : GoodIn wsL_isHome wsX5_isHome := goodIn_ca (goodIn_ca (goodIn_r _ [6, 7, 8, 9, 10, 5, 11, 12, 13, 14, 15, 16, 17, 18, 19, 20, 21, 22, 23, 24, 25, 26, 27, 28, 29, 30, 31, 32, 33, 34, 35, 36, 37, 38, 39, 40, 41, 42, 43, 44, 45, 46, 47, 48, 49, 50, 51, 52, 53, 54, 55, 56, 57, 58, 59, 60, 61, 62, 63, 64, 65, 66, 67, 68, 69, 70, 71, 72, 73, 74, 75, 76, 77, 78, 79, 80, 81, 82, 83, 84, 85, 86, 87, 88, 89, 90, 91, 92, 93, 94, 95, 96, 97, 98, 99, 100, 101] (by decide +kernel) (by decide +kernel)) (goodIn_sub (fun _ h => List.mem_cons_of_mem _ (List.mem_append_left _ (List.mem_append_right _ h))) (by decide +kernel))) (goodIn_sub (fun _ h => List.mem_cons_of_mem _ (List.mem_append_right _ h)) (by decide +kernel))
set_option maxRecDepth 20000 in
theorem gL_isHome_X5_isHome : GoodIn wsL_isHome (wsV RL 128 RX5 yX5_isHome wsX5_isHome) := goodIn_app (goodIn_of _ (by decide +kernel)) ggL_isHome_X5_isHome
theorem dL_isHome_0 : decode cL_isHome 0 = .ok (.aload_n 2, 1) := by decide +kernel
theorem dL_isHome_1 : decode cL_isHome 1 = .ok (.iconst 0, 1) := by decide +kernel
theorem dL_isHome_2 : decode cL_isHome 2 = .ok (.aload_n 0, 1) := by decide +kernel
theorem dL_isHome_3 : decode cL_isHome 3 = .ok (.iload_n 1, 1) := by decide +kernel
theorem dL_isHome_4 : decode cL_isHome 4 = .ok (.invokevirtual 128, 3) := by decide +kernel
theorem dL_isHome_7 : decode cL_isHome 7 = .ok (.ifCond .eq 7, 3) := by decide +kernel
theorem dL_isHome_10 : decode cL_isHome 10 = .ok (.lconst 1, 1) := by decide +kernel
theorem dL_isHome_11 : decode cL_isHome 11 = .ok (.goto 4, 3) := by decide +kernel
theorem dL_isHome_14 : decode cL_isHome 14 = .ok (.lconst 0, 1) := by decide +kernel
theorem dL_isHome_15 : decode cL_isHome 15 = .ok (.lastore, 1) := by decide +kernel
theorem dL_isHome_16 : decode cL_isHome 16 = .ok (.goto 6, 3) := by decide +kernel
theorem dL_isHome_19 : decode cL_isHome 19 = .ok (.astore_n 3, 1) := by decide +kernel
theorem dL_isHome_20 : decode cL_isHome 20 = .ok (.iconst 1, 1) := by decide +kernel
theorem dL_isHome_21 : decode cL_isHome 21 = .ok (.ireturn, 1) := by decide +kernel
theorem dL_isHome_22 : decode cL_isHome 22 = .ok (.iconst 0, 1) := by decide +kernel
theorem dL_isHome_23 : decode cL_isHome 23 = .ok (.ireturn, 1) := by decide +kernel
set_option maxRecDepth 20000 in
theorem ggL_losses_X5_losses : GoodIn wsL_losses wsX5_losses := goodIn_ca (goodIn_ca (goodIn_r _ [6, 7, 8, 9, 10, 5, 11, 12, 13, 14, 15, 16, 17, 18, 19, 20, 21, 22, 23, 24, 25, 26, 27, 28, 29, 30, 31, 32, 33, 34, 35, 36, 37, 38, 39, 40, 41, 42, 43, 44, 45, 46, 47, 48, 49, 50, 51, 52, 53, 54, 55, 56, 57, 58, 59, 60, 61, 62, 63, 64, 65, 66, 67, 68, 69, 70, 71, 72, 73, 74, 75, 76, 77, 78, 79, 80, 81, 82, 83, 84, 85, 86, 87, 88, 89, 90, 91, 92, 93] (by decide +kernel) (by decide +kernel)) (goodIn_sub (fun _ h => List.mem_cons_of_mem _ (List.mem_append_left _ (List.mem_append_right _ h))) (by decide +kernel))) (goodIn_sub (fun _ h => List.mem_cons_of_mem _ (List.mem_append_right _ h)) (by decide +kernel))
set_option maxRecDepth 20000 in
theorem gL_losses_X5_losses : GoodIn wsL_losses (wsV RL 131 RX5 yX5_losses wsX5_losses) := goodIn_app (goodIn_of _ (by decide +kernel)) ggL_losses_X5_losses
theorem dL_losses_0 : decode cL_losses 0 = .ok (.aload_n 2, 1) := by decide +kernel
theorem dL_losses_1 : decode cL_losses 1 = .ok (.iconst 0, 1) := by decide +kernel
theorem dL_losses_2 : decode cL_losses 2 = .ok (.aload_n 0, 1) := by decide +kernel
theorem dL_losses_3 : decode cL_losses 3 = .ok (.iload_n 1, 1) := by decide +kernel
theorem dL_losses_4 : decode cL_losses 4 = .ok (.invokevirtual 131, 3) := by decide +kernel
theorem dL_losses_7 : decode cL_losses 7 = .ok (.i2l, 1) := by decide +kernel
theorem dL_losses_8 : decode cL_losses 8 = .ok (.lastore, 1) := by decide +kernel
theorem dL_losses_9 : decode cL_losses 9 = .ok (.goto 6, 3) := by decide +kernel
theorem dL_losses_12 : decode cL_losses 12 = .ok (.astore_n 3, 1) := by decide +kernel
theorem dL_losses_13 : decode cL_losses 13 = .ok (.iconst 1, 1) := by decide +kernel
theorem dL_losses_14 : decode cL_losses 14 = .ok (.ireturn, 1) := by decide +kernel
theorem dL_losses_15 : decode cL_losses 15 = .ok (.iconst 0, 1) := by decide +kernel
theorem dL_losses_16 : decode cL_losses 16 = .ok (.ireturn, 1) := by decide +kernel
set_option maxRecDepth 20000 in
theorem ggL_undo_X5_undo : GoodIn wsL_undo wsX5_undo := goodIn_ca (goodIn_ca (goodIn_r _ [6, 7, 8, 9, 10, 11, 12, 13, 14, 15, 16, 17, 18, 19, 20, 21, 22, 23, 24, 25, 26, 27, 28, 29, 30, 31, 32, 33, 34, 35, 36, 37, 38] (by decide +kernel) (by decide +kernel)) (goodIn_sub (fun _ h => List.mem_cons_of_mem _ (List.mem_append_right _ h)) (by decide +kernel))) (goodIn_sub (fun _ h => List.mem_cons_of_mem _ (List.mem_append_left _ (List.mem_append_right _ h))) (by decide +kernel))
set_option maxRecDepth 20000 in
theorem gL_undo_X5_undo : GoodIn wsL_undo (wsV RL 134 RX5 yX5_undo wsX5_undo) := goodIn_app (goodIn_of _ (by decide +kernel)) ggL_undo_X5_undo
theorem dL_undo_0 : decode cL_undo 0 = .ok (.aload_n 1, 1) := by decide +kernel
theorem dL_undo_1 : decode cL_undo 1 = .ok (.iconst 0, 1) := by decide +kernel
theorem dL_undo_2 : decode cL_undo 2 = .ok (.aload_n 0, 1) := by decide +kernel
theorem dL_undo_3 : decode cL_undo 3 = .ok (.invokevirtual 134, 3) := by decide +kernel
theorem dL_undo_6 : decode cL_undo 6 = .ok (.i2l, 1) := by decide +kernel
theorem dL_undo_7 : decode cL_undo 7 = .ok (.lastore, 1) := by decide +kernel
theorem dL_undo_8 : decode cL_undo 8 = .ok (.goto 6, 3) := by decide +kernel
theorem dL_undo_11 : decode cL_undo 11 = .ok (.astore_n 2, 1) := by decide +kernel
theorem dL_undo_12 : decode cL_undo 12 = .ok (.iconst 1, 1) := by decide +kernel
theorem dL_undo_13 : decode cL_undo 13 = .ok (.ireturn, 1) := by decide +kernel
theorem dL_undo_14 : decode cL_undo 14 = .ok (.iconst 0, 1) := by decide +kernel
theorem dL_undo_15 : decode cL_undo 15 = .ok (.ireturn, 1) := by decide +kernel
