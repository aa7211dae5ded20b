set_option maxRecDepth 20000 in
theorem ggX6_halvings_X6_lacks_ : GoodIn wsX6_halvings wsX6_lacks_ := goodIn_r _ [5, 6, 7, 4, 8, 9, 10, 11, 12, 13, 14, 15, 16, 31, 32, 33, 34, 35, 36, 37, 38] (by decide +kernel) (by decide +kernel)
set_option maxRecDepth 20000 in
theorem gX6_halvings_X6_lacks_ : GoodIn wsX6_halvings (wsV RX6 101 RX6 yX6_lacks_ wsX6_lacks_) := goodIn_app (goodIn_of _ (by decide +kernel)) ggX6_halvings_X6_lacks_
set_option maxRecDepth 20000 in
theorem ggX6_halvings_X6_placeIn : GoodIn wsX6_halvings wsX6_placeIn := goodIn_ca (goodIn_r _ [20, 21, 22, 23, 4, 24, 31, 32, 33, 34, 35, 36, 37, 38] (by decide +kernel) (by decide +kernel)) (goodIn_sub (fun _ h => List.mem_cons_of_mem _ (List.mem_append_right _ h)) (by decide +kernel))
set_option maxRecDepth 20000 in
theorem gX6_halvings_X6_placeIn : GoodIn wsX6_halvings (wsV RX6 123 RX6 yX6_placeIn wsX6_placeIn) := goodIn_app (goodIn_of _ (by decide +kernel)) ggX6_halvings_X6_placeIn
set_option maxRecDepth 20000 in
theorem ggX6_halvings_X6_areApart : GoodIn wsX6_halvings wsX6_areApart := goodIn_r _ [27] (by decide +kernel) (by decide +kernel)
set_option maxRecDepth 20000 in
theorem gX6_halvings_X6_areApart : GoodIn wsX6_halvings (va_wsS RX6 127 yX6_areApart wsX6_areApart) := goodIn_app (goodIn_of _ (by decide +kernel)) ggX6_halvings_X6_areApart
set_option maxRecDepth 20000 in
theorem ggX6_halvings_X6_middleOf : GoodIn wsX6_halvings wsX6_middleOf := goodIn_r _ [30] (by decide +kernel) (by decide +kernel)
set_option maxRecDepth 20000 in
theorem gX6_halvings_X6_middleOf : GoodIn wsX6_halvings (va_wsS RX6 133 yX6_middleOf wsX6_middleOf) := goodIn_app (goodIn_of _ (by decide +kernel)) ggX6_halvings_X6_middleOf
theorem dX6_halvings_0 : decode cX6_halvings 0 = .ok (.aload_n 0, 1) := by decide +kernel
theorem dX6_halvings_1 : decode cX6_halvings 1 = .ok (.iload_n 1, 1) := by decide +kernel
theorem dX6_halvings_2 : decode cX6_halvings 2 = .ok (.iload_n 2, 1) := by decide +kernel
theorem dX6_halvings_3 : decode cX6_halvings 3 = .ok (.invokevirtual 101, 3) := by decide +kernel
theorem dX6_halvings_6 : decode cX6_halvings 6 = .ok (.ifCond .eq 5, 3) := by decide +kernel
theorem dX6_halvings_9 : decode cX6_halvings 9 = .ok (.iconst 0, 1) := by decide +kernel
theorem dX6_halvings_10 : decode cX6_halvings 10 = .ok (.ireturn, 1) := by decide +kernel
theorem dX6_halvings_11 : decode cX6_halvings 11 = .ok (.aload_n 0, 1) := by decide +kernel
theorem dX6_halvings_12 : decode cX6_halvings 12 = .ok (.iload_n 1, 1) := by decide +kernel
theorem dX6_halvings_13 : decode cX6_halvings 13 = .ok (.invokevirtual 123, 3) := by decide +kernel
theorem dX6_halvings_16 : decode cX6_halvings 16 = .ok (.lstore_n 3, 1) := by decide +kernel
theorem dX6_halvings_17 : decode cX6_halvings 17 = .ok (.aload_n 0, 1) := by decide +kernel
theorem dX6_halvings_18 : decode cX6_halvings 18 = .ok (.iload_n 2, 1) := by decide +kernel
theorem dX6_halvings_19 : decode cX6_halvings 19 = .ok (.invokevirtual 123, 3) := by decide +kernel
theorem dX6_halvings_22 : decode cX6_halvings 22 = .ok (.lstore 5, 2) := by decide +kernel
theorem dX6_halvings_24 : decode cX6_halvings 24 = .ok (.iconst 0, 1) := by decide +kernel
theorem dX6_halvings_25 : decode cX6_halvings 25 = .ok (.istore 7, 2) := by decide +kernel
theorem dX6_halvings_27 : decode cX6_halvings 27 = .ok (.lload_n 3, 1) := by decide +kernel
theorem dX6_halvings_28 : decode cX6_halvings 28 = .ok (.lload 5, 2) := by decide +kernel
theorem dX6_halvings_30 : decode cX6_halvings 30 = .ok (.invokestatic 127, 3) := by decide +kernel
theorem dX6_halvings_33 : decode cX6_halvings 33 = .ok (.ifCond .eq 16, 3) := by decide +kernel
theorem dX6_halvings_36 : decode cX6_halvings 36 = .ok (.lload_n 3, 1) := by decide +kernel
theorem dX6_halvings_37 : decode cX6_halvings 37 = .ok (.lload 5, 2) := by decide +kernel
theorem dX6_halvings_39 : decode cX6_halvings 39 = .ok (.invokestatic 133, 3) := by decide +kernel
theorem dX6_halvings_42 : decode cX6_halvings 42 = .ok (.lstore_n 3, 1) := by decide +kernel
theorem dX6_halvings_43 : decode cX6_halvings 43 = .ok (.iinc 7 1, 3) := by decide +kernel
theorem dX6_halvings_46 : decode cX6_halvings 46 = .ok (.goto (-19), 3) := by decide +kernel
theorem dX6_halvings_49 : decode cX6_halvings 49 = .ok (.iload 7, 2) := by decide +kernel
theorem dX6_halvings_51 : decode cX6_halvings 51 = .ok (.ireturn, 1) := by decide +kernel
set_option maxRecDepth 20000 in
theorem ggX6_compare_X6_lacks_ : GoodIn wsX6_compare wsX6_lacks_ := goodIn_r _ [5, 6, 7, 4, 8, 9, 10, 11, 12, 13, 14, 15, 16, 25, 26, 27, 28, 29, 30, 31, 32] (by decide +kernel) (by decide +kernel)
set_option maxRecDepth 20000 in
theorem gX6_compare_X6_lacks_ : GoodIn wsX6_compare (wsV RX6 101 RX6 yX6_lacks_ wsX6_lacks_) := goodIn_app (goodIn_of _ (by decide +kernel)) ggX6_compare_X6_lacks_
set_option maxRecDepth 20000 in
theorem ggX6_compare_X6_placeIn : GoodIn wsX6_compare wsX6_placeIn := goodIn_ca (goodIn_r _ [20, 21, 22, 23, 4, 24, 25, 26, 27, 28, 29, 30, 31, 32] (by decide +kernel) (by decide +kernel)) (goodIn_sub (fun _ h => List.mem_cons_of_mem _ (List.mem_append_right _ h)) (by decide +kernel))
set_option maxRecDepth 20000 in
theorem gX6_compare_X6_placeIn : GoodIn wsX6_compare (wsV RX6 123 RX6 yX6_placeIn wsX6_placeIn) := goodIn_app (goodIn_of _ (by decide +kernel)) ggX6_compare_X6_placeIn
theorem dX6_compare_0 : decode cX6_compare 0 = .ok (.aload_n 0, 1) := by decide +kernel
theorem dX6_compare_1 : decode cX6_compare 1 = .ok (.iload_n 1, 1) := by decide +kernel
theorem dX6_compare_2 : decode cX6_compare 2 = .ok (.iload_n 2, 1) := by decide +kernel
theorem dX6_compare_3 : decode cX6_compare 3 = .ok (.invokevirtual 101, 3) := by decide +kernel
theorem dX6_compare_6 : decode cX6_compare 6 = .ok (.ifCond .eq 5, 3) := by decide +kernel
theorem dX6_compare_9 : decode cX6_compare 9 = .ok (.iconst 0, 1) := by decide +kernel
theorem dX6_compare_10 : decode cX6_compare 10 = .ok (.ireturn, 1) := by decide +kernel
theorem dX6_compare_11 : decode cX6_compare 11 = .ok (.aload_n 0, 1) := by decide +kernel
theorem dX6_compare_12 : decode cX6_compare 12 = .ok (.iload_n 1, 1) := by decide +kernel
theorem dX6_compare_13 : decode cX6_compare 13 = .ok (.invokevirtual 123, 3) := by decide +kernel
theorem dX6_compare_16 : decode cX6_compare 16 = .ok (.lstore_n 3, 1) := by decide +kernel
theorem dX6_compare_17 : decode cX6_compare 17 = .ok (.aload_n 0, 1) := by decide +kernel
theorem dX6_compare_18 : decode cX6_compare 18 = .ok (.iload_n 2, 1) := by decide +kernel
theorem dX6_compare_19 : decode cX6_compare 19 = .ok (.invokevirtual 123, 3) := by decide +kernel
theorem dX6_compare_22 : decode cX6_compare 22 = .ok (.lstore 5, 2) := by decide +kernel
theorem dX6_compare_24 : decode cX6_compare 24 = .ok (.lload_n 3, 1) := by decide +kernel
theorem dX6_compare_25 : decode cX6_compare 25 = .ok (.lload 5, 2) := by decide +kernel
theorem dX6_compare_27 : decode cX6_compare 27 = .ok (.lcmp, 1) := by decide +kernel
theorem dX6_compare_28 : decode cX6_compare 28 = .ok (.ifCond .ge 7, 3) := by decide +kernel
theorem dX6_compare_31 : decode cX6_compare 31 = .ok (.iconst (-1), 1) := by decide +kernel
theorem dX6_compare_32 : decode cX6_compare 32 = .ok (.goto 15, 3) := by decide +kernel
theorem dX6_compare_35 : decode cX6_compare 35 = .ok (.lload_n 3, 1) := by decide +kernel
theorem dX6_compare_36 : decode cX6_compare 36 = .ok (.lload 5, 2) := by decide +kernel
theorem dX6_compare_38 : decode cX6_compare 38 = .ok (.lcmp, 1) := by decide +kernel
theorem dX6_compare_39 : decode cX6_compare 39 = .ok (.ifCond .le 7, 3) := by decide +kernel
theorem dX6_compare_42 : decode cX6_compare 42 = .ok (.iconst 1, 1) := by decide +kernel
theorem dX6_compare_43 : decode cX6_compare 43 = .ok (.goto 4, 3) := by decide +kernel
theorem dX6_compare_46 : decode cX6_compare 46 = .ok (.iconst 0, 1) := by decide +kernel
theorem dX6_compare_47 : decode cX6_compare 47 = .ok (.ireturn, 1) := by decide +kernel
set_option maxRecDepth 20000 in
theorem ggX6_least_X6_placeIn : GoodIn wsX6_least wsX6_placeIn := goodIn_ca (goodIn_r _ [6, 7, 8, 9, 5, 10, 11, 12, 13, 14, 15, 16, 17, 18] (by decide +kernel) (by decide +kernel)) (goodIn_sub (fun _ h => List.mem_cons_of_mem _ (List.mem_append_right _ h)) (by decide +kernel))
set_option maxRecDepth 20000 in
theorem gX6_least_X6_placeIn : GoodIn wsX6_least (wsV RX6 123 RX6 yX6_placeIn wsX6_placeIn) := goodIn_app (goodIn_of _ (by decide +kernel)) ggX6_least_X6_placeIn
theorem dX6_least_0 : decode cX6_least 0 = .ok (.iconst 0, 1) := by decide +kernel
theorem dX6_least_1 : decode cX6_least 1 = .ok (.istore_n 1, 1) := by decide +kernel
theorem dX6_least_2 : decode cX6_least 2 = .ok (.aload_n 0, 1) := by decide +kernel
theorem dX6_least_3 : decode cX6_least 3 = .ok (.iconst 0, 1) := by decide +kernel
theorem dX6_least_4 : decode cX6_least 4 = .ok (.putfield 27, 3) := by decide +kernel
theorem dX6_least_7 : decode cX6_least 7 = .ok (.iconst 1, 1) := by decide +kernel
theorem dX6_least_8 : decode cX6_least 8 = .ok (.istore_n 2, 1) := by decide +kernel
theorem dX6_least_9 : decode cX6_least 9 = .ok (.iload_n 2, 1) := by decide +kernel
theorem dX6_least_10 : decode cX6_least 10 = .ok (.bipush 8, 2) := by decide +kernel
theorem dX6_least_12 : decode cX6_least 12 = .ok (.if_icmp .ge 25, 3) := by decide +kernel
theorem dX6_least_15 : decode cX6_least 15 = .ok (.aload_n 0, 1) := by decide +kernel
theorem dX6_least_16 : decode cX6_least 16 = .ok (.iload_n 2, 1) := by decide +kernel
theorem dX6_least_17 : decode cX6_least 17 = .ok (.invokevirtual 123, 3) := by decide +kernel
theorem dX6_least_20 : decode cX6_least 20 = .ok (.aload_n 0, 1) := by decide +kernel
theorem dX6_least_21 : decode cX6_least 21 = .ok (.iload_n 1, 1) := by decide +kernel
theorem dX6_least_22 : decode cX6_least 22 = .ok (.invokevirtual 123, 3) := by decide +kernel
theorem dX6_least_25 : decode cX6_least 25 = .ok (.lcmp, 1) := by decide +kernel
theorem dX6_least_26 : decode cX6_least 26 = .ok (.ifCond .ge 5, 3) := by decide +kernel
theorem dX6_least_29 : decode cX6_least 29 = .ok (.iload_n 2, 1) := by decide +kernel
theorem dX6_least_30 : decode cX6_least 30 = .ok (.istore_n 1, 1) := by decide +kernel
theorem dX6_least_31 : decode cX6_least 31 = .ok (.iinc 2 1, 3) := by decide +kernel
theorem dX6_least_34 : decode cX6_least 34 = .ok (.goto (-25), 3) := by decide +kernel
theorem dX6_least_37 : decode cX6_least 37 = .ok (.iload_n 1, 1) := by decide +kernel
theorem dX6_least_38 : decode cX6_least 38 = .ok (.ireturn, 1) := by decide +kernel
set_option maxRecDepth 20000 in
theorem ggX6_rank_X6_lacks : GoodIn wsX6_rank wsX6_lacks := goodIn_r _ [5, 6, 7, 4, 8, 9, 10, 11, 12, 13, 14, 15, 16, 25, 26, 27, 28, 29, 30, 31, 32] (by decide +kernel) (by decide +kernel)
set_option maxRecDepth 20000 in
theorem gX6_rank_X6_lacks : GoodIn wsX6_rank (wsV RX6 94 RX6 yX6_lacks wsX6_lacks) := goodIn_app (goodIn_of _ (by decide +kernel)) ggX6_rank_X6_lacks
set_option maxRecDepth 20000 in
theorem ggX6_rank_X6_placeIn : GoodIn wsX6_rank wsX6_placeIn := goodIn_ca (goodIn_r _ [20, 21, 22, 23, 4, 24, 25, 26, 27, 28, 29, 30, 31, 32] (by decide +kernel) (by decide +kernel)) (goodIn_sub (fun _ h => List.mem_cons_of_mem _ (List.mem_append_right _ h)) (by decide +kernel))
set_option maxRecDepth 20000 in
theorem gX6_rank_X6_placeIn : GoodIn wsX6_rank (wsV RX6 123 RX6 yX6_placeIn wsX6_placeIn) := goodIn_app (goodIn_of _ (by decide +kernel)) ggX6_rank_X6_placeIn
theorem dX6_rank_0 : decode cX6_rank 0 = .ok (.aload_n 0, 1) := by decide +kernel
theorem dX6_rank_1 : decode cX6_rank 1 = .ok (.iload_n 1, 1) := by decide +kernel
theorem dX6_rank_2 : decode cX6_rank 2 = .ok (.invokevirtual 94, 3) := by decide +kernel
theorem dX6_rank_5 : decode cX6_rank 5 = .ok (.ifCond .eq 5, 3) := by decide +kernel
theorem dX6_rank_8 : decode cX6_rank 8 = .ok (.iconst 0, 1) := by decide +kernel
theorem dX6_rank_9 : decode cX6_rank 9 = .ok (.ireturn, 1) := by decide +kernel
theorem dX6_rank_10 : decode cX6_rank 10 = .ok (.iconst 0, 1) := by decide +kernel
theorem dX6_rank_11 : decode cX6_rank 11 = .ok (.istore_n 2, 1) := by decide +kernel
theorem dX6_rank_12 : decode cX6_rank 12 = .ok (.iconst 0, 1) := by decide +kernel
theorem dX6_rank_13 : decode cX6_rank 13 = .ok (.istore_n 3, 1) := by decide +kernel
theorem dX6_rank_14 : decode cX6_rank 14 = .ok (.iload_n 3, 1) := by decide +kernel
theorem dX6_rank_15 : decode cX6_rank 15 = .ok (.bipush 8, 2) := by decide +kernel
theorem dX6_rank_17 : decode cX6_rank 17 = .ok (.if_icmp .ge 26, 3) := by decide +kernel
theorem dX6_rank_20 : decode cX6_rank 20 = .ok (.aload_n 0, 1) := by decide +kernel
theorem dX6_rank_21 : decode cX6_rank 21 = .ok (.iload_n 3, 1) := by decide +kernel
theorem dX6_rank_22 : decode cX6_rank 22 = .ok (.invokevirtual 123, 3) := by decide +kernel
theorem dX6_rank_25 : decode cX6_rank 25 = .ok (.aload_n 0, 1) := by decide +kernel
theorem dX6_rank_26 : decode cX6_rank 26 = .ok (.iload_n 1, 1) := by decide +kernel
theorem dX6_rank_27 : decode cX6_rank 27 = .ok (.invokevirtual 123, 3) := by decide +kernel
theorem dX6_rank_30 : decode cX6_rank 30 = .ok (.lcmp, 1) := by decide +kernel
theorem dX6_rank_31 : decode cX6_rank 31 = .ok (.ifCond .ge 6, 3) := by decide +kernel
theorem dX6_rank_34 : decode cX6_rank 34 = .ok (.iinc 2 1, 3) := by decide +kernel
theorem dX6_rank_37 : decode cX6_rank 37 = .ok (.iinc 3 1, 3) := by decide +kernel
theorem dX6_rank_40 : decode cX6_rank 40 = .ok (.goto (-26), 3) := by decide +kernel
theorem dX6_rank_43 : decode cX6_rank 43 = .ok (.iload_n 2, 1) := by decide +kernel
theorem dX6_rank_44 : decode cX6_rank 44 = .ok (.ireturn, 1) := by decide +kernel
set_option maxRecDepth 20000 in
theorem ggX6_scale_X6_lacks_ : GoodIn wsX6_scale wsX6_lacks_ := goodIn_r _ [6, 7, 8, 5, 9, 10, 11, 12, 13, 14, 15, 16, 17, 50, 51, 52, 53, 54, 55, 56, 57] (by decide +kernel) (by decide +kernel)
set_option maxRecDepth 20000 in
theorem gX6_scale_X6_lacks_ : GoodIn wsX6_scale (wsV RX6 101 RX6 yX6_lacks_ wsX6_lacks_) := goodIn_app (goodIn_of _ (by decide +kernel)) ggX6_scale_X6_lacks_
set_option maxRecDepth 20000 in
theorem ggX6_scale_X6_in : GoodIn wsX6_scale wsX6_in := goodIn_r _ [12] (by decide +kernel) (by decide +kernel)
set_option maxRecDepth 20000 in
theorem gX6_scale_X6_in : GoodIn wsX6_scale (va_wsS RX6 31 yX6_in wsX6_in) := goodIn_app (goodIn_of _ (by decide +kernel)) ggX6_scale_X6_in
set_option maxRecDepth 20000 in
theorem ggX6_scale_X6_no : GoodIn wsX6_scale wsX6_no := goodIn_r _ [16, 17, 50, 51, 52, 53, 54, 55, 56, 57] (by decide +kernel) (by decide +kernel)
set_option maxRecDepth 20000 in
theorem gX6_scale_X6_no : GoodIn wsX6_scale (wsV RX6 39 RX6 yX6_no wsX6_no) := goodIn_app (goodIn_of _ (by decide +kernel)) ggX6_scale_X6_no
set_option maxRecDepth 20000 in
theorem ggX6_scale_X6_scaled : GoodIn wsX6_scale wsX6_scaled := goodIn_ca (goodIn_r _ [20, 21, 22, 23, 5, 24, 25, 26, 27, 28, 29, 30, 31, 32, 33, 34, 35, 36, 37, 38, 39] (by decide +kernel) (by decide +kernel)) (goodIn_sub (fun _ h => List.mem_cons_of_mem _ (List.mem_append_right _ h)) (by decide +kernel))
set_option maxRecDepth 20000 in
theorem gX6_scale_X6_scaled : GoodIn wsX6_scale (va_wsS RX6 136 yX6_scaled wsX6_scaled) := goodIn_app (goodIn_of _ (by decide +kernel)) ggX6_scale_X6_scaled
set_option maxRecDepth 20000 in
theorem ggX6_scale_X6_becomes : GoodIn wsX6_scale wsX6_becomes := goodIn_ca (goodIn_r _ [43, 44, 45, 46, 1, 47, 48, 5, 49, 50, 51, 52, 53, 54, 55, 56, 57] (by decide +kernel) (by decide +kernel)) (goodIn_sub (fun _ h => List.mem_cons_of_mem _ (List.mem_append_left _ (List.mem_append_right _ h))) (by decide +kernel))
set_option maxRecDepth 20000 in
theorem gX6_scale_X6_becomes : GoodIn wsX6_scale (wsV RX6 97 RX6 yX6_becomes wsX6_becomes) := goodIn_app (goodIn_of _ (by decide +kernel)) ggX6_scale_X6_becomes
theorem dX6_scale_0 : decode cX6_scale 0 = .ok (.aload_n 0, 1) := by decide +kernel
theorem dX6_scale_1 : decode cX6_scale 1 = .ok (.iload_n 1, 1) := by decide +kernel
theorem dX6_scale_2 : decode cX6_scale 2 = .ok (.iload_n 3, 1) := by decide +kernel
theorem dX6_scale_3 : decode cX6_scale 3 = .ok (.invokevirtual 101, 3) := by decide +kernel
theorem dX6_scale_6 : decode cX6_scale 6 = .ok (.ifCond .ne 21, 3) := by decide +kernel
theorem dX6_scale_9 : decode cX6_scale 9 = .ok (.aload_n 0, 1) := by decide +kernel
theorem dX6_scale_10 : decode cX6_scale 10 = .ok (.iload_n 2, 1) := by decide +kernel
theorem dX6_scale_11 : decode cX6_scale 11 = .ok (.sipush (-4200), 3) := by decide +kernel
theorem dX6_scale_14 : decode cX6_scale 14 = .ok (.sipush 4200, 3) := by decide +kernel
theorem dX6_scale_17 : decode cX6_scale 17 = .ok (.invokestatic 31, 3) := by decide +kernel
theorem dX6_scale_20 : decode cX6_scale 20 = .ok (.iconst 2, 1) := by decide +kernel
theorem dX6_scale_21 : decode cX6_scale 21 = .ok (.invokevirtual 39, 3) := by decide +kernel
theorem dX6_scale_24 : decode cX6_scale 24 = .ok (.ifCond .eq 5, 3) := by decide +kernel
theorem dX6_scale_27 : decode cX6_scale 27 = .ok (.lconst 0, 1) := by decide +kernel
theorem dX6_scale_28 : decode cX6_scale 28 = .ok (.lreturn, 1) := by decide +kernel
theorem dX6_scale_29 : decode cX6_scale 29 = .ok (.aload_n 0, 1) := by decide +kernel
theorem dX6_scale_30 : decode cX6_scale 30 = .ok (.iload_n 3, 1) := by decide +kernel
theorem dX6_scale_31 : decode cX6_scale 31 = .ok (.aload_n 0, 1) := by decide +kernel
theorem dX6_scale_32 : decode cX6_scale 32 = .ok (.getfield 9, 3) := by decide +kernel
theorem dX6_scale_35 : decode cX6_scale 35 = .ok (.iload_n 1, 1) := by decide +kernel
theorem dX6_scale_36 : decode cX6_scale 36 = .ok (.laload, 1) := by decide +kernel
theorem dX6_scale_37 : decode cX6_scale 37 = .ok (.iload_n 2, 1) := by decide +kernel
theorem dX6_scale_38 : decode cX6_scale 38 = .ok (.invokestatic 136, 3) := by decide +kernel
theorem dX6_scale_41 : decode cX6_scale 41 = .ok (.invokevirtual 97, 3) := by decide +kernel
theorem dX6_scale_44 : decode cX6_scale 44 = .ok (.lreturn, 1) := by decide +kernel
set_option maxRecDepth 20000 in
theorem ggX6_isKept_X6_lacks : GoodIn wsX6_isKept wsX6_lacks := goodIn_r _ [6, 7, 8, 5, 9, 10, 11, 12, 13, 14, 15, 16, 17, 40, 41, 42, 43, 44, 45, 46, 47] (by decide +kernel) (by decide +kernel)
set_option maxRecDepth 20000 in
theorem gX6_isKept_X6_lacks : GoodIn wsX6_isKept (wsV RX6 94 RX6 yX6_lacks wsX6_lacks) := goodIn_app (goodIn_of _ (by decide +kernel)) ggX6_isKept_X6_lacks
set_option maxRecDepth 20000 in
theorem ggX6_isKept_X6_in : GoodIn wsX6_isKept wsX6_in := goodIn_r _ [12] (by decide +kernel) (by decide +kernel)
set_option maxRecDepth 20000 in
theorem gX6_isKept_X6_in : GoodIn wsX6_isKept (va_wsS RX6 31 yX6_in wsX6_in) := goodIn_app (goodIn_of _ (by decide +kernel)) ggX6_isKept_X6_in
set_option maxRecDepth 20000 in
theorem ggX6_isKept_X6_no : GoodIn wsX6_isKept wsX6_no := goodIn_r _ [16, 17, 40, 41, 42, 43, 44, 45, 46, 47] (by decide +kernel) (by decide +kernel)
set_option maxRecDepth 20000 in
theorem gX6_isKept_X6_no : GoodIn wsX6_isKept (wsV RX6 39 RX6 yX6_no wsX6_no) := goodIn_app (goodIn_of _ (by decide +kernel)) ggX6_isKept_X6_no
set_option maxRecDepth 20000 in
theorem ggX6_isKept_X6_scaled : GoodIn wsX6_isKept wsX6_scaled := goodIn_ca (goodIn_r _ [20, 21, 22, 23, 5, 24, 25, 26, 27, 28, 29, 30, 31, 32, 33, 34, 35, 36, 37, 38, 39] (by decide +kernel) (by decide +kernel)) (goodIn_sub (fun _ h => List.mem_cons_of_mem _ (List.mem_append_right _ h)) (by decide +kernel))
set_option maxRecDepth 20000 in
theorem gX6_isKept_X6_scaled : GoodIn wsX6_isKept (va_wsS RX6 136 yX6_scaled wsX6_scaled) := goodIn_app (goodIn_of _ (by decide +kernel)) ggX6_isKept_X6_scaled
theorem dX6_isKept_0 : decode cX6_isKept 0 = .ok (.aload_n 0, 1) := by decide +kernel
theorem dX6_isKept_1 : decode cX6_isKept 1 = .ok (.iload_n 1, 1) := by decide +kernel
theorem dX6_isKept_2 : decode cX6_isKept 2 = .ok (.invokevirtual 94, 3) := by decide +kernel
theorem dX6_isKept_5 : decode cX6_isKept 5 = .ok (.ifCond .ne 21, 3) := by decide +kernel
theorem dX6_isKept_8 : decode cX6_isKept 8 = .ok (.aload_n 0, 1) := by decide +kernel
theorem dX6_isKept_9 : decode cX6_isKept 9 = .ok (.iload_n 2, 1) := by decide +kernel
theorem dX6_isKept_10 : decode cX6_isKept 10 = .ok (.sipush (-4200), 3) := by decide +kernel
theorem dX6_isKept_13 : decode cX6_isKept 13 = .ok (.sipush 4200, 3) := by decide +kernel
theorem dX6_isKept_16 : decode cX6_isKept 16 = .ok (.invokestatic 31, 3) := by decide +kernel
theorem dX6_isKept_19 : decode cX6_isKept 19 = .ok (.iconst 2, 1) := by decide +kernel
theorem dX6_isKept_20 : decode cX6_isKept 20 = .ok (.invokevirtual 39, 3) := by decide +kernel
theorem dX6_isKept_23 : decode cX6_isKept 23 = .ok (.ifCond .eq 5, 3) := by decide +kernel
theorem dX6_isKept_26 : decode cX6_isKept 26 = .ok (.iconst 0, 1) := by decide +kernel
theorem dX6_isKept_27 : decode cX6_isKept 27 = .ok (.ireturn, 1) := by decide +kernel
theorem dX6_isKept_28 : decode cX6_isKept 28 = .ok (.aload_n 0, 1) := by decide +kernel
theorem dX6_isKept_29 : decode cX6_isKept 29 = .ok (.getfield 9, 3) := by decide +kernel
theorem dX6_isKept_32 : decode cX6_isKept 32 = .ok (.iload_n 1, 1) := by decide +kernel
theorem dX6_isKept_33 : decode cX6_isKept 33 = .ok (.laload, 1) := by decide +kernel
theorem dX6_isKept_34 : decode cX6_isKept 34 = .ok (.iload_n 2, 1) := by decide +kernel
theorem dX6_isKept_35 : decode cX6_isKept 35 = .ok (.invokestatic 136, 3) := by decide +kernel
theorem dX6_isKept_38 : decode cX6_isKept 38 = .ok (.iload_n 2, 1) := by decide +kernel
theorem dX6_isKept_39 : decode cX6_isKept 39 = .ok (.ineg, 1) := by decide +kernel
theorem dX6_isKept_40 : decode cX6_isKept 40 = .ok (.invokestatic 136, 3) := by decide +kernel
theorem dX6_isKept_43 : decode cX6_isKept 43 = .ok (.aload_n 0, 1) := by decide +kernel
theorem dX6_isKept_44 : decode cX6_isKept 44 = .ok (.getfield 9, 3) := by decide +kernel
theorem dX6_isKept_47 : decode cX6_isKept 47 = .ok (.iload_n 1, 1) := by decide +kernel
theorem dX6_isKept_48 : decode cX6_isKept 48 = .ok (.laload, 1) := by decide +kernel
theorem dX6_isKept_49 : decode cX6_isKept 49 = .ok (.lcmp, 1) := by decide +kernel
theorem dX6_isKept_50 : decode cX6_isKept 50 = .ok (.ifCond .ne 7, 3) := by decide +kernel
theorem dX6_isKept_53 : decode cX6_isKept 53 = .ok (.iconst 1, 1) := by decide +kernel
theorem dX6_isKept_54 : decode cX6_isKept 54 = .ok (.goto 4, 3) := by decide +kernel
theorem dX6_isKept_57 : decode cX6_isKept 57 = .ok (.iconst 0, 1) := by decide +kernel
theorem dX6_isKept_58 : decode cX6_isKept 58 = .ok (.ireturn, 1) := by decide +kernel
set_option maxRecDepth 20000 in
theorem ggX6_isOne_X6_lacks : GoodIn wsX6_isOne wsX6_lacks := goodIn_r _ [6, 7, 8, 5, 9, 10, 11, 12, 13, 14, 15, 16, 17, 40, 41, 42, 43, 44, 45, 46, 47] (by decide +kernel) (by decide +kernel)
set_option maxRecDepth 20000 in
theorem gX6_isOne_X6_lacks : GoodIn wsX6_isOne (wsV RX6 94 RX6 yX6_lacks wsX6_lacks) := goodIn_app (goodIn_of _ (by decide +kernel)) ggX6_isOne_X6_lacks
set_option maxRecDepth 20000 in
theorem ggX6_isOne_X6_in : GoodIn wsX6_isOne wsX6_in := goodIn_r _ [12] (by decide +kernel) (by decide +kernel)
set_option maxRecDepth 20000 in
theorem gX6_isOne_X6_in : GoodIn wsX6_isOne (va_wsS RX6 31 yX6_in wsX6_in) := goodIn_app (goodIn_of _ (by decide +kernel)) ggX6_isOne_X6_in
set_option maxRecDepth 20000 in
theorem ggX6_isOne_X6_no : GoodIn wsX6_isOne wsX6_no := goodIn_r _ [16, 17, 40, 41, 42, 43, 44, 45, 46, 47] (by decide +kernel) (by decide +kernel)
set_option maxRecDepth 20000 in
theorem gX6_isOne_X6_no : GoodIn wsX6_isOne (wsV RX6 39 RX6 yX6_no wsX6_no) := goodIn_app (goodIn_of _ (by decide +kernel)) ggX6_isOne_X6_no
set_option maxRecDepth 20000 in
theorem ggX6_isOne_X6_scaled : GoodIn wsX6_isOne wsX6_scaled := goodIn_ca (goodIn_r _ [20, 21, 22, 23, 5, 24, 25, 26, 27, 28, 29, 30, 31, 32, 33, 34, 35, 36, 37, 38, 39] (by decide +kernel) (by decide +kernel)) (goodIn_sub (fun _ h => List.mem_cons_of_mem _ (List.mem_append_right _ h)) (by decide +kernel))
set_option maxRecDepth 20000 in
theorem gX6_isOne_X6_scaled : GoodIn wsX6_isOne (va_wsS RX6 136 yX6_scaled wsX6_scaled) := goodIn_app (goodIn_of _ (by decide +kernel)) ggX6_isOne_X6_scaled
theorem dX6_isOne_0 : decode cX6_isOne 0 = .ok (.aload_n 0, 1) := by decide +kernel
theorem dX6_isOne_1 : decode cX6_isOne 1 = .ok (.iload_n 1, 1) := by decide +kernel
theorem dX6_isOne_2 : decode cX6_isOne 2 = .ok (.invokevirtual 94, 3) := by decide +kernel
theorem dX6_isOne_5 : decode cX6_isOne 5 = .ok (.ifCond .ne 42, 3) := by decide +kernel
theorem dX6_isOne_8 : decode cX6_isOne 8 = .ok (.aload_n 0, 1) := by decide +kernel
theorem dX6_isOne_9 : decode cX6_isOne 9 = .ok (.iload_n 2, 1) := by decide +kernel
theorem dX6_isOne_10 : decode cX6_isOne 10 = .ok (.sipush (-2100), 3) := by decide +kernel
theorem dX6_isOne_13 : decode cX6_isOne 13 = .ok (.sipush 2100, 3) := by decide +kernel
theorem dX6_isOne_16 : decode cX6_isOne 16 = .ok (.invokestatic 31, 3) := by decide +kernel
theorem dX6_isOne_19 : decode cX6_isOne 19 = .ok (.ifCond .eq 20, 3) := by decide +kernel
theorem dX6_isOne_22 : decode cX6_isOne 22 = .ok (.iload_n 3, 1) := by decide +kernel
theorem dX6_isOne_23 : decode cX6_isOne 23 = .ok (.sipush (-2100), 3) := by decide +kernel
theorem dX6_isOne_26 : decode cX6_isOne 26 = .ok (.sipush 2100, 3) := by decide +kernel
theorem dX6_isOne_29 : decode cX6_isOne 29 = .ok (.invokestatic 31, 3) := by decide +kernel
theorem dX6_isOne_32 : decode cX6_isOne 32 = .ok (.ifCond .eq 7, 3) := by decide +kernel
theorem dX6_isOne_35 : decode cX6_isOne 35 = .ok (.iconst 1, 1) := by decide +kernel
theorem dX6_isOne_36 : decode cX6_isOne 36 = .ok (.goto 4, 3) := by decide +kernel
theorem dX6_isOne_39 : decode cX6_isOne 39 = .ok (.iconst 0, 1) := by decide +kernel
theorem dX6_isOne_40 : decode cX6_isOne 40 = .ok (.iconst 2, 1) := by decide +kernel
theorem dX6_isOne_41 : decode cX6_isOne 41 = .ok (.invokevirtual 39, 3) := by decide +kernel
theorem dX6_isOne_44 : decode cX6_isOne 44 = .ok (.ifCond .eq 5, 3) := by decide +kernel
theorem dX6_isOne_47 : decode cX6_isOne 47 = .ok (.iconst 0, 1) := by decide +kernel
theorem dX6_isOne_48 : decode cX6_isOne 48 = .ok (.ireturn, 1) := by decide +kernel
theorem dX6_isOne_49 : decode cX6_isOne 49 = .ok (.aload_n 0, 1) := by decide +kernel
theorem dX6_isOne_50 : decode cX6_isOne 50 = .ok (.getfield 9, 3) := by decide +kernel
theorem dX6_isOne_53 : decode cX6_isOne 53 = .ok (.iload_n 1, 1) := by decide +kernel
theorem dX6_isOne_54 : decode cX6_isOne 54 = .ok (.laload, 1) := by decide +kernel
theorem dX6_isOne_55 : decode cX6_isOne 55 = .ok (.iload_n 2, 1) := by decide +kernel
theorem dX6_isOne_56 : decode cX6_isOne 56 = .ok (.invokestatic 136, 3) := by decide +kernel
theorem dX6_isOne_59 : decode cX6_isOne 59 = .ok (.iload_n 3, 1) := by decide +kernel
theorem dX6_isOne_60 : decode cX6_isOne 60 = .ok (.invokestatic 136, 3) := by decide +kernel
theorem dX6_isOne_63 : decode cX6_isOne 63 = .ok (.aload_n 0, 1) := by decide +kernel
theorem dX6_isOne_64 : decode cX6_isOne 64 = .ok (.getfield 9, 3) := by decide +kernel
theorem dX6_isOne_67 : decode cX6_isOne 67 = .ok (.iload_n 1, 1) := by decide +kernel
theorem dX6_isOne_68 : decode cX6_isOne 68 = .ok (.laload, 1) := by decide +kernel
theorem dX6_isOne_69 : decode cX6_isOne 69 = .ok (.iload_n 2, 1) := by decide +kernel
theorem dX6_isOne_70 : decode cX6_isOne 70 = .ok (.iload_n 3, 1) := by decide +kernel
theorem dX6_isOne_71 : decode cX6_isOne 71 = .ok (.iadd, 1) := by decide +kernel
theorem dX6_isOne_72 : decode cX6_isOne 72 = .ok (.invokestatic 136, 3) := by decide +kernel
theorem dX6_isOne_75 : decode cX6_isOne 75 = .ok (.lcmp, 1) := by decide +kernel
theorem dX6_isOne_76 : decode cX6_isOne 76 = .ok (.ifCond .ne 7, 3) := by decide +kernel
theorem dX6_isOne_79 : decode cX6_isOne 79 = .ok (.iconst 1, 1) := by decide +kernel
theorem dX6_isOne_80 : decode cX6_isOne 80 = .ok (.goto 4, 3) := by decide +kernel
theorem dX6_isOne_83 : decode cX6_isOne 83 = .ok (.iconst 0, 1) := by decide +kernel
theorem dX6_isOne_84 : decode cX6_isOne 84 = .ok (.ireturn, 1) := by decide +kernel
set_option maxRecDepth 20000 in
theorem ggX6_exponent_X6_lacks : GoodIn wsX6_exponent wsX6_lacks := goodIn_r _ [6, 7, 8, 5, 9, 10, 11, 12, 13, 14, 15, 16, 17, 26, 27, 28, 29, 30, 31, 32, 33] (by decide +kernel) (by decide +kernel)
set_option maxRecDepth 20000 in
theorem gX6_exponent_X6_lacks : GoodIn wsX6_exponent (wsV RX6 94 RX6 yX6_lacks wsX6_lacks) := goodIn_app (goodIn_of _ (by decide +kernel)) ggX6_exponent_X6_lacks
set_option maxRecDepth 20000 in
theorem ggX6_exponent_X6_exponentOf : GoodIn wsX6_exponent wsX6_exponentOf := goodIn_r _ [20, 21, 22, 23, 5, 24, 25] (by decide +kernel) (by decide +kernel)
set_option maxRecDepth 20000 in
theorem gX6_exponent_X6_exponentOf : GoodIn wsX6_exponent (va_wsS RX6 84 yX6_exponentOf wsX6_exponentOf) := goodIn_app (goodIn_of _ (by decide +kernel)) ggX6_exponent_X6_exponentOf
theorem dX6_exponent_0 : decode cX6_exponent 0 = .ok (.aload_n 0, 1) := by decide +kernel
theorem dX6_exponent_1 : decode cX6_exponent 1 = .ok (.iload_n 1, 1) := by decide +kernel
theorem dX6_exponent_2 : decode cX6_exponent 2 = .ok (.invokevirtual 94, 3) := by decide +kernel
theorem dX6_exponent_5 : decode cX6_exponent 5 = .ok (.ifCond .eq 5, 3) := by decide +kernel
theorem dX6_exponent_8 : decode cX6_exponent 8 = .ok (.iconst 0, 1) := by decide +kernel
theorem dX6_exponent_9 : decode cX6_exponent 9 = .ok (.ireturn, 1) := by decide +kernel
theorem dX6_exponent_10 : decode cX6_exponent 10 = .ok (.aload_n 0, 1) := by decide +kernel
theorem dX6_exponent_11 : decode cX6_exponent 11 = .ok (.getfield 9, 3) := by decide +kernel
theorem dX6_exponent_14 : decode cX6_exponent 14 = .ok (.iload_n 1, 1) := by decide +kernel
theorem dX6_exponent_15 : decode cX6_exponent 15 = .ok (.laload, 1) := by decide +kernel
theorem dX6_exponent_16 : decode cX6_exponent 16 = .ok (.invokestatic 84, 3) := by decide +kernel
theorem dX6_exponent_19 : decode cX6_exponent 19 = .ok (.ireturn, 1) := by decide +kernel
set_option maxRecDepth 20000 in
theorem ggX6_unit_X6_lacks_ : GoodIn wsX6_unit wsX6_lacks_ := goodIn_r _ [6, 7, 8, 5, 9, 10, 11, 12, 13, 14, 15, 16, 17, 47, 48, 49, 50, 51, 52, 53, 54] (by decide +kernel) (by decide +kernel)
set_option maxRecDepth 20000 in
theorem gX6_unit_X6_lacks_ : GoodIn wsX6_unit (wsV RX6 101 RX6 yX6_lacks_ wsX6_lacks_) := goodIn_app (goodIn_of _ (by decide +kernel)) ggX6_unit_X6_lacks_
set_option maxRecDepth 20000 in
theorem ggX6_unit_X6_unitOf : GoodIn wsX6_unit wsX6_unitOf := goodIn_ca (goodIn_r _ [20, 21, 22, 23, 5, 24, 25, 26, 27, 28, 29, 30, 31, 32, 33, 34, 35, 36] (by decide +kernel) (by decide +kernel)) (goodIn_sub (fun _ h => List.mem_cons_of_mem _ (List.mem_append_right _ h)) (by decide +kernel))
set_option maxRecDepth 20000 in
theorem gX6_unit_X6_unitOf : GoodIn wsX6_unit (va_wsS RX6 139 yX6_unitOf wsX6_unitOf) := goodIn_app (goodIn_of _ (by decide +kernel)) ggX6_unit_X6_unitOf
set_option maxRecDepth 20000 in
theorem ggX6_unit_X6_becomes : GoodIn wsX6_unit wsX6_becomes := goodIn_ca (goodIn_r _ [40, 41, 42, 43, 1, 44, 45, 5, 46, 47, 48, 49, 50, 51, 52, 53, 54] (by decide +kernel) (by decide +kernel)) (goodIn_sub (fun _ h => List.mem_cons_of_mem _ (List.mem_append_left _ (List.mem_append_right _ h))) (by decide +kernel))
set_option maxRecDepth 20000 in
theorem gX6_unit_X6_becomes : GoodIn wsX6_unit (wsV RX6 97 RX6 yX6_becomes wsX6_becomes) := goodIn_app (goodIn_of _ (by decide +kernel)) ggX6_unit_X6_becomes
theorem dX6_unit_0 : decode cX6_unit 0 = .ok (.aload_n 0, 1) := by decide +kernel
theorem dX6_unit_1 : decode cX6_unit 1 = .ok (.iload_n 1, 1) := by decide +kernel
theorem dX6_unit_2 : decode cX6_unit 2 = .ok (.iload_n 2, 1) := by decide +kernel
theorem dX6_unit_3 : decode cX6_unit 3 = .ok (.invokevirtual 101, 3) := by decide +kernel
theorem dX6_unit_6 : decode cX6_unit 6 = .ok (.ifCond .eq 5, 3) := by decide +kernel
theorem dX6_unit_9 : decode cX6_unit 9 = .ok (.lconst 0, 1) := by decide +kernel
theorem dX6_unit_10 : decode cX6_unit 10 = .ok (.lreturn, 1) := by decide +kernel
theorem dX6_unit_11 : decode cX6_unit 11 = .ok (.aload_n 0, 1) := by decide +kernel
theorem dX6_unit_12 : decode cX6_unit 12 = .ok (.iload_n 2, 1) := by decide +kernel
theorem dX6_unit_13 : decode cX6_unit 13 = .ok (.aload_n 0, 1) := by decide +kernel
theorem dX6_unit_14 : decode cX6_unit 14 = .ok (.getfield 9, 3) := by decide +kernel
theorem dX6_unit_17 : decode cX6_unit 17 = .ok (.iload_n 1, 1) := by decide +kernel
theorem dX6_unit_18 : decode cX6_unit 18 = .ok (.laload, 1) := by decide +kernel
theorem dX6_unit_19 : decode cX6_unit 19 = .ok (.invokestatic 139, 3) := by decide +kernel
theorem dX6_unit_22 : decode cX6_unit 22 = .ok (.invokevirtual 97, 3) := by decide +kernel
theorem dX6_unit_25 : decode cX6_unit 25 = .ok (.lreturn, 1) := by decide +kernel
set_option maxRecDepth 20000 in
theorem ggX6_lacksSize_X6_lacks_ : GoodIn wsX6_lacksSize wsX6_lacks_ := goodIn_r _ [6, 7, 8, 5, 9, 10, 11, 12, 13, 14, 15, 16, 17, 29, 30, 31, 32, 33, 34, 35, 36] (by decide +kernel) (by decide +kernel)
set_option maxRecDepth 20000 in
theorem gX6_lacksSize_X6_lacks_ : GoodIn wsX6_lacksSize (wsV RX6 101 RX6 yX6_lacks_ wsX6_lacks_) := goodIn_app (goodIn_of _ (by decide +kernel)) ggX6_lacksSize_X6_lacks_
set_option maxRecDepth 20000 in
theorem ggX6_lacksSize_X6_isNothing : GoodIn wsX6_lacksSize wsX6_isNothing := goodIn_r _ [20, 21, 22, 5, 23, 24] (by decide +kernel) (by decide +kernel)
set_option maxRecDepth 20000 in
theorem gX6_lacksSize_X6_isNothing : GoodIn wsX6_lacksSize (va_wsS RX6 142 yX6_isNothing wsX6_isNothing) := goodIn_app (goodIn_of _ (by decide +kernel)) ggX6_lacksSize_X6_isNothing
set_option maxRecDepth 20000 in
theorem ggX6_lacksSize_X6_isEnd : GoodIn wsX6_lacksSize wsX6_isEnd := goodIn_r _ [27, 28, 21, 22, 5, 23, 24] (by decide +kernel) (by decide +kernel)
set_option maxRecDepth 20000 in
theorem gX6_lacksSize_X6_isEnd : GoodIn wsX6_lacksSize (va_wsS RX6 87 yX6_isEnd wsX6_isEnd) := goodIn_app (goodIn_of _ (by decide +kernel)) ggX6_lacksSize_X6_isEnd
set_option maxRecDepth 20000 in
theorem ggX6_lacksSize_X6_no : GoodIn wsX6_lacksSize wsX6_no := goodIn_r _ [16, 17, 29, 30, 31, 32, 33, 34, 35, 36] (by decide +kernel) (by decide +kernel)
set_option maxRecDepth 20000 in
theorem gX6_lacksSize_X6_no : GoodIn wsX6_lacksSize (wsV RX6 39 RX6 yX6_no wsX6_no) := goodIn_app (goodIn_of _ (by decide +kernel)) ggX6_lacksSize_X6_no
theorem dX6_lacksSize_0 : decode cX6_lacksSize 0 = .ok (.aload_n 0, 1) := by decide +kernel
theorem dX6_lacksSize_1 : decode cX6_lacksSize 1 = .ok (.iload_n 1, 1) := by decide +kernel
theorem dX6_lacksSize_2 : decode cX6_lacksSize 2 = .ok (.iload_n 2, 1) := by decide +kernel
theorem dX6_lacksSize_3 : decode cX6_lacksSize 3 = .ok (.invokevirtual 101, 3) := by decide +kernel
theorem dX6_lacksSize_6 : decode cX6_lacksSize 6 = .ok (.ifCond .ne 40, 3) := by decide +kernel
theorem dX6_lacksSize_9 : decode cX6_lacksSize 9 = .ok (.aload_n 0, 1) := by decide +kernel
theorem dX6_lacksSize_10 : decode cX6_lacksSize 10 = .ok (.aload_n 0, 1) := by decide +kernel
theorem dX6_lacksSize_11 : decode cX6_lacksSize 11 = .ok (.getfield 9, 3) := by decide +kernel
theorem dX6_lacksSize_14 : decode cX6_lacksSize 14 = .ok (.iload_n 1, 1) := by decide +kernel
theorem dX6_lacksSize_15 : decode cX6_lacksSize 15 = .ok (.laload, 1) := by decide +kernel
theorem dX6_lacksSize_16 : decode cX6_lacksSize 16 = .ok (.invokestatic 142, 3) := by decide +kernel
theorem dX6_lacksSize_19 : decode cX6_lacksSize 19 = .ok (.ifCond .ne 19, 3) := by decide +kernel
theorem dX6_lacksSize_22 : decode cX6_lacksSize 22 = .ok (.aload_n 0, 1) := by decide +kernel
theorem dX6_lacksSize_23 : decode cX6_lacksSize 23 = .ok (.getfield 9, 3) := by decide +kernel
theorem dX6_lacksSize_26 : decode cX6_lacksSize 26 = .ok (.iload_n 1, 1) := by decide +kernel
theorem dX6_lacksSize_27 : decode cX6_lacksSize 27 = .ok (.laload, 1) := by decide +kernel
theorem dX6_lacksSize_28 : decode cX6_lacksSize 28 = .ok (.invokestatic 87, 3) := by decide +kernel
theorem dX6_lacksSize_31 : decode cX6_lacksSize 31 = .ok (.ifCond .ne 7, 3) := by decide +kernel
theorem dX6_lacksSize_34 : decode cX6_lacksSize 34 = .ok (.iconst 1, 1) := by decide +kernel
theorem dX6_lacksSize_35 : decode cX6_lacksSize 35 = .ok (.goto 4, 3) := by decide +kernel
theorem dX6_lacksSize_38 : decode cX6_lacksSize 38 = .ok (.iconst 0, 1) := by decide +kernel
theorem dX6_lacksSize_39 : decode cX6_lacksSize 39 = .ok (.iconst 2, 1) := by decide +kernel
theorem dX6_lacksSize_40 : decode cX6_lacksSize 40 = .ok (.invokevirtual 39, 3) := by decide +kernel
theorem dX6_lacksSize_43 : decode cX6_lacksSize 43 = .ok (.ifCond .eq 7, 3) := by decide +kernel
theorem dX6_lacksSize_46 : decode cX6_lacksSize 46 = .ok (.iconst 1, 1) := by decide +kernel
theorem dX6_lacksSize_47 : decode cX6_lacksSize 47 = .ok (.goto 4, 3) := by decide +kernel
theorem dX6_lacksSize_50 : decode cX6_lacksSize 50 = .ok (.iconst 0, 1) := by decide +kernel
theorem dX6_lacksSize_51 : decode cX6_lacksSize 51 = .ok (.ireturn, 1) := by decide +kernel
set_option maxRecDepth 20000 in
theorem ggX6_lead_X6_lacksSize : GoodIn wsX6_lead wsX6_lacksSize := goodIn_ca (goodIn_r _ [6, 1, 7, 8, 9, 5, 10, 11, 12, 13, 14, 15, 16, 17, 18, 19, 20, 21, 22, 23, 24, 25, 26, 27, 28, 29, 30, 31, 32, 47, 48, 49, 50, 51, 52, 53, 54] (by decide +kernel) (by decide +kernel)) (goodIn_sub (fun _ h => List.mem_cons_of_mem _ (List.mem_append_right _ h)) (by decide +kernel))
set_option maxRecDepth 20000 in
theorem gX6_lead_X6_lacksSize : GoodIn wsX6_lead (wsV RX6 145 RX6 yX6_lacksSize wsX6_lacksSize) := goodIn_app (goodIn_of _ (by decide +kernel)) ggX6_lead_X6_lacksSize
set_option maxRecDepth 20000 in
theorem ggX6_lead_X6_size : GoodIn wsX6_lead wsX6_size := goodIn_r _ [27, 28] (by decide +kernel) (by decide +kernel)
set_option maxRecDepth 20000 in
theorem gX6_lead_X6_size : GoodIn wsX6_lead (va_wsS RX6 45 yX6_size wsX6_size) := goodIn_app (goodIn_of _ (by decide +kernel)) ggX6_lead_X6_size
set_option maxRecDepth 20000 in
theorem ggX6_lead_X6_leadOf : GoodIn wsX6_lead wsX6_leadOf := goodIn_r _ [35, 36, 37, 5, 38, 39, 40, 41, 42, 43, 44, 45, 46] (by decide +kernel) (by decide +kernel)
set_option maxRecDepth 20000 in
theorem gX6_lead_X6_leadOf : GoodIn wsX6_lead (va_wsS RX6 148 yX6_leadOf wsX6_leadOf) := goodIn_app (goodIn_of _ (by decide +kernel)) ggX6_lead_X6_leadOf
theorem dX6_lead_0 : decode cX6_lead 0 = .ok (.aload_n 0, 1) := by decide +kernel
theorem dX6_lead_1 : decode cX6_lead 1 = .ok (.iload_n 1, 1) := by decide +kernel
theorem dX6_lead_2 : decode cX6_lead 2 = .ok (.iload_n 1, 1) := by decide +kernel
theorem dX6_lead_3 : decode cX6_lead 3 = .ok (.invokevirtual 145, 3) := by decide +kernel
theorem dX6_lead_6 : decode cX6_lead 6 = .ok (.ifCond .eq 5, 3) := by decide +kernel
theorem dX6_lead_9 : decode cX6_lead 9 = .ok (.iconst 0, 1) := by decide +kernel
theorem dX6_lead_10 : decode cX6_lead 10 = .ok (.ireturn, 1) := by decide +kernel
theorem dX6_lead_11 : decode cX6_lead 11 = .ok (.aload_n 0, 1) := by decide +kernel
theorem dX6_lead_12 : decode cX6_lead 12 = .ok (.getfield 9, 3) := by decide +kernel
theorem dX6_lead_15 : decode cX6_lead 15 = .ok (.iload_n 1, 1) := by decide +kernel
theorem dX6_lead_16 : decode cX6_lead 16 = .ok (.laload, 1) := by decide +kernel
theorem dX6_lead_17 : decode cX6_lead 17 = .ok (.invokestatic 45, 3) := by decide +kernel
theorem dX6_lead_20 : decode cX6_lead 20 = .ok (.invokestatic 148, 3) := by decide +kernel
theorem dX6_lead_23 : decode cX6_lead 23 = .ok (.ireturn, 1) := by decide +kernel
set_option maxRecDepth 20000 in
theorem ggX6_tail_X6_lacksSize : GoodIn wsX6_tail wsX6_lacksSize := goodIn_ca (goodIn_r _ [6, 1, 7, 8, 9, 5, 10, 11, 12, 13, 14, 15, 16, 17, 18, 19, 20, 21, 22, 23, 24, 25, 26, 27, 28, 29, 30, 31, 32, 44, 45, 46, 47, 48, 49, 50, 51] (by decide +kernel) (by decide +kernel)) (goodIn_sub (fun _ h => List.mem_cons_of_mem _ (List.mem_append_right _ h)) (by decide +kernel))
set_option maxRecDepth 20000 in
theorem gX6_tail_X6_lacksSize : GoodIn wsX6_tail (wsV RX6 145 RX6 yX6_lacksSize wsX6_lacksSize) := goodIn_app (goodIn_of _ (by decide +kernel)) ggX6_tail_X6_lacksSize
set_option maxRecDepth 20000 in
theorem ggX6_tail_X6_size : GoodIn wsX6_tail wsX6_size := goodIn_r _ [27, 28] (by decide +kernel) (by decide +kernel)
set_option maxRecDepth 20000 in
theorem gX6_tail_X6_size : GoodIn wsX6_tail (va_wsS RX6 45 yX6_size wsX6_size) := goodIn_app (goodIn_of _ (by decide +kernel)) ggX6_tail_X6_size
set_option maxRecDepth 20000 in
theorem ggX6_tail_X6_tailOf : GoodIn wsX6_tail wsX6_tailOf := goodIn_r _ [35, 36, 37, 38, 5, 39, 40, 41, 42, 43] (by decide +kernel) (by decide +kernel)
set_option maxRecDepth 20000 in
theorem gX6_tail_X6_tailOf : GoodIn wsX6_tail (va_wsS RX6 109 yX6_tailOf wsX6_tailOf) := goodIn_app (goodIn_of _ (by decide +kernel)) ggX6_tail_X6_tailOf
theorem dX6_tail_0 : decode cX6_tail 0 = .ok (.aload_n 0, 1) := by decide +kernel
theorem dX6_tail_1 : decode cX6_tail 1 = .ok (.iload_n 1, 1) := by decide +kernel
theorem dX6_tail_2 : decode cX6_tail 2 = .ok (.iload_n 1, 1) := by decide +kernel
theorem dX6_tail_3 : decode cX6_tail 3 = .ok (.invokevirtual 145, 3) := by decide +kernel
theorem dX6_tail_6 : decode cX6_tail 6 = .ok (.ifCond .eq 5, 3) := by decide +kernel
theorem dX6_tail_9 : decode cX6_tail 9 = .ok (.iconst 0, 1) := by decide +kernel
theorem dX6_tail_10 : decode cX6_tail 10 = .ok (.ireturn, 1) := by decide +kernel
theorem dX6_tail_11 : decode cX6_tail 11 = .ok (.aload_n 0, 1) := by decide +kernel
theorem dX6_tail_12 : decode cX6_tail 12 = .ok (.getfield 9, 3) := by decide +kernel
theorem dX6_tail_15 : decode cX6_tail 15 = .ok (.iload_n 1, 1) := by decide +kernel
theorem dX6_tail_16 : decode cX6_tail 16 = .ok (.laload, 1) := by decide +kernel
theorem dX6_tail_17 : decode cX6_tail 17 = .ok (.invokestatic 45, 3) := by decide +kernel
theorem dX6_tail_20 : decode cX6_tail 20 = .ok (.invokestatic 109, 3) := by decide +kernel
theorem dX6_tail_23 : decode cX6_tail 23 = .ok (.ireturn, 1) := by decide +kernel
set_option maxRecDepth 20000 in
theorem ggX6_power_X6_lacksSize : GoodIn wsX6_power wsX6_lacksSize := goodIn_ca (goodIn_r _ [6, 1, 7, 8, 9, 5, 10, 11, 12, 13, 14, 15, 16, 17, 18, 19, 20, 21, 22, 23, 24, 25, 26, 27, 28, 29, 30, 31, 32, 60, 61, 62, 63, 64, 65, 66, 67] (by decide +kernel) (by decide +kernel)) (goodIn_sub (fun _ h => List.mem_cons_of_mem _ (List.mem_append_left _ (List.mem_append_right _ h))) (by decide +kernel))
set_option maxRecDepth 20000 in
theorem gX6_power_X6_lacksSize : GoodIn wsX6_power (wsV RX6 145 RX6 yX6_lacksSize wsX6_lacksSize) := goodIn_app (goodIn_of _ (by decide +kernel)) ggX6_power_X6_lacksSize
set_option maxRecDepth 20000 in
theorem ggX6_power_X6_size : GoodIn wsX6_power wsX6_size := goodIn_r _ [27, 28] (by decide +kernel) (by decide +kernel)
set_option maxRecDepth 20000 in
theorem gX6_power_X6_size : GoodIn wsX6_power (va_wsS RX6 45 yX6_size wsX6_size) := goodIn_app (goodIn_of _ (by decide +kernel)) ggX6_power_X6_size
set_option maxRecDepth 20000 in
theorem ggX6_power_X6_leadOf : GoodIn wsX6_power wsX6_leadOf := goodIn_r _ [35, 36, 37, 5, 38, 39, 40, 41, 42, 43, 44, 45, 46] (by decide +kernel) (by decide +kernel)
set_option maxRecDepth 20000 in
theorem gX6_power_X6_leadOf : GoodIn wsX6_power (va_wsS RX6 148 yX6_leadOf wsX6_leadOf) := goodIn_app (goodIn_of _ (by decide +kernel)) ggX6_power_X6_leadOf
set_option maxRecDepth 20000 in
theorem ggX6_power_X6_made : GoodIn wsX6_power wsX6_made := goodIn_ca (goodIn_r _ [49, 43, 39, 32] (by decide +kernel) (by decide +kernel)) (goodIn_sub (fun _ h => List.mem_cons_of_mem _ (List.mem_append_right _ h)) (by decide +kernel))
set_option maxRecDepth 20000 in
theorem gX6_power_X6_made : GoodIn wsX6_power (va_wsS RX6 77 yX6_made wsX6_made) := goodIn_app (goodIn_of _ (by decide +kernel)) ggX6_power_X6_made
set_option maxRecDepth 20000 in
theorem ggX6_power_X6_becomes : GoodIn wsX6_power wsX6_becomes := goodIn_ca (goodIn_r _ [53, 54, 55, 56, 1, 57, 58, 5, 59, 60, 61, 62, 63, 64, 65, 66, 67] (by decide +kernel) (by decide +kernel)) (goodIn_sub (fun _ h => List.mem_cons_of_mem _ (List.mem_append_left _ (List.mem_append_right _ h))) (by decide +kernel))
set_option maxRecDepth 20000 in
theorem gX6_power_X6_becomes : GoodIn wsX6_power (wsV RX6 97 RX6 yX6_becomes wsX6_becomes) := goodIn_app (goodIn_of _ (by decide +kernel)) ggX6_power_X6_becomes
theorem dX6_power_0 : decode cX6_power 0 = .ok (.aload_n 0, 1) := by decide +kernel
theorem dX6_power_1 : decode cX6_power 1 = .ok (.iload_n 1, 1) := by decide +kernel
theorem dX6_power_2 : decode cX6_power 2 = .ok (.iload_n 2, 1) := by decide +kernel
theorem dX6_power_3 : decode cX6_power 3 = .ok (.invokevirtual 145, 3) := by decide +kernel
theorem dX6_power_6 : decode cX6_power 6 = .ok (.ifCond .eq 5, 3) := by decide +kernel
theorem dX6_power_9 : decode cX6_power 9 = .ok (.lconst 0, 1) := by decide +kernel
theorem dX6_power_10 : decode cX6_power 10 = .ok (.lreturn, 1) := by decide +kernel
theorem dX6_power_11 : decode cX6_power 11 = .ok (.aload_n 0, 1) := by decide +kernel
theorem dX6_power_12 : decode cX6_power 12 = .ok (.iload_n 2, 1) := by decide +kernel
theorem dX6_power_13 : decode cX6_power 13 = .ok (.lconst 1, 1) := by decide +kernel
theorem dX6_power_14 : decode cX6_power 14 = .ok (.aload_n 0, 1) := by decide +kernel
theorem dX6_power_15 : decode cX6_power 15 = .ok (.getfield 9, 3) := by decide +kernel
theorem dX6_power_18 : decode cX6_power 18 = .ok (.iload_n 1, 1) := by decide +kernel
theorem dX6_power_19 : decode cX6_power 19 = .ok (.laload, 1) := by decide +kernel
theorem dX6_power_20 : decode cX6_power 20 = .ok (.invokestatic 45, 3) := by decide +kernel
theorem dX6_power_23 : decode cX6_power 23 = .ok (.invokestatic 148, 3) := by decide +kernel
theorem dX6_power_26 : decode cX6_power 26 = .ok (.sipush 1074, 3) := by decide +kernel
theorem dX6_power_29 : decode cX6_power 29 = .ok (.iadd, 1) := by decide +kernel
theorem dX6_power_30 : decode cX6_power 30 = .ok (.invokestatic 77, 3) := by decide +kernel
theorem dX6_power_33 : decode cX6_power 33 = .ok (.invokevirtual 97, 3) := by decide +kernel
theorem dX6_power_36 : decode cX6_power 36 = .ok (.lreturn, 1) := by decide +kernel
set_option maxRecDepth 20000 in
theorem ggX6_rest_X6_size : GoodIn wsX6_rest wsX6_size := goodIn_r _ [4, 5] (by decide +kernel) (by decide +kernel)
set_option maxRecDepth 20000 in
theorem gX6_rest_X6_size : GoodIn wsX6_rest (va_wsS RX6 45 yX6_size wsX6_size) := goodIn_app (goodIn_of _ (by decide +kernel)) ggX6_rest_X6_size
set_option maxRecDepth 20000 in
theorem ggX6_rest_X6_whole : GoodIn wsX6_rest wsX6_whole := goodIn_r _ [8, 9] (by decide +kernel) (by decide +kernel)
set_option maxRecDepth 20000 in
theorem gX6_rest_X6_whole : GoodIn wsX6_rest (va_wsS RX6 70 yX6_whole wsX6_whole) := goodIn_app (goodIn_of _ (by decide +kernel)) ggX6_rest_X6_whole
set_option maxRecDepth 20000 in
theorem ggX6_rest_X6_shift : GoodIn wsX6_rest wsX6_shift := goodIn_r _ [12, 9] (by decide +kernel) (by decide +kernel)
set_option maxRecDepth 20000 in
theorem gX6_rest_X6_shift : GoodIn wsX6_rest (va_wsS RX6 73 yX6_shift wsX6_shift) := goodIn_app (goodIn_of _ (by decide +kernel)) ggX6_rest_X6_shift
theorem dX6_rest_0 : decode cX6_rest 0 = .ok (.lload_n 0, 1) := by decide +kernel
theorem dX6_rest_1 : decode cX6_rest 1 = .ok (.invokestatic 45, 3) := by decide +kernel
theorem dX6_rest_4 : decode cX6_rest 4 = .ok (.invokestatic 70, 3) := by decide +kernel
theorem dX6_rest_7 : decode cX6_rest 7 = .ok (.iload_n 2, 1) := by decide +kernel
theorem dX6_rest_8 : decode cX6_rest 8 = .ok (.i2l, 1) := by decide +kernel
theorem dX6_rest_9 : decode cX6_rest 9 = .ok (.lrem, 1) := by decide +kernel
theorem dX6_rest_10 : decode cX6_rest 10 = .ok (.lstore_n 3, 1) := by decide +kernel
theorem dX6_rest_11 : decode cX6_rest 11 = .ok (.lload_n 0, 1) := by decide +kernel
theorem dX6_rest_12 : decode cX6_rest 12 = .ok (.invokestatic 45, 3) := by decide +kernel
theorem dX6_rest_15 : decode cX6_rest 15 = .ok (.invokestatic 73, 3) := by decide +kernel
theorem dX6_rest_18 : decode cX6_rest 18 = .ok (.istore 5, 2) := by decide +kernel
theorem dX6_rest_20 : decode cX6_rest 20 = .ok (.iload 5, 2) := by decide +kernel
theorem dX6_rest_22 : decode cX6_rest 22 = .ok (.ifCond .le 16, 3) := by decide +kernel
theorem dX6_rest_25 : decode cX6_rest 25 = .ok (.lload_n 3, 1) := by decide +kernel
theorem dX6_rest_26 : decode cX6_rest 26 = .ok (.lload_n 3, 1) := by decide +kernel
theorem dX6_rest_27 : decode cX6_rest 27 = .ok (.ladd, 1) := by decide +kernel
theorem dX6_rest_28 : decode cX6_rest 28 = .ok (.iload_n 2, 1) := by decide +kernel
theorem dX6_rest_29 : decode cX6_rest 29 = .ok (.i2l, 1) := by decide +kernel
theorem dX6_rest_30 : decode cX6_rest 30 = .ok (.lrem, 1) := by decide +kernel
theorem dX6_rest_31 : decode cX6_rest 31 = .ok (.lstore_n 3, 1) := by decide +kernel
theorem dX6_rest_32 : decode cX6_rest 32 = .ok (.iinc 5 (-1), 3) := by decide +kernel
theorem dX6_rest_35 : decode cX6_rest 35 = .ok (.goto (-15), 3) := by decide +kernel
theorem dX6_rest_38 : decode cX6_rest 38 = .ok (.lload_n 3, 1) := by decide +kernel
theorem dX6_rest_39 : decode cX6_rest 39 = .ok (.lreturn, 1) := by decide +kernel
set_option maxRecDepth 20000 in
theorem ggX6_restOf_X6_rest : GoodIn wsX6_restOf wsX6_rest := goodIn_ca (goodIn_r _ [4, 5, 6, 3, 7, 8, 9, 10, 11, 12, 13, 14, 15] (by decide +kernel) (by decide +kernel)) (goodIn_sub (fun _ h => List.mem_cons_of_mem _ (List.mem_append_right _ h)) (by decide +kernel))
set_option maxRecDepth 20000 in
theorem gX6_restOf_X6_rest : GoodIn wsX6_restOf (va_wsS RX6 151 yX6_rest wsX6_rest) := goodIn_app (goodIn_of _ (by decide +kernel)) ggX6_restOf_X6_rest
theorem dX6_restOf_0 : decode cX6_restOf 0 = .ok (.lload_n 0, 1) := by decide +kernel
theorem dX6_restOf_1 : decode cX6_restOf 1 = .ok (.lconst 0, 1) := by decide +kernel
theorem dX6_restOf_2 : decode cX6_restOf 2 = .ok (.lcmp, 1) := by decide +kernel
theorem dX6_restOf_3 : decode cX6_restOf 3 = .ok (.ifCond .lt 11, 3) := by decide +kernel
theorem dX6_restOf_6 : decode cX6_restOf 6 = .ok (.lload_n 0, 1) := by decide +kernel
theorem dX6_restOf_7 : decode cX6_restOf 7 = .ok (.iload_n 2, 1) := by decide +kernel
theorem dX6_restOf_8 : decode cX6_restOf 8 = .ok (.invokestatic 151, 3) := by decide +kernel
theorem dX6_restOf_11 : decode cX6_restOf 11 = .ok (.goto 14, 3) := by decide +kernel
theorem dX6_restOf_14 : decode cX6_restOf 14 = .ok (.iload_n 2, 1) := by decide +kernel
theorem dX6_restOf_15 : decode cX6_restOf 15 = .ok (.i2l, 1) := by decide +kernel
theorem dX6_restOf_16 : decode cX6_restOf 16 = .ok (.lload_n 0, 1) := by decide +kernel
theorem dX6_restOf_17 : decode cX6_restOf 17 = .ok (.iload_n 2, 1) := by decide +kernel
theorem dX6_restOf_18 : decode cX6_restOf 18 = .ok (.invokestatic 151, 3) := by decide +kernel
theorem dX6_restOf_21 : decode cX6_restOf 21 = .ok (.lsub, 1) := by decide +kernel
theorem dX6_restOf_22 : decode cX6_restOf 22 = .ok (.iload_n 2, 1) := by decide +kernel
theorem dX6_restOf_23 : decode cX6_restOf 23 = .ok (.i2l, 1) := by decide +kernel
theorem dX6_restOf_24 : decode cX6_restOf 24 = .ok (.lrem, 1) := by decide +kernel
theorem dX6_restOf_25 : decode cX6_restOf 25 = .ok (.lreturn, 1) := by decide +kernel
set_option maxRecDepth 20000 in
theorem ggX6_grains_X6_lacks : GoodIn wsX6_grains wsX6_lacks := goodIn_r _ [7, 8, 9, 6, 10, 11, 12, 13, 14, 15, 16, 17, 18, 37, 38, 39, 40, 41, 42, 43, 44] (by decide +kernel) (by decide +kernel)
set_option maxRecDepth 20000 in
theorem gX6_grains_X6_lacks : GoodIn wsX6_grains (wsV RX6 94 RX6 yX6_lacks wsX6_lacks) := goodIn_app (goodIn_of _ (by decide +kernel)) ggX6_grains_X6_lacks
set_option maxRecDepth 20000 in
theorem ggX6_grains_X6_in : GoodIn wsX6_grains wsX6_in := goodIn_r _ [13] (by decide +kernel) (by decide +kernel)
set_option maxRecDepth 20000 in
theorem gX6_grains_X6_in : GoodIn wsX6_grains (va_wsS RX6 31 yX6_in wsX6_in) := goodIn_app (goodIn_of _ (by decide +kernel)) ggX6_grains_X6_in
set_option maxRecDepth 20000 in
theorem ggX6_grains_X6_no : GoodIn wsX6_grains wsX6_no := goodIn_r _ [17, 18, 37, 38, 39, 40, 41, 42, 43, 44] (by decide +kernel) (by decide +kernel)
set_option maxRecDepth 20000 in
theorem gX6_grains_X6_no : GoodIn wsX6_grains (wsV RX6 39 RX6 yX6_no wsX6_no) := goodIn_app (goodIn_of _ (by decide +kernel)) ggX6_grains_X6_no
set_option maxRecDepth 20000 in
theorem ggX6_grains_X6_isEnd : GoodIn wsX6_grains wsX6_isEnd := goodIn_r _ [21, 22, 23, 24, 6, 25, 26] (by decide +kernel) (by decide +kernel)
set_option maxRecDepth 20000 in
theorem gX6_grains_X6_isEnd : GoodIn wsX6_grains (va_wsS RX6 87 yX6_isEnd wsX6_isEnd) := goodIn_app (goodIn_of _ (by decide +kernel)) ggX6_grains_X6_isEnd
set_option maxRecDepth 20000 in
theorem ggX6_grains_X6_rest : GoodIn wsX6_grains wsX6_rest := goodIn_ca (goodIn_r _ [29, 23, 24, 6, 25, 26, 30, 31, 32, 33, 34, 35, 36] (by decide +kernel) (by decide +kernel)) (goodIn_sub (fun _ h => List.mem_cons_of_mem _ (List.mem_append_right _ h)) (by decide +kernel))
set_option maxRecDepth 20000 in
theorem gX6_grains_X6_rest : GoodIn wsX6_grains (va_wsS RX6 151 yX6_rest wsX6_rest) := goodIn_app (goodIn_of _ (by decide +kernel)) ggX6_grains_X6_rest
theorem dX6_grains_0 : decode cX6_grains 0 = .ok (.aload_n 0, 1) := by decide +kernel
theorem dX6_grains_1 : decode cX6_grains 1 = .ok (.iload_n 1, 1) := by decide +kernel
theorem dX6_grains_2 : decode cX6_grains 2 = .ok (.invokevirtual 94, 3) := by decide +kernel
theorem dX6_grains_5 : decode cX6_grains 5 = .ok (.ifCond .ne 43, 3) := by decide +kernel
theorem dX6_grains_8 : decode cX6_grains 8 = .ok (.aload_n 0, 1) := by decide +kernel
theorem dX6_grains_9 : decode cX6_grains 9 = .ok (.iload_n 2, 1) := by decide +kernel
theorem dX6_grains_10 : decode cX6_grains 10 = .ok (.iconst 1, 1) := by decide +kernel
theorem dX6_grains_11 : decode cX6_grains 11 = .ok (.ldc 154, 2) := by decide +kernel
theorem dX6_grains_13 : decode cX6_grains 13 = .ok (.invokestatic 31, 3) := by decide +kernel
theorem dX6_grains_16 : decode cX6_grains 16 = .ok (.iconst 2, 1) := by decide +kernel
theorem dX6_grains_17 : decode cX6_grains 17 = .ok (.invokevirtual 39, 3) := by decide +kernel
theorem dX6_grains_20 : decode cX6_grains 20 = .ok (.ifCond .ne 28, 3) := by decide +kernel
theorem dX6_grains_23 : decode cX6_grains 23 = .ok (.aload_n 0, 1) := by decide +kernel
theorem dX6_grains_24 : decode cX6_grains 24 = .ok (.aload_n 0, 1) := by decide +kernel
theorem dX6_grains_25 : decode cX6_grains 25 = .ok (.getfield 9, 3) := by decide +kernel
theorem dX6_grains_28 : decode cX6_grains 28 = .ok (.iload_n 1, 1) := by decide +kernel
theorem dX6_grains_29 : decode cX6_grains 29 = .ok (.laload, 1) := by decide +kernel
theorem dX6_grains_30 : decode cX6_grains 30 = .ok (.invokestatic 87, 3) := by decide +kernel
theorem dX6_grains_33 : decode cX6_grains 33 = .ok (.ifCond .ne 7, 3) := by decide +kernel
theorem dX6_grains_36 : decode cX6_grains 36 = .ok (.iconst 1, 1) := by decide +kernel
theorem dX6_grains_37 : decode cX6_grains 37 = .ok (.goto 4, 3) := by decide +kernel
theorem dX6_grains_40 : decode cX6_grains 40 = .ok (.iconst 0, 1) := by decide +kernel
theorem dX6_grains_41 : decode cX6_grains 41 = .ok (.iconst 3, 1) := by decide +kernel
theorem dX6_grains_42 : decode cX6_grains 42 = .ok (.invokevirtual 39, 3) := by decide +kernel
theorem dX6_grains_45 : decode cX6_grains 45 = .ok (.ifCond .eq 5, 3) := by decide +kernel
theorem dX6_grains_48 : decode cX6_grains 48 = .ok (.iconst 0, 1) := by decide +kernel
theorem dX6_grains_49 : decode cX6_grains 49 = .ok (.ireturn, 1) := by decide +kernel
theorem dX6_grains_50 : decode cX6_grains 50 = .ok (.aload_n 0, 1) := by decide +kernel
theorem dX6_grains_51 : decode cX6_grains 51 = .ok (.getfield 9, 3) := by decide +kernel
theorem dX6_grains_54 : decode cX6_grains 54 = .ok (.iload_n 1, 1) := by decide +kernel
theorem dX6_grains_55 : decode cX6_grains 55 = .ok (.laload, 1) := by decide +kernel
theorem dX6_grains_56 : decode cX6_grains 56 = .ok (.iload_n 2, 1) := by decide +kernel
theorem dX6_grains_57 : decode cX6_grains 57 = .ok (.invokestatic 151, 3) := by decide +kernel
theorem dX6_grains_60 : decode cX6_grains 60 = .ok (.l2i, 1) := by decide +kernel
theorem dX6_grains_61 : decode cX6_grains 61 = .ok (.ireturn, 1) := by decide +kernel
set_option maxRecDepth 20000 in
theorem ggX6_gap_X6_lacks_ : GoodIn wsX6_gap wsX6_lacks_ := goodIn_r _ [7, 8, 9, 6, 10, 11, 12, 13, 14, 15, 16, 17, 18, 47, 48, 49, 50, 51, 52, 53, 54] (by decide +kernel) (by decide +kernel)
set_option maxRecDepth 20000 in
theorem gX6_gap_X6_lacks_ : GoodIn wsX6_gap (wsV RX6 101 RX6 yX6_lacks_ wsX6_lacks_) := goodIn_app (goodIn_of _ (by decide +kernel)) ggX6_gap_X6_lacks_
set_option maxRecDepth 20000 in
theorem ggX6_gap_X6_in : GoodIn wsX6_gap wsX6_in := goodIn_r _ [13] (by decide +kernel) (by decide +kernel)
set_option maxRecDepth 20000 in
theorem gX6_gap_X6_in : GoodIn wsX6_gap (va_wsS RX6 31 yX6_in wsX6_in) := goodIn_app (goodIn_of _ (by decide +kernel)) ggX6_gap_X6_in
set_option maxRecDepth 20000 in
theorem ggX6_gap_X6_no : GoodIn wsX6_gap wsX6_no := goodIn_r _ [17, 18, 47, 48, 49, 50, 51, 52, 53, 54] (by decide +kernel) (by decide +kernel)
set_option maxRecDepth 20000 in
theorem gX6_gap_X6_no : GoodIn wsX6_gap (wsV RX6 39 RX6 yX6_no wsX6_no) := goodIn_app (goodIn_of _ (by decide +kernel)) ggX6_gap_X6_no
set_option maxRecDepth 20000 in
theorem ggX6_gap_X6_isEnd : GoodIn wsX6_gap wsX6_isEnd := goodIn_r _ [21, 22, 23, 24, 6, 25, 26] (by decide +kernel) (by decide +kernel)
set_option maxRecDepth 20000 in
theorem gX6_gap_X6_isEnd : GoodIn wsX6_gap (va_wsS RX6 87 yX6_isEnd wsX6_isEnd) := goodIn_app (goodIn_of _ (by decide +kernel)) ggX6_gap_X6_isEnd
set_option maxRecDepth 20000 in
theorem ggX6_gap_X6_placeIn : GoodIn wsX6_gap wsX6_placeIn := goodIn_ca (goodIn_r _ [30, 2, 31, 32, 6, 33, 47, 48, 49, 50, 51, 52, 53, 54] (by decide +kernel) (by decide +kernel)) (goodIn_sub (fun _ h => List.mem_cons_of_mem _ (List.mem_append_left _ (List.mem_append_right _ h))) (by decide +kernel))
set_option maxRecDepth 20000 in
theorem gX6_gap_X6_placeIn : GoodIn wsX6_gap (wsV RX6 123 RX6 yX6_placeIn wsX6_placeIn) := goodIn_app (goodIn_of _ (by decide +kernel)) ggX6_gap_X6_placeIn
set_option maxRecDepth 20000 in
theorem ggX6_gap_X6_restOf : GoodIn wsX6_gap wsX6_restOf := goodIn_ca (goodIn_r _ [36, 37, 38, 6, 39, 23, 24, 25, 26, 40, 41, 42, 43, 44, 45, 46] (by decide +kernel) (by decide +kernel)) (goodIn_sub (fun _ h => List.mem_cons_of_mem _ (List.mem_append_right _ h)) (by decide +kernel))
set_option maxRecDepth 20000 in
theorem gX6_gap_X6_restOf : GoodIn wsX6_gap (va_wsS RX6 155 yX6_restOf wsX6_restOf) := goodIn_app (goodIn_of _ (by decide +kernel)) ggX6_gap_X6_restOf
theorem dX6_gap_0 : decode cX6_gap 0 = .ok (.aload_n 0, 1) := by decide +kernel
theorem dX6_gap_1 : decode cX6_gap 1 = .ok (.iload_n 1, 1) := by decide +kernel
theorem dX6_gap_2 : decode cX6_gap 2 = .ok (.iload_n 2, 1) := by decide +kernel
theorem dX6_gap_3 : decode cX6_gap 3 = .ok (.invokevirtual 101, 3) := by decide +kernel
theorem dX6_gap_6 : decode cX6_gap 6 = .ok (.ifCond .ne 55, 3) := by decide +kernel
theorem dX6_gap_9 : decode cX6_gap 9 = .ok (.aload_n 0, 1) := by decide +kernel
theorem dX6_gap_10 : decode cX6_gap 10 = .ok (.iload_n 3, 1) := by decide +kernel
theorem dX6_gap_11 : decode cX6_gap 11 = .ok (.iconst 1, 1) := by decide +kernel
theorem dX6_gap_12 : decode cX6_gap 12 = .ok (.ldc 154, 2) := by decide +kernel
theorem dX6_gap_14 : decode cX6_gap 14 = .ok (.invokestatic 31, 3) := by decide +kernel
theorem dX6_gap_17 : decode cX6_gap 17 = .ok (.iconst 2, 1) := by decide +kernel
theorem dX6_gap_18 : decode cX6_gap 18 = .ok (.invokevirtual 39, 3) := by decide +kernel
theorem dX6_gap_21 : decode cX6_gap 21 = .ok (.ifCond .ne 40, 3) := by decide +kernel
theorem dX6_gap_24 : decode cX6_gap 24 = .ok (.aload_n 0, 1) := by decide +kernel
theorem dX6_gap_25 : decode cX6_gap 25 = .ok (.aload_n 0, 1) := by decide +kernel
theorem dX6_gap_26 : decode cX6_gap 26 = .ok (.getfield 9, 3) := by decide +kernel
theorem dX6_gap_29 : decode cX6_gap 29 = .ok (.iload_n 1, 1) := by decide +kernel
theorem dX6_gap_30 : decode cX6_gap 30 = .ok (.laload, 1) := by decide +kernel
theorem dX6_gap_31 : decode cX6_gap 31 = .ok (.invokestatic 87, 3) := by decide +kernel
theorem dX6_gap_34 : decode cX6_gap 34 = .ok (.ifCond .ne 19, 3) := by decide +kernel
theorem dX6_gap_37 : decode cX6_gap 37 = .ok (.aload_n 0, 1) := by decide +kernel
theorem dX6_gap_38 : decode cX6_gap 38 = .ok (.getfield 9, 3) := by decide +kernel
theorem dX6_gap_41 : decode cX6_gap 41 = .ok (.iload_n 2, 1) := by decide +kernel
theorem dX6_gap_42 : decode cX6_gap 42 = .ok (.laload, 1) := by decide +kernel
theorem dX6_gap_43 : decode cX6_gap 43 = .ok (.invokestatic 87, 3) := by decide +kernel
theorem dX6_gap_46 : decode cX6_gap 46 = .ok (.ifCond .ne 7, 3) := by decide +kernel
theorem dX6_gap_49 : decode cX6_gap 49 = .ok (.iconst 1, 1) := by decide +kernel
theorem dX6_gap_50 : decode cX6_gap 50 = .ok (.goto 4, 3) := by decide +kernel
theorem dX6_gap_53 : decode cX6_gap 53 = .ok (.iconst 0, 1) := by decide +kernel
theorem dX6_gap_54 : decode cX6_gap 54 = .ok (.iconst 3, 1) := by decide +kernel
theorem dX6_gap_55 : decode cX6_gap 55 = .ok (.invokevirtual 39, 3) := by decide +kernel
theorem dX6_gap_58 : decode cX6_gap 58 = .ok (.ifCond .eq 5, 3) := by decide +kernel
theorem dX6_gap_61 : decode cX6_gap 61 = .ok (.iconst 0, 1) := by decide +kernel
theorem dX6_gap_62 : decode cX6_gap 62 = .ok (.ireturn, 1) := by decide +kernel
theorem dX6_gap_63 : decode cX6_gap 63 = .ok (.aload_n 0, 1) := by decide +kernel
theorem dX6_gap_64 : decode cX6_gap 64 = .ok (.iload_n 1, 1) := by decide +kernel
theorem dX6_gap_65 : decode cX6_gap 65 = .ok (.invokevirtual 123, 3) := by decide +kernel
theorem dX6_gap_68 : decode cX6_gap 68 = .ok (.aload_n 0, 1) := by decide +kernel
theorem dX6_gap_69 : decode cX6_gap 69 = .ok (.iload_n 2, 1) := by decide +kernel
theorem dX6_gap_70 : decode cX6_gap 70 = .ok (.invokevirtual 123, 3) := by decide +kernel
theorem dX6_gap_73 : decode cX6_gap 73 = .ok (.lcmp, 1) := by decide +kernel
theorem dX6_gap_74 : decode cX6_gap 74 = .ok (.ifCond .lt 7, 3) := by decide +kernel
theorem dX6_gap_77 : decode cX6_gap 77 = .ok (.iconst 1, 1) := by decide +kernel
theorem dX6_gap_78 : decode cX6_gap 78 = .ok (.goto 4, 3) := by decide +kernel
theorem dX6_gap_81 : decode cX6_gap 81 = .ok (.iconst 0, 1) := by decide +kernel
theorem dX6_gap_82 : decode cX6_gap 82 = .ok (.istore 4, 2) := by decide +kernel
theorem dX6_gap_84 : decode cX6_gap 84 = .ok (.aload_n 0, 1) := by decide +kernel
theorem dX6_gap_85 : decode cX6_gap 85 = .ok (.getfield 9, 3) := by decide +kernel
theorem dX6_gap_88 : decode cX6_gap 88 = .ok (.iload 4, 2) := by decide +kernel
theorem dX6_gap_90 : decode cX6_gap 90 = .ok (.ifCond .eq 7, 3) := by decide +kernel
theorem dX6_gap_93 : decode cX6_gap 93 = .ok (.iload_n 1, 1) := by decide +kernel
theorem dX6_gap_94 : decode cX6_gap 94 = .ok (.goto 4, 3) := by decide +kernel
theorem dX6_gap_97 : decode cX6_gap 97 = .ok (.iload_n 2, 1) := by decide +kernel
theorem dX6_gap_98 : decode cX6_gap 98 = .ok (.laload, 1) := by decide +kernel
theorem dX6_gap_99 : decode cX6_gap 99 = .ok (.lstore 5, 2) := by decide +kernel
theorem dX6_gap_101 : decode cX6_gap 101 = .ok (.aload_n 0, 1) := by decide +kernel
theorem dX6_gap_102 : decode cX6_gap 102 = .ok (.getfield 9, 3) := by decide +kernel
theorem dX6_gap_105 : decode cX6_gap 105 = .ok (.iload 4, 2) := by decide +kernel
theorem dX6_gap_107 : decode cX6_gap 107 = .ok (.ifCond .eq 7, 3) := by decide +kernel
theorem dX6_gap_110 : decode cX6_gap 110 = .ok (.iload_n 2, 1) := by decide +kernel
theorem dX6_gap_111 : decode cX6_gap 111 = .ok (.goto 4, 3) := by decide +kernel
theorem dX6_gap_114 : decode cX6_gap 114 = .ok (.iload_n 1, 1) := by decide +kernel
theorem dX6_gap_115 : decode cX6_gap 115 = .ok (.laload, 1) := by decide +kernel
theorem dX6_gap_116 : decode cX6_gap 116 = .ok (.lstore 7, 2) := by decide +kernel
theorem dX6_gap_118 : decode cX6_gap 118 = .ok (.lload 5, 2) := by decide +kernel
theorem dX6_gap_120 : decode cX6_gap 120 = .ok (.iload_n 3, 1) := by decide +kernel
theorem dX6_gap_121 : decode cX6_gap 121 = .ok (.invokestatic 155, 3) := by decide +kernel
theorem dX6_gap_124 : decode cX6_gap 124 = .ok (.iload_n 3, 1) := by decide +kernel
theorem dX6_gap_125 : decode cX6_gap 125 = .ok (.i2l, 1) := by decide +kernel
theorem dX6_gap_126 : decode cX6_gap 126 = .ok (.ladd, 1) := by decide +kernel
theorem dX6_gap_127 : decode cX6_gap 127 = .ok (.lload 7, 2) := by decide +kernel
theorem dX6_gap_129 : decode cX6_gap 129 = .ok (.iload_n 3, 1) := by decide +kernel
theorem dX6_gap_130 : decode cX6_gap 130 = .ok (.invokestatic 155, 3) := by decide +kernel
theorem dX6_gap_133 : decode cX6_gap 133 = .ok (.lsub, 1) := by decide +kernel
theorem dX6_gap_134 : decode cX6_gap 134 = .ok (.iload_n 3, 1) := by decide +kernel
theorem dX6_gap_135 : decode cX6_gap 135 = .ok (.i2l, 1) := by decide +kernel
theorem dX6_gap_136 : decode cX6_gap 136 = .ok (.lrem, 1) := by decide +kernel
theorem dX6_gap_137 : decode cX6_gap 137 = .ok (.l2i, 1) := by decide +kernel
theorem dX6_gap_138 : decode cX6_gap 138 = .ok (.ireturn, 1) := by decide +kernel
set_option maxRecDepth 20000 in
theorem ggX6_digits_X6_whole : GoodIn wsX6_digits wsX6_whole := goodIn_r _ [6, 7] (by decide +kernel) (by decide +kernel)
set_option maxRecDepth 20000 in
theorem gX6_digits_X6_whole : GoodIn wsX6_digits (va_wsS RX6 70 yX6_whole wsX6_whole) := goodIn_app (goodIn_of _ (by decide +kernel)) ggX6_digits_X6_whole
set_option maxRecDepth 20000 in
theorem ggX6_digits_X6_shift : GoodIn wsX6_digits wsX6_shift := goodIn_r _ [10, 7] (by decide +kernel) (by decide +kernel)
set_option maxRecDepth 20000 in
theorem gX6_digits_X6_shift : GoodIn wsX6_digits (va_wsS RX6 73 yX6_shift wsX6_shift) := goodIn_app (goodIn_of _ (by decide +kernel)) ggX6_digits_X6_shift
theorem dX6_digits_0 : decode cX6_digits 0 = .ok (.bipush 72, 2) := by decide +kernel
theorem dX6_digits_2 : decode cX6_digits 2 = .ok (.newarray .long, 2) := by decide +kernel
theorem dX6_digits_4 : decode cX6_digits 4 = .ok (.astore_n 2, 1) := by decide +kernel
theorem dX6_digits_5 : decode cX6_digits 5 = .ok (.lload_n 0, 1) := by decide +kernel
theorem dX6_digits_6 : decode cX6_digits 6 = .ok (.invokestatic 70, 3) := by decide +kernel
theorem dX6_digits_9 : decode cX6_digits 9 = .ok (.lstore_n 3, 1) := by decide +kernel
theorem dX6_digits_10 : decode cX6_digits 10 = .ok (.lload_n 0, 1) := by decide +kernel
theorem dX6_digits_11 : decode cX6_digits 11 = .ok (.invokestatic 73, 3) := by decide +kernel
theorem dX6_digits_14 : decode cX6_digits 14 = .ok (.istore 5, 2) := by decide +kernel
theorem dX6_digits_16 : decode cX6_digits 16 = .ok (.lload_n 3, 1) := by decide +kernel
theorem dX6_digits_17 : decode cX6_digits 17 = .ok (.lconst 0, 1) := by decide +kernel
theorem dX6_digits_18 : decode cX6_digits 18 = .ok (.lcmp, 1) := by decide +kernel
theorem dX6_digits_19 : decode cX6_digits 19 = .ok (.ifCond .le 42, 3) := by decide +kernel
theorem dX6_digits_22 : decode cX6_digits 22 = .ok (.lload_n 3, 1) := by decide +kernel
theorem dX6_digits_23 : decode cX6_digits 23 = .ok (.ldc2_w 68, 3) := by decide +kernel
theorem dX6_digits_26 : decode cX6_digits 26 = .ok (.lrem, 1) := by decide +kernel
theorem dX6_digits_27 : decode cX6_digits 27 = .ok (.lconst 1, 1) := by decide +kernel
theorem dX6_digits_28 : decode cX6_digits 28 = .ok (.lcmp, 1) := by decide +kernel
theorem dX6_digits_29 : decode cX6_digits 29 = .ok (.ifCond .ne 20, 3) := by decide +kernel
theorem dX6_digits_32 : decode cX6_digits 32 = .ok (.aload_n 2, 1) := by decide +kernel
theorem dX6_digits_33 : decode cX6_digits 33 = .ok (.iload 5, 2) := by decide +kernel
theorem dX6_digits_35 : decode cX6_digits 35 = .ok (.bipush 30, 2) := by decide +kernel
theorem dX6_digits_37 : decode cX6_digits 37 = .ok (.idiv, 1) := by decide +kernel
theorem dX6_digits_38 : decode cX6_digits 38 = .ok (.dup2, 1) := by decide +kernel
theorem dX6_digits_39 : decode cX6_digits 39 = .ok (.laload, 1) := by decide +kernel
theorem dX6_digits_40 : decode cX6_digits 40 = .ok (.lconst 1, 1) := by decide +kernel
theorem dX6_digits_41 : decode cX6_digits 41 = .ok (.iload 5, 2) := by decide +kernel
theorem dX6_digits_43 : decode cX6_digits 43 = .ok (.bipush 30, 2) := by decide +kernel
theorem dX6_digits_45 : decode cX6_digits 45 = .ok (.irem, 1) := by decide +kernel
theorem dX6_digits_46 : decode cX6_digits 46 = .ok (.lshl, 1) := by decide +kernel
theorem dX6_digits_47 : decode cX6_digits 47 = .ok (.ladd, 1) := by decide +kernel
theorem dX6_digits_48 : decode cX6_digits 48 = .ok (.lastore, 1) := by decide +kernel
theorem dX6_digits_49 : decode cX6_digits 49 = .ok (.lload_n 3, 1) := by decide +kernel
theorem dX6_digits_50 : decode cX6_digits 50 = .ok (.ldc2_w 68, 3) := by decide +kernel
theorem dX6_digits_53 : decode cX6_digits 53 = .ok (.ldiv, 1) := by decide +kernel
theorem dX6_digits_54 : decode cX6_digits 54 = .ok (.lstore_n 3, 1) := by decide +kernel
theorem dX6_digits_55 : decode cX6_digits 55 = .ok (.iinc 5 1, 3) := by decide +kernel
theorem dX6_digits_58 : decode cX6_digits 58 = .ok (.goto (-42), 3) := by decide +kernel
theorem dX6_digits_61 : decode cX6_digits 61 = .ok (.aload_n 2, 1) := by decide +kernel
theorem dX6_digits_62 : decode cX6_digits 62 = .ok (.areturn, 1) := by decide +kernel
theorem dX6_sum_0 : decode cX6_sum 0 = .ok (.bipush 72, 2) := by decide +kernel
theorem dX6_sum_2 : decode cX6_sum 2 = .ok (.newarray .long, 2) := by decide +kernel
theorem dX6_sum_4 : decode cX6_sum 4 = .ok (.astore_n 3, 1) := by decide +kernel
theorem dX6_sum_5 : decode cX6_sum 5 = .ok (.lconst 0, 1) := by decide +kernel
theorem dX6_sum_6 : decode cX6_sum 6 = .ok (.lstore 4, 2) := by decide +kernel
theorem dX6_sum_8 : decode cX6_sum 8 = .ok (.iconst 0, 1) := by decide +kernel
theorem dX6_sum_9 : decode cX6_sum 9 = .ok (.istore 6, 2) := by decide +kernel
theorem dX6_sum_11 : decode cX6_sum 11 = .ok (.iload 6, 2) := by decide +kernel
theorem dX6_sum_13 : decode cX6_sum 13 = .ok (.bipush 72, 2) := by decide +kernel
theorem dX6_sum_15 : decode cX6_sum 15 = .ok (.if_icmp .ge 45, 3) := by decide +kernel
theorem dX6_sum_18 : decode cX6_sum 18 = .ok (.aload_n 0, 1) := by decide +kernel
theorem dX6_sum_19 : decode cX6_sum 19 = .ok (.iload 6, 2) := by decide +kernel
theorem dX6_sum_21 : decode cX6_sum 21 = .ok (.laload, 1) := by decide +kernel
theorem dX6_sum_22 : decode cX6_sum 22 = .ok (.iload_n 2, 1) := by decide +kernel
theorem dX6_sum_23 : decode cX6_sum 23 = .ok (.i2l, 1) := by decide +kernel
theorem dX6_sum_24 : decode cX6_sum 24 = .ok (.aload_n 1, 1) := by decide +kernel
theorem dX6_sum_25 : decode cX6_sum 25 = .ok (.iload 6, 2) := by decide +kernel
theorem dX6_sum_27 : decode cX6_sum 27 = .ok (.laload, 1) := by decide +kernel
theorem dX6_sum_28 : decode cX6_sum 28 = .ok (.lmul, 1) := by decide +kernel
theorem dX6_sum_29 : decode cX6_sum 29 = .ok (.ladd, 1) := by decide +kernel
theorem dX6_sum_30 : decode cX6_sum 30 = .ok (.lload 4, 2) := by decide +kernel
theorem dX6_sum_32 : decode cX6_sum 32 = .ok (.ladd, 1) := by decide +kernel
theorem dX6_sum_33 : decode cX6_sum 33 = .ok (.lstore 7, 2) := by decide +kernel
theorem dX6_sum_35 : decode cX6_sum 35 = .ok (.lload 7, 2) := by decide +kernel
theorem dX6_sum_37 : decode cX6_sum 37 = .ok (.bipush 30, 2) := by decide +kernel
theorem dX6_sum_39 : decode cX6_sum 39 = .ok (.lshr, 1) := by decide +kernel
theorem dX6_sum_40 : decode cX6_sum 40 = .ok (.lstore 4, 2) := by decide +kernel
theorem dX6_sum_42 : decode cX6_sum 42 = .ok (.aload_n 3, 1) := by decide +kernel
theorem dX6_sum_43 : decode cX6_sum 43 = .ok (.iload 6, 2) := by decide +kernel
theorem dX6_sum_45 : decode cX6_sum 45 = .ok (.lload 7, 2) := by decide +kernel
theorem dX6_sum_47 : decode cX6_sum 47 = .ok (.lload 4, 2) := by decide +kernel
theorem dX6_sum_49 : decode cX6_sum 49 = .ok (.bipush 30, 2) := by decide +kernel
theorem dX6_sum_51 : decode cX6_sum 51 = .ok (.lshl, 1) := by decide +kernel
theorem dX6_sum_52 : decode cX6_sum 52 = .ok (.lsub, 1) := by decide +kernel
theorem dX6_sum_53 : decode cX6_sum 53 = .ok (.lastore, 1) := by decide +kernel
theorem dX6_sum_54 : decode cX6_sum 54 = .ok (.iinc 6 1, 3) := by decide +kernel
theorem dX6_sum_57 : decode cX6_sum 57 = .ok (.goto (-46), 3) := by decide +kernel
theorem dX6_sum_60 : decode cX6_sum 60 = .ok (.aload_n 3, 1) := by decide +kernel
theorem dX6_sum_61 : decode cX6_sum 61 = .ok (.areturn, 1) := by decide +kernel
set_option maxRecDepth 20000 in
theorem ggX6_far_X6_size : GoodIn wsX6_far wsX6_size := goodIn_r _ [4, 5] (by decide +kernel) (by decide +kernel)
set_option maxRecDepth 20000 in
theorem gX6_far_X6_size : GoodIn wsX6_far (va_wsS RX6 45 yX6_size wsX6_size) := goodIn_app (goodIn_of _ (by decide +kernel)) ggX6_far_X6_size
set_option maxRecDepth 20000 in
theorem ggX6_far_X6_digits : GoodIn wsX6_far wsX6_digits := goodIn_ca (goodIn_r _ [8, 9, 10, 11, 12, 3, 13, 14, 15, 16, 17] (by decide +kernel) (by decide +kernel)) (goodIn_sub (fun _ h => List.mem_cons_of_mem _ (List.mem_append_right _ h)) (by decide +kernel))
set_option maxRecDepth 20000 in
theorem gX6_far_X6_digits : GoodIn wsX6_far (va_wsS RX6 158 yX6_digits wsX6_digits) := goodIn_app (goodIn_of _ (by decide +kernel)) ggX6_far_X6_digits
set_option maxRecDepth 20000 in
theorem ggX6_far_X6_sum : GoodIn wsX6_far wsX6_sum := goodIn_ca (goodIn_r _ [20, 9] (by decide +kernel) (by decide +kernel)) (goodIn_sub (fun _ h => List.mem_cons_of_mem _ (List.mem_append_right _ h)) (by decide +kernel))
set_option maxRecDepth 20000 in
theorem gX6_far_X6_sum : GoodIn wsX6_far (va_wsS RX6 162 yX6_sum wsX6_sum) := goodIn_app (goodIn_of _ (by decide +kernel)) ggX6_far_X6_sum
theorem dX6_far_0 : decode cX6_far 0 = .ok (.lload_n 0, 1) := by decide +kernel
theorem dX6_far_1 : decode cX6_far 1 = .ok (.invokestatic 45, 3) := by decide +kernel
theorem dX6_far_4 : decode cX6_far 4 = .ok (.invokestatic 158, 3) := by decide +kernel
theorem dX6_far_7 : decode cX6_far 7 = .ok (.astore 4, 2) := by decide +kernel
theorem dX6_far_9 : decode cX6_far 9 = .ok (.lload_n 2, 1) := by decide +kernel
theorem dX6_far_10 : decode cX6_far 10 = .ok (.invokestatic 45, 3) := by decide +kernel
theorem dX6_far_13 : decode cX6_far 13 = .ok (.invokestatic 158, 3) := by decide +kernel
theorem dX6_far_16 : decode cX6_far 16 = .ok (.astore 5, 2) := by decide +kernel
theorem dX6_far_18 : decode cX6_far 18 = .ok (.lload_n 0, 1) := by decide +kernel
theorem dX6_far_19 : decode cX6_far 19 = .ok (.lconst 0, 1) := by decide +kernel
theorem dX6_far_20 : decode cX6_far 20 = .ok (.lcmp, 1) := by decide +kernel
theorem dX6_far_21 : decode cX6_far 21 = .ok (.ifCond .lt 7, 3) := by decide +kernel
theorem dX6_far_24 : decode cX6_far 24 = .ok (.iconst 1, 1) := by decide +kernel
theorem dX6_far_25 : decode cX6_far 25 = .ok (.goto 4, 3) := by decide +kernel
theorem dX6_far_28 : decode cX6_far 28 = .ok (.iconst 0, 1) := by decide +kernel
theorem dX6_far_29 : decode cX6_far 29 = .ok (.lload_n 2, 1) := by decide +kernel
theorem dX6_far_30 : decode cX6_far 30 = .ok (.lconst 0, 1) := by decide +kernel
theorem dX6_far_31 : decode cX6_far 31 = .ok (.lcmp, 1) := by decide +kernel
theorem dX6_far_32 : decode cX6_far 32 = .ok (.ifCond .lt 7, 3) := by decide +kernel
theorem dX6_far_35 : decode cX6_far 35 = .ok (.iconst 1, 1) := by decide +kernel
theorem dX6_far_36 : decode cX6_far 36 = .ok (.goto 4, 3) := by decide +kernel
theorem dX6_far_39 : decode cX6_far 39 = .ok (.iconst 0, 1) := by decide +kernel
theorem dX6_far_40 : decode cX6_far 40 = .ok (.if_icmp .eq 12, 3) := by decide +kernel
theorem dX6_far_43 : decode cX6_far 43 = .ok (.aload 4, 2) := by decide +kernel
theorem dX6_far_45 : decode cX6_far 45 = .ok (.aload 5, 2) := by decide +kernel
theorem dX6_far_47 : decode cX6_far 47 = .ok (.iconst 1, 1) := by decide +kernel
theorem dX6_far_48 : decode cX6_far 48 = .ok (.invokestatic 162, 3) := by decide +kernel
theorem dX6_far_51 : decode cX6_far 51 = .ok (.areturn, 1) := by decide +kernel
theorem dX6_far_52 : decode cX6_far 52 = .ok (.lload_n 0, 1) := by decide +kernel
theorem dX6_far_53 : decode cX6_far 53 = .ok (.invokestatic 45, 3) := by decide +kernel
theorem dX6_far_56 : decode cX6_far 56 = .ok (.lload_n 2, 1) := by decide +kernel
theorem dX6_far_57 : decode cX6_far 57 = .ok (.invokestatic 45, 3) := by decide +kernel
theorem dX6_far_60 : decode cX6_far 60 = .ok (.lcmp, 1) := by decide +kernel
theorem dX6_far_61 : decode cX6_far 61 = .ok (.ifCond .lt 14, 3) := by decide +kernel
theorem dX6_far_64 : decode cX6_far 64 = .ok (.aload 4, 2) := by decide +kernel
theorem dX6_far_66 : decode cX6_far 66 = .ok (.aload 5, 2) := by decide +kernel
theorem dX6_far_68 : decode cX6_far 68 = .ok (.iconst (-1), 1) := by decide +kernel
theorem dX6_far_69 : decode cX6_far 69 = .ok (.invokestatic 162, 3) := by decide +kernel
theorem dX6_far_72 : decode cX6_far 72 = .ok (.goto 11, 3) := by decide +kernel
theorem dX6_far_75 : decode cX6_far 75 = .ok (.aload 5, 2) := by decide +kernel
theorem dX6_far_77 : decode cX6_far 77 = .ok (.aload 4, 2) := by decide +kernel
theorem dX6_far_79 : decode cX6_far 79 = .ok (.iconst (-1), 1) := by decide +kernel
theorem dX6_far_80 : decode cX6_far 80 = .ok (.invokestatic 162, 3) := by decide +kernel
theorem dX6_far_83 : decode cX6_far 83 = .ok (.areturn, 1) := by decide +kernel
set_option maxRecDepth 20000 in
theorem ggX6_compareGaps_X6_isSlot : GoodIn wsX6_compareGaps wsX6_isSlot := goodIn_r _ [5, 6, 7, 4, 8] (by decide +kernel) (by decide +kernel)
set_option maxRecDepth 20000 in
theorem gX6_compareGaps_X6_isSlot : GoodIn wsX6_compareGaps (va_wsS RX6 35 yX6_isSlot wsX6_isSlot) := goodIn_app (goodIn_of _ (by decide +kernel)) ggX6_compareGaps_X6_isSlot
set_option maxRecDepth 20000 in
theorem ggX6_compareGaps_X6_no : GoodIn wsX6_compareGaps wsX6_no := goodIn_r _ [12, 13, 40, 41, 42, 43, 44, 45, 46, 47] (by decide +kernel) (by decide +kernel)
set_option maxRecDepth 20000 in
theorem gX6_compareGaps_X6_no : GoodIn wsX6_compareGaps (wsV RX6 39 RX6 yX6_no wsX6_no) := goodIn_app (goodIn_of _ (by decide +kernel)) ggX6_compareGaps_X6_no
set_option maxRecDepth 20000 in
theorem ggX6_compareGaps_X6_isEnd : GoodIn wsX6_compareGaps wsX6_isEnd := goodIn_r _ [16, 17, 18, 19, 4, 20, 21] (by decide +kernel) (by decide +kernel)
set_option maxRecDepth 20000 in
theorem gX6_compareGaps_X6_isEnd : GoodIn wsX6_compareGaps (va_wsS RX6 87 yX6_isEnd wsX6_isEnd) := goodIn_app (goodIn_of _ (by decide +kernel)) ggX6_compareGaps_X6_isEnd
set_option maxRecDepth 20000 in
theorem ggX6_compareGaps_X6_far : GoodIn wsX6_compareGaps wsX6_far := goodIn_ca (goodIn_r _ [24, 18, 19, 4, 20, 21, 25, 26, 27, 28, 29, 30, 31, 32, 33, 34, 35, 36, 37, 38, 39] (by decide +kernel) (by decide +kernel)) (goodIn_sub (fun _ h => List.mem_cons_of_mem _ (List.mem_append_right _ h)) (by decide +kernel))
set_option maxRecDepth 20000 in
theorem gX6_compareGaps_X6_far : GoodIn wsX6_compareGaps (va_wsS RX6 166 yX6_far wsX6_far) := goodIn_app (goodIn_of _ (by decide +kernel)) ggX6_compareGaps_X6_far
theorem dX6_compareGaps_0 : decode cX6_compareGaps 0 = .ok (.aload_n 0, 1) := by decide +kernel
theorem dX6_compareGaps_1 : decode cX6_compareGaps 1 = .ok (.iload_n 1, 1) := by decide +kernel
theorem dX6_compareGaps_2 : decode cX6_compareGaps 2 = .ok (.invokestatic 35, 3) := by decide +kernel
theorem dX6_compareGaps_5 : decode cX6_compareGaps 5 = .ok (.ifCond .eq 29, 3) := by decide +kernel
theorem dX6_compareGaps_8 : decode cX6_compareGaps 8 = .ok (.iload_n 2, 1) := by decide +kernel
theorem dX6_compareGaps_9 : decode cX6_compareGaps 9 = .ok (.invokestatic 35, 3) := by decide +kernel
theorem dX6_compareGaps_12 : decode cX6_compareGaps 12 = .ok (.ifCond .eq 22, 3) := by decide +kernel
theorem dX6_compareGaps_15 : decode cX6_compareGaps 15 = .ok (.iload_n 3, 1) := by decide +kernel
theorem dX6_compareGaps_16 : decode cX6_compareGaps 16 = .ok (.invokestatic 35, 3) := by decide +kernel
theorem dX6_compareGaps_19 : decode cX6_compareGaps 19 = .ok (.ifCond .eq 15, 3) := by decide +kernel
theorem dX6_compareGaps_22 : decode cX6_compareGaps 22 = .ok (.iload 4, 2) := by decide +kernel
theorem dX6_compareGaps_24 : decode cX6_compareGaps 24 = .ok (.invokestatic 35, 3) := by decide +kernel
theorem dX6_compareGaps_27 : decode cX6_compareGaps 27 = .ok (.ifCond .eq 7, 3) := by decide +kernel
theorem dX6_compareGaps_30 : decode cX6_compareGaps 30 = .ok (.iconst 1, 1) := by decide +kernel
theorem dX6_compareGaps_31 : decode cX6_compareGaps 31 = .ok (.goto 4, 3) := by decide +kernel
theorem dX6_compareGaps_34 : decode cX6_compareGaps 34 = .ok (.iconst 0, 1) := by decide +kernel
theorem dX6_compareGaps_35 : decode cX6_compareGaps 35 = .ok (.iconst 1, 1) := by decide +kernel
theorem dX6_compareGaps_36 : decode cX6_compareGaps 36 = .ok (.invokevirtual 39, 3) := by decide +kernel
theorem dX6_compareGaps_39 : decode cX6_compareGaps 39 = .ok (.ifCond .eq 5, 3) := by decide +kernel
theorem dX6_compareGaps_42 : decode cX6_compareGaps 42 = .ok (.iconst 0, 1) := by decide +kernel
theorem dX6_compareGaps_43 : decode cX6_compareGaps 43 = .ok (.ireturn, 1) := by decide +kernel
theorem dX6_compareGaps_44 : decode cX6_compareGaps 44 = .ok (.aload_n 0, 1) := by decide +kernel
theorem dX6_compareGaps_45 : decode cX6_compareGaps 45 = .ok (.aload_n 0, 1) := by decide +kernel
theorem dX6_compareGaps_46 : decode cX6_compareGaps 46 = .ok (.getfield 9, 3) := by decide +kernel
theorem dX6_compareGaps_49 : decode cX6_compareGaps 49 = .ok (.iload_n 1, 1) := by decide +kernel
theorem dX6_compareGaps_50 : decode cX6_compareGaps 50 = .ok (.laload, 1) := by decide +kernel
theorem dX6_compareGaps_51 : decode cX6_compareGaps 51 = .ok (.invokestatic 87, 3) := by decide +kernel
theorem dX6_compareGaps_54 : decode cX6_compareGaps 54 = .ok (.ifCond .ne 44, 3) := by decide +kernel
theorem dX6_compareGaps_57 : decode cX6_compareGaps 57 = .ok (.aload_n 0, 1) := by decide +kernel
theorem dX6_compareGaps_58 : decode cX6_compareGaps 58 = .ok (.getfield 9, 3) := by decide +kernel
theorem dX6_compareGaps_61 : decode cX6_compareGaps 61 = .ok (.iload_n 2, 1) := by decide +kernel
theorem dX6_compareGaps_62 : decode cX6_compareGaps 62 = .ok (.laload, 1) := by decide +kernel
theorem dX6_compareGaps_63 : decode cX6_compareGaps 63 = .ok (.invokestatic 87, 3) := by decide +kernel
theorem dX6_compareGaps_66 : decode cX6_compareGaps 66 = .ok (.ifCond .ne 32, 3) := by decide +kernel
theorem dX6_compareGaps_69 : decode cX6_compareGaps 69 = .ok (.aload_n 0, 1) := by decide +kernel
theorem dX6_compareGaps_70 : decode cX6_compareGaps 70 = .ok (.getfield 9, 3) := by decide +kernel
theorem dX6_compareGaps_73 : decode cX6_compareGaps 73 = .ok (.iload_n 3, 1) := by decide +kernel
theorem dX6_compareGaps_74 : decode cX6_compareGaps 74 = .ok (.laload, 1) := by decide +kernel
theorem dX6_compareGaps_75 : decode cX6_compareGaps 75 = .ok (.invokestatic 87, 3) := by decide +kernel
theorem dX6_compareGaps_78 : decode cX6_compareGaps 78 = .ok (.ifCond .ne 20, 3) := by decide +kernel
theorem dX6_compareGaps_81 : decode cX6_compareGaps 81 = .ok (.aload_n 0, 1) := by decide +kernel
theorem dX6_compareGaps_82 : decode cX6_compareGaps 82 = .ok (.getfield 9, 3) := by decide +kernel
theorem dX6_compareGaps_85 : decode cX6_compareGaps 85 = .ok (.iload 4, 2) := by decide +kernel
theorem dX6_compareGaps_87 : decode cX6_compareGaps 87 = .ok (.laload, 1) := by decide +kernel
theorem dX6_compareGaps_88 : decode cX6_compareGaps 88 = .ok (.invokestatic 87, 3) := by decide +kernel
theorem dX6_compareGaps_91 : decode cX6_compareGaps 91 = .ok (.ifCond .ne 7, 3) := by decide +kernel
theorem dX6_compareGaps_94 : decode cX6_compareGaps 94 = .ok (.iconst 1, 1) := by decide +kernel
theorem dX6_compareGaps_95 : decode cX6_compareGaps 95 = .ok (.goto 4, 3) := by decide +kernel
theorem dX6_compareGaps_98 : decode cX6_compareGaps 98 = .ok (.iconst 0, 1) := by decide +kernel
theorem dX6_compareGaps_99 : decode cX6_compareGaps 99 = .ok (.iconst 2, 1) := by decide +kernel
theorem dX6_compareGaps_100 : decode cX6_compareGaps 100 = .ok (.invokevirtual 39, 3) := by decide +kernel
theorem dX6_compareGaps_103 : decode cX6_compareGaps 103 = .ok (.ifCond .eq 5, 3) := by decide +kernel
theorem dX6_compareGaps_106 : decode cX6_compareGaps 106 = .ok (.iconst 0, 1) := by decide +kernel
theorem dX6_compareGaps_107 : decode cX6_compareGaps 107 = .ok (.ireturn, 1) := by decide +kernel
theorem dX6_compareGaps_108 : decode cX6_compareGaps 108 = .ok (.aload_n 0, 1) := by decide +kernel
theorem dX6_compareGaps_109 : decode cX6_compareGaps 109 = .ok (.getfield 9, 3) := by decide +kernel
theorem dX6_compareGaps_112 : decode cX6_compareGaps 112 = .ok (.iload_n 1, 1) := by decide +kernel
theorem dX6_compareGaps_113 : decode cX6_compareGaps 113 = .ok (.laload, 1) := by decide +kernel
theorem dX6_compareGaps_114 : decode cX6_compareGaps 114 = .ok (.aload_n 0, 1) := by decide +kernel
theorem dX6_compareGaps_115 : decode cX6_compareGaps 115 = .ok (.getfield 9, 3) := by decide +kernel
theorem dX6_compareGaps_118 : decode cX6_compareGaps 118 = .ok (.iload_n 2, 1) := by decide +kernel
theorem dX6_compareGaps_119 : decode cX6_compareGaps 119 = .ok (.laload, 1) := by decide +kernel
theorem dX6_compareGaps_120 : decode cX6_compareGaps 120 = .ok (.invokestatic 166, 3) := by decide +kernel
theorem dX6_compareGaps_123 : decode cX6_compareGaps 123 = .ok (.astore 5, 2) := by decide +kernel
theorem dX6_compareGaps_125 : decode cX6_compareGaps 125 = .ok (.aload_n 0, 1) := by decide +kernel
theorem dX6_compareGaps_126 : decode cX6_compareGaps 126 = .ok (.getfield 9, 3) := by decide +kernel
theorem dX6_compareGaps_129 : decode cX6_compareGaps 129 = .ok (.iload_n 3, 1) := by decide +kernel
theorem dX6_compareGaps_130 : decode cX6_compareGaps 130 = .ok (.laload, 1) := by decide +kernel
theorem dX6_compareGaps_131 : decode cX6_compareGaps 131 = .ok (.aload_n 0, 1) := by decide +kernel
theorem dX6_compareGaps_132 : decode cX6_compareGaps 132 = .ok (.getfield 9, 3) := by decide +kernel
theorem dX6_compareGaps_135 : decode cX6_compareGaps 135 = .ok (.iload 4, 2) := by decide +kernel
theorem dX6_compareGaps_137 : decode cX6_compareGaps 137 = .ok (.laload, 1) := by decide +kernel
theorem dX6_compareGaps_138 : decode cX6_compareGaps 138 = .ok (.invokestatic 166, 3) := by decide +kernel
theorem dX6_compareGaps_141 : decode cX6_compareGaps 141 = .ok (.astore 6, 2) := by decide +kernel
theorem dX6_compareGaps_143 : decode cX6_compareGaps 143 = .ok (.bipush 71, 2) := by decide +kernel
theorem dX6_compareGaps_145 : decode cX6_compareGaps 145 = .ok (.istore 7, 2) := by decide +kernel
theorem dX6_compareGaps_147 : decode cX6_compareGaps 147 = .ok (.iload 7, 2) := by decide +kernel
theorem dX6_compareGaps_149 : decode cX6_compareGaps 149 = .ok (.ifCond .lt 43, 3) := by decide +kernel
theorem dX6_compareGaps_152 : decode cX6_compareGaps 152 = .ok (.aload 5, 2) := by decide +kernel
theorem dX6_compareGaps_154 : decode cX6_compareGaps 154 = .ok (.iload 7, 2) := by decide +kernel
theorem dX6_compareGaps_156 : decode cX6_compareGaps 156 = .ok (.laload, 1) := by decide +kernel
theorem dX6_compareGaps_157 : decode cX6_compareGaps 157 = .ok (.aload 6, 2) := by decide +kernel
theorem dX6_compareGaps_159 : decode cX6_compareGaps 159 = .ok (.iload 7, 2) := by decide +kernel
theorem dX6_compareGaps_161 : decode cX6_compareGaps 161 = .ok (.laload, 1) := by decide +kernel
theorem dX6_compareGaps_162 : decode cX6_compareGaps 162 = .ok (.lcmp, 1) := by decide +kernel
theorem dX6_compareGaps_163 : decode cX6_compareGaps 163 = .ok (.ifCond .eq 23, 3) := by decide +kernel
theorem dX6_compareGaps_166 : decode cX6_compareGaps 166 = .ok (.aload 5, 2) := by decide +kernel
theorem dX6_compareGaps_168 : decode cX6_compareGaps 168 = .ok (.iload 7, 2) := by decide +kernel
theorem dX6_compareGaps_170 : decode cX6_compareGaps 170 = .ok (.laload, 1) := by decide +kernel
theorem dX6_compareGaps_171 : decode cX6_compareGaps 171 = .ok (.aload 6, 2) := by decide +kernel
theorem dX6_compareGaps_173 : decode cX6_compareGaps 173 = .ok (.iload 7, 2) := by decide +kernel
theorem dX6_compareGaps_175 : decode cX6_compareGaps 175 = .ok (.laload, 1) := by decide +kernel
theorem dX6_compareGaps_176 : decode cX6_compareGaps 176 = .ok (.lcmp, 1) := by decide +kernel
theorem dX6_compareGaps_177 : decode cX6_compareGaps 177 = .ok (.ifCond .ge 7, 3) := by decide +kernel
theorem dX6_compareGaps_180 : decode cX6_compareGaps 180 = .ok (.iconst (-1), 1) := by decide +kernel
theorem dX6_compareGaps_181 : decode cX6_compareGaps 181 = .ok (.goto 4, 3) := by decide +kernel
theorem dX6_compareGaps_184 : decode cX6_compareGaps 184 = .ok (.iconst 1, 1) := by decide +kernel
theorem dX6_compareGaps_185 : decode cX6_compareGaps 185 = .ok (.ireturn, 1) := by decide +kernel
theorem dX6_compareGaps_186 : decode cX6_compareGaps 186 = .ok (.iinc 7 (-1), 3) := by decide +kernel
theorem dX6_compareGaps_189 : decode cX6_compareGaps 189 = .ok (.goto (-42), 3) := by decide +kernel
theorem dX6_compareGaps_192 : decode cX6_compareGaps 192 = .ok (.iconst 0, 1) := by decide +kernel
theorem dX6_compareGaps_193 : decode cX6_compareGaps 193 = .ok (.ireturn, 1) := by decide +kernel
set_option maxRecDepth 20000 in
theorem ggX6_isWord_X6_in : GoodIn wsX6_isWord wsX6_in := goodIn_r _ [4] (by decide +kernel) (by decide +kernel)
set_option maxRecDepth 20000 in
theorem gX6_isWord_X6_in : GoodIn wsX6_isWord (va_wsS RX6 31 yX6_in wsX6_in) := goodIn_app (goodIn_of _ (by decide +kernel)) ggX6_isWord_X6_in
theorem dX6_isWord_0 : decode cX6_isWord 0 = .ok (.iload_n 0, 1) := by decide +kernel
theorem dX6_isWord_1 : decode cX6_isWord 1 = .ok (.bipush 110, 2) := by decide +kernel
theorem dX6_isWord_3 : decode cX6_isWord 3 = .ok (.if_icmp .ne 15, 3) := by decide +kernel
theorem dX6_isWord_6 : decode cX6_isWord 6 = .ok (.iload_n 1, 1) := by decide +kernel
theorem dX6_isWord_7 : decode cX6_isWord 7 = .ok (.ifCond .ne 7, 3) := by decide +kernel
theorem dX6_isWord_10 : decode cX6_isWord 10 = .ok (.iconst 1, 1) := by decide +kernel
theorem dX6_isWord_11 : decode cX6_isWord 11 = .ok (.goto 51, 3) := by decide +kernel
theorem dX6_isWord_14 : decode cX6_isWord 14 = .ok (.iconst 0, 1) := by decide +kernel
theorem dX6_isWord_15 : decode cX6_isWord 15 = .ok (.goto 47, 3) := by decide +kernel
theorem dX6_isWord_18 : decode cX6_isWord 18 = .ok (.iload_n 0, 1) := by decide +kernel
theorem dX6_isWord_19 : decode cX6_isWord 19 = .ok (.bipush 120, 2) := by decide +kernel
theorem dX6_isWord_21 : decode cX6_isWord 21 = .ok (.if_icmp .ne 14, 3) := by decide +kernel
theorem dX6_isWord_24 : decode cX6_isWord 24 = .ok (.iload_n 1, 1) := by decide +kernel
theorem dX6_isWord_25 : decode cX6_isWord 25 = .ok (.bipush (-40), 2) := by decide +kernel
theorem dX6_isWord_27 : decode cX6_isWord 27 = .ok (.bipush 40, 2) := by decide +kernel
theorem dX6_isWord_29 : decode cX6_isWord 29 = .ok (.invokestatic 31, 3) := by decide +kernel
theorem dX6_isWord_32 : decode cX6_isWord 32 = .ok (.goto 30, 3) := by decide +kernel
theorem dX6_isWord_35 : decode cX6_isWord 35 = .ok (.iload_n 0, 1) := by decide +kernel
theorem dX6_isWord_36 : decode cX6_isWord 36 = .ok (.bipush 117, 2) := by decide +kernel
theorem dX6_isWord_38 : decode cX6_isWord 38 = .ok (.if_icmp .eq 9, 3) := by decide +kernel
theorem dX6_isWord_41 : decode cX6_isWord 41 = .ok (.iload_n 0, 1) := by decide +kernel
theorem dX6_isWord_42 : decode cX6_isWord 42 = .ok (.bipush 100, 2) := by decide +kernel
theorem dX6_isWord_44 : decode cX6_isWord 44 = .ok (.if_icmp .ne 17, 3) := by decide +kernel
theorem dX6_isWord_47 : decode cX6_isWord 47 = .ok (.iload_n 1, 1) := by decide +kernel
theorem dX6_isWord_48 : decode cX6_isWord 48 = .ok (.iconst 0, 1) := by decide +kernel
theorem dX6_isWord_49 : decode cX6_isWord 49 = .ok (.bipush 15, 2) := by decide +kernel
theorem dX6_isWord_51 : decode cX6_isWord 51 = .ok (.invokestatic 31, 3) := by decide +kernel
theorem dX6_isWord_54 : decode cX6_isWord 54 = .ok (.ifCond .eq 7, 3) := by decide +kernel
theorem dX6_isWord_57 : decode cX6_isWord 57 = .ok (.iconst 1, 1) := by decide +kernel
theorem dX6_isWord_58 : decode cX6_isWord 58 = .ok (.goto 4, 3) := by decide +kernel
theorem dX6_isWord_61 : decode cX6_isWord 61 = .ok (.iconst 0, 1) := by decide +kernel
theorem dX6_isWord_62 : decode cX6_isWord 62 = .ok (.ireturn, 1) := by decide +kernel
set_option maxRecDepth 20000 in
theorem ggX6_say_X6_isWord : GoodIn wsX6_say wsX6_isWord := goodIn_r _ [7, 8, 9, 6, 10] (by decide +kernel) (by decide +kernel)
set_option maxRecDepth 20000 in
theorem gX6_say_X6_isWord : GoodIn wsX6_say (va_wsS RX6 170 yX6_isWord wsX6_isWord) := goodIn_app (goodIn_of _ (by decide +kernel)) ggX6_say_X6_isWord
set_option maxRecDepth 20000 in
theorem ggX6_say_X6_no : GoodIn wsX6_say wsX6_no := goodIn_r _ [14, 15, 16, 17, 18, 19, 20, 21, 22, 23] (by decide +kernel) (by decide +kernel)
set_option maxRecDepth 20000 in
theorem gX6_say_X6_no : GoodIn wsX6_say (wsV RX6 39 RX6 yX6_no wsX6_no) := goodIn_app (goodIn_of _ (by decide +kernel)) ggX6_say_X6_no
theorem dX6_say_0 : decode cX6_say 0 = .ok (.aload_n 0, 1) := by decide +kernel
theorem dX6_say_1 : decode cX6_say 1 = .ok (.iload_n 1, 1) := by decide +kernel
theorem dX6_say_2 : decode cX6_say 2 = .ok (.iload_n 2, 1) := by decide +kernel
theorem dX6_say_3 : decode cX6_say 3 = .ok (.invokestatic 170, 3) := by decide +kernel
theorem dX6_say_6 : decode cX6_say 6 = .ok (.iconst 1, 1) := by decide +kernel
theorem dX6_say_7 : decode cX6_say 7 = .ok (.invokevirtual 39, 3) := by decide +kernel
theorem dX6_say_10 : decode cX6_say 10 = .ok (.ifCond .ne 25, 3) := by decide +kernel
theorem dX6_say_13 : decode cX6_say 13 = .ok (.aload_n 0, 1) := by decide +kernel
theorem dX6_say_14 : decode cX6_say 14 = .ok (.aload_n 0, 1) := by decide +kernel
theorem dX6_say_15 : decode cX6_say 15 = .ok (.getfield 174, 3) := by decide +kernel
theorem dX6_say_18 : decode cX6_say 18 = .ok (.bipush 40, 2) := by decide +kernel
theorem dX6_say_20 : decode cX6_say 20 = .ok (.if_icmp .ge 7, 3) := by decide +kernel
theorem dX6_say_23 : decode cX6_say 23 = .ok (.iconst 1, 1) := by decide +kernel
theorem dX6_say_24 : decode cX6_say 24 = .ok (.goto 4, 3) := by decide +kernel
theorem dX6_say_27 : decode cX6_say 27 = .ok (.iconst 0, 1) := by decide +kernel
theorem dX6_say_28 : decode cX6_say 28 = .ok (.iconst 2, 1) := by decide +kernel
theorem dX6_say_29 : decode cX6_say 29 = .ok (.invokevirtual 39, 3) := by decide +kernel
theorem dX6_say_32 : decode cX6_say 32 = .ok (.ifCond .eq 5, 3) := by decide +kernel
theorem dX6_say_35 : decode cX6_say 35 = .ok (.iconst 0, 1) := by decide +kernel
theorem dX6_say_36 : decode cX6_say 36 = .ok (.ireturn, 1) := by decide +kernel
theorem dX6_say_37 : decode cX6_say 37 = .ok (.aload_n 0, 1) := by decide +kernel
theorem dX6_say_38 : decode cX6_say 38 = .ok (.getfield 20, 3) := by decide +kernel
theorem dX6_say_41 : decode cX6_say 41 = .ok (.aload_n 0, 1) := by decide +kernel
theorem dX6_say_42 : decode cX6_say 42 = .ok (.getfield 174, 3) := by decide +kernel
theorem dX6_say_45 : decode cX6_say 45 = .ok (.iload_n 1, 1) := by decide +kernel
theorem dX6_say_46 : decode cX6_say 46 = .ok (.castore, 1) := by decide +kernel
theorem dX6_say_47 : decode cX6_say 47 = .ok (.aload_n 0, 1) := by decide +kernel
theorem dX6_say_48 : decode cX6_say 48 = .ok (.getfield 24, 3) := by decide +kernel
theorem dX6_say_51 : decode cX6_say 51 = .ok (.aload_n 0, 1) := by decide +kernel
theorem dX6_say_52 : decode cX6_say 52 = .ok (.getfield 174, 3) := by decide +kernel
theorem dX6_say_55 : decode cX6_say 55 = .ok (.iload_n 2, 1) := by decide +kernel
theorem dX6_say_56 : decode cX6_say 56 = .ok (.iastore, 1) := by decide +kernel
theorem dX6_say_57 : decode cX6_say 57 = .ok (.aload_n 0, 1) := by decide +kernel
theorem dX6_say_58 : decode cX6_say 58 = .ok (.dup, 1) := by decide +kernel
theorem dX6_say_59 : decode cX6_say 59 = .ok (.getfield 174, 3) := by decide +kernel
theorem dX6_say_62 : decode cX6_say 62 = .ok (.iconst 1, 1) := by decide +kernel
theorem dX6_say_63 : decode cX6_say 63 = .ok (.iadd, 1) := by decide +kernel
theorem dX6_say_64 : decode cX6_say 64 = .ok (.putfield 174, 3) := by decide +kernel
theorem dX6_say_67 : decode cX6_say 67 = .ok (.aload_n 0, 1) := by decide +kernel
theorem dX6_say_68 : decode cX6_say 68 = .ok (.getfield 174, 3) := by decide +kernel
theorem dX6_say_71 : decode cX6_say 71 = .ok (.ireturn, 1) := by decide +kernel
theorem dX6_hush_0 : decode cX6_hush 0 = .ok (.aload_n 0, 1) := by decide +kernel
theorem dX6_hush_1 : decode cX6_hush 1 = .ok (.getfield 174, 3) := by decide +kernel
theorem dX6_hush_4 : decode cX6_hush 4 = .ok (.istore_n 1, 1) := by decide +kernel
theorem dX6_hush_5 : decode cX6_hush 5 = .ok (.aload_n 0, 1) := by decide +kernel
theorem dX6_hush_6 : decode cX6_hush 6 = .ok (.iconst 0, 1) := by decide +kernel
theorem dX6_hush_7 : decode cX6_hush 7 = .ok (.putfield 27, 3) := by decide +kernel
theorem dX6_hush_10 : decode cX6_hush 10 = .ok (.aload_n 0, 1) := by decide +kernel
theorem dX6_hush_11 : decode cX6_hush 11 = .ok (.iconst 0, 1) := by decide +kernel
theorem dX6_hush_12 : decode cX6_hush 12 = .ok (.putfield 174, 3) := by decide +kernel
theorem dX6_hush_15 : decode cX6_hush 15 = .ok (.iload_n 1, 1) := by decide +kernel
theorem dX6_hush_16 : decode cX6_hush 16 = .ok (.ireturn, 1) := by decide +kernel
set_option maxRecDepth 20000 in
theorem ggX6_done_X6_opposite : GoodIn wsX6_done wsX6_opposite := goodIn_r _ [6, 7] (by decide +kernel) (by decide +kernel)
set_option maxRecDepth 20000 in
theorem gX6_done_X6_opposite : GoodIn wsX6_done (va_wsS RX6 57 yX6_opposite wsX6_opposite) := goodIn_app (goodIn_of _ (by decide +kernel)) ggX6_done_X6_opposite
set_option maxRecDepth 20000 in
theorem ggX6_done_X6_scaled : GoodIn wsX6_done wsX6_scaled := goodIn_ca (goodIn_r _ [10, 11, 12, 13, 5, 14, 7, 15, 16, 17, 18, 19, 20, 21, 22, 23, 24, 25, 3, 4, 6] (by decide +kernel) (by decide +kernel)) (goodIn_sub (fun _ h => List.mem_cons_of_mem _ (List.mem_append_right _ h)) (by decide +kernel))
set_option maxRecDepth 20000 in
theorem gX6_done_X6_scaled : GoodIn wsX6_done (va_wsS RX6 136 yX6_scaled wsX6_scaled) := goodIn_app (goodIn_of _ (by decide +kernel)) ggX6_done_X6_scaled
set_option maxRecDepth 20000 in
theorem ggX6_done_X6_above : GoodIn wsX6_done wsX6_above := goodIn_r _ [28, 11, 7, 29, 30, 5, 31, 32, 33, 34] (by decide +kernel) (by decide +kernel)
set_option maxRecDepth 20000 in
theorem gX6_done_X6_above : GoodIn wsX6_done (va_wsS RX6 60 yX6_above wsX6_above) := goodIn_app (goodIn_of _ (by decide +kernel)) ggX6_done_X6_above
set_option maxRecDepth 20000 in
theorem ggX6_done_X6_below : GoodIn wsX6_done wsX6_below := goodIn_r _ [37, 3, 4, 5, 6, 7, 26, 27, 28, 11, 29, 30, 31, 32, 33, 34] (by decide +kernel) (by decide +kernel)
set_option maxRecDepth 20000 in
theorem gX6_done_X6_below : GoodIn wsX6_done (va_wsS RX6 63 yX6_below wsX6_below) := goodIn_app (goodIn_of _ (by decide +kernel)) ggX6_done_X6_below
theorem dX6_done_0 : decode cX6_done 0 = .ok (.aload_n 0, 1) := by decide +kernel
theorem dX6_done_1 : decode cX6_done 1 = .ok (.getfield 20, 3) := by decide +kernel
theorem dX6_done_4 : decode cX6_done 4 = .ok (.iload_n 1, 1) := by decide +kernel
theorem dX6_done_5 : decode cX6_done 5 = .ok (.caload, 1) := by decide +kernel
theorem dX6_done_6 : decode cX6_done 6 = .ok (.istore 5, 2) := by decide +kernel
theorem dX6_done_8 : decode cX6_done 8 = .ok (.aload_n 0, 1) := by decide +kernel
theorem dX6_done_9 : decode cX6_done 9 = .ok (.getfield 24, 3) := by decide +kernel
theorem dX6_done_12 : decode cX6_done 12 = .ok (.iload_n 1, 1) := by decide +kernel
theorem dX6_done_13 : decode cX6_done 13 = .ok (.iaload, 1) := by decide +kernel
theorem dX6_done_14 : decode cX6_done 14 = .ok (.istore 6, 2) := by decide +kernel
theorem dX6_done_16 : decode cX6_done 16 = .ok (.iload 5, 2) := by decide +kernel
theorem dX6_done_18 : decode cX6_done 18 = .ok (.bipush 110, 2) := by decide +kernel
theorem dX6_done_20 : decode cX6_done 20 = .ok (.if_icmp .ne 8, 3) := by decide +kernel
theorem dX6_done_23 : decode cX6_done 23 = .ok (.lload_n 2, 1) := by decide +kernel
theorem dX6_done_24 : decode cX6_done 24 = .ok (.invokestatic 57, 3) := by decide +kernel
theorem dX6_done_27 : decode cX6_done 27 = .ok (.lreturn, 1) := by decide +kernel
theorem dX6_done_28 : decode cX6_done 28 = .ok (.iload 5, 2) := by decide +kernel
theorem dX6_done_30 : decode cX6_done 30 = .ok (.bipush 120, 2) := by decide +kernel
theorem dX6_done_32 : decode cX6_done 32 = .ok (.if_icmp .ne 21, 3) := by decide +kernel
theorem dX6_done_35 : decode cX6_done 35 = .ok (.lload_n 2, 1) := by decide +kernel
theorem dX6_done_36 : decode cX6_done 36 = .ok (.iload 4, 2) := by decide +kernel
theorem dX6_done_38 : decode cX6_done 38 = .ok (.ifCond .eq 9, 3) := by decide +kernel
theorem dX6_done_41 : decode cX6_done 41 = .ok (.iload 6, 2) := by decide +kernel
theorem dX6_done_43 : decode cX6_done 43 = .ok (.ineg, 1) := by decide +kernel
theorem dX6_done_44 : decode cX6_done 44 = .ok (.goto 5, 3) := by decide +kernel
theorem dX6_done_47 : decode cX6_done 47 = .ok (.iload 6, 2) := by decide +kernel
theorem dX6_done_49 : decode cX6_done 49 = .ok (.invokestatic 136, 3) := by decide +kernel
theorem dX6_done_52 : decode cX6_done 52 = .ok (.lreturn, 1) := by decide +kernel
theorem dX6_done_53 : decode cX6_done 53 = .ok (.lload_n 2, 1) := by decide +kernel
theorem dX6_done_54 : decode cX6_done 54 = .ok (.lstore 7, 2) := by decide +kernel
theorem dX6_done_56 : decode cX6_done 56 = .ok (.iconst 0, 1) := by decide +kernel
theorem dX6_done_57 : decode cX6_done 57 = .ok (.istore 9, 2) := by decide +kernel
theorem dX6_done_59 : decode cX6_done 59 = .ok (.iload 9, 2) := by decide +kernel
theorem dX6_done_61 : decode cX6_done 61 = .ok (.iload 6, 2) := by decide +kernel
theorem dX6_done_63 : decode cX6_done 63 = .ok (.if_icmp .ge 41, 3) := by decide +kernel
theorem dX6_done_66 : decode cX6_done 66 = .ok (.iload 5, 2) := by decide +kernel
theorem dX6_done_68 : decode cX6_done 68 = .ok (.bipush 117, 2) := by decide +kernel
theorem dX6_done_70 : decode cX6_done 70 = .ok (.if_icmp .ne 7, 3) := by decide +kernel
theorem dX6_done_73 : decode cX6_done 73 = .ok (.iconst 1, 1) := by decide +kernel
theorem dX6_done_74 : decode cX6_done 74 = .ok (.goto 4, 3) := by decide +kernel
theorem dX6_done_77 : decode cX6_done 77 = .ok (.iconst 0, 1) := by decide +kernel
theorem dX6_done_78 : decode cX6_done 78 = .ok (.iload 4, 2) := by decide +kernel
theorem dX6_done_80 : decode cX6_done 80 = .ok (.if_icmp .eq 11, 3) := by decide +kernel
theorem dX6_done_83 : decode cX6_done 83 = .ok (.lload 7, 2) := by decide +kernel
theorem dX6_done_85 : decode cX6_done 85 = .ok (.invokestatic 60, 3) := by decide +kernel
theorem dX6_done_88 : decode cX6_done 88 = .ok (.goto 8, 3) := by decide +kernel
theorem dX6_done_91 : decode cX6_done 91 = .ok (.lload 7, 2) := by decide +kernel
theorem dX6_done_93 : decode cX6_done 93 = .ok (.invokestatic 63, 3) := by decide +kernel
theorem dX6_done_96 : decode cX6_done 96 = .ok (.lstore 7, 2) := by decide +kernel
theorem dX6_done_98 : decode cX6_done 98 = .ok (.iinc 9 1, 3) := by decide +kernel
theorem dX6_done_101 : decode cX6_done 101 = .ok (.goto (-42), 3) := by decide +kernel
theorem dX6_done_104 : decode cX6_done 104 = .ok (.lload 7, 2) := by decide +kernel
theorem dX6_done_106 : decode cX6_done 106 = .ok (.lreturn, 1) := by decide +kernel
set_option maxRecDepth 20000 in
theorem ggX6_played_X6_done : GoodIn wsX6_played wsX6_done := goodIn_ca (goodIn_ca (goodIn_r _ [6, 7, 8, 9, 10, 5, 11, 12, 13, 14, 15, 16, 17, 18, 19, 20, 21, 22, 23, 24, 25, 26, 27, 28, 29, 30, 31, 32, 33, 34, 35, 36, 37, 38, 39, 40, 41, 42, 43, 44, 45, 46, 47, 48, 49, 50] (by decide +kernel) (by decide +kernel)) (goodIn_sub (fun _ h => List.mem_cons_of_mem _ (List.mem_append_left _ (List.mem_append_right _ h))) (by decide +kernel))) (goodIn_sub (fun _ h => List.mem_cons_of_mem _ (List.mem_append_right _ h)) (by decide +kernel))
set_option maxRecDepth 20000 in
theorem gX6_played_X6_done : GoodIn wsX6_played (wsV RX6 177 RX6 yX6_done wsX6_done) := goodIn_app (goodIn_of _ (by decide +kernel)) ggX6_played_X6_done
theorem dX6_played_0 : decode cX6_played 0 = .ok (.lload_n 1, 1) := by decide +kernel
theorem dX6_played_1 : decode cX6_played 1 = .ok (.lstore_n 3, 1) := by decide +kernel
theorem dX6_played_2 : decode cX6_played 2 = .ok (.iconst 0, 1) := by decide +kernel
theorem dX6_played_3 : decode cX6_played 3 = .ok (.istore 5, 2) := by decide +kernel
theorem dX6_played_5 : decode cX6_played 5 = .ok (.iload 5, 2) := by decide +kernel
theorem dX6_played_7 : decode cX6_played 7 = .ok (.aload_n 0, 1) := by decide +kernel
theorem dX6_played_8 : decode cX6_played 8 = .ok (.getfield 174, 3) := by decide +kernel
theorem dX6_played_11 : decode cX6_played 11 = .ok (.if_icmp .ge 18, 3) := by decide +kernel
theorem dX6_played_14 : decode cX6_played 14 = .ok (.aload_n 0, 1) := by decide +kernel
theorem dX6_played_15 : decode cX6_played 15 = .ok (.iload 5, 2) := by decide +kernel
theorem dX6_played_17 : decode cX6_played 17 = .ok (.lload_n 3, 1) := by decide +kernel
theorem dX6_played_18 : decode cX6_played 18 = .ok (.iconst 0, 1) := by decide +kernel
theorem dX6_played_19 : decode cX6_played 19 = .ok (.invokevirtual 177, 3) := by decide +kernel
theorem dX6_played_22 : decode cX6_played 22 = .ok (.lstore_n 3, 1) := by decide +kernel
theorem dX6_played_23 : decode cX6_played 23 = .ok (.iinc 5 1, 3) := by decide +kernel
theorem dX6_played_26 : decode cX6_played 26 = .ok (.goto (-21), 3) := by decide +kernel
theorem dX6_played_29 : decode cX6_played 29 = .ok (.lload_n 3, 1) := by decide +kernel
theorem dX6_played_30 : decode cX6_played 30 = .ok (.lreturn, 1) := by decide +kernel
set_option maxRecDepth 20000 in
theorem ggX6_playedBack_X6_done : GoodIn wsX6_playedBack wsX6_done := goodIn_ca (goodIn_ca (goodIn_r _ [6, 7, 8, 9, 10, 5, 11, 12, 13, 14, 15, 16, 17, 18, 19, 20, 21, 22, 23, 24, 25, 26, 27, 28, 29, 30, 31, 32, 33, 34, 35, 36, 37, 38, 39, 40, 41, 42, 43, 44, 45, 46, 47, 48, 49, 50] (by decide +kernel) (by decide +kernel)) (goodIn_sub (fun _ h => List.mem_cons_of_mem _ (List.mem_append_left _ (List.mem_append_right _ h))) (by decide +kernel))) (goodIn_sub (fun _ h => List.mem_cons_of_mem _ (List.mem_append_right _ h)) (by decide +kernel))
set_option maxRecDepth 20000 in
theorem gX6_playedBack_X6_done : GoodIn wsX6_playedBack (wsV RX6 177 RX6 yX6_done wsX6_done) := goodIn_app (goodIn_of _ (by decide +kernel)) ggX6_playedBack_X6_done
theorem dX6_playedBack_0 : decode cX6_playedBack 0 = .ok (.lload_n 1, 1) := by decide +kernel
theorem dX6_playedBack_1 : decode cX6_playedBack 1 = .ok (.lstore_n 3, 1) := by decide +kernel
theorem dX6_playedBack_2 : decode cX6_playedBack 2 = .ok (.aload_n 0, 1) := by decide +kernel
theorem dX6_playedBack_3 : decode cX6_playedBack 3 = .ok (.getfield 174, 3) := by decide +kernel
theorem dX6_playedBack_6 : decode cX6_playedBack 6 = .ok (.iconst 1, 1) := by decide +kernel
theorem dX6_playedBack_7 : decode cX6_playedBack 7 = .ok (.isub, 1) := by decide +kernel
theorem dX6_playedBack_8 : decode cX6_playedBack 8 = .ok (.istore 5, 2) := by decide +kernel
theorem dX6_playedBack_10 : decode cX6_playedBack 10 = .ok (.iload 5, 2) := by decide +kernel
theorem dX6_playedBack_12 : decode cX6_playedBack 12 = .ok (.ifCond .lt 18, 3) := by decide +kernel
theorem dX6_playedBack_15 : decode cX6_playedBack 15 = .ok (.aload_n 0, 1) := by decide +kernel
theorem dX6_playedBack_16 : decode cX6_playedBack 16 = .ok (.iload 5, 2) := by decide +kernel
theorem dX6_playedBack_18 : decode cX6_playedBack 18 = .ok (.lload_n 3, 1) := by decide +kernel
theorem dX6_playedBack_19 : decode cX6_playedBack 19 = .ok (.iconst 1, 1) := by decide +kernel
theorem dX6_playedBack_20 : decode cX6_playedBack 20 = .ok (.invokevirtual 177, 3) := by decide +kernel
theorem dX6_playedBack_23 : decode cX6_playedBack 23 = .ok (.lstore_n 3, 1) := by decide +kernel
theorem dX6_playedBack_24 : decode cX6_playedBack 24 = .ok (.iinc 5 (-1), 3) := by decide +kernel
theorem dX6_playedBack_27 : decode cX6_playedBack 27 = .ok (.goto (-17), 3) := by decide +kernel
theorem dX6_playedBack_30 : decode cX6_playedBack 30 = .ok (.lload_n 3, 1) := by decide +kernel
theorem dX6_playedBack_31 : decode cX6_playedBack 31 = .ok (.lreturn, 1) := by decide +kernel
set_option maxRecDepth 20000 in
theorem ggX6_play_X6_lacks_ : GoodIn wsX6_play wsX6_lacks_ := goodIn_r _ [6, 7, 8, 5, 9, 10, 11, 12, 13, 14, 15, 16, 17, 70, 71, 72, 73, 74, 75, 76, 77] (by decide +kernel) (by decide +kernel)
set_option maxRecDepth 20000 in
theorem gX6_play_X6_lacks_ : GoodIn wsX6_play (wsV RX6 101 RX6 yX6_lacks_ wsX6_lacks_) := goodIn_app (goodIn_of _ (by decide +kernel)) ggX6_play_X6_lacks_
set_option maxRecDepth 20000 in
theorem ggX6_play_X6_played : GoodIn wsX6_play wsX6_played := goodIn_ca (goodIn_ca (goodIn_r _ [21, 22, 23, 24, 25, 5, 26, 27, 28, 29, 30, 31, 32, 33, 34, 35, 36, 37, 38, 39, 40, 41, 42, 43, 44, 45, 46, 47, 48, 49, 50, 51, 52, 53, 54, 55, 56, 57, 58, 59, 60, 61, 62, 70, 71, 72, 73, 74, 75, 76, 77] (by decide +kernel) (by decide +kernel)) (goodIn_sub (fun _ h => List.mem_cons_of_mem _ (List.mem_append_left _ (List.mem_append_right _ h))) (by decide +kernel))) (goodIn_sub (fun _ h => List.mem_cons_of_mem _ (List.mem_append_right _ h)) (by decide +kernel))
set_option maxRecDepth 20000 in
theorem gX6_play_X6_played : GoodIn wsX6_play (wsV RX6 181 RX6 yX6_played wsX6_played) := goodIn_app (goodIn_of _ (by decide +kernel)) ggX6_play_X6_played
set_option maxRecDepth 20000 in
theorem ggX6_play_X6_becomes : GoodIn wsX6_play wsX6_becomes := goodIn_ca (goodIn_r _ [66, 67, 68, 69, 1, 54, 55, 5, 56, 70, 71, 72, 73, 74, 75, 76, 77] (by decide +kernel) (by decide +kernel)) (goodIn_sub (fun _ h => List.mem_cons_of_mem _ (List.mem_append_left _ (List.mem_append_right _ h))) (by decide +kernel))
set_option maxRecDepth 20000 in
theorem gX6_play_X6_becomes : GoodIn wsX6_play (wsV RX6 97 RX6 yX6_becomes wsX6_becomes) := goodIn_app (goodIn_of _ (by decide +kernel)) ggX6_play_X6_becomes
theorem dX6_play_0 : decode cX6_play 0 = .ok (.aload_n 0, 1) := by decide +kernel
theorem dX6_play_1 : decode cX6_play 1 = .ok (.iload_n 1, 1) := by decide +kernel
theorem dX6_play_2 : decode cX6_play 2 = .ok (.iload_n 2, 1) := by decide +kernel
theorem dX6_play_3 : decode cX6_play 3 = .ok (.invokevirtual 101, 3) := by decide +kernel
theorem dX6_play_6 : decode cX6_play 6 = .ok (.ifCond .eq 5, 3) := by decide +kernel
theorem dX6_play_9 : decode cX6_play 9 = .ok (.lconst 0, 1) := by decide +kernel
theorem dX6_play_10 : decode cX6_play 10 = .ok (.lreturn, 1) := by decide +kernel
theorem dX6_play_11 : decode cX6_play 11 = .ok (.aload_n 0, 1) := by decide +kernel
theorem dX6_play_12 : decode cX6_play 12 = .ok (.iload_n 2, 1) := by decide +kernel
theorem dX6_play_13 : decode cX6_play 13 = .ok (.aload_n 0, 1) := by decide +kernel
theorem dX6_play_14 : decode cX6_play 14 = .ok (.aload_n 0, 1) := by decide +kernel
theorem dX6_play_15 : decode cX6_play 15 = .ok (.getfield 9, 3) := by decide +kernel
theorem dX6_play_18 : decode cX6_play 18 = .ok (.iload_n 1, 1) := by decide +kernel
theorem dX6_play_19 : decode cX6_play 19 = .ok (.laload, 1) := by decide +kernel
theorem dX6_play_20 : decode cX6_play 20 = .ok (.invokevirtual 181, 3) := by decide +kernel
theorem dX6_play_23 : decode cX6_play 23 = .ok (.invokevirtual 97, 3) := by decide +kernel
theorem dX6_play_26 : decode cX6_play 26 = .ok (.lreturn, 1) := by decide +kernel
set_option maxRecDepth 20000 in
theorem ggX6_playBack_X6_lacks_ : GoodIn wsX6_playBack wsX6_lacks_ := goodIn_r _ [6, 7, 8, 5, 9, 10, 11, 12, 13, 14, 15, 16, 17, 70, 71, 72, 73, 74, 75, 76, 77] (by decide +kernel) (by decide +kernel)
set_option maxRecDepth 20000 in
theorem gX6_playBack_X6_lacks_ : GoodIn wsX6_playBack (wsV RX6 101 RX6 yX6_lacks_ wsX6_lacks_) := goodIn_app (goodIn_of _ (by decide +kernel)) ggX6_playBack_X6_lacks_
set_option maxRecDepth 20000 in
theorem ggX6_playBack_X6_playedBack : GoodIn wsX6_playBack wsX6_playedBack := goodIn_ca (goodIn_ca (goodIn_r _ [21, 22, 23, 24, 25, 5, 26, 27, 28, 29, 30, 31, 32, 33, 34, 35, 36, 37, 38, 39, 40, 41, 42, 43, 44, 45, 46, 47, 48, 49, 50, 51, 52, 53, 54, 55, 56, 57, 58, 59, 60, 61, 62, 70, 71, 72, 73, 74, 75, 76, 77] (by decide +kernel) (by decide +kernel)) (goodIn_sub (fun _ h => List.mem_cons_of_mem _ (List.mem_append_left _ (List.mem_append_right _ h))) (by decide +kernel))) (goodIn_sub (fun _ h => List.mem_cons_of_mem _ (List.mem_append_right _ h)) (by decide +kernel))
set_option maxRecDepth 20000 in
theorem gX6_playBack_X6_playedBack : GoodIn wsX6_playBack (wsV RX6 184 RX6 yX6_playedBack wsX6_playedBack) := goodIn_app (goodIn_of _ (by decide +kernel)) ggX6_playBack_X6_playedBack
set_option maxRecDepth 20000 in
theorem ggX6_playBack_X6_becomes : GoodIn wsX6_playBack wsX6_becomes := goodIn_ca (goodIn_r _ [66, 67, 68, 69, 1, 54, 55, 5, 56, 70, 71, 72, 73, 74, 75, 76, 77] (by decide +kernel) (by decide +kernel)) (goodIn_sub (fun _ h => List.mem_cons_of_mem _ (List.mem_append_left _ (List.mem_append_right _ h))) (by decide +kernel))
set_option maxRecDepth 20000 in
theorem gX6_playBack_X6_becomes : GoodIn wsX6_playBack (wsV RX6 97 RX6 yX6_becomes wsX6_becomes) := goodIn_app (goodIn_of _ (by decide +kernel)) ggX6_playBack_X6_becomes
theorem dX6_playBack_0 : decode cX6_playBack 0 = .ok (.aload_n 0, 1) := by decide +kernel
theorem dX6_playBack_1 : decode cX6_playBack 1 = .ok (.iload_n 1, 1) := by decide +kernel
theorem dX6_playBack_2 : decode cX6_playBack 2 = .ok (.iload_n 2, 1) := by decide +kernel
theorem dX6_playBack_3 : decode cX6_playBack 3 = .ok (.invokevirtual 101, 3) := by decide +kernel
theorem dX6_playBack_6 : decode cX6_playBack 6 = .ok (.ifCond .eq 5, 3) := by decide +kernel
theorem dX6_playBack_9 : decode cX6_playBack 9 = .ok (.lconst 0, 1) := by decide +kernel
theorem dX6_playBack_10 : decode cX6_playBack 10 = .ok (.lreturn, 1) := by decide +kernel
theorem dX6_playBack_11 : decode cX6_playBack 11 = .ok (.aload_n 0, 1) := by decide +kernel
theorem dX6_playBack_12 : decode cX6_playBack 12 = .ok (.iload_n 2, 1) := by decide +kernel
theorem dX6_playBack_13 : decode cX6_playBack 13 = .ok (.aload_n 0, 1) := by decide +kernel
theorem dX6_playBack_14 : decode cX6_playBack 14 = .ok (.aload_n 0, 1) := by decide +kernel
theorem dX6_playBack_15 : decode cX6_playBack 15 = .ok (.getfield 9, 3) := by decide +kernel
theorem dX6_playBack_18 : decode cX6_playBack 18 = .ok (.iload_n 1, 1) := by decide +kernel
theorem dX6_playBack_19 : decode cX6_playBack 19 = .ok (.laload, 1) := by decide +kernel
theorem dX6_playBack_20 : decode cX6_playBack 20 = .ok (.invokevirtual 184, 3) := by decide +kernel
theorem dX6_playBack_23 : decode cX6_playBack 23 = .ok (.invokevirtual 97, 3) := by decide +kernel
theorem dX6_playBack_26 : decode cX6_playBack 26 = .ok (.lreturn, 1) := by decide +kernel
set_option maxRecDepth 20000 in
theorem ggX6_isHome_X6_lacks : GoodIn wsX6_isHome wsX6_lacks := goodIn_r _ [6, 7, 8, 5, 9, 10, 11, 12, 13, 14, 15, 16, 17, 67, 68, 69, 70, 71, 72, 73, 74] (by decide +kernel) (by decide +kernel)
set_option maxRecDepth 20000 in
theorem gX6_isHome_X6_lacks : GoodIn wsX6_isHome (wsV RX6 94 RX6 yX6_lacks wsX6_lacks) := goodIn_app (goodIn_of _ (by decide +kernel)) ggX6_isHome_X6_lacks
set_option maxRecDepth 20000 in
theorem ggX6_isHome_X6_played : GoodIn wsX6_isHome wsX6_played := goodIn_ca (goodIn_ca (goodIn_r _ [21, 22, 23, 24, 25, 5, 26, 27, 28, 29, 30, 31, 32, 33, 34, 35, 36, 37, 38, 39, 40, 41, 42, 43, 44, 45, 46, 47, 48, 49, 50, 51, 52, 53, 54, 55, 56, 57, 58, 59, 60, 61, 62, 67, 68, 69, 70, 71, 72, 73, 74] (by decide +kernel) (by decide +kernel)) (goodIn_sub (fun _ h => List.mem_cons_of_mem _ (List.mem_append_left _ (List.mem_append_right _ h))) (by decide +kernel))) (goodIn_sub (fun _ h => List.mem_cons_of_mem _ (List.mem_append_right _ h)) (by decide +kernel))
set_option maxRecDepth 20000 in
theorem gX6_isHome_X6_played : GoodIn wsX6_isHome (wsV RX6 181 RX6 yX6_played wsX6_played) := goodIn_app (goodIn_of _ (by decide +kernel)) ggX6_isHome_X6_played
set_option maxRecDepth 20000 in
theorem ggX6_isHome_X6_playedBack : GoodIn wsX6_isHome wsX6_playedBack := goodIn_ca (goodIn_ca (goodIn_r _ [66, 22, 23, 24, 25, 5, 26, 27, 28, 29, 30, 31, 32, 33, 34, 35, 36, 37, 38, 39, 40, 41, 42, 43, 44, 45, 46, 47, 48, 49, 50, 51, 52, 53, 54, 55, 56, 57, 58, 59, 60, 61, 62, 67, 68, 69, 70, 71, 72, 73, 74] (by decide +kernel) (by decide +kernel)) (goodIn_sub (fun _ h => List.mem_cons_of_mem _ (List.mem_append_left _ (List.mem_append_right _ h))) (by decide +kernel))) (goodIn_sub (fun _ h => List.mem_cons_of_mem _ (List.mem_append_right _ h)) (by decide +kernel))
set_option maxRecDepth 20000 in
theorem gX6_isHome_X6_playedBack : GoodIn wsX6_isHome (wsV RX6 184 RX6 yX6_playedBack wsX6_playedBack) := goodIn_app (goodIn_of _ (by decide +kernel)) ggX6_isHome_X6_playedBack
theorem dX6_isHome_0 : decode cX6_isHome 0 = .ok (.aload_n 0, 1) := by decide +kernel
theorem dX6_isHome_1 : decode cX6_isHome 1 = .ok (.iload_n 1, 1) := by decide +kernel
theorem dX6_isHome_2 : decode cX6_isHome 2 = .ok (.invokevirtual 94, 3) := by decide +kernel
theorem dX6_isHome_5 : decode cX6_isHome 5 = .ok (.ifCond .eq 5, 3) := by decide +kernel
theorem dX6_isHome_8 : decode cX6_isHome 8 = .ok (.iconst 0, 1) := by decide +kernel
theorem dX6_isHome_9 : decode cX6_isHome 9 = .ok (.ireturn, 1) := by decide +kernel
theorem dX6_isHome_10 : decode cX6_isHome 10 = .ok (.aload_n 0, 1) := by decide +kernel
theorem dX6_isHome_11 : decode cX6_isHome 11 = .ok (.aload_n 0, 1) := by decide +kernel
theorem dX6_isHome_12 : decode cX6_isHome 12 = .ok (.aload_n 0, 1) := by decide +kernel
theorem dX6_isHome_13 : decode cX6_isHome 13 = .ok (.getfield 9, 3) := by decide +kernel
theorem dX6_isHome_16 : decode cX6_isHome 16 = .ok (.iload_n 1, 1) := by decide +kernel
theorem dX6_isHome_17 : decode cX6_isHome 17 = .ok (.laload, 1) := by decide +kernel
theorem dX6_isHome_18 : decode cX6_isHome 18 = .ok (.invokevirtual 181, 3) := by decide +kernel
theorem dX6_isHome_21 : decode cX6_isHome 21 = .ok (.invokevirtual 184, 3) := by decide +kernel
theorem dX6_isHome_24 : decode cX6_isHome 24 = .ok (.aload_n 0, 1) := by decide +kernel
theorem dX6_isHome_25 : decode cX6_isHome 25 = .ok (.getfield 9, 3) := by decide +kernel
theorem dX6_isHome_28 : decode cX6_isHome 28 = .ok (.iload_n 1, 1) := by decide +kernel
theorem dX6_isHome_29 : decode cX6_isHome 29 = .ok (.laload, 1) := by decide +kernel
theorem dX6_isHome_30 : decode cX6_isHome 30 = .ok (.lcmp, 1) := by decide +kernel
theorem dX6_isHome_31 : decode cX6_isHome 31 = .ok (.ifCond .ne 7, 3) := by decide +kernel
theorem dX6_isHome_34 : decode cX6_isHome 34 = .ok (.iconst 1, 1) := by decide +kernel
theorem dX6_isHome_35 : decode cX6_isHome 35 = .ok (.goto 4, 3) := by decide +kernel
theorem dX6_isHome_38 : decode cX6_isHome 38 = .ok (.iconst 0, 1) := by decide +kernel
theorem dX6_isHome_39 : decode cX6_isHome 39 = .ok (.ireturn, 1) := by decide +kernel
set_option maxRecDepth 20000 in
theorem ggX6_losses_X6_lacks : GoodIn wsX6_losses wsX6_lacks := goodIn_r _ [7, 8, 9, 6, 10, 11, 12, 13, 14, 15, 16, 17, 18, 59, 60, 61, 62, 63, 64, 65, 66] (by decide +kernel) (by decide +kernel)
set_option maxRecDepth 20000 in
theorem gX6_losses_X6_lacks : GoodIn wsX6_losses (wsV RX6 94 RX6 yX6_lacks wsX6_lacks) := goodIn_app (goodIn_of _ (by decide +kernel)) ggX6_losses_X6_lacks
set_option maxRecDepth 20000 in
theorem ggX6_losses_X6_done : GoodIn wsX6_losses wsX6_done := goodIn_ca (goodIn_ca (goodIn_r _ [22, 23, 24, 25, 26, 6, 27, 28, 29, 30, 31, 32, 33, 34, 35, 36, 37, 38, 39, 40, 41, 42, 43, 44, 45, 46, 47, 48, 49, 50, 51, 52, 53, 54, 55, 56, 57, 58, 59, 60, 61, 62, 63, 64, 65, 66] (by decide +kernel) (by decide +kernel)) (goodIn_sub (fun _ h => List.mem_cons_of_mem _ (List.mem_append_left _ (List.mem_append_right _ h))) (by decide +kernel))) (goodIn_sub (fun _ h => List.mem_cons_of_mem _ (List.mem_append_right _ h)) (by decide +kernel))
set_option maxRecDepth 20000 in
theorem gX6_losses_X6_done : GoodIn wsX6_losses (wsV RX6 177 RX6 yX6_done wsX6_done) := goodIn_app (goodIn_of _ (by decide +kernel)) ggX6_losses_X6_done
theorem dX6_losses_0 : decode cX6_losses 0 = .ok (.aload_n 0, 1) := by decide +kernel
theorem dX6_losses_1 : decode cX6_losses 1 = .ok (.iload_n 1, 1) := by decide +kernel
theorem dX6_losses_2 : decode cX6_losses 2 = .ok (.invokevirtual 94, 3) := by decide +kernel
theorem dX6_losses_5 : decode cX6_losses 5 = .ok (.ifCond .eq 5, 3) := by decide +kernel
theorem dX6_losses_8 : decode cX6_losses 8 = .ok (.iconst 0, 1) := by decide +kernel
theorem dX6_losses_9 : decode cX6_losses 9 = .ok (.ireturn, 1) := by decide +kernel
theorem dX6_losses_10 : decode cX6_losses 10 = .ok (.aload_n 0, 1) := by decide +kernel
theorem dX6_losses_11 : decode cX6_losses 11 = .ok (.getfield 9, 3) := by decide +kernel
theorem dX6_losses_14 : decode cX6_losses 14 = .ok (.iload_n 1, 1) := by decide +kernel
theorem dX6_losses_15 : decode cX6_losses 15 = .ok (.laload, 1) := by decide +kernel
theorem dX6_losses_16 : decode cX6_losses 16 = .ok (.lstore_n 2, 1) := by decide +kernel
theorem dX6_losses_17 : decode cX6_losses 17 = .ok (.iconst 0, 1) := by decide +kernel
theorem dX6_losses_18 : decode cX6_losses 18 = .ok (.istore 4, 2) := by decide +kernel
theorem dX6_losses_20 : decode cX6_losses 20 = .ok (.iconst 0, 1) := by decide +kernel
theorem dX6_losses_21 : decode cX6_losses 21 = .ok (.istore 5, 2) := by decide +kernel
theorem dX6_losses_23 : decode cX6_losses 23 = .ok (.iload 5, 2) := by decide +kernel
theorem dX6_losses_25 : decode cX6_losses 25 = .ok (.aload_n 0, 1) := by decide +kernel
theorem dX6_losses_26 : decode cX6_losses 26 = .ok (.getfield 174, 3) := by decide +kernel
theorem dX6_losses_29 : decode cX6_losses 29 = .ok (.if_icmp .ge 39, 3) := by decide +kernel
theorem dX6_losses_32 : decode cX6_losses 32 = .ok (.aload_n 0, 1) := by decide +kernel
theorem dX6_losses_33 : decode cX6_losses 33 = .ok (.iload 5, 2) := by decide +kernel
theorem dX6_losses_35 : decode cX6_losses 35 = .ok (.lload_n 2, 1) := by decide +kernel
theorem dX6_losses_36 : decode cX6_losses 36 = .ok (.iconst 0, 1) := by decide +kernel
theorem dX6_losses_37 : decode cX6_losses 37 = .ok (.invokevirtual 177, 3) := by decide +kernel
theorem dX6_losses_40 : decode cX6_losses 40 = .ok (.lstore 6, 2) := by decide +kernel
theorem dX6_losses_42 : decode cX6_losses 42 = .ok (.aload_n 0, 1) := by decide +kernel
theorem dX6_losses_43 : decode cX6_losses 43 = .ok (.iload 5, 2) := by decide +kernel
theorem dX6_losses_45 : decode cX6_losses 45 = .ok (.lload 6, 2) := by decide +kernel
theorem dX6_losses_47 : decode cX6_losses 47 = .ok (.iconst 1, 1) := by decide +kernel
theorem dX6_losses_48 : decode cX6_losses 48 = .ok (.invokevirtual 177, 3) := by decide +kernel
theorem dX6_losses_51 : decode cX6_losses 51 = .ok (.lload_n 2, 1) := by decide +kernel
theorem dX6_losses_52 : decode cX6_losses 52 = .ok (.lcmp, 1) := by decide +kernel
theorem dX6_losses_53 : decode cX6_losses 53 = .ok (.ifCond .eq 6, 3) := by decide +kernel
theorem dX6_losses_56 : decode cX6_losses 56 = .ok (.iinc 4 1, 3) := by decide +kernel
theorem dX6_losses_59 : decode cX6_losses 59 = .ok (.lload 6, 2) := by decide +kernel
theorem dX6_losses_61 : decode cX6_losses 61 = .ok (.lstore_n 2, 1) := by decide +kernel
theorem dX6_losses_62 : decode cX6_losses 62 = .ok (.iinc 5 1, 3) := by decide +kernel
theorem dX6_losses_65 : decode cX6_losses 65 = .ok (.goto (-42), 3) := by decide +kernel
theorem dX6_losses_68 : decode cX6_losses 68 = .ok (.iload 4, 2) := by decide +kernel
theorem dX6_losses_70 : decode cX6_losses 70 = .ok (.ireturn, 1) := by decide +kernel
set_option maxRecDepth 20000 in
theorem ggX6_share_X6_isLittle : GoodIn wsX6_share wsX6_isLittle := goodIn_r _ [7, 8, 9, 10, 6, 11, 12] (by decide +kernel) (by decide +kernel)
set_option maxRecDepth 20000 in
theorem gX6_share_X6_isLittle : GoodIn wsX6_share (va_wsS RX6 112 yX6_isLittle wsX6_isLittle) := goodIn_app (goodIn_of _ (by decide +kernel)) ggX6_share_X6_isLittle
theorem dX6_share_0 : decode cX6_share 0 = .ok (.iconst 0, 1) := by decide +kernel
theorem dX6_share_1 : decode cX6_share 1 = .ok (.istore_n 1, 1) := by decide +kernel
theorem dX6_share_2 : decode cX6_share 2 = .ok (.aload_n 0, 1) := by decide +kernel
theorem dX6_share_3 : decode cX6_share 3 = .ok (.iconst 0, 1) := by decide +kernel
theorem dX6_share_4 : decode cX6_share 4 = .ok (.putfield 27, 3) := by decide +kernel
theorem dX6_share_7 : decode cX6_share 7 = .ok (.iconst 0, 1) := by decide +kernel
theorem dX6_share_8 : decode cX6_share 8 = .ok (.istore_n 2, 1) := by decide +kernel
theorem dX6_share_9 : decode cX6_share 9 = .ok (.iload_n 2, 1) := by decide +kernel
theorem dX6_share_10 : decode cX6_share 10 = .ok (.bipush 8, 2) := by decide +kernel
theorem dX6_share_12 : decode cX6_share 12 = .ok (.if_icmp .ge 29, 3) := by decide +kernel
theorem dX6_share_15 : decode cX6_share 15 = .ok (.iload_n 1, 1) := by decide +kernel
theorem dX6_share_16 : decode cX6_share 16 = .ok (.aload_n 0, 1) := by decide +kernel
theorem dX6_share_17 : decode cX6_share 17 = .ok (.getfield 9, 3) := by decide +kernel
theorem dX6_share_20 : decode cX6_share 20 = .ok (.iload_n 2, 1) := by decide +kernel
theorem dX6_share_21 : decode cX6_share 21 = .ok (.laload, 1) := by decide +kernel
theorem dX6_share_22 : decode cX6_share 22 = .ok (.invokestatic 112, 3) := by decide +kernel
theorem dX6_share_25 : decode cX6_share 25 = .ok (.ifCond .eq 7, 3) := by decide +kernel
theorem dX6_share_28 : decode cX6_share 28 = .ok (.iconst 1, 1) := by decide +kernel
theorem dX6_share_29 : decode cX6_share 29 = .ok (.goto 4, 3) := by decide +kernel
theorem dX6_share_32 : decode cX6_share 32 = .ok (.iconst 0, 1) := by decide +kernel
theorem dX6_share_33 : decode cX6_share 33 = .ok (.iadd, 1) := by decide +kernel
theorem dX6_share_34 : decode cX6_share 34 = .ok (.istore_n 1, 1) := by decide +kernel
theorem dX6_share_35 : decode cX6_share 35 = .ok (.iinc 2 1, 3) := by decide +kernel
theorem dX6_share_38 : decode cX6_share 38 = .ok (.goto (-29), 3) := by decide +kernel
theorem dX6_share_41 : decode cX6_share 41 = .ok (.iload_n 1, 1) := by decide +kernel
theorem dX6_share_42 : decode cX6_share 42 = .ok (.i2f, 1) := by decide +kernel
theorem dX6_share_43 : decode cX6_share 43 = .ok (.ldc 187, 2) := by decide +kernel
theorem dX6_share_45 : decode cX6_share 45 = .ok (.fdiv, 1) := by decide +kernel
theorem dX6_share_46 : decode cX6_share 46 = .ok (.freturn, 1) := by decide +kernel
set_option maxRecDepth 20000 in
theorem ggX6_meanExponent_X6_exponentOf : GoodIn wsX6_meanExponent wsX6_exponentOf := goodIn_r _ [7, 8, 9, 10, 6, 11, 12] (by decide +kernel) (by decide +kernel)
set_option maxRecDepth 20000 in
theorem gX6_meanExponent_X6_exponentOf : GoodIn wsX6_meanExponent (va_wsS RX6 84 yX6_exponentOf wsX6_exponentOf) := goodIn_app (goodIn_of _ (by decide +kernel)) ggX6_meanExponent_X6_exponentOf
theorem dX6_meanExponent_0 : decode cX6_meanExponent 0 = .ok (.iconst 0, 1) := by decide +kernel
theorem dX6_meanExponent_1 : decode cX6_meanExponent 1 = .ok (.istore_n 1, 1) := by decide +kernel
theorem dX6_meanExponent_2 : decode cX6_meanExponent 2 = .ok (.aload_n 0, 1) := by decide +kernel
theorem dX6_meanExponent_3 : decode cX6_meanExponent 3 = .ok (.iconst 0, 1) := by decide +kernel
theorem dX6_meanExponent_4 : decode cX6_meanExponent 4 = .ok (.putfield 27, 3) := by decide +kernel
theorem dX6_meanExponent_7 : decode cX6_meanExponent 7 = .ok (.iconst 0, 1) := by decide +kernel
theorem dX6_meanExponent_8 : decode cX6_meanExponent 8 = .ok (.istore_n 2, 1) := by decide +kernel
theorem dX6_meanExponent_9 : decode cX6_meanExponent 9 = .ok (.iload_n 2, 1) := by decide +kernel
theorem dX6_meanExponent_10 : decode cX6_meanExponent 10 = .ok (.bipush 8, 2) := by decide +kernel
theorem dX6_meanExponent_12 : decode cX6_meanExponent 12 = .ok (.if_icmp .ge 21, 3) := by decide +kernel
theorem dX6_meanExponent_15 : decode cX6_meanExponent 15 = .ok (.iload_n 1, 1) := by decide +kernel
theorem dX6_meanExponent_16 : decode cX6_meanExponent 16 = .ok (.aload_n 0, 1) := by decide +kernel
theorem dX6_meanExponent_17 : decode cX6_meanExponent 17 = .ok (.getfield 9, 3) := by decide +kernel
theorem dX6_meanExponent_20 : decode cX6_meanExponent 20 = .ok (.iload_n 2, 1) := by decide +kernel
theorem dX6_meanExponent_21 : decode cX6_meanExponent 21 = .ok (.laload, 1) := by decide +kernel
theorem dX6_meanExponent_22 : decode cX6_meanExponent 22 = .ok (.invokestatic 84, 3) := by decide +kernel
theorem dX6_meanExponent_25 : decode cX6_meanExponent 25 = .ok (.iadd, 1) := by decide +kernel
theorem dX6_meanExponent_26 : decode cX6_meanExponent 26 = .ok (.istore_n 1, 1) := by decide +kernel
theorem dX6_meanExponent_27 : decode cX6_meanExponent 27 = .ok (.iinc 2 1, 3) := by decide +kernel
theorem dX6_meanExponent_30 : decode cX6_meanExponent 30 = .ok (.goto (-21), 3) := by decide +kernel
theorem dX6_meanExponent_33 : decode cX6_meanExponent 33 = .ok (.iload_n 1, 1) := by decide +kernel
theorem dX6_meanExponent_34 : decode cX6_meanExponent 34 = .ok (.i2d, 1) := by decide +kernel
theorem dX6_meanExponent_35 : decode cX6_meanExponent 35 = .ok (.ldc2_w 188, 3) := by decide +kernel
theorem dX6_meanExponent_38 : decode cX6_meanExponent 38 = .ok (.ddiv, 1) := by decide +kernel
theorem dX6_meanExponent_39 : decode cX6_meanExponent 39 = .ok (.dreturn, 1) := by decide +kernel
set_option maxRecDepth 20000 in
theorem ggX6_checksum_X6_bitsOf : GoodIn wsX6_checksum wsX6_bitsOf := goodIn_r _ [11, 12, 13, 14, 10, 15] (by decide +kernel) (by decide +kernel)
set_option maxRecDepth 20000 in
theorem gX6_checksum_X6_bitsOf : GoodIn wsX6_checksum (va_wsS RX6 106 yX6_bitsOf wsX6_bitsOf) := goodIn_app (goodIn_of _ (by decide +kernel)) ggX6_checksum_X6_bitsOf
theorem dX6_checksum_0 : decode cX6_checksum 0 = .ok (.ldc2_w 190, 3) := by decide +kernel
theorem dX6_checksum_3 : decode cX6_checksum 3 = .ok (.lstore_n 1, 1) := by decide +kernel
theorem dX6_checksum_4 : decode cX6_checksum 4 = .ok (.aload_n 0, 1) := by decide +kernel
theorem dX6_checksum_5 : decode cX6_checksum 5 = .ok (.iconst 0, 1) := by decide +kernel
theorem dX6_checksum_6 : decode cX6_checksum 6 = .ok (.putfield 27, 3) := by decide +kernel
theorem dX6_checksum_9 : decode cX6_checksum 9 = .ok (.iconst 0, 1) := by decide +kernel
theorem dX6_checksum_10 : decode cX6_checksum 10 = .ok (.istore_n 3, 1) := by decide +kernel
theorem dX6_checksum_11 : decode cX6_checksum 11 = .ok (.iload_n 3, 1) := by decide +kernel
theorem dX6_checksum_12 : decode cX6_checksum 12 = .ok (.bipush 8, 2) := by decide +kernel
theorem dX6_checksum_14 : decode cX6_checksum 14 = .ok (.if_icmp .ge 25, 3) := by decide +kernel
theorem dX6_checksum_17 : decode cX6_checksum 17 = .ok (.ldc2_w 192, 3) := by decide +kernel
theorem dX6_checksum_20 : decode cX6_checksum 20 = .ok (.lload_n 1, 1) := by decide +kernel
theorem dX6_checksum_21 : decode cX6_checksum 21 = .ok (.lmul, 1) := by decide +kernel
theorem dX6_checksum_22 : decode cX6_checksum 22 = .ok (.aload_n 0, 1) := by decide +kernel
theorem dX6_checksum_23 : decode cX6_checksum 23 = .ok (.getfield 9, 3) := by decide +kernel
theorem dX6_checksum_26 : decode cX6_checksum 26 = .ok (.iload_n 3, 1) := by decide +kernel
theorem dX6_checksum_27 : decode cX6_checksum 27 = .ok (.laload, 1) := by decide +kernel
theorem dX6_checksum_28 : decode cX6_checksum 28 = .ok (.invokestatic 106, 3) := by decide +kernel
theorem dX6_checksum_31 : decode cX6_checksum 31 = .ok (.ladd, 1) := by decide +kernel
theorem dX6_checksum_32 : decode cX6_checksum 32 = .ok (.lstore_n 1, 1) := by decide +kernel
theorem dX6_checksum_33 : decode cX6_checksum 33 = .ok (.iinc 3 1, 3) := by decide +kernel
theorem dX6_checksum_36 : decode cX6_checksum 36 = .ok (.goto (-25), 3) := by decide +kernel
theorem dX6_checksum_39 : decode cX6_checksum 39 = .ok (.ldc2_w 192, 3) := by decide +kernel
theorem dX6_checksum_42 : decode cX6_checksum 42 = .ok (.lload_n 1, 1) := by decide +kernel
theorem dX6_checksum_43 : decode cX6_checksum 43 = .ok (.lmul, 1) := by decide +kernel
theorem dX6_checksum_44 : decode cX6_checksum 44 = .ok (.aload_n 0, 1) := by decide +kernel
theorem dX6_checksum_45 : decode cX6_checksum 45 = .ok (.getfield 174, 3) := by decide +kernel
theorem dX6_checksum_48 : decode cX6_checksum 48 = .ok (.i2l, 1) := by decide +kernel
theorem dX6_checksum_49 : decode cX6_checksum 49 = .ok (.ladd, 1) := by decide +kernel
theorem dX6_checksum_50 : decode cX6_checksum 50 = .ok (.lstore_n 1, 1) := by decide +kernel
theorem dX6_checksum_51 : decode cX6_checksum 51 = .ok (.iconst 0, 1) := by decide +kernel
theorem dX6_checksum_52 : decode cX6_checksum 52 = .ok (.istore_n 3, 1) := by decide +kernel
theorem dX6_checksum_53 : decode cX6_checksum 53 = .ok (.iload_n 3, 1) := by decide +kernel
theorem dX6_checksum_54 : decode cX6_checksum 54 = .ok (.aload_n 0, 1) := by decide +kernel
theorem dX6_checksum_55 : decode cX6_checksum 55 = .ok (.getfield 174, 3) := by decide +kernel
theorem dX6_checksum_58 : decode cX6_checksum 58 = .ok (.if_icmp .ge 37, 3) := by decide +kernel
theorem dX6_checksum_61 : decode cX6_checksum 61 = .ok (.ldc2_w 192, 3) := by decide +kernel
theorem dX6_checksum_64 : decode cX6_checksum 64 = .ok (.lload_n 1, 1) := by decide +kernel
theorem dX6_checksum_65 : decode cX6_checksum 65 = .ok (.lmul, 1) := by decide +kernel
theorem dX6_checksum_66 : decode cX6_checksum 66 = .ok (.aload_n 0, 1) := by decide +kernel
theorem dX6_checksum_67 : decode cX6_checksum 67 = .ok (.getfield 20, 3) := by decide +kernel
theorem dX6_checksum_70 : decode cX6_checksum 70 = .ok (.iload_n 3, 1) := by decide +kernel
theorem dX6_checksum_71 : decode cX6_checksum 71 = .ok (.caload, 1) := by decide +kernel
theorem dX6_checksum_72 : decode cX6_checksum 72 = .ok (.i2l, 1) := by decide +kernel
theorem dX6_checksum_73 : decode cX6_checksum 73 = .ok (.ladd, 1) := by decide +kernel
theorem dX6_checksum_74 : decode cX6_checksum 74 = .ok (.lstore_n 1, 1) := by decide +kernel
theorem dX6_checksum_75 : decode cX6_checksum 75 = .ok (.ldc2_w 192, 3) := by decide +kernel
theorem dX6_checksum_78 : decode cX6_checksum 78 = .ok (.lload_n 1, 1) := by decide +kernel
theorem dX6_checksum_79 : decode cX6_checksum 79 = .ok (.lmul, 1) := by decide +kernel
theorem dX6_checksum_80 : decode cX6_checksum 80 = .ok (.aload_n 0, 1) := by decide +kernel
theorem dX6_checksum_81 : decode cX6_checksum 81 = .ok (.getfield 24, 3) := by decide +kernel
theorem dX6_checksum_84 : decode cX6_checksum 84 = .ok (.iload_n 3, 1) := by decide +kernel
theorem dX6_checksum_85 : decode cX6_checksum 85 = .ok (.iaload, 1) := by decide +kernel
theorem dX6_checksum_86 : decode cX6_checksum 86 = .ok (.i2l, 1) := by decide +kernel
theorem dX6_checksum_87 : decode cX6_checksum 87 = .ok (.ladd, 1) := by decide +kernel
theorem dX6_checksum_88 : decode cX6_checksum 88 = .ok (.lstore_n 1, 1) := by decide +kernel
theorem dX6_checksum_89 : decode cX6_checksum 89 = .ok (.iinc 3 1, 3) := by decide +kernel
theorem dX6_checksum_92 : decode cX6_checksum 92 = .ok (.goto (-39), 3) := by decide +kernel
theorem dX6_checksum_95 : decode cX6_checksum 95 = .ok (.lload_n 1, 1) := by decide +kernel
theorem dX6_checksum_96 : decode cX6_checksum 96 = .ok (.lreturn, 1) := by decide +kernel
theorem dX6_isSound_0 : decode cX6_isSound 0 = .ok (.aload_n 0, 1) := by decide +kernel
theorem dX6_isSound_1 : decode cX6_isSound 1 = .ok (.iconst 0, 1) := by decide +kernel
theorem dX6_isSound_2 : decode cX6_isSound 2 = .ok (.putfield 27, 3) := by decide +kernel
theorem dX6_isSound_5 : decode cX6_isSound 5 = .ok (.iconst 1, 1) := by decide +kernel
theorem dX6_isSound_6 : decode cX6_isSound 6 = .ok (.ireturn, 1) := by decide +kernel
theorem dJx00060_init_a7421_0 : decode cJx00060_init_a7421 0 = .ok (.aload_n 0, 1) := by decide +kernel
theorem dJx00060_init_a7421_1 : decode cJx00060_init_a7421 1 = .ok (.aload_n 1, 1) := by decide +kernel
theorem dJx00060_init_a7421_2 : decode cJx00060_init_a7421 2 = .ok (.invokespecial 7, 3) := by decide +kernel
theorem dJx00060_init_a7421_5 : decode cJx00060_init_a7421 5 = .ok (.return_, 1) := by decide +kernel
theorem dJ6_numberOfLeadingZeros_0f7a4_0 : decode cJ6_numberOfLeadingZeros_0f7a4 0 = .ok (.iload_n 0, 1) := by decide +kernel
theorem dJ6_numberOfLeadingZeros_0f7a4_1 : decode cJ6_numberOfLeadingZeros_0f7a4 1 = .ok (.ifCond .gt 14, 3) := by decide +kernel
theorem dJ6_numberOfLeadingZeros_0f7a4_4 : decode cJ6_numberOfLeadingZeros_0f7a4 4 = .ok (.iload_n 0, 1) := by decide +kernel
theorem dJ6_numberOfLeadingZeros_0f7a4_5 : decode cJ6_numberOfLeadingZeros_0f7a4 5 = .ok (.ifCond .ne 8, 3) := by decide +kernel
theorem dJ6_numberOfLeadingZeros_0f7a4_8 : decode cJ6_numberOfLeadingZeros_0f7a4 8 = .ok (.bipush 32, 2) := by decide +kernel
theorem dJ6_numberOfLeadingZeros_0f7a4_10 : decode cJ6_numberOfLeadingZeros_0f7a4 10 = .ok (.goto 4, 3) := by decide +kernel
theorem dJ6_numberOfLeadingZeros_0f7a4_13 : decode cJ6_numberOfLeadingZeros_0f7a4 13 = .ok (.iconst 0, 1) := by decide +kernel
theorem dJ6_numberOfLeadingZeros_0f7a4_14 : decode cJ6_numberOfLeadingZeros_0f7a4 14 = .ok (.ireturn, 1) := by decide +kernel
theorem dJ6_numberOfLeadingZeros_0f7a4_15 : decode cJ6_numberOfLeadingZeros_0f7a4 15 = .ok (.bipush 31, 2) := by decide +kernel
theorem dJ6_numberOfLeadingZeros_0f7a4_17 : decode cJ6_numberOfLeadingZeros_0f7a4 17 = .ok (.istore_n 1, 1) := by decide +kernel
theorem dJ6_numberOfLeadingZeros_0f7a4_18 : decode cJ6_numberOfLeadingZeros_0f7a4 18 = .ok (.iload_n 0, 1) := by decide +kernel
theorem dJ6_numberOfLeadingZeros_0f7a4_19 : decode cJ6_numberOfLeadingZeros_0f7a4 19 = .ok (.ldc_w 264, 3) := by decide +kernel
theorem dJ6_numberOfLeadingZeros_0f7a4_22 : decode cJ6_numberOfLeadingZeros_0f7a4 22 = .ok (.if_icmp .lt 11, 3) := by decide +kernel
theorem dJ6_numberOfLeadingZeros_0f7a4_25 : decode cJ6_numberOfLeadingZeros_0f7a4 25 = .ok (.iinc 1 (-16), 3) := by decide +kernel
theorem dJ6_numberOfLeadingZeros_0f7a4_28 : decode cJ6_numberOfLeadingZeros_0f7a4 28 = .ok (.iload_n 0, 1) := by decide +kernel
theorem dJ6_numberOfLeadingZeros_0f7a4_29 : decode cJ6_numberOfLeadingZeros_0f7a4 29 = .ok (.bipush 16, 2) := by decide +kernel
theorem dJ6_numberOfLeadingZeros_0f7a4_31 : decode cJ6_numberOfLeadingZeros_0f7a4 31 = .ok (.iushr, 1) := by decide +kernel
theorem dJ6_numberOfLeadingZeros_0f7a4_32 : decode cJ6_numberOfLeadingZeros_0f7a4 32 = .ok (.istore_n 0, 1) := by decide +kernel
theorem dJ6_numberOfLeadingZeros_0f7a4_33 : decode cJ6_numberOfLeadingZeros_0f7a4 33 = .ok (.iload_n 0, 1) := by decide +kernel
theorem dJ6_numberOfLeadingZeros_0f7a4_34 : decode cJ6_numberOfLeadingZeros_0f7a4 34 = .ok (.sipush 256, 3) := by decide +kernel
theorem dJ6_numberOfLeadingZeros_0f7a4_37 : decode cJ6_numberOfLeadingZeros_0f7a4 37 = .ok (.if_icmp .lt 11, 3) := by decide +kernel
theorem dJ6_numberOfLeadingZeros_0f7a4_40 : decode cJ6_numberOfLeadingZeros_0f7a4 40 = .ok (.iinc 1 (-8), 3) := by decide +kernel
theorem dJ6_numberOfLeadingZeros_0f7a4_43 : decode cJ6_numberOfLeadingZeros_0f7a4 43 = .ok (.iload_n 0, 1) := by decide +kernel
theorem dJ6_numberOfLeadingZeros_0f7a4_44 : decode cJ6_numberOfLeadingZeros_0f7a4 44 = .ok (.bipush 8, 2) := by decide +kernel
theorem dJ6_numberOfLeadingZeros_0f7a4_46 : decode cJ6_numberOfLeadingZeros_0f7a4 46 = .ok (.iushr, 1) := by decide +kernel
theorem dJ6_numberOfLeadingZeros_0f7a4_47 : decode cJ6_numberOfLeadingZeros_0f7a4 47 = .ok (.istore_n 0, 1) := by decide +kernel
theorem dJ6_numberOfLeadingZeros_0f7a4_48 : decode cJ6_numberOfLeadingZeros_0f7a4 48 = .ok (.iload_n 0, 1) := by decide +kernel
theorem dJ6_numberOfLeadingZeros_0f7a4_49 : decode cJ6_numberOfLeadingZeros_0f7a4 49 = .ok (.bipush 16, 2) := by decide +kernel
theorem dJ6_numberOfLeadingZeros_0f7a4_51 : decode cJ6_numberOfLeadingZeros_0f7a4 51 = .ok (.if_icmp .lt 10, 3) := by decide +kernel
theorem dJ6_numberOfLeadingZeros_0f7a4_54 : decode cJ6_numberOfLeadingZeros_0f7a4 54 = .ok (.iinc 1 (-4), 3) := by decide +kernel
theorem dJ6_numberOfLeadingZeros_0f7a4_57 : decode cJ6_numberOfLeadingZeros_0f7a4 57 = .ok (.iload_n 0, 1) := by decide +kernel
theorem dJ6_numberOfLeadingZeros_0f7a4_58 : decode cJ6_numberOfLeadingZeros_0f7a4 58 = .ok (.iconst 4, 1) := by decide +kernel
theorem dJ6_numberOfLeadingZeros_0f7a4_59 : decode cJ6_numberOfLeadingZeros_0f7a4 59 = .ok (.iushr, 1) := by decide +kernel
theorem dJ6_numberOfLeadingZeros_0f7a4_60 : decode cJ6_numberOfLeadingZeros_0f7a4 60 = .ok (.istore_n 0, 1) := by decide +kernel
theorem dJ6_numberOfLeadingZeros_0f7a4_61 : decode cJ6_numberOfLeadingZeros_0f7a4 61 = .ok (.iload_n 0, 1) := by decide +kernel
theorem dJ6_numberOfLeadingZeros_0f7a4_62 : decode cJ6_numberOfLeadingZeros_0f7a4 62 = .ok (.iconst 4, 1) := by decide +kernel
theorem dJ6_numberOfLeadingZeros_0f7a4_63 : decode cJ6_numberOfLeadingZeros_0f7a4 63 = .ok (.if_icmp .lt 10, 3) := by decide +kernel
theorem dJ6_numberOfLeadingZeros_0f7a4_66 : decode cJ6_numberOfLeadingZeros_0f7a4 66 = .ok (.iinc 1 (-2), 3) := by decide +kernel
theorem dJ6_numberOfLeadingZeros_0f7a4_69 : decode cJ6_numberOfLeadingZeros_0f7a4 69 = .ok (.iload_n 0, 1) := by decide +kernel
theorem dJ6_numberOfLeadingZeros_0f7a4_70 : decode cJ6_numberOfLeadingZeros_0f7a4 70 = .ok (.iconst 2, 1) := by decide +kernel
theorem dJ6_numberOfLeadingZeros_0f7a4_71 : decode cJ6_numberOfLeadingZeros_0f7a4 71 = .ok (.iushr, 1) := by decide +kernel
theorem dJ6_numberOfLeadingZeros_0f7a4_72 : decode cJ6_numberOfLeadingZeros_0f7a4 72 = .ok (.istore_n 0, 1) := by decide +kernel
theorem dJ6_numberOfLeadingZeros_0f7a4_73 : decode cJ6_numberOfLeadingZeros_0f7a4 73 = .ok (.iload_n 1, 1) := by decide +kernel
theorem dJ6_numberOfLeadingZeros_0f7a4_74 : decode cJ6_numberOfLeadingZeros_0f7a4 74 = .ok (.iload_n 0, 1) := by decide +kernel
theorem dJ6_numberOfLeadingZeros_0f7a4_75 : decode cJ6_numberOfLeadingZeros_0f7a4 75 = .ok (.iconst 1, 1) := by decide +kernel
theorem dJ6_numberOfLeadingZeros_0f7a4_76 : decode cJ6_numberOfLeadingZeros_0f7a4 76 = .ok (.iushr, 1) := by decide +kernel
theorem dJ6_numberOfLeadingZeros_0f7a4_77 : decode cJ6_numberOfLeadingZeros_0f7a4 77 = .ok (.isub, 1) := by decide +kernel
theorem dJ6_numberOfLeadingZeros_0f7a4_78 : decode cJ6_numberOfLeadingZeros_0f7a4 78 = .ok (.ireturn, 1) := by decide +kernel
theorem dJ6_numberOfTrailingZeros_0f7a4_0 : decode cJ6_numberOfTrailingZeros_0f7a4 0 = .ok (.iload_n 0, 1) := by decide +kernel
theorem dJ6_numberOfTrailingZeros_0f7a4_1 : decode cJ6_numberOfTrailingZeros_0f7a4 1 = .ok (.iconst (-1), 1) := by decide +kernel
theorem dJ6_numberOfTrailingZeros_0f7a4_2 : decode cJ6_numberOfTrailingZeros_0f7a4 2 = .ok (.ixor, 1) := by decide +kernel
theorem dJ6_numberOfTrailingZeros_0f7a4_3 : decode cJ6_numberOfTrailingZeros_0f7a4 3 = .ok (.iload_n 0, 1) := by decide +kernel
theorem dJ6_numberOfTrailingZeros_0f7a4_4 : decode cJ6_numberOfTrailingZeros_0f7a4 4 = .ok (.iconst 1, 1) := by decide +kernel
theorem dJ6_numberOfTrailingZeros_0f7a4_5 : decode cJ6_numberOfTrailingZeros_0f7a4 5 = .ok (.isub, 1) := by decide +kernel
theorem dJ6_numberOfTrailingZeros_0f7a4_6 : decode cJ6_numberOfTrailingZeros_0f7a4 6 = .ok (.iand, 1) := by decide +kernel
theorem dJ6_numberOfTrailingZeros_0f7a4_7 : decode cJ6_numberOfTrailingZeros_0f7a4 7 = .ok (.istore_n 0, 1) := by decide +kernel
theorem dJ6_numberOfTrailingZeros_0f7a4_8 : decode cJ6_numberOfTrailingZeros_0f7a4 8 = .ok (.iload_n 0, 1) := by decide +kernel
theorem dJ6_numberOfTrailingZeros_0f7a4_9 : decode cJ6_numberOfTrailingZeros_0f7a4 9 = .ok (.ifCond .gt 8, 3) := by decide +kernel
theorem dJ6_numberOfTrailingZeros_0f7a4_12 : decode cJ6_numberOfTrailingZeros_0f7a4 12 = .ok (.iload_n 0, 1) := by decide +kernel
theorem dJ6_numberOfTrailingZeros_0f7a4_13 : decode cJ6_numberOfTrailingZeros_0f7a4 13 = .ok (.bipush 32, 2) := by decide +kernel
theorem dJ6_numberOfTrailingZeros_0f7a4_15 : decode cJ6_numberOfTrailingZeros_0f7a4 15 = .ok (.iand, 1) := by decide +kernel
theorem dJ6_numberOfTrailingZeros_0f7a4_16 : decode cJ6_numberOfTrailingZeros_0f7a4 16 = .ok (.ireturn, 1) := by decide +kernel
theorem dJ6_numberOfTrailingZeros_0f7a4_17 : decode cJ6_numberOfTrailingZeros_0f7a4 17 = .ok (.iconst 1, 1) := by decide +kernel
theorem dJ6_numberOfTrailingZeros_0f7a4_18 : decode cJ6_numberOfTrailingZeros_0f7a4 18 = .ok (.istore_n 1, 1) := by decide +kernel
theorem dJ6_numberOfTrailingZeros_0f7a4_19 : decode cJ6_numberOfTrailingZeros_0f7a4 19 = .ok (.iload_n 0, 1) := by decide +kernel
theorem dJ6_numberOfTrailingZeros_0f7a4_20 : decode cJ6_numberOfTrailingZeros_0f7a4 20 = .ok (.ldc_w 264, 3) := by decide +kernel
theorem dJ6_numberOfTrailingZeros_0f7a4_23 : decode cJ6_numberOfTrailingZeros_0f7a4 23 = .ok (.if_icmp .le 11, 3) := by decide +kernel
theorem dJ6_numberOfTrailingZeros_0f7a4_26 : decode cJ6_numberOfTrailingZeros_0f7a4 26 = .ok (.iinc 1 16, 3) := by decide +kernel
theorem dJ6_numberOfTrailingZeros_0f7a4_29 : decode cJ6_numberOfTrailingZeros_0f7a4 29 = .ok (.iload_n 0, 1) := by decide +kernel
theorem dJ6_numberOfTrailingZeros_0f7a4_30 : decode cJ6_numberOfTrailingZeros_0f7a4 30 = .ok (.bipush 16, 2) := by decide +kernel
theorem dJ6_numberOfTrailingZeros_0f7a4_32 : decode cJ6_numberOfTrailingZeros_0f7a4 32 = .ok (.iushr, 1) := by decide +kernel
theorem dJ6_numberOfTrailingZeros_0f7a4_33 : decode cJ6_numberOfTrailingZeros_0f7a4 33 = .ok (.istore_n 0, 1) := by decide +kernel
theorem dJ6_numberOfTrailingZeros_0f7a4_34 : decode cJ6_numberOfTrailingZeros_0f7a4 34 = .ok (.iload_n 0, 1) := by decide +kernel
theorem dJ6_numberOfTrailingZeros_0f7a4_35 : decode cJ6_numberOfTrailingZeros_0f7a4 35 = .ok (.sipush 256, 3) := by decide +kernel
theorem dJ6_numberOfTrailingZeros_0f7a4_38 : decode cJ6_numberOfTrailingZeros_0f7a4 38 = .ok (.if_icmp .le 11, 3) := by decide +kernel
theorem dJ6_numberOfTrailingZeros_0f7a4_41 : decode cJ6_numberOfTrailingZeros_0f7a4 41 = .ok (.iinc 1 8, 3) := by decide +kernel
theorem dJ6_numberOfTrailingZeros_0f7a4_44 : decode cJ6_numberOfTrailingZeros_0f7a4 44 = .ok (.iload_n 0, 1) := by decide +kernel
theorem dJ6_numberOfTrailingZeros_0f7a4_45 : decode cJ6_numberOfTrailingZeros_0f7a4 45 = .ok (.bipush 8, 2) := by decide +kernel
theorem dJ6_numberOfTrailingZeros_0f7a4_47 : decode cJ6_numberOfTrailingZeros_0f7a4 47 = .ok (.iushr, 1) := by decide +kernel
theorem dJ6_numberOfTrailingZeros_0f7a4_48 : decode cJ6_numberOfTrailingZeros_0f7a4 48 = .ok (.istore_n 0, 1) := by decide +kernel
theorem dJ6_numberOfTrailingZeros_0f7a4_49 : decode cJ6_numberOfTrailingZeros_0f7a4 49 = .ok (.iload_n 0, 1) := by decide +kernel
theorem dJ6_numberOfTrailingZeros_0f7a4_50 : decode cJ6_numberOfTrailingZeros_0f7a4 50 = .ok (.bipush 16, 2) := by decide +kernel
theorem dJ6_numberOfTrailingZeros_0f7a4_52 : decode cJ6_numberOfTrailingZeros_0f7a4 52 = .ok (.if_icmp .le 10, 3) := by decide +kernel
theorem dJ6_numberOfTrailingZeros_0f7a4_55 : decode cJ6_numberOfTrailingZeros_0f7a4 55 = .ok (.iinc 1 4, 3) := by decide +kernel
theorem dJ6_numberOfTrailingZeros_0f7a4_58 : decode cJ6_numberOfTrailingZeros_0f7a4 58 = .ok (.iload_n 0, 1) := by decide +kernel
theorem dJ6_numberOfTrailingZeros_0f7a4_59 : decode cJ6_numberOfTrailingZeros_0f7a4 59 = .ok (.iconst 4, 1) := by decide +kernel
theorem dJ6_numberOfTrailingZeros_0f7a4_60 : decode cJ6_numberOfTrailingZeros_0f7a4 60 = .ok (.iushr, 1) := by decide +kernel
theorem dJ6_numberOfTrailingZeros_0f7a4_61 : decode cJ6_numberOfTrailingZeros_0f7a4 61 = .ok (.istore_n 0, 1) := by decide +kernel
theorem dJ6_numberOfTrailingZeros_0f7a4_62 : decode cJ6_numberOfTrailingZeros_0f7a4 62 = .ok (.iload_n 0, 1) := by decide +kernel
theorem dJ6_numberOfTrailingZeros_0f7a4_63 : decode cJ6_numberOfTrailingZeros_0f7a4 63 = .ok (.iconst 4, 1) := by decide +kernel
theorem dJ6_numberOfTrailingZeros_0f7a4_64 : decode cJ6_numberOfTrailingZeros_0f7a4 64 = .ok (.if_icmp .le 10, 3) := by decide +kernel
theorem dJ6_numberOfTrailingZeros_0f7a4_67 : decode cJ6_numberOfTrailingZeros_0f7a4 67 = .ok (.iinc 1 2, 3) := by decide +kernel
theorem dJ6_numberOfTrailingZeros_0f7a4_70 : decode cJ6_numberOfTrailingZeros_0f7a4 70 = .ok (.iload_n 0, 1) := by decide +kernel
theorem dJ6_numberOfTrailingZeros_0f7a4_71 : decode cJ6_numberOfTrailingZeros_0f7a4 71 = .ok (.iconst 2, 1) := by decide +kernel
theorem dJ6_numberOfTrailingZeros_0f7a4_72 : decode cJ6_numberOfTrailingZeros_0f7a4 72 = .ok (.iushr, 1) := by decide +kernel
theorem dJ6_numberOfTrailingZeros_0f7a4_73 : decode cJ6_numberOfTrailingZeros_0f7a4 73 = .ok (.istore_n 0, 1) := by decide +kernel
theorem dJ6_numberOfTrailingZeros_0f7a4_74 : decode cJ6_numberOfTrailingZeros_0f7a4 74 = .ok (.iload_n 1, 1) := by decide +kernel
theorem dJ6_numberOfTrailingZeros_0f7a4_75 : decode cJ6_numberOfTrailingZeros_0f7a4 75 = .ok (.iload_n 0, 1) := by decide +kernel
theorem dJ6_numberOfTrailingZeros_0f7a4_76 : decode cJ6_numberOfTrailingZeros_0f7a4 76 = .ok (.iconst 1, 1) := by decide +kernel
theorem dJ6_numberOfTrailingZeros_0f7a4_77 : decode cJ6_numberOfTrailingZeros_0f7a4 77 = .ok (.iushr, 1) := by decide +kernel
theorem dJ6_numberOfTrailingZeros_0f7a4_78 : decode cJ6_numberOfTrailingZeros_0f7a4 78 = .ok (.iadd, 1) := by decide +kernel
theorem dJ6_numberOfTrailingZeros_0f7a4_79 : decode cJ6_numberOfTrailingZeros_0f7a4 79 = .ok (.ireturn, 1) := by decide +kernel
theorem dJ13_compare_74951_0 : decode cJ13_compare_74951 0 = .ok (.lload_n 0, 1) := by decide +kernel
theorem dJ13_compare_74951_1 : decode cJ13_compare_74951 1 = .ok (.lload_n 2, 1) := by decide +kernel
theorem dJ13_compare_74951_2 : decode cJ13_compare_74951 2 = .ok (.lcmp, 1) := by decide +kernel
theorem dJ13_compare_74951_3 : decode cJ13_compare_74951 3 = .ok (.ifCond .ge 7, 3) := by decide +kernel
theorem dJ13_compare_74951_6 : decode cJ13_compare_74951 6 = .ok (.iconst (-1), 1) := by decide +kernel
theorem dJ13_compare_74951_7 : decode cJ13_compare_74951 7 = .ok (.goto 14, 3) := by decide +kernel
theorem dJ13_compare_74951_10 : decode cJ13_compare_74951 10 = .ok (.lload_n 0, 1) := by decide +kernel
theorem dJ13_compare_74951_11 : decode cJ13_compare_74951 11 = .ok (.lload_n 2, 1) := by decide +kernel
theorem dJ13_compare_74951_12 : decode cJ13_compare_74951 12 = .ok (.lcmp, 1) := by decide +kernel
theorem dJ13_compare_74951_13 : decode cJ13_compare_74951 13 = .ok (.ifCond .ne 7, 3) := by decide +kernel
theorem dJ13_compare_74951_16 : decode cJ13_compare_74951 16 = .ok (.iconst 0, 1) := by decide +kernel
theorem dJ13_compare_74951_17 : decode cJ13_compare_74951 17 = .ok (.goto 4, 3) := by decide +kernel
theorem dJ13_compare_74951_20 : decode cJ13_compare_74951 20 = .ok (.iconst 1, 1) := by decide +kernel
theorem dJ13_compare_74951_21 : decode cJ13_compare_74951 21 = .ok (.ireturn, 1) := by decide +kernel
set_option maxRecDepth 20000 in
theorem ggJ13_numberOfLeadingZeros_95d88_J6_numberOfLeadingZeros_0f7a4 : GoodIn wsJ13_numberOfLeadingZeros_95d88 wsJ6_numberOfLeadingZeros_0f7a4 := goodIn_r _ [4, 5] (by decide +kernel) (by decide +kernel)
set_option maxRecDepth 20000 in
theorem gJ13_numberOfLeadingZeros_95d88_J6_numberOfLeadingZeros_0f7a4 : GoodIn wsJ13_numberOfLeadingZeros_95d88 (va_wsS RJ13 308 yJ6_numberOfLeadingZeros_0f7a4 wsJ6_numberOfLeadingZeros_0f7a4) := goodIn_app (goodIn_of _ (by decide +kernel)) ggJ13_numberOfLeadingZeros_95d88_J6_numberOfLeadingZeros_0f7a4
theorem dJ13_numberOfLeadingZeros_95d88_0 : decode cJ13_numberOfLeadingZeros_95d88 0 = .ok (.lload_n 0, 1) := by decide +kernel
theorem dJ13_numberOfLeadingZeros_95d88_1 : decode cJ13_numberOfLeadingZeros_95d88 1 = .ok (.bipush 32, 2) := by decide +kernel
theorem dJ13_numberOfLeadingZeros_95d88_3 : decode cJ13_numberOfLeadingZeros_95d88 3 = .ok (.lushr, 1) := by decide +kernel
theorem dJ13_numberOfLeadingZeros_95d88_4 : decode cJ13_numberOfLeadingZeros_95d88 4 = .ok (.l2i, 1) := by decide +kernel
theorem dJ13_numberOfLeadingZeros_95d88_5 : decode cJ13_numberOfLeadingZeros_95d88 5 = .ok (.istore_n 2, 1) := by decide +kernel
theorem dJ13_numberOfLeadingZeros_95d88_6 : decode cJ13_numberOfLeadingZeros_95d88 6 = .ok (.iload_n 2, 1) := by decide +kernel
theorem dJ13_numberOfLeadingZeros_95d88_7 : decode cJ13_numberOfLeadingZeros_95d88 7 = .ok (.ifCond .ne 14, 3) := by decide +kernel
theorem dJ13_numberOfLeadingZeros_95d88_10 : decode cJ13_numberOfLeadingZeros_95d88 10 = .ok (.bipush 32, 2) := by decide +kernel
theorem dJ13_numberOfLeadingZeros_95d88_12 : decode cJ13_numberOfLeadingZeros_95d88 12 = .ok (.lload_n 0, 1) := by decide +kernel
theorem dJ13_numberOfLeadingZeros_95d88_13 : decode cJ13_numberOfLeadingZeros_95d88 13 = .ok (.l2i, 1) := by decide +kernel
theorem dJ13_numberOfLeadingZeros_95d88_14 : decode cJ13_numberOfLeadingZeros_95d88 14 = .ok (.invokestatic 308, 3) := by decide +kernel
theorem dJ13_numberOfLeadingZeros_95d88_17 : decode cJ13_numberOfLeadingZeros_95d88 17 = .ok (.iadd, 1) := by decide +kernel
theorem dJ13_numberOfLeadingZeros_95d88_18 : decode cJ13_numberOfLeadingZeros_95d88 18 = .ok (.goto 7, 3) := by decide +kernel
theorem dJ13_numberOfLeadingZeros_95d88_21 : decode cJ13_numberOfLeadingZeros_95d88 21 = .ok (.iload_n 2, 1) := by decide +kernel
theorem dJ13_numberOfLeadingZeros_95d88_22 : decode cJ13_numberOfLeadingZeros_95d88 22 = .ok (.invokestatic 308, 3) := by decide +kernel
theorem dJ13_numberOfLeadingZeros_95d88_25 : decode cJ13_numberOfLeadingZeros_95d88 25 = .ok (.ireturn, 1) := by decide +kernel
set_option maxRecDepth 20000 in
theorem ggJ13_numberOfTrailingZeros_95d88_J6_numberOfTrailingZeros_0f7a4 : GoodIn wsJ13_numberOfTrailingZeros_95d88 wsJ6_numberOfTrailingZeros_0f7a4 := goodIn_r _ [4, 5] (by decide +kernel) (by decide +kernel)
set_option maxRecDepth 20000 in
theorem gJ13_numberOfTrailingZeros_95d88_J6_numberOfTrailingZeros_0f7a4 : GoodIn wsJ13_numberOfTrailingZeros_95d88 (va_wsS RJ13 311 yJ6_numberOfTrailingZeros_0f7a4 wsJ6_numberOfTrailingZeros_0f7a4) := goodIn_app (goodIn_of _ (by decide +kernel)) ggJ13_numberOfTrailingZeros_95d88_J6_numberOfTrailingZeros_0f7a4
theorem dJ13_numberOfTrailingZeros_95d88_0 : decode cJ13_numberOfTrailingZeros_95d88 0 = .ok (.lload_n 0, 1) := by decide +kernel
theorem dJ13_numberOfTrailingZeros_95d88_1 : decode cJ13_numberOfTrailingZeros_95d88 1 = .ok (.l2i, 1) := by decide +kernel
theorem dJ13_numberOfTrailingZeros_95d88_2 : decode cJ13_numberOfTrailingZeros_95d88 2 = .ok (.istore_n 2, 1) := by decide +kernel
theorem dJ13_numberOfTrailingZeros_95d88_3 : decode cJ13_numberOfTrailingZeros_95d88 3 = .ok (.iload_n 2, 1) := by decide +kernel
theorem dJ13_numberOfTrailingZeros_95d88_4 : decode cJ13_numberOfTrailingZeros_95d88 4 = .ok (.ifCond .ne 17, 3) := by decide +kernel
theorem dJ13_numberOfTrailingZeros_95d88_7 : decode cJ13_numberOfTrailingZeros_95d88 7 = .ok (.bipush 32, 2) := by decide +kernel
theorem dJ13_numberOfTrailingZeros_95d88_9 : decode cJ13_numberOfTrailingZeros_95d88 9 = .ok (.lload_n 0, 1) := by decide +kernel
theorem dJ13_numberOfTrailingZeros_95d88_10 : decode cJ13_numberOfTrailingZeros_95d88 10 = .ok (.bipush 32, 2) := by decide +kernel
theorem dJ13_numberOfTrailingZeros_95d88_12 : decode cJ13_numberOfTrailingZeros_95d88 12 = .ok (.lushr, 1) := by decide +kernel
theorem dJ13_numberOfTrailingZeros_95d88_13 : decode cJ13_numberOfTrailingZeros_95d88 13 = .ok (.l2i, 1) := by decide +kernel
theorem dJ13_numberOfTrailingZeros_95d88_14 : decode cJ13_numberOfTrailingZeros_95d88 14 = .ok (.invokestatic 311, 3) := by decide +kernel
theorem dJ13_numberOfTrailingZeros_95d88_17 : decode cJ13_numberOfTrailingZeros_95d88 17 = .ok (.iadd, 1) := by decide +kernel
theorem dJ13_numberOfTrailingZeros_95d88_18 : decode cJ13_numberOfTrailingZeros_95d88 18 = .ok (.goto 7, 3) := by decide +kernel
theorem dJ13_numberOfTrailingZeros_95d88_21 : decode cJ13_numberOfTrailingZeros_95d88 21 = .ok (.iload_n 2, 1) := by decide +kernel
theorem dJ13_numberOfTrailingZeros_95d88_22 : decode cJ13_numberOfTrailingZeros_95d88 22 = .ok (.invokestatic 311, 3) := by decide +kernel
theorem dJ13_numberOfTrailingZeros_95d88_25 : decode cJ13_numberOfTrailingZeros_95d88 25 = .ok (.ireturn, 1) := by decide +kernel
theorem dJ9_floorMod_7cf53_0 : decode cJ9_floorMod_7cf53 0 = .ok (.iload_n 0, 1) := by decide +kernel
theorem dJ9_floorMod_7cf53_1 : decode cJ9_floorMod_7cf53 1 = .ok (.iload_n 1, 1) := by decide +kernel
theorem dJ9_floorMod_7cf53_2 : decode cJ9_floorMod_7cf53 2 = .ok (.irem, 1) := by decide +kernel
theorem dJ9_floorMod_7cf53_3 : decode cJ9_floorMod_7cf53 3 = .ok (.istore_n 2, 1) := by decide +kernel
theorem dJ9_floorMod_7cf53_4 : decode cJ9_floorMod_7cf53 4 = .ok (.iload_n 0, 1) := by decide +kernel
theorem dJ9_floorMod_7cf53_5 : decode cJ9_floorMod_7cf53 5 = .ok (.iload_n 1, 1) := by decide +kernel
theorem dJ9_floorMod_7cf53_6 : decode cJ9_floorMod_7cf53 6 = .ok (.ixor, 1) := by decide +kernel
theorem dJ9_floorMod_7cf53_7 : decode cJ9_floorMod_7cf53 7 = .ok (.ifCond .ge 11, 3) := by decide +kernel
theorem dJ9_floorMod_7cf53_10 : decode cJ9_floorMod_7cf53 10 = .ok (.iload_n 2, 1) := by decide +kernel
theorem dJ9_floorMod_7cf53_11 : decode cJ9_floorMod_7cf53 11 = .ok (.ifCond .eq 7, 3) := by decide +kernel
theorem dJ9_floorMod_7cf53_14 : decode cJ9_floorMod_7cf53 14 = .ok (.iload_n 2, 1) := by decide +kernel
theorem dJ9_floorMod_7cf53_15 : decode cJ9_floorMod_7cf53 15 = .ok (.iload_n 1, 1) := by decide +kernel
theorem dJ9_floorMod_7cf53_16 : decode cJ9_floorMod_7cf53 16 = .ok (.iadd, 1) := by decide +kernel
theorem dJ9_floorMod_7cf53_17 : decode cJ9_floorMod_7cf53 17 = .ok (.ireturn, 1) := by decide +kernel
theorem dJ9_floorMod_7cf53_18 : decode cJ9_floorMod_7cf53 18 = .ok (.iload_n 2, 1) := by decide +kernel
theorem dJ9_floorMod_7cf53_19 : decode cJ9_floorMod_7cf53 19 = .ok (.ireturn, 1) := by decide +kernel
theorem dJ9_abs_0f7a4_0 : decode cJ9_abs_0f7a4 0 = .ok (.iload_n 0, 1) := by decide +kernel
theorem dJ9_abs_0f7a4_1 : decode cJ9_abs_0f7a4 1 = .ok (.ifCond .ge 8, 3) := by decide +kernel
theorem dJ9_abs_0f7a4_4 : decode cJ9_abs_0f7a4 4 = .ok (.iload_n 0, 1) := by decide +kernel
theorem dJ9_abs_0f7a4_5 : decode cJ9_abs_0f7a4 5 = .ok (.ineg, 1) := by decide +kernel
theorem dJ9_abs_0f7a4_6 : decode cJ9_abs_0f7a4 6 = .ok (.goto 4, 3) := by decide +kernel
theorem dJ9_abs_0f7a4_9 : decode cJ9_abs_0f7a4 9 = .ok (.iload_n 0, 1) := by decide +kernel
theorem dJ9_abs_0f7a4_10 : decode cJ9_abs_0f7a4 10 = .ok (.ireturn, 1) := by decide +kernel
theorem dJ9_max_7cf53_0 : decode cJ9_max_7cf53 0 = .ok (.iload_n 0, 1) := by decide +kernel
theorem dJ9_max_7cf53_1 : decode cJ9_max_7cf53 1 = .ok (.iload_n 1, 1) := by decide +kernel
theorem dJ9_max_7cf53_2 : decode cJ9_max_7cf53 2 = .ok (.if_icmp .lt 7, 3) := by decide +kernel
theorem dJ9_max_7cf53_5 : decode cJ9_max_7cf53 5 = .ok (.iload_n 0, 1) := by decide +kernel
theorem dJ9_max_7cf53_6 : decode cJ9_max_7cf53 6 = .ok (.goto 4, 3) := by decide +kernel
theorem dJ9_max_7cf53_9 : decode cJ9_max_7cf53 9 = .ok (.iload_n 1, 1) := by decide +kernel
theorem dJ9_max_7cf53_10 : decode cJ9_max_7cf53 10 = .ok (.ireturn, 1) := by decide +kernel
theorem dJ9_min_7cf53_0 : decode cJ9_min_7cf53 0 = .ok (.iload_n 0, 1) := by decide +kernel
theorem dJ9_min_7cf53_1 : decode cJ9_min_7cf53 1 = .ok (.iload_n 1, 1) := by decide +kernel
theorem dJ9_min_7cf53_2 : decode cJ9_min_7cf53 2 = .ok (.if_icmp .gt 7, 3) := by decide +kernel
theorem dJ9_min_7cf53_5 : decode cJ9_min_7cf53 5 = .ok (.iload_n 0, 1) := by decide +kernel
theorem dJ9_min_7cf53_6 : decode cJ9_min_7cf53 6 = .ok (.goto 4, 3) := by decide +kernel
theorem dJ9_min_7cf53_9 : decode cJ9_min_7cf53 9 = .ok (.iload_n 1, 1) := by decide +kernel
theorem dJ9_min_7cf53_10 : decode cJ9_min_7cf53 10 = .ok (.ireturn, 1) := by decide +kernel
