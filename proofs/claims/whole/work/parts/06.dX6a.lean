theorem dX6_init_0 : decode cX6_init 0 = .ok (.aload_n 0, 1) := by decide +kernel
theorem dX6_init_1 : decode cX6_init 1 = .ok (.invokespecial 1, 3) := by decide +kernel
theorem dX6_init_4 : decode cX6_init 4 = .ok (.aload_n 0, 1) := by decide +kernel
theorem dX6_init_5 : decode cX6_init 5 = .ok (.bipush 8, 2) := by decide +kernel
theorem dX6_init_7 : decode cX6_init 7 = .ok (.newarray .long, 2) := by decide +kernel
theorem dX6_init_9 : decode cX6_init 9 = .ok (.putfield 9, 3) := by decide +kernel
theorem dX6_init_12 : decode cX6_init 12 = .ok (.aload_n 0, 1) := by decide +kernel
theorem dX6_init_13 : decode cX6_init 13 = .ok (.bipush 8, 2) := by decide +kernel
theorem dX6_init_15 : decode cX6_init 15 = .ok (.newarray .int, 2) := by decide +kernel
theorem dX6_init_17 : decode cX6_init 17 = .ok (.putfield 13, 3) := by decide +kernel
theorem dX6_init_20 : decode cX6_init 20 = .ok (.aload_n 0, 1) := by decide +kernel
theorem dX6_init_21 : decode cX6_init 21 = .ok (.bipush 8, 2) := by decide +kernel
theorem dX6_init_23 : decode cX6_init 23 = .ok (.newarray .long, 2) := by decide +kernel
theorem dX6_init_25 : decode cX6_init 25 = .ok (.putfield 17, 3) := by decide +kernel
theorem dX6_init_28 : decode cX6_init 28 = .ok (.aload_n 0, 1) := by decide +kernel
theorem dX6_init_29 : decode cX6_init 29 = .ok (.bipush 40, 2) := by decide +kernel
theorem dX6_init_31 : decode cX6_init 31 = .ok (.newarray .char, 2) := by decide +kernel
theorem dX6_init_33 : decode cX6_init 33 = .ok (.putfield 20, 3) := by decide +kernel
theorem dX6_init_36 : decode cX6_init 36 = .ok (.aload_n 0, 1) := by decide +kernel
theorem dX6_init_37 : decode cX6_init 37 = .ok (.bipush 40, 2) := by decide +kernel
theorem dX6_init_39 : decode cX6_init 39 = .ok (.newarray .int, 2) := by decide +kernel
theorem dX6_init_41 : decode cX6_init 41 = .ok (.putfield 24, 3) := by decide +kernel
theorem dX6_init_44 : decode cX6_init 44 = .ok (.return_, 1) := by decide +kernel
theorem dX6_thrown_0 : decode cX6_thrown 0 = .ok (.aload_n 0, 1) := by decide +kernel
theorem dX6_thrown_1 : decode cX6_thrown 1 = .ok (.getfield 27, 3) := by decide +kernel
theorem dX6_thrown_4 : decode cX6_thrown 4 = .ok (.ireturn, 1) := by decide +kernel
theorem dX6_no_0 : decode cX6_no 0 = .ok (.aload_n 0, 1) := by decide +kernel
theorem dX6_no_1 : decode cX6_no 1 = .ok (.iload_n 1, 1) := by decide +kernel
theorem dX6_no_2 : decode cX6_no 2 = .ok (.ifCond .eq 7, 3) := by decide +kernel
theorem dX6_no_5 : decode cX6_no 5 = .ok (.iconst 0, 1) := by decide +kernel
theorem dX6_no_6 : decode cX6_no 6 = .ok (.goto 4, 3) := by decide +kernel
theorem dX6_no_9 : decode cX6_no 9 = .ok (.iload_n 2, 1) := by decide +kernel
theorem dX6_no_10 : decode cX6_no 10 = .ok (.putfield 27, 3) := by decide +kernel
theorem dX6_no_13 : decode cX6_no 13 = .ok (.iload_n 1, 1) := by decide +kernel
theorem dX6_no_14 : decode cX6_no 14 = .ok (.ifCond .ne 7, 3) := by decide +kernel
theorem dX6_no_17 : decode cX6_no 17 = .ok (.iconst 1, 1) := by decide +kernel
theorem dX6_no_18 : decode cX6_no 18 = .ok (.goto 4, 3) := by decide +kernel
theorem dX6_no_21 : decode cX6_no 21 = .ok (.iconst 0, 1) := by decide +kernel
theorem dX6_no_22 : decode cX6_no 22 = .ok (.ireturn, 1) := by decide +kernel
theorem dX6_in_0 : decode cX6_in 0 = .ok (.iload_n 0, 1) := by decide +kernel
theorem dX6_in_1 : decode cX6_in 1 = .ok (.iload_n 1, 1) := by decide +kernel
theorem dX6_in_2 : decode cX6_in 2 = .ok (.if_icmp .lt 12, 3) := by decide +kernel
theorem dX6_in_5 : decode cX6_in 5 = .ok (.iload_n 0, 1) := by decide +kernel
theorem dX6_in_6 : decode cX6_in 6 = .ok (.iload_n 2, 1) := by decide +kernel
theorem dX6_in_7 : decode cX6_in 7 = .ok (.if_icmp .gt 7, 3) := by decide +kernel
theorem dX6_in_10 : decode cX6_in 10 = .ok (.iconst 1, 1) := by decide +kernel
theorem dX6_in_11 : decode cX6_in 11 = .ok (.goto 4, 3) := by decide +kernel
theorem dX6_in_14 : decode cX6_in 14 = .ok (.iconst 0, 1) := by decide +kernel
theorem dX6_in_15 : decode cX6_in 15 = .ok (.ireturn, 1) := by decide +kernel
set_option maxRecDepth 20000 in
theorem ggX6_isSlot_X6_in : GoodIn wsX6_isSlot wsX6_in := goodIn_r _ [4] (by decide +kernel) (by decide +kernel)
set_option maxRecDepth 20000 in
theorem gX6_isSlot_X6_in : GoodIn wsX6_isSlot (va_wsS RX6 31 yX6_in wsX6_in) := goodIn_app (goodIn_of _ (by decide +kernel)) ggX6_isSlot_X6_in
theorem dX6_isSlot_0 : decode cX6_isSlot 0 = .ok (.iload_n 0, 1) := by decide +kernel
theorem dX6_isSlot_1 : decode cX6_isSlot 1 = .ok (.iconst 0, 1) := by decide +kernel
theorem dX6_isSlot_2 : decode cX6_isSlot 2 = .ok (.bipush 7, 2) := by decide +kernel
theorem dX6_isSlot_4 : decode cX6_isSlot 4 = .ok (.invokestatic 31, 3) := by decide +kernel
theorem dX6_isSlot_7 : decode cX6_isSlot 7 = .ok (.ireturn, 1) := by decide +kernel
set_option maxRecDepth 20000 in
theorem ggX6_lacks_X6_isSlot : GoodIn wsX6_lacks wsX6_isSlot := goodIn_r _ [4, 5, 6, 3, 7] (by decide +kernel) (by decide +kernel)
set_option maxRecDepth 20000 in
theorem gX6_lacks_X6_isSlot : GoodIn wsX6_lacks (va_wsS RX6 35 yX6_isSlot wsX6_isSlot) := goodIn_app (goodIn_of _ (by decide +kernel)) ggX6_lacks_X6_isSlot
set_option maxRecDepth 20000 in
theorem ggX6_lacks_X6_no : GoodIn wsX6_lacks wsX6_no := goodIn_r _ [11, 12, 13, 14, 15, 16, 17, 18, 19, 20] (by decide +kernel) (by decide +kernel)
set_option maxRecDepth 20000 in
theorem gX6_lacks_X6_no : GoodIn wsX6_lacks (wsV RX6 39 RX6 yX6_no wsX6_no) := goodIn_app (goodIn_of _ (by decide +kernel)) ggX6_lacks_X6_no
theorem dX6_lacks_0 : decode cX6_lacks 0 = .ok (.aload_n 0, 1) := by decide +kernel
theorem dX6_lacks_1 : decode cX6_lacks 1 = .ok (.iload_n 1, 1) := by decide +kernel
theorem dX6_lacks_2 : decode cX6_lacks 2 = .ok (.invokestatic 35, 3) := by decide +kernel
theorem dX6_lacks_5 : decode cX6_lacks 5 = .ok (.iconst 1, 1) := by decide +kernel
theorem dX6_lacks_6 : decode cX6_lacks 6 = .ok (.invokevirtual 39, 3) := by decide +kernel
theorem dX6_lacks_9 : decode cX6_lacks 9 = .ok (.ireturn, 1) := by decide +kernel
set_option maxRecDepth 20000 in
theorem ggX6_lacks__X6_isSlot : GoodIn wsX6_lacks_ wsX6_isSlot := goodIn_r _ [4, 5, 6, 3, 7] (by decide +kernel) (by decide +kernel)
set_option maxRecDepth 20000 in
theorem gX6_lacks__X6_isSlot : GoodIn wsX6_lacks_ (va_wsS RX6 35 yX6_isSlot wsX6_isSlot) := goodIn_app (goodIn_of _ (by decide +kernel)) ggX6_lacks__X6_isSlot
set_option maxRecDepth 20000 in
theorem ggX6_lacks__X6_no : GoodIn wsX6_lacks_ wsX6_no := goodIn_r _ [11, 12, 13, 14, 15, 16, 17, 18, 19, 20] (by decide +kernel) (by decide +kernel)
set_option maxRecDepth 20000 in
theorem gX6_lacks__X6_no : GoodIn wsX6_lacks_ (wsV RX6 39 RX6 yX6_no wsX6_no) := goodIn_app (goodIn_of _ (by decide +kernel)) ggX6_lacks__X6_no
theorem dX6_lacks__0 : decode cX6_lacks_ 0 = .ok (.aload_n 0, 1) := by decide +kernel
theorem dX6_lacks__1 : decode cX6_lacks_ 1 = .ok (.iload_n 1, 1) := by decide +kernel
theorem dX6_lacks__2 : decode cX6_lacks_ 2 = .ok (.invokestatic 35, 3) := by decide +kernel
theorem dX6_lacks__5 : decode cX6_lacks_ 5 = .ok (.ifCond .eq 14, 3) := by decide +kernel
theorem dX6_lacks__8 : decode cX6_lacks_ 8 = .ok (.iload_n 2, 1) := by decide +kernel
theorem dX6_lacks__9 : decode cX6_lacks_ 9 = .ok (.invokestatic 35, 3) := by decide +kernel
theorem dX6_lacks__12 : decode cX6_lacks_ 12 = .ok (.ifCond .eq 7, 3) := by decide +kernel
theorem dX6_lacks__15 : decode cX6_lacks_ 15 = .ok (.iconst 1, 1) := by decide +kernel
theorem dX6_lacks__16 : decode cX6_lacks_ 16 = .ok (.goto 4, 3) := by decide +kernel
theorem dX6_lacks__19 : decode cX6_lacks_ 19 = .ok (.iconst 0, 1) := by decide +kernel
theorem dX6_lacks__20 : decode cX6_lacks_ 20 = .ok (.iconst 1, 1) := by decide +kernel
theorem dX6_lacks__21 : decode cX6_lacks_ 21 = .ok (.invokevirtual 39, 3) := by decide +kernel
theorem dX6_lacks__24 : decode cX6_lacks_ 24 = .ok (.ireturn, 1) := by decide +kernel
set_option maxRecDepth 20000 in
theorem ggX6_lacks___X6_isSlot : GoodIn wsX6_lacks__ wsX6_isSlot := goodIn_r _ [4, 5, 6, 3, 7] (by decide +kernel) (by decide +kernel)
set_option maxRecDepth 20000 in
theorem gX6_lacks___X6_isSlot : GoodIn wsX6_lacks__ (va_wsS RX6 35 yX6_isSlot wsX6_isSlot) := goodIn_app (goodIn_of _ (by decide +kernel)) ggX6_lacks___X6_isSlot
set_option maxRecDepth 20000 in
theorem ggX6_lacks___X6_no : GoodIn wsX6_lacks__ wsX6_no := goodIn_r _ [11, 12, 13, 14, 15, 16, 17, 18, 19, 20] (by decide +kernel) (by decide +kernel)
set_option maxRecDepth 20000 in
theorem gX6_lacks___X6_no : GoodIn wsX6_lacks__ (wsV RX6 39 RX6 yX6_no wsX6_no) := goodIn_app (goodIn_of _ (by decide +kernel)) ggX6_lacks___X6_no
theorem dX6_lacks___0 : decode cX6_lacks__ 0 = .ok (.aload_n 0, 1) := by decide +kernel
theorem dX6_lacks___1 : decode cX6_lacks__ 1 = .ok (.iload_n 1, 1) := by decide +kernel
theorem dX6_lacks___2 : decode cX6_lacks__ 2 = .ok (.invokestatic 35, 3) := by decide +kernel
theorem dX6_lacks___5 : decode cX6_lacks__ 5 = .ok (.ifCond .eq 21, 3) := by decide +kernel
theorem dX6_lacks___8 : decode cX6_lacks__ 8 = .ok (.iload_n 2, 1) := by decide +kernel
theorem dX6_lacks___9 : decode cX6_lacks__ 9 = .ok (.invokestatic 35, 3) := by decide +kernel
theorem dX6_lacks___12 : decode cX6_lacks__ 12 = .ok (.ifCond .eq 14, 3) := by decide +kernel
theorem dX6_lacks___15 : decode cX6_lacks__ 15 = .ok (.iload_n 3, 1) := by decide +kernel
theorem dX6_lacks___16 : decode cX6_lacks__ 16 = .ok (.invokestatic 35, 3) := by decide +kernel
theorem dX6_lacks___19 : decode cX6_lacks__ 19 = .ok (.ifCond .eq 7, 3) := by decide +kernel
theorem dX6_lacks___22 : decode cX6_lacks__ 22 = .ok (.iconst 1, 1) := by decide +kernel
theorem dX6_lacks___23 : decode cX6_lacks__ 23 = .ok (.goto 4, 3) := by decide +kernel
theorem dX6_lacks___26 : decode cX6_lacks__ 26 = .ok (.iconst 0, 1) := by decide +kernel
theorem dX6_lacks___27 : decode cX6_lacks__ 27 = .ok (.iconst 1, 1) := by decide +kernel
theorem dX6_lacks___28 : decode cX6_lacks__ 28 = .ok (.invokevirtual 39, 3) := by decide +kernel
theorem dX6_lacks___31 : decode cX6_lacks__ 31 = .ok (.ireturn, 1) := by decide +kernel
theorem dX6_size_0 : decode cX6_size 0 = .ok (.lload_n 0, 1) := by decide +kernel
theorem dX6_size_1 : decode cX6_size 1 = .ok (.lconst 0, 1) := by decide +kernel
theorem dX6_size_2 : decode cX6_size 2 = .ok (.lcmp, 1) := by decide +kernel
theorem dX6_size_3 : decode cX6_size 3 = .ok (.ifCond .lt 7, 3) := by decide +kernel
theorem dX6_size_6 : decode cX6_size 6 = .ok (.lload_n 0, 1) := by decide +kernel
theorem dX6_size_7 : decode cX6_size 7 = .ok (.goto 8, 3) := by decide +kernel
theorem dX6_size_10 : decode cX6_size 10 = .ok (.ldc2_w 43, 3) := by decide +kernel
theorem dX6_size_13 : decode cX6_size 13 = .ok (.lload_n 0, 1) := by decide +kernel
theorem dX6_size_14 : decode cX6_size 14 = .ok (.lsub, 1) := by decide +kernel
theorem dX6_size_15 : decode cX6_size 15 = .ok (.lreturn, 1) := by decide +kernel
theorem dX6_placeOf_0 : decode cX6_placeOf 0 = .ok (.lload_n 0, 1) := by decide +kernel
theorem dX6_placeOf_1 : decode cX6_placeOf 1 = .ok (.lconst 0, 1) := by decide +kernel
theorem dX6_placeOf_2 : decode cX6_placeOf 2 = .ok (.lcmp, 1) := by decide +kernel
theorem dX6_placeOf_3 : decode cX6_placeOf 3 = .ok (.ifCond .lt 7, 3) := by decide +kernel
theorem dX6_placeOf_6 : decode cX6_placeOf 6 = .ok (.lload_n 0, 1) := by decide +kernel
theorem dX6_placeOf_7 : decode cX6_placeOf 7 = .ok (.goto 6, 3) := by decide +kernel
theorem dX6_placeOf_10 : decode cX6_placeOf 10 = .ok (.lload_n 0, 1) := by decide +kernel
theorem dX6_placeOf_11 : decode cX6_placeOf 11 = .ok (.lconst 1, 1) := by decide +kernel
theorem dX6_placeOf_12 : decode cX6_placeOf 12 = .ok (.ladd, 1) := by decide +kernel
theorem dX6_placeOf_13 : decode cX6_placeOf 13 = .ok (.lreturn, 1) := by decide +kernel
theorem dX6_codeOf_0 : decode cX6_codeOf 0 = .ok (.lload_n 0, 1) := by decide +kernel
theorem dX6_codeOf_1 : decode cX6_codeOf 1 = .ok (.lconst 0, 1) := by decide +kernel
theorem dX6_codeOf_2 : decode cX6_codeOf 2 = .ok (.lcmp, 1) := by decide +kernel
theorem dX6_codeOf_3 : decode cX6_codeOf 3 = .ok (.ifCond .lt 7, 3) := by decide +kernel
theorem dX6_codeOf_6 : decode cX6_codeOf 6 = .ok (.lload_n 0, 1) := by decide +kernel
theorem dX6_codeOf_7 : decode cX6_codeOf 7 = .ok (.goto 6, 3) := by decide +kernel
theorem dX6_codeOf_10 : decode cX6_codeOf 10 = .ok (.lload_n 0, 1) := by decide +kernel
theorem dX6_codeOf_11 : decode cX6_codeOf 11 = .ok (.lconst 1, 1) := by decide +kernel
theorem dX6_codeOf_12 : decode cX6_codeOf 12 = .ok (.lsub, 1) := by decide +kernel
theorem dX6_codeOf_13 : decode cX6_codeOf 13 = .ok (.lreturn, 1) := by decide +kernel
theorem dX6_opposite_0 : decode cX6_opposite 0 = .ok (.ldc2_w 43, 3) := by decide +kernel
theorem dX6_opposite_3 : decode cX6_opposite 3 = .ok (.lload_n 0, 1) := by decide +kernel
theorem dX6_opposite_4 : decode cX6_opposite 4 = .ok (.lsub, 1) := by decide +kernel
theorem dX6_opposite_5 : decode cX6_opposite 5 = .ok (.lreturn, 1) := by decide +kernel
set_option maxRecDepth 20000 in
theorem ggX6_isEnd_X6_size : GoodIn wsX6_isEnd wsX6_size := goodIn_r _ [5, 6] (by decide +kernel) (by decide +kernel)
set_option maxRecDepth 20000 in
theorem gX6_isEnd_X6_size : GoodIn wsX6_isEnd (va_wsS RX6 45 yX6_size wsX6_size) := goodIn_app (goodIn_of _ (by decide +kernel)) ggX6_isEnd_X6_size
theorem dX6_isEnd_0 : decode cX6_isEnd 0 = .ok (.lload_n 0, 1) := by decide +kernel
theorem dX6_isEnd_1 : decode cX6_isEnd 1 = .ok (.invokestatic 45, 3) := by decide +kernel
theorem dX6_isEnd_4 : decode cX6_isEnd 4 = .ok (.ldc2_w 49, 3) := by decide +kernel
theorem dX6_isEnd_7 : decode cX6_isEnd 7 = .ok (.lcmp, 1) := by decide +kernel
theorem dX6_isEnd_8 : decode cX6_isEnd 8 = .ok (.ifCond .ne 7, 3) := by decide +kernel
theorem dX6_isEnd_11 : decode cX6_isEnd 11 = .ok (.iconst 1, 1) := by decide +kernel
theorem dX6_isEnd_12 : decode cX6_isEnd 12 = .ok (.goto 4, 3) := by decide +kernel
theorem dX6_isEnd_15 : decode cX6_isEnd 15 = .ok (.iconst 0, 1) := by decide +kernel
theorem dX6_isEnd_16 : decode cX6_isEnd 16 = .ok (.ireturn, 1) := by decide +kernel
set_option maxRecDepth 20000 in
theorem ggX6_isNothing_X6_size : GoodIn wsX6_isNothing wsX6_size := goodIn_r _ [4, 5] (by decide +kernel) (by decide +kernel)
set_option maxRecDepth 20000 in
theorem gX6_isNothing_X6_size : GoodIn wsX6_isNothing (va_wsS RX6 45 yX6_size wsX6_size) := goodIn_app (goodIn_of _ (by decide +kernel)) ggX6_isNothing_X6_size
theorem dX6_isNothing_0 : decode cX6_isNothing 0 = .ok (.lload_n 0, 1) := by decide +kernel
theorem dX6_isNothing_1 : decode cX6_isNothing 1 = .ok (.invokestatic 45, 3) := by decide +kernel
theorem dX6_isNothing_4 : decode cX6_isNothing 4 = .ok (.lconst 0, 1) := by decide +kernel
theorem dX6_isNothing_5 : decode cX6_isNothing 5 = .ok (.lcmp, 1) := by decide +kernel
theorem dX6_isNothing_6 : decode cX6_isNothing 6 = .ok (.ifCond .ne 7, 3) := by decide +kernel
theorem dX6_isNothing_9 : decode cX6_isNothing 9 = .ok (.iconst 1, 1) := by decide +kernel
theorem dX6_isNothing_10 : decode cX6_isNothing 10 = .ok (.goto 4, 3) := by decide +kernel
theorem dX6_isNothing_13 : decode cX6_isNothing 13 = .ok (.iconst 0, 1) := by decide +kernel
theorem dX6_isNothing_14 : decode cX6_isNothing 14 = .ok (.ireturn, 1) := by decide +kernel
set_option maxRecDepth 20000 in
theorem ggX6_above_X6_placeOf : GoodIn wsX6_above wsX6_placeOf := goodIn_r _ [6] (by decide +kernel) (by decide +kernel)
set_option maxRecDepth 20000 in
theorem gX6_above_X6_placeOf : GoodIn wsX6_above (va_wsS RX6 51 yX6_placeOf wsX6_placeOf) := goodIn_app (goodIn_of _ (by decide +kernel)) ggX6_above_X6_placeOf
set_option maxRecDepth 20000 in
theorem ggX6_above_X6_codeOf : GoodIn wsX6_above wsX6_codeOf := goodIn_r _ [9] (by decide +kernel) (by decide +kernel)
set_option maxRecDepth 20000 in
theorem gX6_above_X6_codeOf : GoodIn wsX6_above (va_wsS RX6 54 yX6_codeOf wsX6_codeOf) := goodIn_app (goodIn_of _ (by decide +kernel)) ggX6_above_X6_codeOf
theorem dX6_above_0 : decode cX6_above 0 = .ok (.lload_n 0, 1) := by decide +kernel
theorem dX6_above_1 : decode cX6_above 1 = .ok (.invokestatic 51, 3) := by decide +kernel
theorem dX6_above_4 : decode cX6_above 4 = .ok (.lstore_n 2, 1) := by decide +kernel
theorem dX6_above_5 : decode cX6_above 5 = .ok (.lload_n 2, 1) := by decide +kernel
theorem dX6_above_6 : decode cX6_above 6 = .ok (.ldc2_w 49, 3) := by decide +kernel
theorem dX6_above_9 : decode cX6_above 9 = .ok (.lcmp, 1) := by decide +kernel
theorem dX6_above_10 : decode cX6_above 10 = .ok (.ifCond .ne 5, 3) := by decide +kernel
theorem dX6_above_13 : decode cX6_above 13 = .ok (.lload_n 0, 1) := by decide +kernel
theorem dX6_above_14 : decode cX6_above 14 = .ok (.lreturn, 1) := by decide +kernel
theorem dX6_above_15 : decode cX6_above 15 = .ok (.lload_n 2, 1) := by decide +kernel
theorem dX6_above_16 : decode cX6_above 16 = .ok (.ldc2_w 43, 3) := by decide +kernel
theorem dX6_above_19 : decode cX6_above 19 = .ok (.lcmp, 1) := by decide +kernel
theorem dX6_above_20 : decode cX6_above 20 = .ok (.ifCond .ne 9, 3) := by decide +kernel
theorem dX6_above_23 : decode cX6_above 23 = .ok (.ldc2_w 43, 3) := by decide +kernel
theorem dX6_above_26 : decode cX6_above 26 = .ok (.goto 9, 3) := by decide +kernel
theorem dX6_above_29 : decode cX6_above 29 = .ok (.lload_n 2, 1) := by decide +kernel
theorem dX6_above_30 : decode cX6_above 30 = .ok (.lconst 1, 1) := by decide +kernel
theorem dX6_above_31 : decode cX6_above 31 = .ok (.ladd, 1) := by decide +kernel
theorem dX6_above_32 : decode cX6_above 32 = .ok (.invokestatic 54, 3) := by decide +kernel
theorem dX6_above_35 : decode cX6_above 35 = .ok (.lreturn, 1) := by decide +kernel
set_option maxRecDepth 20000 in
theorem ggX6_below_X6_opposite : GoodIn wsX6_below wsX6_opposite := goodIn_r _ [4, 5] (by decide +kernel) (by decide +kernel)
set_option maxRecDepth 20000 in
theorem gX6_below_X6_opposite : GoodIn wsX6_below (va_wsS RX6 57 yX6_opposite wsX6_opposite) := goodIn_app (goodIn_of _ (by decide +kernel)) ggX6_below_X6_opposite
set_option maxRecDepth 20000 in
theorem ggX6_below_X6_above : GoodIn wsX6_below wsX6_above := goodIn_r _ [8, 9, 5, 10, 11, 3, 12, 13, 14, 15] (by decide +kernel) (by decide +kernel)
set_option maxRecDepth 20000 in
theorem gX6_below_X6_above : GoodIn wsX6_below (va_wsS RX6 60 yX6_above wsX6_above) := goodIn_app (goodIn_of _ (by decide +kernel)) ggX6_below_X6_above
theorem dX6_below_0 : decode cX6_below 0 = .ok (.lload_n 0, 1) := by decide +kernel
theorem dX6_below_1 : decode cX6_below 1 = .ok (.invokestatic 57, 3) := by decide +kernel
theorem dX6_below_4 : decode cX6_below 4 = .ok (.invokestatic 60, 3) := by decide +kernel
theorem dX6_below_7 : decode cX6_below 7 = .ok (.invokestatic 57, 3) := by decide +kernel
theorem dX6_below_10 : decode cX6_below 10 = .ok (.lreturn, 1) := by decide +kernel
set_option maxRecDepth 20000 in
theorem ggX6_nearer_X6_placeOf : GoodIn wsX6_nearer wsX6_placeOf := goodIn_r _ [4] (by decide +kernel) (by decide +kernel)
set_option maxRecDepth 20000 in
theorem gX6_nearer_X6_placeOf : GoodIn wsX6_nearer (va_wsS RX6 51 yX6_placeOf wsX6_placeOf) := goodIn_app (goodIn_of _ (by decide +kernel)) ggX6_nearer_X6_placeOf
set_option maxRecDepth 20000 in
theorem ggX6_nearer_X6_above : GoodIn wsX6_nearer wsX6_above := goodIn_r _ [7, 8, 9, 1, 2, 3, 4, 10, 11, 12] (by decide +kernel) (by decide +kernel)
set_option maxRecDepth 20000 in
theorem gX6_nearer_X6_above : GoodIn wsX6_nearer (va_wsS RX6 60 yX6_above wsX6_above) := goodIn_app (goodIn_of _ (by decide +kernel)) ggX6_nearer_X6_above
set_option maxRecDepth 20000 in
theorem ggX6_nearer_X6_below : GoodIn wsX6_nearer wsX6_below := goodIn_r _ [15, 16, 17, 3, 18, 9, 5, 6, 7, 8, 1, 2, 4, 10, 11, 12] (by decide +kernel) (by decide +kernel)
set_option maxRecDepth 20000 in
theorem gX6_nearer_X6_below : GoodIn wsX6_nearer (va_wsS RX6 63 yX6_below wsX6_below) := goodIn_app (goodIn_of _ (by decide +kernel)) ggX6_nearer_X6_below
theorem dX6_nearer_0 : decode cX6_nearer 0 = .ok (.lload_n 0, 1) := by decide +kernel
theorem dX6_nearer_1 : decode cX6_nearer 1 = .ok (.invokestatic 51, 3) := by decide +kernel
theorem dX6_nearer_4 : decode cX6_nearer 4 = .ok (.lstore 4, 2) := by decide +kernel
theorem dX6_nearer_6 : decode cX6_nearer 6 = .ok (.lload_n 2, 1) := by decide +kernel
theorem dX6_nearer_7 : decode cX6_nearer 7 = .ok (.invokestatic 51, 3) := by decide +kernel
theorem dX6_nearer_10 : decode cX6_nearer 10 = .ok (.lstore 6, 2) := by decide +kernel
theorem dX6_nearer_12 : decode cX6_nearer 12 = .ok (.lload 4, 2) := by decide +kernel
theorem dX6_nearer_14 : decode cX6_nearer 14 = .ok (.lload 6, 2) := by decide +kernel
theorem dX6_nearer_16 : decode cX6_nearer 16 = .ok (.lcmp, 1) := by decide +kernel
theorem dX6_nearer_17 : decode cX6_nearer 17 = .ok (.ifCond .ne 7, 3) := by decide +kernel
theorem dX6_nearer_20 : decode cX6_nearer 20 = .ok (.lload_n 2, 1) := by decide +kernel
theorem dX6_nearer_21 : decode cX6_nearer 21 = .ok (.goto 22, 3) := by decide +kernel
theorem dX6_nearer_24 : decode cX6_nearer 24 = .ok (.lload 4, 2) := by decide +kernel
theorem dX6_nearer_26 : decode cX6_nearer 26 = .ok (.lload 6, 2) := by decide +kernel
theorem dX6_nearer_28 : decode cX6_nearer 28 = .ok (.lcmp, 1) := by decide +kernel
theorem dX6_nearer_29 : decode cX6_nearer 29 = .ok (.ifCond .ge 10, 3) := by decide +kernel
theorem dX6_nearer_32 : decode cX6_nearer 32 = .ok (.lload_n 0, 1) := by decide +kernel
theorem dX6_nearer_33 : decode cX6_nearer 33 = .ok (.invokestatic 60, 3) := by decide +kernel
theorem dX6_nearer_36 : decode cX6_nearer 36 = .ok (.goto 7, 3) := by decide +kernel
theorem dX6_nearer_39 : decode cX6_nearer 39 = .ok (.lload_n 0, 1) := by decide +kernel
theorem dX6_nearer_40 : decode cX6_nearer 40 = .ok (.invokestatic 63, 3) := by decide +kernel
theorem dX6_nearer_43 : decode cX6_nearer 43 = .ok (.lreturn, 1) := by decide +kernel
theorem dX6_areApart_0 : decode cX6_areApart 0 = .ok (.lload_n 0, 1) := by decide +kernel
theorem dX6_areApart_1 : decode cX6_areApart 1 = .ok (.lload_n 2, 1) := by decide +kernel
theorem dX6_areApart_2 : decode cX6_areApart 2 = .ok (.lcmp, 1) := by decide +kernel
theorem dX6_areApart_3 : decode cX6_areApart 3 = .ok (.ifCond .le 19, 3) := by decide +kernel
theorem dX6_areApart_6 : decode cX6_areApart 6 = .ok (.lload_n 0, 1) := by decide +kernel
theorem dX6_areApart_7 : decode cX6_areApart 7 = .ok (.lconst 1, 1) := by decide +kernel
theorem dX6_areApart_8 : decode cX6_areApart 8 = .ok (.lsub, 1) := by decide +kernel
theorem dX6_areApart_9 : decode cX6_areApart 9 = .ok (.lload_n 2, 1) := by decide +kernel
theorem dX6_areApart_10 : decode cX6_areApart 10 = .ok (.lcmp, 1) := by decide +kernel
theorem dX6_areApart_11 : decode cX6_areApart 11 = .ok (.ifCond .le 7, 3) := by decide +kernel
theorem dX6_areApart_14 : decode cX6_areApart 14 = .ok (.iconst 1, 1) := by decide +kernel
theorem dX6_areApart_15 : decode cX6_areApart 15 = .ok (.goto 20, 3) := by decide +kernel
theorem dX6_areApart_18 : decode cX6_areApart 18 = .ok (.iconst 0, 1) := by decide +kernel
theorem dX6_areApart_19 : decode cX6_areApart 19 = .ok (.goto 16, 3) := by decide +kernel
theorem dX6_areApart_22 : decode cX6_areApart 22 = .ok (.lload_n 2, 1) := by decide +kernel
theorem dX6_areApart_23 : decode cX6_areApart 23 = .ok (.lconst 1, 1) := by decide +kernel
theorem dX6_areApart_24 : decode cX6_areApart 24 = .ok (.lsub, 1) := by decide +kernel
theorem dX6_areApart_25 : decode cX6_areApart 25 = .ok (.lload_n 0, 1) := by decide +kernel
theorem dX6_areApart_26 : decode cX6_areApart 26 = .ok (.lcmp, 1) := by decide +kernel
theorem dX6_areApart_27 : decode cX6_areApart 27 = .ok (.ifCond .le 7, 3) := by decide +kernel
theorem dX6_areApart_30 : decode cX6_areApart 30 = .ok (.iconst 1, 1) := by decide +kernel
theorem dX6_areApart_31 : decode cX6_areApart 31 = .ok (.goto 4, 3) := by decide +kernel
theorem dX6_areApart_34 : decode cX6_areApart 34 = .ok (.iconst 0, 1) := by decide +kernel
theorem dX6_areApart_35 : decode cX6_areApart 35 = .ok (.ireturn, 1) := by decide +kernel
theorem dX6_middleOf_0 : decode cX6_middleOf 0 = .ok (.lload_n 0, 1) := by decide +kernel
theorem dX6_middleOf_1 : decode cX6_middleOf 1 = .ok (.lload_n 2, 1) := by decide +kernel
theorem dX6_middleOf_2 : decode cX6_middleOf 2 = .ok (.land, 1) := by decide +kernel
theorem dX6_middleOf_3 : decode cX6_middleOf 3 = .ok (.lload_n 0, 1) := by decide +kernel
theorem dX6_middleOf_4 : decode cX6_middleOf 4 = .ok (.lload_n 2, 1) := by decide +kernel
theorem dX6_middleOf_5 : decode cX6_middleOf 5 = .ok (.lxor, 1) := by decide +kernel
theorem dX6_middleOf_6 : decode cX6_middleOf 6 = .ok (.iconst 1, 1) := by decide +kernel
theorem dX6_middleOf_7 : decode cX6_middleOf 7 = .ok (.lshr, 1) := by decide +kernel
theorem dX6_middleOf_8 : decode cX6_middleOf 8 = .ok (.ladd, 1) := by decide +kernel
theorem dX6_middleOf_9 : decode cX6_middleOf 9 = .ok (.lreturn, 1) := by decide +kernel
theorem dX6_whole_0 : decode cX6_whole 0 = .ok (.lload_n 0, 1) := by decide +kernel
theorem dX6_whole_1 : decode cX6_whole 1 = .ok (.ldc2_w 66, 3) := by decide +kernel
theorem dX6_whole_4 : decode cX6_whole 4 = .ok (.lcmp, 1) := by decide +kernel
theorem dX6_whole_5 : decode cX6_whole 5 = .ok (.ifCond .ge 7, 3) := by decide +kernel
theorem dX6_whole_8 : decode cX6_whole 8 = .ok (.lload_n 0, 1) := by decide +kernel
theorem dX6_whole_9 : decode cX6_whole 9 = .ok (.goto 12, 3) := by decide +kernel
theorem dX6_whole_12 : decode cX6_whole 12 = .ok (.ldc2_w 66, 3) := by decide +kernel
theorem dX6_whole_15 : decode cX6_whole 15 = .ok (.lload_n 0, 1) := by decide +kernel
theorem dX6_whole_16 : decode cX6_whole 16 = .ok (.ldc2_w 66, 3) := by decide +kernel
theorem dX6_whole_19 : decode cX6_whole 19 = .ok (.lrem, 1) := by decide +kernel
theorem dX6_whole_20 : decode cX6_whole 20 = .ok (.ladd, 1) := by decide +kernel
theorem dX6_whole_21 : decode cX6_whole 21 = .ok (.lreturn, 1) := by decide +kernel
theorem dX6_shift_0 : decode cX6_shift 0 = .ok (.lload_n 0, 1) := by decide +kernel
theorem dX6_shift_1 : decode cX6_shift 1 = .ok (.ldc2_w 66, 3) := by decide +kernel
theorem dX6_shift_4 : decode cX6_shift 4 = .ok (.lcmp, 1) := by decide +kernel
theorem dX6_shift_5 : decode cX6_shift 5 = .ok (.ifCond .ge 7, 3) := by decide +kernel
theorem dX6_shift_8 : decode cX6_shift 8 = .ok (.iconst 0, 1) := by decide +kernel
theorem dX6_shift_9 : decode cX6_shift 9 = .ok (.goto 11, 3) := by decide +kernel
theorem dX6_shift_12 : decode cX6_shift 12 = .ok (.lload_n 0, 1) := by decide +kernel
theorem dX6_shift_13 : decode cX6_shift 13 = .ok (.ldc2_w 66, 3) := by decide +kernel
theorem dX6_shift_16 : decode cX6_shift 16 = .ok (.ldiv, 1) := by decide +kernel
theorem dX6_shift_17 : decode cX6_shift 17 = .ok (.l2i, 1) := by decide +kernel
theorem dX6_shift_18 : decode cX6_shift 18 = .ok (.iconst 1, 1) := by decide +kernel
theorem dX6_shift_19 : decode cX6_shift 19 = .ok (.isub, 1) := by decide +kernel
theorem dX6_shift_20 : decode cX6_shift 20 = .ok (.ireturn, 1) := by decide +kernel
theorem dX6_made_0 : decode cX6_made 0 = .ok (.lload_n 0, 1) := by decide +kernel
theorem dX6_made_1 : decode cX6_made 1 = .ok (.lstore_n 3, 1) := by decide +kernel
theorem dX6_made_2 : decode cX6_made 2 = .ok (.iload_n 2, 1) := by decide +kernel
theorem dX6_made_3 : decode cX6_made 3 = .ok (.istore 5, 2) := by decide +kernel
theorem dX6_made_5 : decode cX6_made 5 = .ok (.iload 5, 2) := by decide +kernel
theorem dX6_made_7 : decode cX6_made 7 = .ok (.bipush (-62), 2) := by decide +kernel
theorem dX6_made_9 : decode cX6_made 9 = .ok (.if_icmp .ge 5, 3) := by decide +kernel
theorem dX6_made_12 : decode cX6_made 12 = .ok (.lconst 0, 1) := by decide +kernel
theorem dX6_made_13 : decode cX6_made 13 = .ok (.lreturn, 1) := by decide +kernel
theorem dX6_made_14 : decode cX6_made 14 = .ok (.iload 5, 2) := by decide +kernel
theorem dX6_made_16 : decode cX6_made 16 = .ok (.ifCond .ge 65, 3) := by decide +kernel
theorem dX6_made_19 : decode cX6_made 19 = .ok (.lconst 1, 1) := by decide +kernel
theorem dX6_made_20 : decode cX6_made 20 = .ok (.iload 5, 2) := by decide +kernel
theorem dX6_made_22 : decode cX6_made 22 = .ok (.ineg, 1) := by decide +kernel
theorem dX6_made_23 : decode cX6_made 23 = .ok (.lshl, 1) := by decide +kernel
theorem dX6_made_24 : decode cX6_made 24 = .ok (.lstore 6, 2) := by decide +kernel
theorem dX6_made_26 : decode cX6_made 26 = .ok (.lload_n 3, 1) := by decide +kernel
theorem dX6_made_27 : decode cX6_made 27 = .ok (.lload 6, 2) := by decide +kernel
theorem dX6_made_29 : decode cX6_made 29 = .ok (.ldiv, 1) := by decide +kernel
theorem dX6_made_30 : decode cX6_made 30 = .ok (.lstore 8, 2) := by decide +kernel
theorem dX6_made_32 : decode cX6_made 32 = .ok (.lload_n 3, 1) := by decide +kernel
theorem dX6_made_33 : decode cX6_made 33 = .ok (.lload 6, 2) := by decide +kernel
theorem dX6_made_35 : decode cX6_made 35 = .ok (.lrem, 1) := by decide +kernel
theorem dX6_made_36 : decode cX6_made 36 = .ok (.lstore 10, 2) := by decide +kernel
theorem dX6_made_38 : decode cX6_made 38 = .ok (.lload 10, 2) := by decide +kernel
theorem dX6_made_40 : decode cX6_made 40 = .ok (.lload 10, 2) := by decide +kernel
theorem dX6_made_42 : decode cX6_made 42 = .ok (.ladd, 1) := by decide +kernel
theorem dX6_made_43 : decode cX6_made 43 = .ok (.lload 6, 2) := by decide +kernel
theorem dX6_made_45 : decode cX6_made 45 = .ok (.lcmp, 1) := by decide +kernel
theorem dX6_made_46 : decode cX6_made 46 = .ok (.ifCond .gt 25, 3) := by decide +kernel
theorem dX6_made_49 : decode cX6_made 49 = .ok (.lload 10, 2) := by decide +kernel
theorem dX6_made_51 : decode cX6_made 51 = .ok (.lload 10, 2) := by decide +kernel
theorem dX6_made_53 : decode cX6_made 53 = .ok (.ladd, 1) := by decide +kernel
theorem dX6_made_54 : decode cX6_made 54 = .ok (.lload 6, 2) := by decide +kernel
theorem dX6_made_56 : decode cX6_made 56 = .ok (.lcmp, 1) := by decide +kernel
theorem dX6_made_57 : decode cX6_made 57 = .ok (.ifCond .ne 21, 3) := by decide +kernel
theorem dX6_made_60 : decode cX6_made 60 = .ok (.lload 8, 2) := by decide +kernel
theorem dX6_made_62 : decode cX6_made 62 = .ok (.ldc2_w 68, 3) := by decide +kernel
theorem dX6_made_65 : decode cX6_made 65 = .ok (.lrem, 1) := by decide +kernel
theorem dX6_made_66 : decode cX6_made 66 = .ok (.lconst 1, 1) := by decide +kernel
theorem dX6_made_67 : decode cX6_made 67 = .ok (.lcmp, 1) := by decide +kernel
theorem dX6_made_68 : decode cX6_made 68 = .ok (.ifCond .ne 10, 3) := by decide +kernel
theorem dX6_made_71 : decode cX6_made 71 = .ok (.lload 8, 2) := by decide +kernel
theorem dX6_made_73 : decode cX6_made 73 = .ok (.lconst 1, 1) := by decide +kernel
theorem dX6_made_74 : decode cX6_made 74 = .ok (.ladd, 1) := by decide +kernel
theorem dX6_made_75 : decode cX6_made 75 = .ok (.goto 5, 3) := by decide +kernel
theorem dX6_made_78 : decode cX6_made 78 = .ok (.lload 8, 2) := by decide +kernel
theorem dX6_made_80 : decode cX6_made 80 = .ok (.lreturn, 1) := by decide +kernel
theorem dX6_made_81 : decode cX6_made 81 = .ok (.lload_n 3, 1) := by decide +kernel
theorem dX6_made_82 : decode cX6_made 82 = .ok (.ldc2_w 66, 3) := by decide +kernel
theorem dX6_made_85 : decode cX6_made 85 = .ok (.lcmp, 1) := by decide +kernel
theorem dX6_made_86 : decode cX6_made 86 = .ok (.ifCond .ge 18, 3) := by decide +kernel
theorem dX6_made_89 : decode cX6_made 89 = .ok (.iload 5, 2) := by decide +kernel
theorem dX6_made_91 : decode cX6_made 91 = .ok (.ifCond .le 13, 3) := by decide +kernel
theorem dX6_made_94 : decode cX6_made 94 = .ok (.lload_n 3, 1) := by decide +kernel
theorem dX6_made_95 : decode cX6_made 95 = .ok (.lload_n 3, 1) := by decide +kernel
theorem dX6_made_96 : decode cX6_made 96 = .ok (.ladd, 1) := by decide +kernel
theorem dX6_made_97 : decode cX6_made 97 = .ok (.lstore_n 3, 1) := by decide +kernel
theorem dX6_made_98 : decode cX6_made 98 = .ok (.iinc 5 (-1), 3) := by decide +kernel
theorem dX6_made_101 : decode cX6_made 101 = .ok (.goto (-20), 3) := by decide +kernel
theorem dX6_made_104 : decode cX6_made 104 = .ok (.lload_n 3, 1) := by decide +kernel
theorem dX6_made_105 : decode cX6_made 105 = .ok (.ldc2_w 66, 3) := by decide +kernel
theorem dX6_made_108 : decode cX6_made 108 = .ok (.lcmp, 1) := by decide +kernel
theorem dX6_made_109 : decode cX6_made 109 = .ok (.ifCond .ge 5, 3) := by decide +kernel
theorem dX6_made_112 : decode cX6_made 112 = .ok (.lload_n 3, 1) := by decide +kernel
theorem dX6_made_113 : decode cX6_made 113 = .ok (.lreturn, 1) := by decide +kernel
theorem dX6_made_114 : decode cX6_made 114 = .ok (.iload 5, 2) := by decide +kernel
theorem dX6_made_116 : decode cX6_made 116 = .ok (.sipush 2046, 3) := by decide +kernel
theorem dX6_made_119 : decode cX6_made 119 = .ok (.if_icmp .lt 9, 3) := by decide +kernel
theorem dX6_made_122 : decode cX6_made 122 = .ok (.ldc2_w 49, 3) := by decide +kernel
theorem dX6_made_125 : decode cX6_made 125 = .ok (.goto 18, 3) := by decide +kernel
theorem dX6_made_128 : decode cX6_made 128 = .ok (.iload 5, 2) := by decide +kernel
theorem dX6_made_130 : decode cX6_made 130 = .ok (.iconst 1, 1) := by decide +kernel
theorem dX6_made_131 : decode cX6_made 131 = .ok (.iadd, 1) := by decide +kernel
theorem dX6_made_132 : decode cX6_made 132 = .ok (.i2l, 1) := by decide +kernel
theorem dX6_made_133 : decode cX6_made 133 = .ok (.ldc2_w 66, 3) := by decide +kernel
theorem dX6_made_136 : decode cX6_made 136 = .ok (.lmul, 1) := by decide +kernel
theorem dX6_made_137 : decode cX6_made 137 = .ok (.lload_n 3, 1) := by decide +kernel
theorem dX6_made_138 : decode cX6_made 138 = .ok (.ldc2_w 66, 3) := by decide +kernel
theorem dX6_made_141 : decode cX6_made 141 = .ok (.lsub, 1) := by decide +kernel
theorem dX6_made_142 : decode cX6_made 142 = .ok (.ladd, 1) := by decide +kernel
theorem dX6_made_143 : decode cX6_made 143 = .ok (.lreturn, 1) := by decide +kernel
set_option maxRecDepth 20000 in
theorem ggX6_scaled_X6_size : GoodIn wsX6_scaled wsX6_size := goodIn_r _ [5, 6] (by decide +kernel) (by decide +kernel)
set_option maxRecDepth 20000 in
theorem gX6_scaled_X6_size : GoodIn wsX6_scaled (va_wsS RX6 45 yX6_size wsX6_size) := goodIn_app (goodIn_of _ (by decide +kernel)) ggX6_scaled_X6_size
set_option maxRecDepth 20000 in
theorem ggX6_scaled_X6_whole : GoodIn wsX6_scaled wsX6_whole := goodIn_r _ [9, 10] (by decide +kernel) (by decide +kernel)
set_option maxRecDepth 20000 in
theorem gX6_scaled_X6_whole : GoodIn wsX6_scaled (va_wsS RX6 70 yX6_whole wsX6_whole) := goodIn_app (goodIn_of _ (by decide +kernel)) ggX6_scaled_X6_whole
set_option maxRecDepth 20000 in
theorem ggX6_scaled_X6_shift : GoodIn wsX6_scaled wsX6_shift := goodIn_r _ [13, 10] (by decide +kernel) (by decide +kernel)
set_option maxRecDepth 20000 in
theorem gX6_scaled_X6_shift : GoodIn wsX6_scaled (va_wsS RX6 73 yX6_shift wsX6_shift) := goodIn_app (goodIn_of _ (by decide +kernel)) ggX6_scaled_X6_shift
set_option maxRecDepth 20000 in
theorem ggX6_scaled_X6_made : GoodIn wsX6_scaled wsX6_made := goodIn_ca (goodIn_r _ [16, 17, 10, 1] (by decide +kernel) (by decide +kernel)) (goodIn_sub (fun _ h => List.mem_cons_of_mem _ (List.mem_append_right _ h)) (by decide +kernel))
set_option maxRecDepth 20000 in
theorem gX6_scaled_X6_made : GoodIn wsX6_scaled (va_wsS RX6 77 yX6_made wsX6_made) := goodIn_app (goodIn_of _ (by decide +kernel)) ggX6_scaled_X6_made
set_option maxRecDepth 20000 in
theorem ggX6_scaled_X6_opposite : GoodIn wsX6_scaled wsX6_opposite := goodIn_r _ [20, 6] (by decide +kernel) (by decide +kernel)
set_option maxRecDepth 20000 in
theorem gX6_scaled_X6_opposite : GoodIn wsX6_scaled (va_wsS RX6 57 yX6_opposite wsX6_opposite) := goodIn_app (goodIn_of _ (by decide +kernel)) ggX6_scaled_X6_opposite
theorem dX6_scaled_0 : decode cX6_scaled 0 = .ok (.lload_n 0, 1) := by decide +kernel
theorem dX6_scaled_1 : decode cX6_scaled 1 = .ok (.invokestatic 45, 3) := by decide +kernel
theorem dX6_scaled_4 : decode cX6_scaled 4 = .ok (.lstore_n 3, 1) := by decide +kernel
theorem dX6_scaled_5 : decode cX6_scaled 5 = .ok (.lload_n 3, 1) := by decide +kernel
theorem dX6_scaled_6 : decode cX6_scaled 6 = .ok (.lconst 0, 1) := by decide +kernel
theorem dX6_scaled_7 : decode cX6_scaled 7 = .ok (.lcmp, 1) := by decide +kernel
theorem dX6_scaled_8 : decode cX6_scaled 8 = .ok (.ifCond .eq 11, 3) := by decide +kernel
theorem dX6_scaled_11 : decode cX6_scaled 11 = .ok (.lload_n 3, 1) := by decide +kernel
theorem dX6_scaled_12 : decode cX6_scaled 12 = .ok (.ldc2_w 49, 3) := by decide +kernel
theorem dX6_scaled_15 : decode cX6_scaled 15 = .ok (.lcmp, 1) := by decide +kernel
theorem dX6_scaled_16 : decode cX6_scaled 16 = .ok (.ifCond .ne 5, 3) := by decide +kernel
theorem dX6_scaled_19 : decode cX6_scaled 19 = .ok (.lload_n 0, 1) := by decide +kernel
theorem dX6_scaled_20 : decode cX6_scaled 20 = .ok (.lreturn, 1) := by decide +kernel
theorem dX6_scaled_21 : decode cX6_scaled 21 = .ok (.lload_n 3, 1) := by decide +kernel
theorem dX6_scaled_22 : decode cX6_scaled 22 = .ok (.invokestatic 70, 3) := by decide +kernel
theorem dX6_scaled_25 : decode cX6_scaled 25 = .ok (.lload_n 3, 1) := by decide +kernel
theorem dX6_scaled_26 : decode cX6_scaled 26 = .ok (.invokestatic 73, 3) := by decide +kernel
theorem dX6_scaled_29 : decode cX6_scaled 29 = .ok (.iload_n 2, 1) := by decide +kernel
theorem dX6_scaled_30 : decode cX6_scaled 30 = .ok (.iadd, 1) := by decide +kernel
theorem dX6_scaled_31 : decode cX6_scaled 31 = .ok (.invokestatic 77, 3) := by decide +kernel
theorem dX6_scaled_34 : decode cX6_scaled 34 = .ok (.lstore 5, 2) := by decide +kernel
theorem dX6_scaled_36 : decode cX6_scaled 36 = .ok (.lload_n 0, 1) := by decide +kernel
theorem dX6_scaled_37 : decode cX6_scaled 37 = .ok (.lconst 0, 1) := by decide +kernel
theorem dX6_scaled_38 : decode cX6_scaled 38 = .ok (.lcmp, 1) := by decide +kernel
theorem dX6_scaled_39 : decode cX6_scaled 39 = .ok (.ifCond .lt 8, 3) := by decide +kernel
theorem dX6_scaled_42 : decode cX6_scaled 42 = .ok (.lload 5, 2) := by decide +kernel
theorem dX6_scaled_44 : decode cX6_scaled 44 = .ok (.goto 8, 3) := by decide +kernel
theorem dX6_scaled_47 : decode cX6_scaled 47 = .ok (.lload 5, 2) := by decide +kernel
theorem dX6_scaled_49 : decode cX6_scaled 49 = .ok (.invokestatic 57, 3) := by decide +kernel
theorem dX6_scaled_52 : decode cX6_scaled 52 = .ok (.lreturn, 1) := by decide +kernel
theorem dX6_bits_0 : decode cX6_bits 0 = .ok (.iconst 0, 1) := by decide +kernel
theorem dX6_bits_1 : decode cX6_bits 1 = .ok (.istore_n 2, 1) := by decide +kernel
theorem dX6_bits_2 : decode cX6_bits 2 = .ok (.lload_n 0, 1) := by decide +kernel
theorem dX6_bits_3 : decode cX6_bits 3 = .ok (.lstore_n 3, 1) := by decide +kernel
theorem dX6_bits_4 : decode cX6_bits 4 = .ok (.lload_n 3, 1) := by decide +kernel
theorem dX6_bits_5 : decode cX6_bits 5 = .ok (.lconst 0, 1) := by decide +kernel
theorem dX6_bits_6 : decode cX6_bits 6 = .ok (.lcmp, 1) := by decide +kernel
theorem dX6_bits_7 : decode cX6_bits 7 = .ok (.ifCond .le 15, 3) := by decide +kernel
theorem dX6_bits_10 : decode cX6_bits 10 = .ok (.iinc 2 1, 3) := by decide +kernel
theorem dX6_bits_13 : decode cX6_bits 13 = .ok (.lload_n 3, 1) := by decide +kernel
theorem dX6_bits_14 : decode cX6_bits 14 = .ok (.ldc2_w 68, 3) := by decide +kernel
theorem dX6_bits_17 : decode cX6_bits 17 = .ok (.ldiv, 1) := by decide +kernel
theorem dX6_bits_18 : decode cX6_bits 18 = .ok (.lstore_n 3, 1) := by decide +kernel
theorem dX6_bits_19 : decode cX6_bits 19 = .ok (.goto (-15), 3) := by decide +kernel
theorem dX6_bits_22 : decode cX6_bits 22 = .ok (.iload_n 2, 1) := by decide +kernel
theorem dX6_bits_23 : decode cX6_bits 23 = .ok (.ireturn, 1) := by decide +kernel
set_option maxRecDepth 20000 in
theorem ggX6_leadOf_X6_whole : GoodIn wsX6_leadOf wsX6_whole := goodIn_r _ [4, 5] (by decide +kernel) (by decide +kernel)
set_option maxRecDepth 20000 in
theorem gX6_leadOf_X6_whole : GoodIn wsX6_leadOf (va_wsS RX6 70 yX6_whole wsX6_whole) := goodIn_app (goodIn_of _ (by decide +kernel)) ggX6_leadOf_X6_whole
set_option maxRecDepth 20000 in
theorem ggX6_leadOf_X6_bits : GoodIn wsX6_leadOf wsX6_bits := goodIn_r _ [8, 9] (by decide +kernel) (by decide +kernel)
set_option maxRecDepth 20000 in
theorem gX6_leadOf_X6_bits : GoodIn wsX6_leadOf (va_wsS RX6 81 yX6_bits wsX6_bits) := goodIn_app (goodIn_of _ (by decide +kernel)) ggX6_leadOf_X6_bits
set_option maxRecDepth 20000 in
theorem ggX6_leadOf_X6_shift : GoodIn wsX6_leadOf wsX6_shift := goodIn_r _ [12, 5] (by decide +kernel) (by decide +kernel)
set_option maxRecDepth 20000 in
theorem gX6_leadOf_X6_shift : GoodIn wsX6_leadOf (va_wsS RX6 73 yX6_shift wsX6_shift) := goodIn_app (goodIn_of _ (by decide +kernel)) ggX6_leadOf_X6_shift
theorem dX6_leadOf_0 : decode cX6_leadOf 0 = .ok (.lload_n 0, 1) := by decide +kernel
theorem dX6_leadOf_1 : decode cX6_leadOf 1 = .ok (.invokestatic 70, 3) := by decide +kernel
theorem dX6_leadOf_4 : decode cX6_leadOf 4 = .ok (.invokestatic 81, 3) := by decide +kernel
theorem dX6_leadOf_7 : decode cX6_leadOf 7 = .ok (.iconst 1, 1) := by decide +kernel
theorem dX6_leadOf_8 : decode cX6_leadOf 8 = .ok (.isub, 1) := by decide +kernel
theorem dX6_leadOf_9 : decode cX6_leadOf 9 = .ok (.lload_n 0, 1) := by decide +kernel
theorem dX6_leadOf_10 : decode cX6_leadOf 10 = .ok (.invokestatic 73, 3) := by decide +kernel
theorem dX6_leadOf_13 : decode cX6_leadOf 13 = .ok (.iadd, 1) := by decide +kernel
theorem dX6_leadOf_14 : decode cX6_leadOf 14 = .ok (.sipush 1074, 3) := by decide +kernel
theorem dX6_leadOf_17 : decode cX6_leadOf 17 = .ok (.isub, 1) := by decide +kernel
theorem dX6_leadOf_18 : decode cX6_leadOf 18 = .ok (.ireturn, 1) := by decide +kernel
set_option maxRecDepth 20000 in
theorem ggX6_tailOf_X6_whole : GoodIn wsX6_tailOf wsX6_whole := goodIn_r _ [5, 6] (by decide +kernel) (by decide +kernel)
set_option maxRecDepth 20000 in
theorem gX6_tailOf_X6_whole : GoodIn wsX6_tailOf (va_wsS RX6 70 yX6_whole wsX6_whole) := goodIn_app (goodIn_of _ (by decide +kernel)) ggX6_tailOf_X6_whole
set_option maxRecDepth 20000 in
theorem ggX6_tailOf_X6_shift : GoodIn wsX6_tailOf wsX6_shift := goodIn_r _ [9, 6] (by decide +kernel) (by decide +kernel)
set_option maxRecDepth 20000 in
theorem gX6_tailOf_X6_shift : GoodIn wsX6_tailOf (va_wsS RX6 73 yX6_shift wsX6_shift) := goodIn_app (goodIn_of _ (by decide +kernel)) ggX6_tailOf_X6_shift
theorem dX6_tailOf_0 : decode cX6_tailOf 0 = .ok (.iconst 0, 1) := by decide +kernel
theorem dX6_tailOf_1 : decode cX6_tailOf 1 = .ok (.istore_n 2, 1) := by decide +kernel
theorem dX6_tailOf_2 : decode cX6_tailOf 2 = .ok (.lload_n 0, 1) := by decide +kernel
theorem dX6_tailOf_3 : decode cX6_tailOf 3 = .ok (.invokestatic 70, 3) := by decide +kernel
theorem dX6_tailOf_6 : decode cX6_tailOf 6 = .ok (.lstore_n 3, 1) := by decide +kernel
theorem dX6_tailOf_7 : decode cX6_tailOf 7 = .ok (.lload_n 3, 1) := by decide +kernel
theorem dX6_tailOf_8 : decode cX6_tailOf 8 = .ok (.ldc2_w 68, 3) := by decide +kernel
theorem dX6_tailOf_11 : decode cX6_tailOf 11 = .ok (.lrem, 1) := by decide +kernel
theorem dX6_tailOf_12 : decode cX6_tailOf 12 = .ok (.lconst 0, 1) := by decide +kernel
theorem dX6_tailOf_13 : decode cX6_tailOf 13 = .ok (.lcmp, 1) := by decide +kernel
theorem dX6_tailOf_14 : decode cX6_tailOf 14 = .ok (.ifCond .ne 15, 3) := by decide +kernel
theorem dX6_tailOf_17 : decode cX6_tailOf 17 = .ok (.iinc 2 1, 3) := by decide +kernel
theorem dX6_tailOf_20 : decode cX6_tailOf 20 = .ok (.lload_n 3, 1) := by decide +kernel
theorem dX6_tailOf_21 : decode cX6_tailOf 21 = .ok (.ldc2_w 68, 3) := by decide +kernel
theorem dX6_tailOf_24 : decode cX6_tailOf 24 = .ok (.ldiv, 1) := by decide +kernel
theorem dX6_tailOf_25 : decode cX6_tailOf 25 = .ok (.lstore_n 3, 1) := by decide +kernel
theorem dX6_tailOf_26 : decode cX6_tailOf 26 = .ok (.goto (-19), 3) := by decide +kernel
theorem dX6_tailOf_29 : decode cX6_tailOf 29 = .ok (.iload_n 2, 1) := by decide +kernel
theorem dX6_tailOf_30 : decode cX6_tailOf 30 = .ok (.lload_n 0, 1) := by decide +kernel
theorem dX6_tailOf_31 : decode cX6_tailOf 31 = .ok (.invokestatic 73, 3) := by decide +kernel
theorem dX6_tailOf_34 : decode cX6_tailOf 34 = .ok (.iadd, 1) := by decide +kernel
theorem dX6_tailOf_35 : decode cX6_tailOf 35 = .ok (.sipush 1074, 3) := by decide +kernel
theorem dX6_tailOf_38 : decode cX6_tailOf 38 = .ok (.isub, 1) := by decide +kernel
theorem dX6_tailOf_39 : decode cX6_tailOf 39 = .ok (.ireturn, 1) := by decide +kernel
set_option maxRecDepth 20000 in
theorem ggX6_exponentOf_X6_size : GoodIn wsX6_exponentOf wsX6_size := goodIn_r _ [5, 6] (by decide +kernel) (by decide +kernel)
set_option maxRecDepth 20000 in
theorem gX6_exponentOf_X6_size : GoodIn wsX6_exponentOf (va_wsS RX6 45 yX6_size wsX6_size) := goodIn_app (goodIn_of _ (by decide +kernel)) ggX6_exponentOf_X6_size
theorem dX6_exponentOf_0 : decode cX6_exponentOf 0 = .ok (.lload_n 0, 1) := by decide +kernel
theorem dX6_exponentOf_1 : decode cX6_exponentOf 1 = .ok (.invokestatic 45, 3) := by decide +kernel
theorem dX6_exponentOf_4 : decode cX6_exponentOf 4 = .ok (.ldc2_w 66, 3) := by decide +kernel
theorem dX6_exponentOf_7 : decode cX6_exponentOf 7 = .ok (.ldiv, 1) := by decide +kernel
theorem dX6_exponentOf_8 : decode cX6_exponentOf 8 = .ok (.l2i, 1) := by decide +kernel
theorem dX6_exponentOf_9 : decode cX6_exponentOf 9 = .ok (.sipush 1023, 3) := by decide +kernel
theorem dX6_exponentOf_12 : decode cX6_exponentOf 12 = .ok (.isub, 1) := by decide +kernel
theorem dX6_exponentOf_13 : decode cX6_exponentOf 13 = .ok (.ireturn, 1) := by decide +kernel
set_option maxRecDepth 20000 in
theorem ggX6_unitOf_X6_exponentOf : GoodIn wsX6_unitOf wsX6_exponentOf := goodIn_r _ [5, 6, 7, 8, 4, 9, 10] (by decide +kernel) (by decide +kernel)
set_option maxRecDepth 20000 in
theorem gX6_unitOf_X6_exponentOf : GoodIn wsX6_unitOf (va_wsS RX6 84 yX6_exponentOf wsX6_exponentOf) := goodIn_app (goodIn_of _ (by decide +kernel)) ggX6_unitOf_X6_exponentOf
set_option maxRecDepth 20000 in
theorem ggX6_unitOf_X6_isEnd : GoodIn wsX6_unitOf wsX6_isEnd := goodIn_r _ [13, 1, 7, 8, 4, 9, 10] (by decide +kernel) (by decide +kernel)
set_option maxRecDepth 20000 in
theorem gX6_unitOf_X6_isEnd : GoodIn wsX6_unitOf (va_wsS RX6 87 yX6_isEnd wsX6_isEnd) := goodIn_app (goodIn_of _ (by decide +kernel)) ggX6_unitOf_X6_isEnd
set_option maxRecDepth 20000 in
theorem ggX6_unitOf_X6_made : GoodIn wsX6_unitOf wsX6_made := goodIn_ca (goodIn_r _ [16, 17, 6, 1] (by decide +kernel) (by decide +kernel)) (goodIn_sub (fun _ h => List.mem_cons_of_mem _ (List.mem_append_right _ h)) (by decide +kernel))
set_option maxRecDepth 20000 in
theorem gX6_unitOf_X6_made : GoodIn wsX6_unitOf (va_wsS RX6 77 yX6_made wsX6_made) := goodIn_app (goodIn_of _ (by decide +kernel)) ggX6_unitOf_X6_made
theorem dX6_unitOf_0 : decode cX6_unitOf 0 = .ok (.lload_n 0, 1) := by decide +kernel
theorem dX6_unitOf_1 : decode cX6_unitOf 1 = .ok (.invokestatic 84, 3) := by decide +kernel
theorem dX6_unitOf_4 : decode cX6_unitOf 4 = .ok (.istore_n 2, 1) := by decide +kernel
theorem dX6_unitOf_5 : decode cX6_unitOf 5 = .ok (.lload_n 0, 1) := by decide +kernel
theorem dX6_unitOf_6 : decode cX6_unitOf 6 = .ok (.invokestatic 87, 3) := by decide +kernel
theorem dX6_unitOf_9 : decode cX6_unitOf 9 = .ok (.ifCond .eq 9, 3) := by decide +kernel
theorem dX6_unitOf_12 : decode cX6_unitOf 12 = .ok (.ldc2_w 49, 3) := by decide +kernel
theorem dX6_unitOf_15 : decode cX6_unitOf 15 = .ok (.goto 25, 3) := by decide +kernel
theorem dX6_unitOf_18 : decode cX6_unitOf 18 = .ok (.lconst 1, 1) := by decide +kernel
theorem dX6_unitOf_19 : decode cX6_unitOf 19 = .ok (.iload_n 2, 1) := by decide +kernel
theorem dX6_unitOf_20 : decode cX6_unitOf 20 = .ok (.sipush (-1022), 3) := by decide +kernel
theorem dX6_unitOf_23 : decode cX6_unitOf 23 = .ok (.if_icmp .ge 9, 3) := by decide +kernel
theorem dX6_unitOf_26 : decode cX6_unitOf 26 = .ok (.sipush (-1022), 3) := by decide +kernel
theorem dX6_unitOf_29 : decode cX6_unitOf 29 = .ok (.goto 4, 3) := by decide +kernel
theorem dX6_unitOf_32 : decode cX6_unitOf 32 = .ok (.iload_n 2, 1) := by decide +kernel
theorem dX6_unitOf_33 : decode cX6_unitOf 33 = .ok (.sipush 1022, 3) := by decide +kernel
theorem dX6_unitOf_36 : decode cX6_unitOf 36 = .ok (.iadd, 1) := by decide +kernel
theorem dX6_unitOf_37 : decode cX6_unitOf 37 = .ok (.invokestatic 77, 3) := by decide +kernel
theorem dX6_unitOf_40 : decode cX6_unitOf 40 = .ok (.lreturn, 1) := by decide +kernel
set_option maxRecDepth 20000 in
theorem ggX6_becomes_X6_placeOf : GoodIn wsX6_becomes wsX6_placeOf := goodIn_r _ [8] (by decide +kernel) (by decide +kernel)
set_option maxRecDepth 20000 in
theorem gX6_becomes_X6_placeOf : GoodIn wsX6_becomes (va_wsS RX6 51 yX6_placeOf wsX6_placeOf) := goodIn_app (goodIn_of _ (by decide +kernel)) ggX6_becomes_X6_placeOf
theorem dX6_becomes_0 : decode cX6_becomes 0 = .ok (.aload_n 0, 1) := by decide +kernel
theorem dX6_becomes_1 : decode cX6_becomes 1 = .ok (.getfield 91, 3) := by decide +kernel
theorem dX6_becomes_4 : decode cX6_becomes 4 = .ok (.bipush 8, 2) := by decide +kernel
theorem dX6_becomes_6 : decode cX6_becomes 6 = .ok (.if_icmp .ne 61, 3) := by decide +kernel
theorem dX6_becomes_9 : decode cX6_becomes 9 = .ok (.iconst 1, 1) := by decide +kernel
theorem dX6_becomes_10 : decode cX6_becomes 10 = .ok (.istore 4, 2) := by decide +kernel
theorem dX6_becomes_12 : decode cX6_becomes 12 = .ok (.iload 4, 2) := by decide +kernel
theorem dX6_becomes_14 : decode cX6_becomes 14 = .ok (.bipush 8, 2) := by decide +kernel
theorem dX6_becomes_16 : decode cX6_becomes 16 = .ok (.if_icmp .ge 41, 3) := by decide +kernel
theorem dX6_becomes_19 : decode cX6_becomes 19 = .ok (.aload_n 0, 1) := by decide +kernel
theorem dX6_becomes_20 : decode cX6_becomes 20 = .ok (.getfield 13, 3) := by decide +kernel
theorem dX6_becomes_23 : decode cX6_becomes 23 = .ok (.iload 4, 2) := by decide +kernel
theorem dX6_becomes_25 : decode cX6_becomes 25 = .ok (.iconst 1, 1) := by decide +kernel
theorem dX6_becomes_26 : decode cX6_becomes 26 = .ok (.isub, 1) := by decide +kernel
theorem dX6_becomes_27 : decode cX6_becomes 27 = .ok (.aload_n 0, 1) := by decide +kernel
theorem dX6_becomes_28 : decode cX6_becomes 28 = .ok (.getfield 13, 3) := by decide +kernel
theorem dX6_becomes_31 : decode cX6_becomes 31 = .ok (.iload 4, 2) := by decide +kernel
theorem dX6_becomes_33 : decode cX6_becomes 33 = .ok (.iaload, 1) := by decide +kernel
theorem dX6_becomes_34 : decode cX6_becomes 34 = .ok (.iastore, 1) := by decide +kernel
theorem dX6_becomes_35 : decode cX6_becomes 35 = .ok (.aload_n 0, 1) := by decide +kernel
theorem dX6_becomes_36 : decode cX6_becomes 36 = .ok (.getfield 17, 3) := by decide +kernel
theorem dX6_becomes_39 : decode cX6_becomes 39 = .ok (.iload 4, 2) := by decide +kernel
theorem dX6_becomes_41 : decode cX6_becomes 41 = .ok (.iconst 1, 1) := by decide +kernel
theorem dX6_becomes_42 : decode cX6_becomes 42 = .ok (.isub, 1) := by decide +kernel
theorem dX6_becomes_43 : decode cX6_becomes 43 = .ok (.aload_n 0, 1) := by decide +kernel
theorem dX6_becomes_44 : decode cX6_becomes 44 = .ok (.getfield 17, 3) := by decide +kernel
theorem dX6_becomes_47 : decode cX6_becomes 47 = .ok (.iload 4, 2) := by decide +kernel
theorem dX6_becomes_49 : decode cX6_becomes 49 = .ok (.laload, 1) := by decide +kernel
theorem dX6_becomes_50 : decode cX6_becomes 50 = .ok (.lastore, 1) := by decide +kernel
theorem dX6_becomes_51 : decode cX6_becomes 51 = .ok (.iinc 4 1, 3) := by decide +kernel
theorem dX6_becomes_54 : decode cX6_becomes 54 = .ok (.goto (-42), 3) := by decide +kernel
theorem dX6_becomes_57 : decode cX6_becomes 57 = .ok (.aload_n 0, 1) := by decide +kernel
theorem dX6_becomes_58 : decode cX6_becomes 58 = .ok (.dup, 1) := by decide +kernel
theorem dX6_becomes_59 : decode cX6_becomes 59 = .ok (.getfield 91, 3) := by decide +kernel
theorem dX6_becomes_62 : decode cX6_becomes 62 = .ok (.iconst 1, 1) := by decide +kernel
theorem dX6_becomes_63 : decode cX6_becomes 63 = .ok (.isub, 1) := by decide +kernel
theorem dX6_becomes_64 : decode cX6_becomes 64 = .ok (.putfield 91, 3) := by decide +kernel
theorem dX6_becomes_67 : decode cX6_becomes 67 = .ok (.aload_n 0, 1) := by decide +kernel
theorem dX6_becomes_68 : decode cX6_becomes 68 = .ok (.getfield 13, 3) := by decide +kernel
theorem dX6_becomes_71 : decode cX6_becomes 71 = .ok (.aload_n 0, 1) := by decide +kernel
theorem dX6_becomes_72 : decode cX6_becomes 72 = .ok (.getfield 91, 3) := by decide +kernel
theorem dX6_becomes_75 : decode cX6_becomes 75 = .ok (.iload_n 1, 1) := by decide +kernel
theorem dX6_becomes_76 : decode cX6_becomes 76 = .ok (.iastore, 1) := by decide +kernel
theorem dX6_becomes_77 : decode cX6_becomes 77 = .ok (.aload_n 0, 1) := by decide +kernel
theorem dX6_becomes_78 : decode cX6_becomes 78 = .ok (.getfield 17, 3) := by decide +kernel
theorem dX6_becomes_81 : decode cX6_becomes 81 = .ok (.aload_n 0, 1) := by decide +kernel
theorem dX6_becomes_82 : decode cX6_becomes 82 = .ok (.getfield 91, 3) := by decide +kernel
theorem dX6_becomes_85 : decode cX6_becomes 85 = .ok (.aload_n 0, 1) := by decide +kernel
theorem dX6_becomes_86 : decode cX6_becomes 86 = .ok (.getfield 9, 3) := by decide +kernel
theorem dX6_becomes_89 : decode cX6_becomes 89 = .ok (.iload_n 1, 1) := by decide +kernel
theorem dX6_becomes_90 : decode cX6_becomes 90 = .ok (.laload, 1) := by decide +kernel
theorem dX6_becomes_91 : decode cX6_becomes 91 = .ok (.lastore, 1) := by decide +kernel
theorem dX6_becomes_92 : decode cX6_becomes 92 = .ok (.aload_n 0, 1) := by decide +kernel
theorem dX6_becomes_93 : decode cX6_becomes 93 = .ok (.dup, 1) := by decide +kernel
theorem dX6_becomes_94 : decode cX6_becomes 94 = .ok (.getfield 91, 3) := by decide +kernel
theorem dX6_becomes_97 : decode cX6_becomes 97 = .ok (.iconst 1, 1) := by decide +kernel
theorem dX6_becomes_98 : decode cX6_becomes 98 = .ok (.iadd, 1) := by decide +kernel
theorem dX6_becomes_99 : decode cX6_becomes 99 = .ok (.putfield 91, 3) := by decide +kernel
theorem dX6_becomes_102 : decode cX6_becomes 102 = .ok (.aload_n 0, 1) := by decide +kernel
theorem dX6_becomes_103 : decode cX6_becomes 103 = .ok (.getfield 9, 3) := by decide +kernel
theorem dX6_becomes_106 : decode cX6_becomes 106 = .ok (.iload_n 1, 1) := by decide +kernel
theorem dX6_becomes_107 : decode cX6_becomes 107 = .ok (.lload_n 2, 1) := by decide +kernel
theorem dX6_becomes_108 : decode cX6_becomes 108 = .ok (.lastore, 1) := by decide +kernel
theorem dX6_becomes_109 : decode cX6_becomes 109 = .ok (.lload_n 2, 1) := by decide +kernel
theorem dX6_becomes_110 : decode cX6_becomes 110 = .ok (.invokestatic 51, 3) := by decide +kernel
theorem dX6_becomes_113 : decode cX6_becomes 113 = .ok (.lreturn, 1) := by decide +kernel
set_option maxRecDepth 20000 in
theorem ggX6_undo_X6_no : GoodIn wsX6_undo wsX6_no := goodIn_r _ [9, 10, 11, 12, 13, 14, 15, 16, 17, 18] (by decide +kernel) (by decide +kernel)
set_option maxRecDepth 20000 in
theorem gX6_undo_X6_no : GoodIn wsX6_undo (wsV RX6 39 RX6 yX6_no wsX6_no) := goodIn_app (goodIn_of _ (by decide +kernel)) ggX6_undo_X6_no
theorem dX6_undo_0 : decode cX6_undo 0 = .ok (.aload_n 0, 1) := by decide +kernel
theorem dX6_undo_1 : decode cX6_undo 1 = .ok (.aload_n 0, 1) := by decide +kernel
theorem dX6_undo_2 : decode cX6_undo 2 = .ok (.getfield 91, 3) := by decide +kernel
theorem dX6_undo_5 : decode cX6_undo 5 = .ok (.ifCond .le 7, 3) := by decide +kernel
theorem dX6_undo_8 : decode cX6_undo 8 = .ok (.iconst 1, 1) := by decide +kernel
theorem dX6_undo_9 : decode cX6_undo 9 = .ok (.goto 4, 3) := by decide +kernel
theorem dX6_undo_12 : decode cX6_undo 12 = .ok (.iconst 0, 1) := by decide +kernel
theorem dX6_undo_13 : decode cX6_undo 13 = .ok (.iconst 1, 1) := by decide +kernel
theorem dX6_undo_14 : decode cX6_undo 14 = .ok (.invokevirtual 39, 3) := by decide +kernel
theorem dX6_undo_17 : decode cX6_undo 17 = .ok (.ifCond .eq 5, 3) := by decide +kernel
theorem dX6_undo_20 : decode cX6_undo 20 = .ok (.iconst 0, 1) := by decide +kernel
theorem dX6_undo_21 : decode cX6_undo 21 = .ok (.ireturn, 1) := by decide +kernel
theorem dX6_undo_22 : decode cX6_undo 22 = .ok (.aload_n 0, 1) := by decide +kernel
theorem dX6_undo_23 : decode cX6_undo 23 = .ok (.dup, 1) := by decide +kernel
theorem dX6_undo_24 : decode cX6_undo 24 = .ok (.getfield 91, 3) := by decide +kernel
theorem dX6_undo_27 : decode cX6_undo 27 = .ok (.iconst 1, 1) := by decide +kernel
theorem dX6_undo_28 : decode cX6_undo 28 = .ok (.isub, 1) := by decide +kernel
theorem dX6_undo_29 : decode cX6_undo 29 = .ok (.putfield 91, 3) := by decide +kernel
theorem dX6_undo_32 : decode cX6_undo 32 = .ok (.aload_n 0, 1) := by decide +kernel
theorem dX6_undo_33 : decode cX6_undo 33 = .ok (.getfield 9, 3) := by decide +kernel
theorem dX6_undo_36 : decode cX6_undo 36 = .ok (.aload_n 0, 1) := by decide +kernel
theorem dX6_undo_37 : decode cX6_undo 37 = .ok (.getfield 13, 3) := by decide +kernel
theorem dX6_undo_40 : decode cX6_undo 40 = .ok (.aload_n 0, 1) := by decide +kernel
theorem dX6_undo_41 : decode cX6_undo 41 = .ok (.getfield 91, 3) := by decide +kernel
theorem dX6_undo_44 : decode cX6_undo 44 = .ok (.iaload, 1) := by decide +kernel
theorem dX6_undo_45 : decode cX6_undo 45 = .ok (.aload_n 0, 1) := by decide +kernel
theorem dX6_undo_46 : decode cX6_undo 46 = .ok (.getfield 17, 3) := by decide +kernel
theorem dX6_undo_49 : decode cX6_undo 49 = .ok (.aload_n 0, 1) := by decide +kernel
theorem dX6_undo_50 : decode cX6_undo 50 = .ok (.getfield 91, 3) := by decide +kernel
theorem dX6_undo_53 : decode cX6_undo 53 = .ok (.laload, 1) := by decide +kernel
theorem dX6_undo_54 : decode cX6_undo 54 = .ok (.lastore, 1) := by decide +kernel
theorem dX6_undo_55 : decode cX6_undo 55 = .ok (.aload_n 0, 1) := by decide +kernel
theorem dX6_undo_56 : decode cX6_undo 56 = .ok (.getfield 13, 3) := by decide +kernel
theorem dX6_undo_59 : decode cX6_undo 59 = .ok (.aload_n 0, 1) := by decide +kernel
theorem dX6_undo_60 : decode cX6_undo 60 = .ok (.getfield 91, 3) := by decide +kernel
theorem dX6_undo_63 : decode cX6_undo 63 = .ok (.iaload, 1) := by decide +kernel
theorem dX6_undo_64 : decode cX6_undo 64 = .ok (.ireturn, 1) := by decide +kernel
set_option maxRecDepth 20000 in
theorem ggX6_set_X6_lacks : GoodIn wsX6_set wsX6_lacks := goodIn_r _ [5, 6, 7, 4, 8, 9, 10, 11, 12, 13, 14, 15, 16, 38, 39, 40, 41, 42, 43, 44, 45] (by decide +kernel) (by decide +kernel)
set_option maxRecDepth 20000 in
theorem gX6_set_X6_lacks : GoodIn wsX6_set (wsV RX6 94 RX6 yX6_lacks wsX6_lacks) := goodIn_app (goodIn_of _ (by decide +kernel)) ggX6_set_X6_lacks
set_option maxRecDepth 20000 in
theorem ggX6_set_X6_in : GoodIn wsX6_set wsX6_in := goodIn_r _ [11] (by decide +kernel) (by decide +kernel)
set_option maxRecDepth 20000 in
theorem gX6_set_X6_in : GoodIn wsX6_set (va_wsS RX6 31 yX6_in wsX6_in) := goodIn_app (goodIn_of _ (by decide +kernel)) ggX6_set_X6_in
set_option maxRecDepth 20000 in
theorem ggX6_set_X6_no : GoodIn wsX6_set wsX6_no := goodIn_r _ [15, 16, 38, 39, 40, 41, 42, 43, 44, 45] (by decide +kernel) (by decide +kernel)
set_option maxRecDepth 20000 in
theorem gX6_set_X6_no : GoodIn wsX6_set (wsV RX6 39 RX6 yX6_no wsX6_no) := goodIn_app (goodIn_of _ (by decide +kernel)) ggX6_set_X6_no
set_option maxRecDepth 20000 in
theorem ggX6_set_X6_made : GoodIn wsX6_set wsX6_made := goodIn_ca (goodIn_r _ [19, 20, 21, 22] (by decide +kernel) (by decide +kernel)) (goodIn_sub (fun _ h => List.mem_cons_of_mem _ (List.mem_append_left _ (List.mem_append_right _ h))) (by decide +kernel))
set_option maxRecDepth 20000 in
theorem gX6_set_X6_made : GoodIn wsX6_set (va_wsS RX6 77 yX6_made wsX6_made) := goodIn_app (goodIn_of _ (by decide +kernel)) ggX6_set_X6_made
set_option maxRecDepth 20000 in
theorem ggX6_set_X6_opposite : GoodIn wsX6_set wsX6_opposite := goodIn_r _ [25, 26] (by decide +kernel) (by decide +kernel)
set_option maxRecDepth 20000 in
theorem gX6_set_X6_opposite : GoodIn wsX6_set (va_wsS RX6 57 yX6_opposite wsX6_opposite) := goodIn_app (goodIn_of _ (by decide +kernel)) ggX6_set_X6_opposite
set_option maxRecDepth 20000 in
theorem ggX6_set_X6_becomes : GoodIn wsX6_set wsX6_becomes := goodIn_ca (goodIn_r _ [30, 31, 32, 33, 34, 35, 36, 4, 37, 38, 39, 40, 41, 42, 43, 44, 45] (by decide +kernel) (by decide +kernel)) (goodIn_sub (fun _ h => List.mem_cons_of_mem _ (List.mem_append_right _ h)) (by decide +kernel))
set_option maxRecDepth 20000 in
theorem gX6_set_X6_becomes : GoodIn wsX6_set (wsV RX6 97 RX6 yX6_becomes wsX6_becomes) := goodIn_app (goodIn_of _ (by decide +kernel)) ggX6_set_X6_becomes
theorem dX6_set_0 : decode cX6_set 0 = .ok (.aload_n 0, 1) := by decide +kernel
theorem dX6_set_1 : decode cX6_set 1 = .ok (.iload_n 1, 1) := by decide +kernel
theorem dX6_set_2 : decode cX6_set 2 = .ok (.invokevirtual 94, 3) := by decide +kernel
theorem dX6_set_5 : decode cX6_set 5 = .ok (.ifCond .ne 38, 3) := by decide +kernel
theorem dX6_set_8 : decode cX6_set 8 = .ok (.aload_n 0, 1) := by decide +kernel
theorem dX6_set_9 : decode cX6_set 9 = .ok (.iload_n 2, 1) := by decide +kernel
theorem dX6_set_10 : decode cX6_set 10 = .ok (.bipush (-128), 2) := by decide +kernel
theorem dX6_set_12 : decode cX6_set 12 = .ok (.bipush 127, 2) := by decide +kernel
theorem dX6_set_14 : decode cX6_set 14 = .ok (.invokestatic 31, 3) := by decide +kernel
theorem dX6_set_17 : decode cX6_set 17 = .ok (.ifCond .eq 18, 3) := by decide +kernel
theorem dX6_set_20 : decode cX6_set 20 = .ok (.iload_n 3, 1) := by decide +kernel
theorem dX6_set_21 : decode cX6_set 21 = .ok (.iconst 0, 1) := by decide +kernel
theorem dX6_set_22 : decode cX6_set 22 = .ok (.sipush 255, 3) := by decide +kernel
theorem dX6_set_25 : decode cX6_set 25 = .ok (.invokestatic 31, 3) := by decide +kernel
theorem dX6_set_28 : decode cX6_set 28 = .ok (.ifCond .eq 7, 3) := by decide +kernel
theorem dX6_set_31 : decode cX6_set 31 = .ok (.iconst 1, 1) := by decide +kernel
theorem dX6_set_32 : decode cX6_set 32 = .ok (.goto 4, 3) := by decide +kernel
theorem dX6_set_35 : decode cX6_set 35 = .ok (.iconst 0, 1) := by decide +kernel
theorem dX6_set_36 : decode cX6_set 36 = .ok (.iconst 2, 1) := by decide +kernel
theorem dX6_set_37 : decode cX6_set 37 = .ok (.invokevirtual 39, 3) := by decide +kernel
theorem dX6_set_40 : decode cX6_set 40 = .ok (.ifCond .eq 5, 3) := by decide +kernel
theorem dX6_set_43 : decode cX6_set 43 = .ok (.lconst 0, 1) := by decide +kernel
theorem dX6_set_44 : decode cX6_set 44 = .ok (.lreturn, 1) := by decide +kernel
theorem dX6_set_45 : decode cX6_set 45 = .ok (.iload_n 3, 1) := by decide +kernel
theorem dX6_set_46 : decode cX6_set 46 = .ok (.bipush 64, 2) := by decide +kernel
theorem dX6_set_48 : decode cX6_set 48 = .ok (.if_icmp .ge 11, 3) := by decide +kernel
theorem dX6_set_51 : decode cX6_set 51 = .ok (.iload_n 3, 1) := by decide +kernel
theorem dX6_set_52 : decode cX6_set 52 = .ok (.sipush 1074, 3) := by decide +kernel
theorem dX6_set_55 : decode cX6_set 55 = .ok (.isub, 1) := by decide +kernel
theorem dX6_set_56 : decode cX6_set 56 = .ok (.goto 23, 3) := by decide +kernel
theorem dX6_set_59 : decode cX6_set 59 = .ok (.iload_n 3, 1) := by decide +kernel
theorem dX6_set_60 : decode cX6_set 60 = .ok (.sipush 192, 3) := by decide +kernel
theorem dX6_set_63 : decode cX6_set 63 = .ok (.if_icmp .ge 11, 3) := by decide +kernel
theorem dX6_set_66 : decode cX6_set 66 = .ok (.iload_n 3, 1) := by decide +kernel
theorem dX6_set_67 : decode cX6_set 67 = .ok (.sipush 128, 3) := by decide +kernel
theorem dX6_set_70 : decode cX6_set 70 = .ok (.isub, 1) := by decide +kernel
theorem dX6_set_71 : decode cX6_set 71 = .ok (.goto 8, 3) := by decide +kernel
theorem dX6_set_74 : decode cX6_set 74 = .ok (.iload_n 3, 1) := by decide +kernel
theorem dX6_set_75 : decode cX6_set 75 = .ok (.sipush 761, 3) := by decide +kernel
theorem dX6_set_78 : decode cX6_set 78 = .ok (.iadd, 1) := by decide +kernel
theorem dX6_set_79 : decode cX6_set 79 = .ok (.istore 4, 2) := by decide +kernel
theorem dX6_set_81 : decode cX6_set 81 = .ok (.iload_n 2, 1) := by decide +kernel
theorem dX6_set_82 : decode cX6_set 82 = .ok (.ifCond .ne 7, 3) := by decide +kernel
theorem dX6_set_85 : decode cX6_set 85 = .ok (.lconst 0, 1) := by decide +kernel
theorem dX6_set_86 : decode cX6_set 86 = .ok (.goto 24, 3) := by decide +kernel
theorem dX6_set_89 : decode cX6_set 89 = .ok (.iload_n 2, 1) := by decide +kernel
theorem dX6_set_90 : decode cX6_set 90 = .ok (.ifCond .ge 9, 3) := by decide +kernel
theorem dX6_set_93 : decode cX6_set 93 = .ok (.iload_n 2, 1) := by decide +kernel
theorem dX6_set_94 : decode cX6_set 94 = .ok (.ineg, 1) := by decide +kernel
theorem dX6_set_95 : decode cX6_set 95 = .ok (.i2l, 1) := by decide +kernel
theorem dX6_set_96 : decode cX6_set 96 = .ok (.goto 5, 3) := by decide +kernel
theorem dX6_set_99 : decode cX6_set 99 = .ok (.iload_n 2, 1) := by decide +kernel
theorem dX6_set_100 : decode cX6_set 100 = .ok (.i2l, 1) := by decide +kernel
theorem dX6_set_101 : decode cX6_set 101 = .ok (.iload 4, 2) := by decide +kernel
theorem dX6_set_103 : decode cX6_set 103 = .ok (.sipush 1074, 3) := by decide +kernel
theorem dX6_set_106 : decode cX6_set 106 = .ok (.iadd, 1) := by decide +kernel
theorem dX6_set_107 : decode cX6_set 107 = .ok (.invokestatic 77, 3) := by decide +kernel
theorem dX6_set_110 : decode cX6_set 110 = .ok (.lstore 5, 2) := by decide +kernel
theorem dX6_set_112 : decode cX6_set 112 = .ok (.aload_n 0, 1) := by decide +kernel
theorem dX6_set_113 : decode cX6_set 113 = .ok (.iload_n 1, 1) := by decide +kernel
theorem dX6_set_114 : decode cX6_set 114 = .ok (.iload_n 2, 1) := by decide +kernel
theorem dX6_set_115 : decode cX6_set 115 = .ok (.ifCond .ge 11, 3) := by decide +kernel
theorem dX6_set_118 : decode cX6_set 118 = .ok (.lload 5, 2) := by decide +kernel
theorem dX6_set_120 : decode cX6_set 120 = .ok (.invokestatic 57, 3) := by decide +kernel
theorem dX6_set_123 : decode cX6_set 123 = .ok (.goto 5, 3) := by decide +kernel
theorem dX6_set_126 : decode cX6_set 126 = .ok (.lload 5, 2) := by decide +kernel
theorem dX6_set_128 : decode cX6_set 128 = .ok (.invokevirtual 97, 3) := by decide +kernel
theorem dX6_set_131 : decode cX6_set 131 = .ok (.lreturn, 1) := by decide +kernel
set_option maxRecDepth 20000 in
theorem ggX6_end_X6_lacks : GoodIn wsX6_end wsX6_lacks := goodIn_r _ [6, 7, 8, 5, 9, 10, 11, 12, 13, 14, 15, 16, 17, 33, 34, 35, 36, 37, 38, 39, 40] (by decide +kernel) (by decide +kernel)
set_option maxRecDepth 20000 in
theorem gX6_end_X6_lacks : GoodIn wsX6_end (wsV RX6 94 RX6 yX6_lacks wsX6_lacks) := goodIn_app (goodIn_of _ (by decide +kernel)) ggX6_end_X6_lacks
set_option maxRecDepth 20000 in
theorem ggX6_end_X6_opposite : GoodIn wsX6_end wsX6_opposite := goodIn_r _ [20, 21] (by decide +kernel) (by decide +kernel)
set_option maxRecDepth 20000 in
theorem gX6_end_X6_opposite : GoodIn wsX6_end (va_wsS RX6 57 yX6_opposite wsX6_opposite) := goodIn_app (goodIn_of _ (by decide +kernel)) ggX6_end_X6_opposite
set_option maxRecDepth 20000 in
theorem ggX6_end_X6_becomes : GoodIn wsX6_end wsX6_becomes := goodIn_ca (goodIn_r _ [25, 26, 27, 28, 29, 30, 31, 5, 32, 33, 34, 35, 36, 37, 38, 39, 40] (by decide +kernel) (by decide +kernel)) (goodIn_sub (fun _ h => List.mem_cons_of_mem _ (List.mem_append_right _ h)) (by decide +kernel))
set_option maxRecDepth 20000 in
theorem gX6_end_X6_becomes : GoodIn wsX6_end (wsV RX6 97 RX6 yX6_becomes wsX6_becomes) := goodIn_app (goodIn_of _ (by decide +kernel)) ggX6_end_X6_becomes
theorem dX6_end_0 : decode cX6_end 0 = .ok (.aload_n 0, 1) := by decide +kernel
theorem dX6_end_1 : decode cX6_end 1 = .ok (.iload_n 1, 1) := by decide +kernel
theorem dX6_end_2 : decode cX6_end 2 = .ok (.invokevirtual 94, 3) := by decide +kernel
theorem dX6_end_5 : decode cX6_end 5 = .ok (.ifCond .eq 5, 3) := by decide +kernel
theorem dX6_end_8 : decode cX6_end 8 = .ok (.lconst 0, 1) := by decide +kernel
theorem dX6_end_9 : decode cX6_end 9 = .ok (.lreturn, 1) := by decide +kernel
theorem dX6_end_10 : decode cX6_end 10 = .ok (.aload_n 0, 1) := by decide +kernel
theorem dX6_end_11 : decode cX6_end 11 = .ok (.iload_n 1, 1) := by decide +kernel
theorem dX6_end_12 : decode cX6_end 12 = .ok (.iload_n 2, 1) := by decide +kernel
theorem dX6_end_13 : decode cX6_end 13 = .ok (.ifCond .eq 9, 3) := by decide +kernel
theorem dX6_end_16 : decode cX6_end 16 = .ok (.ldc2_w 49, 3) := by decide +kernel
theorem dX6_end_19 : decode cX6_end 19 = .ok (.goto 9, 3) := by decide +kernel
theorem dX6_end_22 : decode cX6_end 22 = .ok (.ldc2_w 49, 3) := by decide +kernel
theorem dX6_end_25 : decode cX6_end 25 = .ok (.invokestatic 57, 3) := by decide +kernel
theorem dX6_end_28 : decode cX6_end 28 = .ok (.invokevirtual 97, 3) := by decide +kernel
theorem dX6_end_31 : decode cX6_end 31 = .ok (.lreturn, 1) := by decide +kernel
set_option maxRecDepth 20000 in
theorem ggX6_copy_X6_lacks_ : GoodIn wsX6_copy wsX6_lacks_ := goodIn_r _ [6, 7, 8, 5, 9, 10, 11, 12, 13, 14, 15, 16, 17, 28, 29, 30, 31, 32, 33, 34, 35] (by decide +kernel) (by decide +kernel)
set_option maxRecDepth 20000 in
theorem gX6_copy_X6_lacks_ : GoodIn wsX6_copy (wsV RX6 101 RX6 yX6_lacks_ wsX6_lacks_) := goodIn_app (goodIn_of _ (by decide +kernel)) ggX6_copy_X6_lacks_
set_option maxRecDepth 20000 in
theorem ggX6_copy_X6_becomes : GoodIn wsX6_copy wsX6_becomes := goodIn_ca (goodIn_r _ [21, 22, 23, 24, 1, 25, 26, 5, 27, 28, 29, 30, 31, 32, 33, 34, 35] (by decide +kernel) (by decide +kernel)) (goodIn_sub (fun _ h => List.mem_cons_of_mem _ (List.mem_append_right _ h)) (by decide +kernel))
set_option maxRecDepth 20000 in
theorem gX6_copy_X6_becomes : GoodIn wsX6_copy (wsV RX6 97 RX6 yX6_becomes wsX6_becomes) := goodIn_app (goodIn_of _ (by decide +kernel)) ggX6_copy_X6_becomes
theorem dX6_copy_0 : decode cX6_copy 0 = .ok (.aload_n 0, 1) := by decide +kernel
theorem dX6_copy_1 : decode cX6_copy 1 = .ok (.iload_n 1, 1) := by decide +kernel
theorem dX6_copy_2 : decode cX6_copy 2 = .ok (.iload_n 2, 1) := by decide +kernel
theorem dX6_copy_3 : decode cX6_copy 3 = .ok (.invokevirtual 101, 3) := by decide +kernel
theorem dX6_copy_6 : decode cX6_copy 6 = .ok (.ifCond .eq 5, 3) := by decide +kernel
theorem dX6_copy_9 : decode cX6_copy 9 = .ok (.lconst 0, 1) := by decide +kernel
theorem dX6_copy_10 : decode cX6_copy 10 = .ok (.lreturn, 1) := by decide +kernel
theorem dX6_copy_11 : decode cX6_copy 11 = .ok (.aload_n 0, 1) := by decide +kernel
theorem dX6_copy_12 : decode cX6_copy 12 = .ok (.iload_n 2, 1) := by decide +kernel
theorem dX6_copy_13 : decode cX6_copy 13 = .ok (.aload_n 0, 1) := by decide +kernel
theorem dX6_copy_14 : decode cX6_copy 14 = .ok (.getfield 9, 3) := by decide +kernel
theorem dX6_copy_17 : decode cX6_copy 17 = .ok (.iload_n 1, 1) := by decide +kernel
theorem dX6_copy_18 : decode cX6_copy 18 = .ok (.laload, 1) := by decide +kernel
theorem dX6_copy_19 : decode cX6_copy 19 = .ok (.invokevirtual 97, 3) := by decide +kernel
theorem dX6_copy_22 : decode cX6_copy 22 = .ok (.lreturn, 1) := by decide +kernel
set_option maxRecDepth 20000 in
theorem ggX6_negate_X6_lacks_ : GoodIn wsX6_negate wsX6_lacks_ := goodIn_r _ [6, 7, 8, 5, 9, 10, 11, 12, 13, 14, 15, 16, 17, 32, 33, 34, 35, 36, 37, 38, 39] (by decide +kernel) (by decide +kernel)
set_option maxRecDepth 20000 in
theorem gX6_negate_X6_lacks_ : GoodIn wsX6_negate (wsV RX6 101 RX6 yX6_lacks_ wsX6_lacks_) := goodIn_app (goodIn_of _ (by decide +kernel)) ggX6_negate_X6_lacks_
set_option maxRecDepth 20000 in
theorem ggX6_negate_X6_opposite : GoodIn wsX6_negate wsX6_opposite := goodIn_r _ [20, 21] (by decide +kernel) (by decide +kernel)
set_option maxRecDepth 20000 in
theorem gX6_negate_X6_opposite : GoodIn wsX6_negate (va_wsS RX6 57 yX6_opposite wsX6_opposite) := goodIn_app (goodIn_of _ (by decide +kernel)) ggX6_negate_X6_opposite
set_option maxRecDepth 20000 in
theorem ggX6_negate_X6_becomes : GoodIn wsX6_negate wsX6_becomes := goodIn_ca (goodIn_r _ [25, 26, 27, 28, 1, 29, 30, 5, 31, 32, 33, 34, 35, 36, 37, 38, 39] (by decide +kernel) (by decide +kernel)) (goodIn_sub (fun _ h => List.mem_cons_of_mem _ (List.mem_append_right _ h)) (by decide +kernel))
set_option maxRecDepth 20000 in
theorem gX6_negate_X6_becomes : GoodIn wsX6_negate (wsV RX6 97 RX6 yX6_becomes wsX6_becomes) := goodIn_app (goodIn_of _ (by decide +kernel)) ggX6_negate_X6_becomes
theorem dX6_negate_0 : decode cX6_negate 0 = .ok (.aload_n 0, 1) := by decide +kernel
theorem dX6_negate_1 : decode cX6_negate 1 = .ok (.iload_n 1, 1) := by decide +kernel
theorem dX6_negate_2 : decode cX6_negate 2 = .ok (.iload_n 2, 1) := by decide +kernel
theorem dX6_negate_3 : decode cX6_negate 3 = .ok (.invokevirtual 101, 3) := by decide +kernel
theorem dX6_negate_6 : decode cX6_negate 6 = .ok (.ifCond .eq 5, 3) := by decide +kernel
theorem dX6_negate_9 : decode cX6_negate 9 = .ok (.lconst 0, 1) := by decide +kernel
theorem dX6_negate_10 : decode cX6_negate 10 = .ok (.lreturn, 1) := by decide +kernel
theorem dX6_negate_11 : decode cX6_negate 11 = .ok (.aload_n 0, 1) := by decide +kernel
theorem dX6_negate_12 : decode cX6_negate 12 = .ok (.iload_n 2, 1) := by decide +kernel
theorem dX6_negate_13 : decode cX6_negate 13 = .ok (.aload_n 0, 1) := by decide +kernel
theorem dX6_negate_14 : decode cX6_negate 14 = .ok (.getfield 9, 3) := by decide +kernel
theorem dX6_negate_17 : decode cX6_negate 17 = .ok (.iload_n 1, 1) := by decide +kernel
theorem dX6_negate_18 : decode cX6_negate 18 = .ok (.laload, 1) := by decide +kernel
theorem dX6_negate_19 : decode cX6_negate 19 = .ok (.invokestatic 57, 3) := by decide +kernel
theorem dX6_negate_22 : decode cX6_negate 22 = .ok (.invokevirtual 97, 3) := by decide +kernel
theorem dX6_negate_25 : decode cX6_negate 25 = .ok (.lreturn, 1) := by decide +kernel
set_option maxRecDepth 20000 in
theorem ggX6_place_X6_lacks : GoodIn wsX6_place wsX6_lacks := goodIn_r _ [6, 7, 8, 5, 9, 10, 11, 12, 13, 14, 15, 16, 17, 21, 22, 23, 24, 25, 26, 27, 28] (by decide +kernel) (by decide +kernel)
set_option maxRecDepth 20000 in
theorem gX6_place_X6_lacks : GoodIn wsX6_place (wsV RX6 94 RX6 yX6_lacks wsX6_lacks) := goodIn_app (goodIn_of _ (by decide +kernel)) ggX6_place_X6_lacks
set_option maxRecDepth 20000 in
theorem ggX6_place_X6_placeOf : GoodIn wsX6_place wsX6_placeOf := goodIn_r _ [20] (by decide +kernel) (by decide +kernel)
set_option maxRecDepth 20000 in
theorem gX6_place_X6_placeOf : GoodIn wsX6_place (va_wsS RX6 51 yX6_placeOf wsX6_placeOf) := goodIn_app (goodIn_of _ (by decide +kernel)) ggX6_place_X6_placeOf
theorem dX6_place_0 : decode cX6_place 0 = .ok (.aload_n 0, 1) := by decide +kernel
theorem dX6_place_1 : decode cX6_place 1 = .ok (.iload_n 1, 1) := by decide +kernel
theorem dX6_place_2 : decode cX6_place 2 = .ok (.invokevirtual 94, 3) := by decide +kernel
theorem dX6_place_5 : decode cX6_place 5 = .ok (.ifCond .eq 5, 3) := by decide +kernel
theorem dX6_place_8 : decode cX6_place 8 = .ok (.lconst 0, 1) := by decide +kernel
theorem dX6_place_9 : decode cX6_place 9 = .ok (.lreturn, 1) := by decide +kernel
theorem dX6_place_10 : decode cX6_place 10 = .ok (.aload_n 0, 1) := by decide +kernel
theorem dX6_place_11 : decode cX6_place 11 = .ok (.getfield 9, 3) := by decide +kernel
theorem dX6_place_14 : decode cX6_place 14 = .ok (.iload_n 1, 1) := by decide +kernel
theorem dX6_place_15 : decode cX6_place 15 = .ok (.laload, 1) := by decide +kernel
theorem dX6_place_16 : decode cX6_place 16 = .ok (.invokestatic 51, 3) := by decide +kernel
theorem dX6_place_19 : decode cX6_place 19 = .ok (.lreturn, 1) := by decide +kernel
set_option maxRecDepth 20000 in
theorem ggX6_bitsOf_X6_placeOf : GoodIn wsX6_bitsOf wsX6_placeOf := goodIn_r _ [5] (by decide +kernel) (by decide +kernel)
set_option maxRecDepth 20000 in
theorem gX6_bitsOf_X6_placeOf : GoodIn wsX6_bitsOf (va_wsS RX6 51 yX6_placeOf wsX6_placeOf) := goodIn_app (goodIn_of _ (by decide +kernel)) ggX6_bitsOf_X6_placeOf
theorem dX6_bitsOf_0 : decode cX6_bitsOf 0 = .ok (.lload_n 0, 1) := by decide +kernel
theorem dX6_bitsOf_1 : decode cX6_bitsOf 1 = .ok (.lconst 0, 1) := by decide +kernel
theorem dX6_bitsOf_2 : decode cX6_bitsOf 2 = .ok (.lcmp, 1) := by decide +kernel
theorem dX6_bitsOf_3 : decode cX6_bitsOf 3 = .ok (.ifCond .lt 7, 3) := by decide +kernel
theorem dX6_bitsOf_6 : decode cX6_bitsOf 6 = .ok (.lload_n 0, 1) := by decide +kernel
theorem dX6_bitsOf_7 : decode cX6_bitsOf 7 = .ok (.goto 11, 3) := by decide +kernel
theorem dX6_bitsOf_10 : decode cX6_bitsOf 10 = .ok (.ldc2_w 104, 3) := by decide +kernel
theorem dX6_bitsOf_13 : decode cX6_bitsOf 13 = .ok (.lload_n 0, 1) := by decide +kernel
theorem dX6_bitsOf_14 : decode cX6_bitsOf 14 = .ok (.invokestatic 51, 3) := by decide +kernel
theorem dX6_bitsOf_17 : decode cX6_bitsOf 17 = .ok (.lsub, 1) := by decide +kernel
theorem dX6_bitsOf_18 : decode cX6_bitsOf 18 = .ok (.lreturn, 1) := by decide +kernel
set_option maxRecDepth 20000 in
theorem ggX6_bits__X6_lacks : GoodIn wsX6_bits_ wsX6_lacks := goodIn_r _ [6, 7, 8, 5, 9, 10, 11, 12, 13, 14, 15, 16, 17, 25, 26, 27, 28, 29, 30, 31, 32] (by decide +kernel) (by decide +kernel)
set_option maxRecDepth 20000 in
theorem gX6_bits__X6_lacks : GoodIn wsX6_bits_ (wsV RX6 94 RX6 yX6_lacks wsX6_lacks) := goodIn_app (goodIn_of _ (by decide +kernel)) ggX6_bits__X6_lacks
set_option maxRecDepth 20000 in
theorem ggX6_bits__X6_bitsOf : GoodIn wsX6_bits_ wsX6_bitsOf := goodIn_r _ [20, 21, 22, 23, 5, 24] (by decide +kernel) (by decide +kernel)
set_option maxRecDepth 20000 in
theorem gX6_bits__X6_bitsOf : GoodIn wsX6_bits_ (va_wsS RX6 106 yX6_bitsOf wsX6_bitsOf) := goodIn_app (goodIn_of _ (by decide +kernel)) ggX6_bits__X6_bitsOf
theorem dX6_bits__0 : decode cX6_bits_ 0 = .ok (.aload_n 0, 1) := by decide +kernel
theorem dX6_bits__1 : decode cX6_bits_ 1 = .ok (.iload_n 1, 1) := by decide +kernel
theorem dX6_bits__2 : decode cX6_bits_ 2 = .ok (.invokevirtual 94, 3) := by decide +kernel
theorem dX6_bits__5 : decode cX6_bits_ 5 = .ok (.ifCond .eq 5, 3) := by decide +kernel
theorem dX6_bits__8 : decode cX6_bits_ 8 = .ok (.lconst 0, 1) := by decide +kernel
theorem dX6_bits__9 : decode cX6_bits_ 9 = .ok (.lreturn, 1) := by decide +kernel
theorem dX6_bits__10 : decode cX6_bits_ 10 = .ok (.aload_n 0, 1) := by decide +kernel
theorem dX6_bits__11 : decode cX6_bits_ 11 = .ok (.getfield 9, 3) := by decide +kernel
theorem dX6_bits__14 : decode cX6_bits_ 14 = .ok (.iload_n 1, 1) := by decide +kernel
theorem dX6_bits__15 : decode cX6_bits_ 15 = .ok (.laload, 1) := by decide +kernel
theorem dX6_bits__16 : decode cX6_bits_ 16 = .ok (.invokestatic 106, 3) := by decide +kernel
theorem dX6_bits__19 : decode cX6_bits_ 19 = .ok (.lreturn, 1) := by decide +kernel
set_option maxRecDepth 20000 in
theorem ggX6_isEndless_X6_lacks : GoodIn wsX6_isEndless wsX6_lacks := goodIn_r _ [6, 7, 8, 5, 9, 10, 11, 12, 13, 14, 15, 16, 17, 26, 27, 28, 29, 30, 31, 32, 33] (by decide +kernel) (by decide +kernel)
set_option maxRecDepth 20000 in
theorem gX6_isEndless_X6_lacks : GoodIn wsX6_isEndless (wsV RX6 94 RX6 yX6_lacks wsX6_lacks) := goodIn_app (goodIn_of _ (by decide +kernel)) ggX6_isEndless_X6_lacks
set_option maxRecDepth 20000 in
theorem ggX6_isEndless_X6_isEnd : GoodIn wsX6_isEndless wsX6_isEnd := goodIn_r _ [20, 21, 22, 23, 5, 24, 25] (by decide +kernel) (by decide +kernel)
set_option maxRecDepth 20000 in
theorem gX6_isEndless_X6_isEnd : GoodIn wsX6_isEndless (va_wsS RX6 87 yX6_isEnd wsX6_isEnd) := goodIn_app (goodIn_of _ (by decide +kernel)) ggX6_isEndless_X6_isEnd
theorem dX6_isEndless_0 : decode cX6_isEndless 0 = .ok (.aload_n 0, 1) := by decide +kernel
theorem dX6_isEndless_1 : decode cX6_isEndless 1 = .ok (.iload_n 1, 1) := by decide +kernel
theorem dX6_isEndless_2 : decode cX6_isEndless 2 = .ok (.invokevirtual 94, 3) := by decide +kernel
theorem dX6_isEndless_5 : decode cX6_isEndless 5 = .ok (.ifCond .eq 5, 3) := by decide +kernel
theorem dX6_isEndless_8 : decode cX6_isEndless 8 = .ok (.iconst 0, 1) := by decide +kernel
theorem dX6_isEndless_9 : decode cX6_isEndless 9 = .ok (.ireturn, 1) := by decide +kernel
theorem dX6_isEndless_10 : decode cX6_isEndless 10 = .ok (.aload_n 0, 1) := by decide +kernel
theorem dX6_isEndless_11 : decode cX6_isEndless 11 = .ok (.getfield 9, 3) := by decide +kernel
theorem dX6_isEndless_14 : decode cX6_isEndless 14 = .ok (.iload_n 1, 1) := by decide +kernel
theorem dX6_isEndless_15 : decode cX6_isEndless 15 = .ok (.laload, 1) := by decide +kernel
theorem dX6_isEndless_16 : decode cX6_isEndless 16 = .ok (.invokestatic 87, 3) := by decide +kernel
theorem dX6_isEndless_19 : decode cX6_isEndless 19 = .ok (.ireturn, 1) := by decide +kernel
set_option maxRecDepth 20000 in
theorem ggX6_isWhole_X6_lacks : GoodIn wsX6_isWhole wsX6_lacks := goodIn_r _ [7, 8, 9, 6, 10, 11, 12, 13, 14, 15, 16, 17, 18, 34, 35, 36, 37, 38, 39, 40, 41] (by decide +kernel) (by decide +kernel)
set_option maxRecDepth 20000 in
theorem gX6_isWhole_X6_lacks : GoodIn wsX6_isWhole (wsV RX6 94 RX6 yX6_lacks wsX6_lacks) := goodIn_app (goodIn_of _ (by decide +kernel)) ggX6_isWhole_X6_lacks
set_option maxRecDepth 20000 in
theorem ggX6_isWhole_X6_size : GoodIn wsX6_isWhole wsX6_size := goodIn_r _ [21, 22] (by decide +kernel) (by decide +kernel)
set_option maxRecDepth 20000 in
theorem gX6_isWhole_X6_size : GoodIn wsX6_isWhole (va_wsS RX6 45 yX6_size wsX6_size) := goodIn_app (goodIn_of _ (by decide +kernel)) ggX6_isWhole_X6_size
set_option maxRecDepth 20000 in
theorem ggX6_isWhole_X6_tailOf : GoodIn wsX6_isWhole wsX6_tailOf := goodIn_r _ [25, 26, 27, 28, 6, 29, 30, 31, 32, 33] (by decide +kernel) (by decide +kernel)
set_option maxRecDepth 20000 in
theorem gX6_isWhole_X6_tailOf : GoodIn wsX6_isWhole (va_wsS RX6 109 yX6_tailOf wsX6_tailOf) := goodIn_app (goodIn_of _ (by decide +kernel)) ggX6_isWhole_X6_tailOf
theorem dX6_isWhole_0 : decode cX6_isWhole 0 = .ok (.aload_n 0, 1) := by decide +kernel
theorem dX6_isWhole_1 : decode cX6_isWhole 1 = .ok (.iload_n 1, 1) := by decide +kernel
theorem dX6_isWhole_2 : decode cX6_isWhole 2 = .ok (.invokevirtual 94, 3) := by decide +kernel
theorem dX6_isWhole_5 : decode cX6_isWhole 5 = .ok (.ifCond .eq 5, 3) := by decide +kernel
theorem dX6_isWhole_8 : decode cX6_isWhole 8 = .ok (.iconst 0, 1) := by decide +kernel
theorem dX6_isWhole_9 : decode cX6_isWhole 9 = .ok (.ireturn, 1) := by decide +kernel
theorem dX6_isWhole_10 : decode cX6_isWhole 10 = .ok (.aload_n 0, 1) := by decide +kernel
theorem dX6_isWhole_11 : decode cX6_isWhole 11 = .ok (.getfield 9, 3) := by decide +kernel
theorem dX6_isWhole_14 : decode cX6_isWhole 14 = .ok (.iload_n 1, 1) := by decide +kernel
theorem dX6_isWhole_15 : decode cX6_isWhole 15 = .ok (.laload, 1) := by decide +kernel
theorem dX6_isWhole_16 : decode cX6_isWhole 16 = .ok (.invokestatic 45, 3) := by decide +kernel
theorem dX6_isWhole_19 : decode cX6_isWhole 19 = .ok (.lstore_n 2, 1) := by decide +kernel
theorem dX6_isWhole_20 : decode cX6_isWhole 20 = .ok (.lload_n 2, 1) := by decide +kernel
theorem dX6_isWhole_21 : decode cX6_isWhole 21 = .ok (.lconst 0, 1) := by decide +kernel
theorem dX6_isWhole_22 : decode cX6_isWhole 22 = .ok (.lcmp, 1) := by decide +kernel
theorem dX6_isWhole_23 : decode cX6_isWhole 23 = .ok (.ifCond .eq 18, 3) := by decide +kernel
theorem dX6_isWhole_26 : decode cX6_isWhole 26 = .ok (.lload_n 2, 1) := by decide +kernel
theorem dX6_isWhole_27 : decode cX6_isWhole 27 = .ok (.ldc2_w 49, 3) := by decide +kernel
theorem dX6_isWhole_30 : decode cX6_isWhole 30 = .ok (.lcmp, 1) := by decide +kernel
theorem dX6_isWhole_31 : decode cX6_isWhole 31 = .ok (.ifCond .eq 14, 3) := by decide +kernel
theorem dX6_isWhole_34 : decode cX6_isWhole 34 = .ok (.lload_n 2, 1) := by decide +kernel
theorem dX6_isWhole_35 : decode cX6_isWhole 35 = .ok (.invokestatic 109, 3) := by decide +kernel
theorem dX6_isWhole_38 : decode cX6_isWhole 38 = .ok (.ifCond .lt 7, 3) := by decide +kernel
theorem dX6_isWhole_41 : decode cX6_isWhole 41 = .ok (.iconst 1, 1) := by decide +kernel
theorem dX6_isWhole_42 : decode cX6_isWhole 42 = .ok (.goto 4, 3) := by decide +kernel
theorem dX6_isWhole_45 : decode cX6_isWhole 45 = .ok (.iconst 0, 1) := by decide +kernel
theorem dX6_isWhole_46 : decode cX6_isWhole 46 = .ok (.ireturn, 1) := by decide +kernel
set_option maxRecDepth 20000 in
theorem ggX6_isLittle_X6_size : GoodIn wsX6_isLittle wsX6_size := goodIn_r _ [5, 6] (by decide +kernel) (by decide +kernel)
set_option maxRecDepth 20000 in
theorem gX6_isLittle_X6_size : GoodIn wsX6_isLittle (va_wsS RX6 45 yX6_size wsX6_size) := goodIn_app (goodIn_of _ (by decide +kernel)) ggX6_isLittle_X6_size
theorem dX6_isLittle_0 : decode cX6_isLittle 0 = .ok (.lload_n 0, 1) := by decide +kernel
theorem dX6_isLittle_1 : decode cX6_isLittle 1 = .ok (.invokestatic 45, 3) := by decide +kernel
theorem dX6_isLittle_4 : decode cX6_isLittle 4 = .ok (.ldc2_w 66, 3) := by decide +kernel
theorem dX6_isLittle_7 : decode cX6_isLittle 7 = .ok (.lcmp, 1) := by decide +kernel
theorem dX6_isLittle_8 : decode cX6_isLittle 8 = .ok (.ifCond .ge 7, 3) := by decide +kernel
theorem dX6_isLittle_11 : decode cX6_isLittle 11 = .ok (.iconst 1, 1) := by decide +kernel
theorem dX6_isLittle_12 : decode cX6_isLittle 12 = .ok (.goto 4, 3) := by decide +kernel
theorem dX6_isLittle_15 : decode cX6_isLittle 15 = .ok (.iconst 0, 1) := by decide +kernel
theorem dX6_isLittle_16 : decode cX6_isLittle 16 = .ok (.ireturn, 1) := by decide +kernel
set_option maxRecDepth 20000 in
theorem ggX6_isSmall_X6_lacks : GoodIn wsX6_isSmall wsX6_lacks := goodIn_r _ [6, 7, 8, 5, 9, 10, 11, 12, 13, 14, 15, 16, 17, 26, 27, 28, 29, 30, 31, 32, 33] (by decide +kernel) (by decide +kernel)
set_option maxRecDepth 20000 in
theorem gX6_isSmall_X6_lacks : GoodIn wsX6_isSmall (wsV RX6 94 RX6 yX6_lacks wsX6_lacks) := goodIn_app (goodIn_of _ (by decide +kernel)) ggX6_isSmall_X6_lacks
set_option maxRecDepth 20000 in
theorem ggX6_isSmall_X6_isLittle : GoodIn wsX6_isSmall wsX6_isLittle := goodIn_r _ [20, 21, 22, 23, 5, 24, 25] (by decide +kernel) (by decide +kernel)
set_option maxRecDepth 20000 in
theorem gX6_isSmall_X6_isLittle : GoodIn wsX6_isSmall (va_wsS RX6 112 yX6_isLittle wsX6_isLittle) := goodIn_app (goodIn_of _ (by decide +kernel)) ggX6_isSmall_X6_isLittle
theorem dX6_isSmall_0 : decode cX6_isSmall 0 = .ok (.aload_n 0, 1) := by decide +kernel
theorem dX6_isSmall_1 : decode cX6_isSmall 1 = .ok (.iload_n 1, 1) := by decide +kernel
theorem dX6_isSmall_2 : decode cX6_isSmall 2 = .ok (.invokevirtual 94, 3) := by decide +kernel
theorem dX6_isSmall_5 : decode cX6_isSmall 5 = .ok (.ifCond .eq 5, 3) := by decide +kernel
theorem dX6_isSmall_8 : decode cX6_isSmall 8 = .ok (.iconst 0, 1) := by decide +kernel
theorem dX6_isSmall_9 : decode cX6_isSmall 9 = .ok (.ireturn, 1) := by decide +kernel
theorem dX6_isSmall_10 : decode cX6_isSmall 10 = .ok (.aload_n 0, 1) := by decide +kernel
theorem dX6_isSmall_11 : decode cX6_isSmall 11 = .ok (.getfield 9, 3) := by decide +kernel
theorem dX6_isSmall_14 : decode cX6_isSmall 14 = .ok (.iload_n 1, 1) := by decide +kernel
theorem dX6_isSmall_15 : decode cX6_isSmall 15 = .ok (.laload, 1) := by decide +kernel
theorem dX6_isSmall_16 : decode cX6_isSmall 16 = .ok (.invokestatic 112, 3) := by decide +kernel
theorem dX6_isSmall_19 : decode cX6_isSmall 19 = .ok (.ireturn, 1) := by decide +kernel
set_option maxRecDepth 20000 in
theorem ggX6_steps_X6_above : GoodIn wsX6_steps wsX6_above := goodIn_r _ [5, 6, 7, 8, 9, 4, 10, 11, 12, 13] (by decide +kernel) (by decide +kernel)
set_option maxRecDepth 20000 in
theorem gX6_steps_X6_above : GoodIn wsX6_steps (va_wsS RX6 60 yX6_above wsX6_above) := goodIn_app (goodIn_of _ (by decide +kernel)) ggX6_steps_X6_above
set_option maxRecDepth 20000 in
theorem ggX6_steps_X6_below : GoodIn wsX6_steps wsX6_below := goodIn_r _ [16, 17, 18, 4, 19, 7, 2, 3, 5, 6, 8, 9, 10, 11, 12, 13] (by decide +kernel) (by decide +kernel)
set_option maxRecDepth 20000 in
theorem gX6_steps_X6_below : GoodIn wsX6_steps (va_wsS RX6 63 yX6_below wsX6_below) := goodIn_app (goodIn_of _ (by decide +kernel)) ggX6_steps_X6_below
set_option maxRecDepth 20000 in
theorem ggX6_steps_X6_nearer : GoodIn wsX6_steps wsX6_nearer := goodIn_r _ [22, 8, 9, 4, 10, 2, 3, 5, 6, 7, 11, 12, 13, 14, 15, 16, 17, 18, 19] (by decide +kernel) (by decide +kernel)
set_option maxRecDepth 20000 in
theorem gX6_steps_X6_nearer : GoodIn wsX6_steps (va_wsS RX6 115 yX6_nearer wsX6_nearer) := goodIn_app (goodIn_of _ (by decide +kernel)) ggX6_steps_X6_nearer
set_option maxRecDepth 20000 in
theorem ggX6_steps_X6_becomes : GoodIn wsX6_steps wsX6_becomes := goodIn_ca (goodIn_r _ [26, 27, 28, 29, 1, 8, 9, 4, 10, 30, 31, 32, 33, 34, 35, 36, 37] (by decide +kernel) (by decide +kernel)) (goodIn_sub (fun _ h => List.mem_cons_of_mem _ (List.mem_append_right _ h)) (by decide +kernel))
set_option maxRecDepth 20000 in
theorem gX6_steps_X6_becomes : GoodIn wsX6_steps (wsV RX6 97 RX6 yX6_becomes wsX6_becomes) := goodIn_app (goodIn_of _ (by decide +kernel)) ggX6_steps_X6_becomes
theorem dX6_steps_0 : decode cX6_steps 0 = .ok (.aload_n 0, 1) := by decide +kernel
theorem dX6_steps_1 : decode cX6_steps 1 = .ok (.getfield 9, 3) := by decide +kernel
theorem dX6_steps_4 : decode cX6_steps 4 = .ok (.iload_n 1, 1) := by decide +kernel
theorem dX6_steps_5 : decode cX6_steps 5 = .ok (.laload, 1) := by decide +kernel
theorem dX6_steps_6 : decode cX6_steps 6 = .ok (.lstore 6, 2) := by decide +kernel
theorem dX6_steps_8 : decode cX6_steps 8 = .ok (.iconst 0, 1) := by decide +kernel
theorem dX6_steps_9 : decode cX6_steps 9 = .ok (.istore 8, 2) := by decide +kernel
theorem dX6_steps_11 : decode cX6_steps 11 = .ok (.iconst 0, 1) := by decide +kernel
theorem dX6_steps_12 : decode cX6_steps 12 = .ok (.istore 9, 2) := by decide +kernel
theorem dX6_steps_14 : decode cX6_steps 14 = .ok (.iload 9, 2) := by decide +kernel
theorem dX6_steps_16 : decode cX6_steps 16 = .ok (.iload_n 2, 1) := by decide +kernel
theorem dX6_steps_17 : decode cX6_steps 17 = .ok (.if_icmp .ge 61, 3) := by decide +kernel
theorem dX6_steps_20 : decode cX6_steps 20 = .ok (.iload_n 3, 1) := by decide +kernel
theorem dX6_steps_21 : decode cX6_steps 21 = .ok (.bipush 117, 2) := by decide +kernel
theorem dX6_steps_23 : decode cX6_steps 23 = .ok (.if_icmp .ne 11, 3) := by decide +kernel
theorem dX6_steps_26 : decode cX6_steps 26 = .ok (.lload 6, 2) := by decide +kernel
theorem dX6_steps_28 : decode cX6_steps 28 = .ok (.invokestatic 60, 3) := by decide +kernel
theorem dX6_steps_31 : decode cX6_steps 31 = .ok (.goto 24, 3) := by decide +kernel
theorem dX6_steps_34 : decode cX6_steps 34 = .ok (.iload_n 3, 1) := by decide +kernel
theorem dX6_steps_35 : decode cX6_steps 35 = .ok (.bipush 100, 2) := by decide +kernel
theorem dX6_steps_37 : decode cX6_steps 37 = .ok (.if_icmp .ne 11, 3) := by decide +kernel
theorem dX6_steps_40 : decode cX6_steps 40 = .ok (.lload 6, 2) := by decide +kernel
theorem dX6_steps_42 : decode cX6_steps 42 = .ok (.invokestatic 63, 3) := by decide +kernel
theorem dX6_steps_45 : decode cX6_steps 45 = .ok (.goto 10, 3) := by decide +kernel
theorem dX6_steps_48 : decode cX6_steps 48 = .ok (.lload 6, 2) := by decide +kernel
theorem dX6_steps_50 : decode cX6_steps 50 = .ok (.lload 4, 2) := by decide +kernel
theorem dX6_steps_52 : decode cX6_steps 52 = .ok (.invokestatic 115, 3) := by decide +kernel
theorem dX6_steps_55 : decode cX6_steps 55 = .ok (.lstore 10, 2) := by decide +kernel
theorem dX6_steps_57 : decode cX6_steps 57 = .ok (.lload 10, 2) := by decide +kernel
theorem dX6_steps_59 : decode cX6_steps 59 = .ok (.lload 6, 2) := by decide +kernel
theorem dX6_steps_61 : decode cX6_steps 61 = .ok (.lcmp, 1) := by decide +kernel
theorem dX6_steps_62 : decode cX6_steps 62 = .ok (.ifCond .eq 6, 3) := by decide +kernel
theorem dX6_steps_65 : decode cX6_steps 65 = .ok (.iinc 8 1, 3) := by decide +kernel
theorem dX6_steps_68 : decode cX6_steps 68 = .ok (.lload 10, 2) := by decide +kernel
theorem dX6_steps_70 : decode cX6_steps 70 = .ok (.lstore 6, 2) := by decide +kernel
theorem dX6_steps_72 : decode cX6_steps 72 = .ok (.iinc 9 1, 3) := by decide +kernel
theorem dX6_steps_75 : decode cX6_steps 75 = .ok (.goto (-61), 3) := by decide +kernel
theorem dX6_steps_78 : decode cX6_steps 78 = .ok (.aload_n 0, 1) := by decide +kernel
theorem dX6_steps_79 : decode cX6_steps 79 = .ok (.iload_n 1, 1) := by decide +kernel
theorem dX6_steps_80 : decode cX6_steps 80 = .ok (.lload 6, 2) := by decide +kernel
theorem dX6_steps_82 : decode cX6_steps 82 = .ok (.invokevirtual 97, 3) := by decide +kernel
theorem dX6_steps_85 : decode cX6_steps 85 = .ok (.pop2, 1) := by decide +kernel
theorem dX6_steps_86 : decode cX6_steps 86 = .ok (.iload 8, 2) := by decide +kernel
theorem dX6_steps_88 : decode cX6_steps 88 = .ok (.ireturn, 1) := by decide +kernel
set_option maxRecDepth 20000 in
theorem ggX6_up_X6_lacks : GoodIn wsX6_up wsX6_lacks := goodIn_r _ [5, 6, 7, 4, 8, 9, 10, 11, 12, 13, 14, 15, 16, 49, 50, 51, 52, 53, 54, 55, 56] (by decide +kernel) (by decide +kernel)
set_option maxRecDepth 20000 in
theorem gX6_up_X6_lacks : GoodIn wsX6_up (wsV RX6 94 RX6 yX6_lacks wsX6_lacks) := goodIn_app (goodIn_of _ (by decide +kernel)) ggX6_up_X6_lacks
set_option maxRecDepth 20000 in
theorem ggX6_up_X6_in : GoodIn wsX6_up wsX6_in := goodIn_r _ [11] (by decide +kernel) (by decide +kernel)
set_option maxRecDepth 20000 in
theorem gX6_up_X6_in : GoodIn wsX6_up (va_wsS RX6 31 yX6_in wsX6_in) := goodIn_app (goodIn_of _ (by decide +kernel)) ggX6_up_X6_in
set_option maxRecDepth 20000 in
theorem ggX6_up_X6_no : GoodIn wsX6_up wsX6_no := goodIn_r _ [15, 16, 49, 50, 51, 52, 53, 54, 55, 56] (by decide +kernel) (by decide +kernel)
set_option maxRecDepth 20000 in
theorem gX6_up_X6_no : GoodIn wsX6_up (wsV RX6 39 RX6 yX6_no wsX6_no) := goodIn_app (goodIn_of _ (by decide +kernel)) ggX6_up_X6_no
set_option maxRecDepth 20000 in
theorem ggX6_up_X6_steps : GoodIn wsX6_up wsX6_steps := goodIn_ca (goodIn_r _ [20, 21, 22, 23, 4, 24, 25, 26, 27, 28, 29, 30, 31, 32, 33, 34, 35, 36, 37, 38, 39, 40, 41, 42, 43, 44, 45, 46, 47, 48, 49, 50, 51, 52, 53, 54, 55, 56] (by decide +kernel) (by decide +kernel)) (goodIn_sub (fun _ h => List.mem_cons_of_mem _ (List.mem_append_right _ h)) (by decide +kernel))
set_option maxRecDepth 20000 in
theorem gX6_up_X6_steps : GoodIn wsX6_up (wsV RX6 119 RX6 yX6_steps wsX6_steps) := goodIn_app (goodIn_of _ (by decide +kernel)) ggX6_up_X6_steps
theorem dX6_up_0 : decode cX6_up 0 = .ok (.aload_n 0, 1) := by decide +kernel
theorem dX6_up_1 : decode cX6_up 1 = .ok (.iload_n 1, 1) := by decide +kernel
theorem dX6_up_2 : decode cX6_up 2 = .ok (.invokevirtual 94, 3) := by decide +kernel
theorem dX6_up_5 : decode cX6_up 5 = .ok (.ifCond .ne 18, 3) := by decide +kernel
theorem dX6_up_8 : decode cX6_up 8 = .ok (.aload_n 0, 1) := by decide +kernel
theorem dX6_up_9 : decode cX6_up 9 = .ok (.iload_n 2, 1) := by decide +kernel
theorem dX6_up_10 : decode cX6_up 10 = .ok (.iconst 0, 1) := by decide +kernel
theorem dX6_up_11 : decode cX6_up 11 = .ok (.bipush 64, 2) := by decide +kernel
theorem dX6_up_13 : decode cX6_up 13 = .ok (.invokestatic 31, 3) := by decide +kernel
theorem dX6_up_16 : decode cX6_up 16 = .ok (.iconst 2, 1) := by decide +kernel
theorem dX6_up_17 : decode cX6_up 17 = .ok (.invokevirtual 39, 3) := by decide +kernel
theorem dX6_up_20 : decode cX6_up 20 = .ok (.ifCond .eq 5, 3) := by decide +kernel
theorem dX6_up_23 : decode cX6_up 23 = .ok (.iconst 0, 1) := by decide +kernel
theorem dX6_up_24 : decode cX6_up 24 = .ok (.ireturn, 1) := by decide +kernel
theorem dX6_up_25 : decode cX6_up 25 = .ok (.aload_n 0, 1) := by decide +kernel
theorem dX6_up_26 : decode cX6_up 26 = .ok (.iload_n 1, 1) := by decide +kernel
theorem dX6_up_27 : decode cX6_up 27 = .ok (.iload_n 2, 1) := by decide +kernel
theorem dX6_up_28 : decode cX6_up 28 = .ok (.bipush 117, 2) := by decide +kernel
theorem dX6_up_30 : decode cX6_up 30 = .ok (.lconst 0, 1) := by decide +kernel
theorem dX6_up_31 : decode cX6_up 31 = .ok (.invokevirtual 119, 3) := by decide +kernel
theorem dX6_up_34 : decode cX6_up 34 = .ok (.ireturn, 1) := by decide +kernel
set_option maxRecDepth 20000 in
theorem ggX6_down_X6_lacks : GoodIn wsX6_down wsX6_lacks := goodIn_r _ [5, 6, 7, 4, 8, 9, 10, 11, 12, 13, 14, 15, 16, 49, 50, 51, 52, 53, 54, 55, 56] (by decide +kernel) (by decide +kernel)
set_option maxRecDepth 20000 in
theorem gX6_down_X6_lacks : GoodIn wsX6_down (wsV RX6 94 RX6 yX6_lacks wsX6_lacks) := goodIn_app (goodIn_of _ (by decide +kernel)) ggX6_down_X6_lacks
set_option maxRecDepth 20000 in
theorem ggX6_down_X6_in : GoodIn wsX6_down wsX6_in := goodIn_r _ [11] (by decide +kernel) (by decide +kernel)
set_option maxRecDepth 20000 in
theorem gX6_down_X6_in : GoodIn wsX6_down (va_wsS RX6 31 yX6_in wsX6_in) := goodIn_app (goodIn_of _ (by decide +kernel)) ggX6_down_X6_in
set_option maxRecDepth 20000 in
theorem ggX6_down_X6_no : GoodIn wsX6_down wsX6_no := goodIn_r _ [15, 16, 49, 50, 51, 52, 53, 54, 55, 56] (by decide +kernel) (by decide +kernel)
set_option maxRecDepth 20000 in
theorem gX6_down_X6_no : GoodIn wsX6_down (wsV RX6 39 RX6 yX6_no wsX6_no) := goodIn_app (goodIn_of _ (by decide +kernel)) ggX6_down_X6_no
set_option maxRecDepth 20000 in
theorem ggX6_down_X6_steps : GoodIn wsX6_down wsX6_steps := goodIn_ca (goodIn_r _ [20, 21, 22, 23, 4, 24, 25, 26, 27, 28, 29, 30, 31, 32, 33, 34, 35, 36, 37, 38, 39, 40, 41, 42, 43, 44, 45, 46, 47, 48, 49, 50, 51, 52, 53, 54, 55, 56] (by decide +kernel) (by decide +kernel)) (goodIn_sub (fun _ h => List.mem_cons_of_mem _ (List.mem_append_right _ h)) (by decide +kernel))
set_option maxRecDepth 20000 in
theorem gX6_down_X6_steps : GoodIn wsX6_down (wsV RX6 119 RX6 yX6_steps wsX6_steps) := goodIn_app (goodIn_of _ (by decide +kernel)) ggX6_down_X6_steps
theorem dX6_down_0 : decode cX6_down 0 = .ok (.aload_n 0, 1) := by decide +kernel
theorem dX6_down_1 : decode cX6_down 1 = .ok (.iload_n 1, 1) := by decide +kernel
theorem dX6_down_2 : decode cX6_down 2 = .ok (.invokevirtual 94, 3) := by decide +kernel
theorem dX6_down_5 : decode cX6_down 5 = .ok (.ifCond .ne 18, 3) := by decide +kernel
theorem dX6_down_8 : decode cX6_down 8 = .ok (.aload_n 0, 1) := by decide +kernel
theorem dX6_down_9 : decode cX6_down 9 = .ok (.iload_n 2, 1) := by decide +kernel
theorem dX6_down_10 : decode cX6_down 10 = .ok (.iconst 0, 1) := by decide +kernel
theorem dX6_down_11 : decode cX6_down 11 = .ok (.bipush 64, 2) := by decide +kernel
theorem dX6_down_13 : decode cX6_down 13 = .ok (.invokestatic 31, 3) := by decide +kernel
theorem dX6_down_16 : decode cX6_down 16 = .ok (.iconst 2, 1) := by decide +kernel
theorem dX6_down_17 : decode cX6_down 17 = .ok (.invokevirtual 39, 3) := by decide +kernel
theorem dX6_down_20 : decode cX6_down 20 = .ok (.ifCond .eq 5, 3) := by decide +kernel
theorem dX6_down_23 : decode cX6_down 23 = .ok (.iconst 0, 1) := by decide +kernel
theorem dX6_down_24 : decode cX6_down 24 = .ok (.ireturn, 1) := by decide +kernel
theorem dX6_down_25 : decode cX6_down 25 = .ok (.aload_n 0, 1) := by decide +kernel
theorem dX6_down_26 : decode cX6_down 26 = .ok (.iload_n 1, 1) := by decide +kernel
theorem dX6_down_27 : decode cX6_down 27 = .ok (.iload_n 2, 1) := by decide +kernel
theorem dX6_down_28 : decode cX6_down 28 = .ok (.bipush 100, 2) := by decide +kernel
theorem dX6_down_30 : decode cX6_down 30 = .ok (.lconst 0, 1) := by decide +kernel
theorem dX6_down_31 : decode cX6_down 31 = .ok (.invokevirtual 119, 3) := by decide +kernel
theorem dX6_down_34 : decode cX6_down 34 = .ok (.ireturn, 1) := by decide +kernel
set_option maxRecDepth 20000 in
theorem ggX6_toward_X6_lacks_ : GoodIn wsX6_toward wsX6_lacks_ := goodIn_r _ [6, 7, 8, 5, 9, 10, 11, 12, 13, 14, 15, 16, 17, 49, 50, 51, 52, 53, 54, 55, 56] (by decide +kernel) (by decide +kernel)
set_option maxRecDepth 20000 in
theorem gX6_toward_X6_lacks_ : GoodIn wsX6_toward (wsV RX6 101 RX6 yX6_lacks_ wsX6_lacks_) := goodIn_app (goodIn_of _ (by decide +kernel)) ggX6_toward_X6_lacks_
set_option maxRecDepth 20000 in
theorem ggX6_toward_X6_in : GoodIn wsX6_toward wsX6_in := goodIn_r _ [12] (by decide +kernel) (by decide +kernel)
set_option maxRecDepth 20000 in
theorem gX6_toward_X6_in : GoodIn wsX6_toward (va_wsS RX6 31 yX6_in wsX6_in) := goodIn_app (goodIn_of _ (by decide +kernel)) ggX6_toward_X6_in
set_option maxRecDepth 20000 in
theorem ggX6_toward_X6_no : GoodIn wsX6_toward wsX6_no := goodIn_r _ [16, 17, 49, 50, 51, 52, 53, 54, 55, 56] (by decide +kernel) (by decide +kernel)
set_option maxRecDepth 20000 in
theorem gX6_toward_X6_no : GoodIn wsX6_toward (wsV RX6 39 RX6 yX6_no wsX6_no) := goodIn_app (goodIn_of _ (by decide +kernel)) ggX6_toward_X6_no
set_option maxRecDepth 20000 in
theorem ggX6_toward_X6_steps : GoodIn wsX6_toward wsX6_steps := goodIn_ca (goodIn_r _ [21, 1, 22, 23, 5, 24, 25, 26, 27, 28, 29, 30, 31, 32, 33, 34, 35, 36, 37, 38, 39, 40, 41, 42, 43, 44, 45, 46, 47, 48, 49, 50, 51, 52, 53, 54, 55, 56] (by decide +kernel) (by decide +kernel)) (goodIn_sub (fun _ h => List.mem_cons_of_mem _ (List.mem_append_right _ h)) (by decide +kernel))
set_option maxRecDepth 20000 in
theorem gX6_toward_X6_steps : GoodIn wsX6_toward (wsV RX6 119 RX6 yX6_steps wsX6_steps) := goodIn_app (goodIn_of _ (by decide +kernel)) ggX6_toward_X6_steps
theorem dX6_toward_0 : decode cX6_toward 0 = .ok (.aload_n 0, 1) := by decide +kernel
theorem dX6_toward_1 : decode cX6_toward 1 = .ok (.iload_n 1, 1) := by decide +kernel
theorem dX6_toward_2 : decode cX6_toward 2 = .ok (.iload_n 2, 1) := by decide +kernel
theorem dX6_toward_3 : decode cX6_toward 3 = .ok (.invokevirtual 101, 3) := by decide +kernel
theorem dX6_toward_6 : decode cX6_toward 6 = .ok (.ifCond .ne 18, 3) := by decide +kernel
theorem dX6_toward_9 : decode cX6_toward 9 = .ok (.aload_n 0, 1) := by decide +kernel
theorem dX6_toward_10 : decode cX6_toward 10 = .ok (.iload_n 3, 1) := by decide +kernel
theorem dX6_toward_11 : decode cX6_toward 11 = .ok (.iconst 0, 1) := by decide +kernel
theorem dX6_toward_12 : decode cX6_toward 12 = .ok (.bipush 64, 2) := by decide +kernel
theorem dX6_toward_14 : decode cX6_toward 14 = .ok (.invokestatic 31, 3) := by decide +kernel
theorem dX6_toward_17 : decode cX6_toward 17 = .ok (.iconst 2, 1) := by decide +kernel
theorem dX6_toward_18 : decode cX6_toward 18 = .ok (.invokevirtual 39, 3) := by decide +kernel
theorem dX6_toward_21 : decode cX6_toward 21 = .ok (.ifCond .eq 5, 3) := by decide +kernel
theorem dX6_toward_24 : decode cX6_toward 24 = .ok (.iconst 0, 1) := by decide +kernel
theorem dX6_toward_25 : decode cX6_toward 25 = .ok (.ireturn, 1) := by decide +kernel
theorem dX6_toward_26 : decode cX6_toward 26 = .ok (.aload_n 0, 1) := by decide +kernel
theorem dX6_toward_27 : decode cX6_toward 27 = .ok (.iload_n 1, 1) := by decide +kernel
theorem dX6_toward_28 : decode cX6_toward 28 = .ok (.iload_n 3, 1) := by decide +kernel
theorem dX6_toward_29 : decode cX6_toward 29 = .ok (.bipush 116, 2) := by decide +kernel
theorem dX6_toward_31 : decode cX6_toward 31 = .ok (.aload_n 0, 1) := by decide +kernel
theorem dX6_toward_32 : decode cX6_toward 32 = .ok (.getfield 9, 3) := by decide +kernel
theorem dX6_toward_35 : decode cX6_toward 35 = .ok (.iload_n 2, 1) := by decide +kernel
theorem dX6_toward_36 : decode cX6_toward 36 = .ok (.laload, 1) := by decide +kernel
theorem dX6_toward_37 : decode cX6_toward 37 = .ok (.invokevirtual 119, 3) := by decide +kernel
theorem dX6_toward_40 : decode cX6_toward 40 = .ok (.ireturn, 1) := by decide +kernel
set_option maxRecDepth 20000 in
theorem ggX6_placeIn_X6_placeOf : GoodIn wsX6_placeIn wsX6_placeOf := goodIn_r _ [5] (by decide +kernel) (by decide +kernel)
set_option maxRecDepth 20000 in
theorem gX6_placeIn_X6_placeOf : GoodIn wsX6_placeIn (va_wsS RX6 51 yX6_placeOf wsX6_placeOf) := goodIn_app (goodIn_of _ (by decide +kernel)) ggX6_placeIn_X6_placeOf
theorem dX6_placeIn_0 : decode cX6_placeIn 0 = .ok (.aload_n 0, 1) := by decide +kernel
theorem dX6_placeIn_1 : decode cX6_placeIn 1 = .ok (.getfield 9, 3) := by decide +kernel
theorem dX6_placeIn_4 : decode cX6_placeIn 4 = .ok (.iload_n 1, 1) := by decide +kernel
theorem dX6_placeIn_5 : decode cX6_placeIn 5 = .ok (.laload, 1) := by decide +kernel
theorem dX6_placeIn_6 : decode cX6_placeIn 6 = .ok (.invokestatic 51, 3) := by decide +kernel
theorem dX6_placeIn_9 : decode cX6_placeIn 9 = .ok (.lreturn, 1) := by decide +kernel
set_option maxRecDepth 20000 in
theorem ggX6_walk_X6_lacks_ : GoodIn wsX6_walk wsX6_lacks_ := goodIn_r _ [6, 7, 8, 5, 9, 10, 11, 12, 13, 14, 15, 16, 17, 42, 43, 44, 45, 46, 47, 48, 49] (by decide +kernel) (by decide +kernel)
set_option maxRecDepth 20000 in
theorem gX6_walk_X6_lacks_ : GoodIn wsX6_walk (wsV RX6 101 RX6 yX6_lacks_ wsX6_lacks_) := goodIn_app (goodIn_of _ (by decide +kernel)) ggX6_walk_X6_lacks_
set_option maxRecDepth 20000 in
theorem ggX6_walk_X6_placeOf : GoodIn wsX6_walk wsX6_placeOf := goodIn_r _ [20] (by decide +kernel) (by decide +kernel)
set_option maxRecDepth 20000 in
theorem gX6_walk_X6_placeOf : GoodIn wsX6_walk (va_wsS RX6 51 yX6_placeOf wsX6_placeOf) := goodIn_app (goodIn_of _ (by decide +kernel)) ggX6_walk_X6_placeOf
set_option maxRecDepth 20000 in
theorem ggX6_walk_X6_placeIn : GoodIn wsX6_walk wsX6_placeIn := goodIn_ca (goodIn_r _ [24, 1, 18, 19, 5, 20, 42, 43, 44, 45, 46, 47, 48, 49] (by decide +kernel) (by decide +kernel)) (goodIn_sub (fun _ h => List.mem_cons_of_mem _ (List.mem_append_right _ h)) (by decide +kernel))
set_option maxRecDepth 20000 in
theorem gX6_walk_X6_placeIn : GoodIn wsX6_walk (wsV RX6 123 RX6 yX6_placeIn wsX6_placeIn) := goodIn_app (goodIn_of _ (by decide +kernel)) ggX6_walk_X6_placeIn
set_option maxRecDepth 20000 in
theorem ggX6_walk_X6_nearer : GoodIn wsX6_walk wsX6_nearer := goodIn_r _ [27, 18, 19, 5, 20, 28, 29, 30, 31, 32, 33, 34, 35, 36, 37, 38, 39, 40, 41] (by decide +kernel) (by decide +kernel)
set_option maxRecDepth 20000 in
theorem gX6_walk_X6_nearer : GoodIn wsX6_walk (va_wsS RX6 115 yX6_nearer wsX6_nearer) := goodIn_app (goodIn_of _ (by decide +kernel)) ggX6_walk_X6_nearer
theorem dX6_walk_0 : decode cX6_walk 0 = .ok (.aload_n 0, 1) := by decide +kernel
theorem dX6_walk_1 : decode cX6_walk 1 = .ok (.iload_n 1, 1) := by decide +kernel
theorem dX6_walk_2 : decode cX6_walk 2 = .ok (.iload_n 2, 1) := by decide +kernel
theorem dX6_walk_3 : decode cX6_walk 3 = .ok (.invokevirtual 101, 3) := by decide +kernel
theorem dX6_walk_6 : decode cX6_walk 6 = .ok (.ifCond .eq 5, 3) := by decide +kernel
theorem dX6_walk_9 : decode cX6_walk 9 = .ok (.iconst 0, 1) := by decide +kernel
theorem dX6_walk_10 : decode cX6_walk 10 = .ok (.ireturn, 1) := by decide +kernel
theorem dX6_walk_11 : decode cX6_walk 11 = .ok (.aload_n 0, 1) := by decide +kernel
theorem dX6_walk_12 : decode cX6_walk 12 = .ok (.getfield 9, 3) := by decide +kernel
theorem dX6_walk_15 : decode cX6_walk 15 = .ok (.iload_n 1, 1) := by decide +kernel
theorem dX6_walk_16 : decode cX6_walk 16 = .ok (.laload, 1) := by decide +kernel
theorem dX6_walk_17 : decode cX6_walk 17 = .ok (.lstore_n 3, 1) := by decide +kernel
theorem dX6_walk_18 : decode cX6_walk 18 = .ok (.iconst 0, 1) := by decide +kernel
theorem dX6_walk_19 : decode cX6_walk 19 = .ok (.istore 5, 2) := by decide +kernel
theorem dX6_walk_21 : decode cX6_walk 21 = .ok (.iload 5, 2) := by decide +kernel
theorem dX6_walk_23 : decode cX6_walk 23 = .ok (.bipush 64, 2) := by decide +kernel
theorem dX6_walk_25 : decode cX6_walk 25 = .ok (.if_icmp .gt 36, 3) := by decide +kernel
theorem dX6_walk_28 : decode cX6_walk 28 = .ok (.lload_n 3, 1) := by decide +kernel
theorem dX6_walk_29 : decode cX6_walk 29 = .ok (.invokestatic 51, 3) := by decide +kernel
theorem dX6_walk_32 : decode cX6_walk 32 = .ok (.aload_n 0, 1) := by decide +kernel
theorem dX6_walk_33 : decode cX6_walk 33 = .ok (.iload_n 2, 1) := by decide +kernel
theorem dX6_walk_34 : decode cX6_walk 34 = .ok (.invokevirtual 123, 3) := by decide +kernel
theorem dX6_walk_37 : decode cX6_walk 37 = .ok (.lcmp, 1) := by decide +kernel
theorem dX6_walk_38 : decode cX6_walk 38 = .ok (.ifCond .ne 6, 3) := by decide +kernel
theorem dX6_walk_41 : decode cX6_walk 41 = .ok (.iload 5, 2) := by decide +kernel
theorem dX6_walk_43 : decode cX6_walk 43 = .ok (.ireturn, 1) := by decide +kernel
theorem dX6_walk_44 : decode cX6_walk 44 = .ok (.lload_n 3, 1) := by decide +kernel
theorem dX6_walk_45 : decode cX6_walk 45 = .ok (.aload_n 0, 1) := by decide +kernel
theorem dX6_walk_46 : decode cX6_walk 46 = .ok (.getfield 9, 3) := by decide +kernel
theorem dX6_walk_49 : decode cX6_walk 49 = .ok (.iload_n 2, 1) := by decide +kernel
theorem dX6_walk_50 : decode cX6_walk 50 = .ok (.laload, 1) := by decide +kernel
theorem dX6_walk_51 : decode cX6_walk 51 = .ok (.invokestatic 115, 3) := by decide +kernel
theorem dX6_walk_54 : decode cX6_walk 54 = .ok (.lstore_n 3, 1) := by decide +kernel
theorem dX6_walk_55 : decode cX6_walk 55 = .ok (.iinc 5 1, 3) := by decide +kernel
theorem dX6_walk_58 : decode cX6_walk 58 = .ok (.goto (-37), 3) := by decide +kernel
theorem dX6_walk_61 : decode cX6_walk 61 = .ok (.iconst (-1), 1) := by decide +kernel
theorem dX6_walk_62 : decode cX6_walk 62 = .ok (.ireturn, 1) := by decide +kernel
set_option maxRecDepth 20000 in
theorem ggX6_apart_X6_lacks_ : GoodIn wsX6_apart wsX6_lacks_ := goodIn_r _ [5, 6, 7, 4, 8, 9, 10, 11, 12, 13, 14, 15, 16, 25, 26, 27, 28, 29, 30, 31, 32] (by decide +kernel) (by decide +kernel)
set_option maxRecDepth 20000 in
theorem gX6_apart_X6_lacks_ : GoodIn wsX6_apart (wsV RX6 101 RX6 yX6_lacks_ wsX6_lacks_) := goodIn_app (goodIn_of _ (by decide +kernel)) ggX6_apart_X6_lacks_
set_option maxRecDepth 20000 in
theorem ggX6_apart_X6_placeIn : GoodIn wsX6_apart wsX6_placeIn := goodIn_ca (goodIn_r _ [20, 21, 22, 23, 4, 24, 25, 26, 27, 28, 29, 30, 31, 32] (by decide +kernel) (by decide +kernel)) (goodIn_sub (fun _ h => List.mem_cons_of_mem _ (List.mem_append_right _ h)) (by decide +kernel))
set_option maxRecDepth 20000 in
theorem gX6_apart_X6_placeIn : GoodIn wsX6_apart (wsV RX6 123 RX6 yX6_placeIn wsX6_placeIn) := goodIn_app (goodIn_of _ (by decide +kernel)) ggX6_apart_X6_placeIn
theorem dX6_apart_0 : decode cX6_apart 0 = .ok (.aload_n 0, 1) := by decide +kernel
theorem dX6_apart_1 : decode cX6_apart 1 = .ok (.iload_n 1, 1) := by decide +kernel
theorem dX6_apart_2 : decode cX6_apart 2 = .ok (.iload_n 2, 1) := by decide +kernel
theorem dX6_apart_3 : decode cX6_apart 3 = .ok (.invokevirtual 101, 3) := by decide +kernel
theorem dX6_apart_6 : decode cX6_apart 6 = .ok (.ifCond .eq 5, 3) := by decide +kernel
theorem dX6_apart_9 : decode cX6_apart 9 = .ok (.lconst 0, 1) := by decide +kernel
theorem dX6_apart_10 : decode cX6_apart 10 = .ok (.lreturn, 1) := by decide +kernel
theorem dX6_apart_11 : decode cX6_apart 11 = .ok (.aload_n 0, 1) := by decide +kernel
theorem dX6_apart_12 : decode cX6_apart 12 = .ok (.iload_n 1, 1) := by decide +kernel
theorem dX6_apart_13 : decode cX6_apart 13 = .ok (.invokevirtual 123, 3) := by decide +kernel
theorem dX6_apart_16 : decode cX6_apart 16 = .ok (.lstore_n 3, 1) := by decide +kernel
theorem dX6_apart_17 : decode cX6_apart 17 = .ok (.aload_n 0, 1) := by decide +kernel
theorem dX6_apart_18 : decode cX6_apart 18 = .ok (.iload_n 2, 1) := by decide +kernel
theorem dX6_apart_19 : decode cX6_apart 19 = .ok (.invokevirtual 123, 3) := by decide +kernel
theorem dX6_apart_22 : decode cX6_apart 22 = .ok (.lstore 5, 2) := by decide +kernel
theorem dX6_apart_24 : decode cX6_apart 24 = .ok (.lload_n 3, 1) := by decide +kernel
theorem dX6_apart_25 : decode cX6_apart 25 = .ok (.lload 5, 2) := by decide +kernel
theorem dX6_apart_27 : decode cX6_apart 27 = .ok (.lcmp, 1) := by decide +kernel
theorem dX6_apart_28 : decode cX6_apart 28 = .ok (.ifCond .le 10, 3) := by decide +kernel
theorem dX6_apart_31 : decode cX6_apart 31 = .ok (.lload_n 3, 1) := by decide +kernel
theorem dX6_apart_32 : decode cX6_apart 32 = .ok (.lload 5, 2) := by decide +kernel
theorem dX6_apart_34 : decode cX6_apart 34 = .ok (.lsub, 1) := by decide +kernel
theorem dX6_apart_35 : decode cX6_apart 35 = .ok (.goto 7, 3) := by decide +kernel
theorem dX6_apart_38 : decode cX6_apart 38 = .ok (.lload 5, 2) := by decide +kernel
theorem dX6_apart_40 : decode cX6_apart 40 = .ok (.lload_n 3, 1) := by decide +kernel
theorem dX6_apart_41 : decode cX6_apart 41 = .ok (.lsub, 1) := by decide +kernel
theorem dX6_apart_42 : decode cX6_apart 42 = .ok (.lreturn, 1) := by decide +kernel
set_option maxRecDepth 20000 in
theorem ggX6_areNext_X6_lacks_ : GoodIn wsX6_areNext wsX6_lacks_ := goodIn_r _ [5, 6, 7, 4, 8, 9, 10, 11, 12, 13, 14, 15, 16, 28, 29, 30, 31, 32, 33, 34, 35] (by decide +kernel) (by decide +kernel)
set_option maxRecDepth 20000 in
theorem gX6_areNext_X6_lacks_ : GoodIn wsX6_areNext (wsV RX6 101 RX6 yX6_lacks_ wsX6_lacks_) := goodIn_app (goodIn_of _ (by decide +kernel)) ggX6_areNext_X6_lacks_
set_option maxRecDepth 20000 in
theorem ggX6_areNext_X6_placeIn : GoodIn wsX6_areNext wsX6_placeIn := goodIn_ca (goodIn_r _ [20, 21, 22, 23, 4, 24, 28, 29, 30, 31, 32, 33, 34, 35] (by decide +kernel) (by decide +kernel)) (goodIn_sub (fun _ h => List.mem_cons_of_mem _ (List.mem_append_right _ h)) (by decide +kernel))
set_option maxRecDepth 20000 in
theorem gX6_areNext_X6_placeIn : GoodIn wsX6_areNext (wsV RX6 123 RX6 yX6_placeIn wsX6_placeIn) := goodIn_app (goodIn_of _ (by decide +kernel)) ggX6_areNext_X6_placeIn
set_option maxRecDepth 20000 in
theorem ggX6_areNext_X6_areApart : GoodIn wsX6_areNext wsX6_areApart := goodIn_r _ [27] (by decide +kernel) (by decide +kernel)
set_option maxRecDepth 20000 in
theorem gX6_areNext_X6_areApart : GoodIn wsX6_areNext (va_wsS RX6 127 yX6_areApart wsX6_areApart) := goodIn_app (goodIn_of _ (by decide +kernel)) ggX6_areNext_X6_areApart
theorem dX6_areNext_0 : decode cX6_areNext 0 = .ok (.aload_n 0, 1) := by decide +kernel
theorem dX6_areNext_1 : decode cX6_areNext 1 = .ok (.iload_n 1, 1) := by decide +kernel
theorem dX6_areNext_2 : decode cX6_areNext 2 = .ok (.iload_n 2, 1) := by decide +kernel
theorem dX6_areNext_3 : decode cX6_areNext 3 = .ok (.invokevirtual 101, 3) := by decide +kernel
theorem dX6_areNext_6 : decode cX6_areNext 6 = .ok (.ifCond .eq 5, 3) := by decide +kernel
theorem dX6_areNext_9 : decode cX6_areNext 9 = .ok (.iconst 0, 1) := by decide +kernel
theorem dX6_areNext_10 : decode cX6_areNext 10 = .ok (.ireturn, 1) := by decide +kernel
theorem dX6_areNext_11 : decode cX6_areNext 11 = .ok (.aload_n 0, 1) := by decide +kernel
theorem dX6_areNext_12 : decode cX6_areNext 12 = .ok (.iload_n 1, 1) := by decide +kernel
theorem dX6_areNext_13 : decode cX6_areNext 13 = .ok (.invokevirtual 123, 3) := by decide +kernel
theorem dX6_areNext_16 : decode cX6_areNext 16 = .ok (.lstore_n 3, 1) := by decide +kernel
theorem dX6_areNext_17 : decode cX6_areNext 17 = .ok (.aload_n 0, 1) := by decide +kernel
theorem dX6_areNext_18 : decode cX6_areNext 18 = .ok (.iload_n 2, 1) := by decide +kernel
theorem dX6_areNext_19 : decode cX6_areNext 19 = .ok (.invokevirtual 123, 3) := by decide +kernel
theorem dX6_areNext_22 : decode cX6_areNext 22 = .ok (.lstore 5, 2) := by decide +kernel
theorem dX6_areNext_24 : decode cX6_areNext 24 = .ok (.lload_n 3, 1) := by decide +kernel
theorem dX6_areNext_25 : decode cX6_areNext 25 = .ok (.lload 5, 2) := by decide +kernel
theorem dX6_areNext_27 : decode cX6_areNext 27 = .ok (.lcmp, 1) := by decide +kernel
theorem dX6_areNext_28 : decode cX6_areNext 28 = .ok (.ifCond .eq 16, 3) := by decide +kernel
theorem dX6_areNext_31 : decode cX6_areNext 31 = .ok (.lload_n 3, 1) := by decide +kernel
theorem dX6_areNext_32 : decode cX6_areNext 32 = .ok (.lload 5, 2) := by decide +kernel
theorem dX6_areNext_34 : decode cX6_areNext 34 = .ok (.invokestatic 127, 3) := by decide +kernel
theorem dX6_areNext_37 : decode cX6_areNext 37 = .ok (.ifCond .ne 7, 3) := by decide +kernel
theorem dX6_areNext_40 : decode cX6_areNext 40 = .ok (.iconst 1, 1) := by decide +kernel
theorem dX6_areNext_41 : decode cX6_areNext 41 = .ok (.goto 4, 3) := by decide +kernel
theorem dX6_areNext_44 : decode cX6_areNext 44 = .ok (.iconst 0, 1) := by decide +kernel
theorem dX6_areNext_45 : decode cX6_areNext 45 = .ok (.ireturn, 1) := by decide +kernel
set_option maxRecDepth 20000 in
theorem ggX6_middle_X6_lacks__ : GoodIn wsX6_middle wsX6_lacks__ := goodIn_r _ [5, 6, 7, 4, 8, 9, 10, 11, 12, 13, 14, 15, 16, 38, 39, 40, 41, 42, 43, 44, 45] (by decide +kernel) (by decide +kernel)
set_option maxRecDepth 20000 in
theorem gX6_middle_X6_lacks__ : GoodIn wsX6_middle (wsV RX6 131 RX6 yX6_lacks__ wsX6_lacks__) := goodIn_app (goodIn_of _ (by decide +kernel)) ggX6_middle_X6_lacks__
set_option maxRecDepth 20000 in
theorem ggX6_middle_X6_placeIn : GoodIn wsX6_middle wsX6_placeIn := goodIn_ca (goodIn_r _ [20, 21, 22, 23, 4, 24, 38, 39, 40, 41, 42, 43, 44, 45] (by decide +kernel) (by decide +kernel)) (goodIn_sub (fun _ h => List.mem_cons_of_mem _ (List.mem_append_right _ h)) (by decide +kernel))
set_option maxRecDepth 20000 in
theorem gX6_middle_X6_placeIn : GoodIn wsX6_middle (wsV RX6 123 RX6 yX6_placeIn wsX6_placeIn) := goodIn_app (goodIn_of _ (by decide +kernel)) ggX6_middle_X6_placeIn
set_option maxRecDepth 20000 in
theorem ggX6_middle_X6_middleOf : GoodIn wsX6_middle wsX6_middleOf := goodIn_r _ [27] (by decide +kernel) (by decide +kernel)
set_option maxRecDepth 20000 in
theorem gX6_middle_X6_middleOf : GoodIn wsX6_middle (va_wsS RX6 133 yX6_middleOf wsX6_middleOf) := goodIn_app (goodIn_of _ (by decide +kernel)) ggX6_middle_X6_middleOf
set_option maxRecDepth 20000 in
theorem ggX6_middle_X6_codeOf : GoodIn wsX6_middle wsX6_codeOf := goodIn_r _ [30] (by decide +kernel) (by decide +kernel)
set_option maxRecDepth 20000 in
theorem gX6_middle_X6_codeOf : GoodIn wsX6_middle (va_wsS RX6 54 yX6_codeOf wsX6_codeOf) := goodIn_app (goodIn_of _ (by decide +kernel)) ggX6_middle_X6_codeOf
set_option maxRecDepth 20000 in
theorem ggX6_middle_X6_becomes : GoodIn wsX6_middle wsX6_becomes := goodIn_ca (goodIn_r _ [34, 35, 36, 37, 21, 22, 23, 4, 24, 38, 39, 40, 41, 42, 43, 44, 45] (by decide +kernel) (by decide +kernel)) (goodIn_sub (fun _ h => List.mem_cons_of_mem _ (List.mem_append_right _ h)) (by decide +kernel))
set_option maxRecDepth 20000 in
theorem gX6_middle_X6_becomes : GoodIn wsX6_middle (wsV RX6 97 RX6 yX6_becomes wsX6_becomes) := goodIn_app (goodIn_of _ (by decide +kernel)) ggX6_middle_X6_becomes
theorem dX6_middle_0 : decode cX6_middle 0 = .ok (.aload_n 0, 1) := by decide +kernel
theorem dX6_middle_1 : decode cX6_middle 1 = .ok (.iload_n 1, 1) := by decide +kernel
theorem dX6_middle_2 : decode cX6_middle 2 = .ok (.iload_n 2, 1) := by decide +kernel
theorem dX6_middle_3 : decode cX6_middle 3 = .ok (.iload_n 3, 1) := by decide +kernel
theorem dX6_middle_4 : decode cX6_middle 4 = .ok (.invokevirtual 131, 3) := by decide +kernel
theorem dX6_middle_7 : decode cX6_middle 7 = .ok (.ifCond .eq 5, 3) := by decide +kernel
theorem dX6_middle_10 : decode cX6_middle 10 = .ok (.lconst 0, 1) := by decide +kernel
theorem dX6_middle_11 : decode cX6_middle 11 = .ok (.lreturn, 1) := by decide +kernel
theorem dX6_middle_12 : decode cX6_middle 12 = .ok (.aload_n 0, 1) := by decide +kernel
theorem dX6_middle_13 : decode cX6_middle 13 = .ok (.iload_n 3, 1) := by decide +kernel
theorem dX6_middle_14 : decode cX6_middle 14 = .ok (.aload_n 0, 1) := by decide +kernel
theorem dX6_middle_15 : decode cX6_middle 15 = .ok (.iload_n 1, 1) := by decide +kernel
theorem dX6_middle_16 : decode cX6_middle 16 = .ok (.invokevirtual 123, 3) := by decide +kernel
theorem dX6_middle_19 : decode cX6_middle 19 = .ok (.aload_n 0, 1) := by decide +kernel
theorem dX6_middle_20 : decode cX6_middle 20 = .ok (.iload_n 2, 1) := by decide +kernel
theorem dX6_middle_21 : decode cX6_middle 21 = .ok (.invokevirtual 123, 3) := by decide +kernel
theorem dX6_middle_24 : decode cX6_middle 24 = .ok (.invokestatic 133, 3) := by decide +kernel
theorem dX6_middle_27 : decode cX6_middle 27 = .ok (.invokestatic 54, 3) := by decide +kernel
theorem dX6_middle_30 : decode cX6_middle 30 = .ok (.invokevirtual 97, 3) := by decide +kernel
theorem dX6_middle_33 : decode cX6_middle 33 = .ok (.lreturn, 1) := by decide +kernel
