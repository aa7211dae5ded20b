set_option maxRecDepth 20000 in
theorem my_in_wsL_law0_r1 : GoodIn lw_tbl wsL_law0_r1 := goodIn_r _ [35, 36, 14, 809, 810, 17, 59, 37, 38, 39, 40, 41, 42, 81, 43, 44, 15, 82, 62, 63, 16, 83, 45, 46] (by decide +kernel) (by decide +kernel)
set_option maxRecDepth 20000 in
theorem my_in_wsL_law0_r2 : GoodIn lw_tbl wsL_law0_r2 := goodIn_r _ [47, 48, 60, 49, 61, 50, 51, 64, 65, 66, 67, 68, 69, 70, 71, 811, 812, 813, 814, 815, 816, 817, 819, 820] (by decide +kernel) (by decide +kernel)
set_option maxRecDepth 20000 in
theorem my_in_wsL_law0_r3 : GoodIn lw_tbl wsL_law0_r3 := goodIn_r _ [286, 287, 13, 288, 289, 368, 369, 370, 371, 372, 373, 374, 375, 376, 21, 389, 390, 391, 392, 24, 408, 409, 25, 410] (by decide +kernel) (by decide +kernel)
set_option maxRecDepth 20000 in
theorem my_in_wsL_law0_r4 : GoodIn lw_tbl wsL_law0_r4 := goodIn_r _ [411, 412, 26, 413, 414, 415, 416, 197, 198, 199, 160, 200, 201, 28, 202, 203, 204, 29, 205, 206, 207, 208, 209, 169] (by decide +kernel) (by decide +kernel)
set_option maxRecDepth 20000 in
theorem my_in_wsL_law0_r5 : GoodIn lw_tbl wsL_law0_r5 := goodIn_r _ [170, 171, 101, 417, 419, 1, 420, 421, 422, 423, 424, 425, 426, 427, 428, 99, 100, 852, 853, 854, 855, 856, 858, 3] (by decide +kernel) (by decide +kernel)
set_option maxRecDepth 20000 in
theorem my_in_wsL_law0_r6 : GoodIn lw_tbl wsL_law0_r6 := goodIn_r _ [859, 860, 861, 862, 863, 864, 865, 848, 850, 2, 851, 822, 866, 867, 868, 869, 870, 871, 872, 873, 874, 875, 876, 878] (by decide +kernel) (by decide +kernel)
set_option maxRecDepth 20000 in
theorem my_in_wsL_law0_r7 : GoodIn lw_tbl wsL_law0_r7 := goodIn_r _ [4, 879, 818, 880, 881, 882, 840, 841, 842, 843, 429, 430, 431, 432, 433, 434, 435, 436, 437, 883, 884, 885, 886, 438] (by decide +kernel) (by decide +kernel)
set_option maxRecDepth 20000 in
theorem my_in_wsL_law0_r8 : GoodIn lw_tbl wsL_law0_r8 := goodIn_r _ [439, 440, 441, 442, 443, 444, 887, 888, 889, 890, 891, 893, 5, 894, 445, 446, 447, 448, 449, 450, 451, 895, 896, 897] (by decide +kernel) (by decide +kernel)
set_option maxRecDepth 20000 in
theorem my_in_wsL_law0_r9 : GoodIn lw_tbl wsL_law0_r9 := goodIn_r _ [898, 452, 453, 454, 455, 456, 457, 458, 899, 900, 901, 902, 459, 460, 461, 462, 463, 464, 465, 903, 904, 905, 906, 907] (by decide +kernel) (by decide +kernel)
set_option maxRecDepth 20000 in
theorem my_in_wsL_law0_r10 : GoodIn lw_tbl wsL_law0_r10 := goodIn_r _ [908, 909, 910, 466, 467, 468, 469, 470, 471, 472, 473, 182, 183, 184, 185, 186, 187, 911, 912, 913, 914, 915, 916, 917] (by decide +kernel) (by decide +kernel)
set_option maxRecDepth 20000 in
theorem my_in_wsL_law0_r11 : GoodIn lw_tbl wsL_law0_r11 := goodIn_r _ [918, 919, 920, 474, 475, 476, 477, 478, 479, 480, 481, 482, 483, 234, 229, 230, 181, 484, 241, 242, 235, 220, 221, 222] (by decide +kernel) (by decide +kernel)
set_option maxRecDepth 20000 in
theorem my_in_wsL_law0_r12 : GoodIn lw_tbl wsL_law0_r12 := goodIn_r _ [223, 124, 125, 126, 243, 244, 245, 246, 247, 248, 188, 189, 190, 191, 192, 193, 921, 922, 923, 924, 925, 926, 927, 928] (by decide +kernel) (by decide +kernel)
set_option maxRecDepth 20000 in
theorem my_in_wsL_law0_r13 : GoodIn lw_tbl wsL_law0_r13 := goodIn_r _ [929, 930, 931, 932, 933, 485, 486, 487, 488, 489, 490, 491, 121, 122, 123, 934, 935, 936, 937, 938, 939, 940, 492, 493] (by decide +kernel) (by decide +kernel)
set_option maxRecDepth 20000 in
theorem my_in_wsL_law0_r14 : GoodIn lw_tbl wsL_law0_r14 := goodIn_r _ [494, 495, 496, 497, 498, 499, 158, 159, 98, 161, 162, 163, 941, 942, 943, 944, 945, 947, 6, 948, 949, 950, 951, 952] (by decide +kernel) (by decide +kernel)
set_option maxRecDepth 20000 in
theorem my_in_wsL_law0_r15 : GoodIn lw_tbl wsL_law0_r15 := goodIn_r _ [953, 954, 955, 956, 957, 958, 959, 960, 500, 501, 502, 503, 504, 505, 506, 507, 167, 168, 172, 961, 962, 963, 964, 508] (by decide +kernel) (by decide +kernel)
set_option maxRecDepth 20000 in
theorem my_in_wsL_law0_r16 : GoodIn lw_tbl wsL_law0_r16 := goodIn_r _ [509, 510, 511, 512, 513, 514, 515, 279, 280, 281, 96, 97, 102, 103, 104, 282, 965, 966, 967, 968, 516, 517, 518, 519] (by decide +kernel) (by decide +kernel)
set_option maxRecDepth 20000 in
theorem my_in_wsL_law0_r17 : GoodIn lw_tbl wsL_law0_r17 := goodIn_r _ [520, 521, 522, 523, 284, 285, 524, 525, 526, 969, 970, 971, 972, 973, 975, 7, 976, 527, 528, 529, 530, 531, 532, 533] (by decide +kernel) (by decide +kernel)
set_option maxRecDepth 20000 in
theorem my_in_wsL_law0_r18 : GoodIn lw_tbl wsL_law0_r18 := goodIn_r _ [977, 978, 979, 980, 534, 535, 536, 537, 538, 539, 540, 981, 982, 983, 984, 985, 986, 987, 541, 542, 543, 544, 545, 546] (by decide +kernel) (by decide +kernel)
set_option maxRecDepth 20000 in
theorem my_in_wsL_law0_r19 : GoodIn lw_tbl wsL_law0_r19 := goodIn_r _ [547, 548, 549, 550, 988, 989, 990, 991, 992, 994, 8, 995, 996, 997, 998, 551, 552, 553, 554, 555, 556, 557, 999, 1000] (by decide +kernel) (by decide +kernel)
set_option maxRecDepth 20000 in
theorem my_in_wsL_law0_r20 : GoodIn lw_tbl wsL_law0_r20 := goodIn_r _ [1001, 1002, 558, 559, 560, 561, 562, 563, 564, 95, 1003, 1004, 1005, 1006, 91, 92, 93, 94, 1007, 1008, 1009, 1010, 565, 566] (by decide +kernel) (by decide +kernel)
set_option maxRecDepth 20000 in
theorem my_in_wsL_law0_r21 : GoodIn lw_tbl wsL_law0_r21 := goodIn_r _ [567, 568, 569, 570, 571, 1011, 1012, 1013, 1014, 572, 573, 574, 575, 576, 577, 578, 579, 232, 233, 1015, 1016, 1017, 1018, 1019] (by decide +kernel) (by decide +kernel)
set_option maxRecDepth 20000 in
theorem my_in_wsL_law0_r22 : GoodIn lw_tbl wsL_law0_r22 := goodIn_r _ [1020, 1021, 580, 581, 582, 583, 584, 585, 586, 1022, 1023, 1024, 1025, 587, 588, 589, 590, 591, 592, 593, 1026, 1027, 1028, 1029] (by decide +kernel) (by decide +kernel)
set_option maxRecDepth 20000 in
theorem my_in_wsL_law0_r23 : GoodIn lw_tbl wsL_law0_r23 := goodIn_r _ [594, 595, 596, 597, 598, 599, 600, 132, 133, 134, 1030, 1031, 1032, 1033, 1034, 1035, 1036, 601, 602, 603, 604, 605, 606, 607] (by decide +kernel) (by decide +kernel)
set_option maxRecDepth 20000 in
theorem my_in_wsL_law0_r24 : GoodIn lw_tbl wsL_law0_r24 := goodIn_r _ [608, 179, 180, 194, 195, 196, 1037, 1038, 1039, 1040, 1041, 1042, 1043, 609, 610, 611, 612, 626, 627, 628, 629, 630, 631, 632] (by decide +kernel) (by decide +kernel)
set_option maxRecDepth 20000 in
theorem my_in_wsL_law0_r25 : GoodIn lw_tbl wsL_law0_r25 := goodIn_r _ [634, 30, 633, 637, 237, 238, 1044, 1045, 1046, 1047, 1048, 1050, 9, 1051, 1052, 1053, 1054, 1055, 1056, 1057, 1058, 1059, 1060, 638] (by decide +kernel) (by decide +kernel)
set_option maxRecDepth 20000 in
theorem my_in_wsL_law0_r26 : GoodIn lw_tbl wsL_law0_r26 := goodIn_r _ [639, 640, 641, 642, 643, 644, 645, 1061, 1062, 1063, 1064, 646, 647, 648, 649, 650, 651, 652, 653, 1065, 1066, 1067, 1068, 654] (by decide +kernel) (by decide +kernel)
set_option maxRecDepth 20000 in
theorem my_in_wsL_law0_r27 : GoodIn lw_tbl wsL_law0_r27 := goodIn_r _ [655, 656, 657, 658, 659, 660, 661, 662, 663, 664, 665, 666, 31, 682, 683, 32, 684, 219, 218, 685, 686, 687, 1069, 1070] (by decide +kernel) (by decide +kernel)
set_option maxRecDepth 20000 in
theorem my_in_wsL_law0_r28 : GoodIn lw_tbl wsL_law0_r28 := goodIn_r _ [1071, 1072, 1073, 1074, 1075, 1076, 688, 689, 690, 691, 692, 693, 694, 695, 696, 697, 698, 699, 700, 701, 702, 703, 704, 26] (by decide +kernel) (by decide +kernel)
set_option maxRecDepth 20000 in
theorem my_in_wsL_law0_r29 : GoodIn lw_tbl wsL_law0_r29 := goodIn_r _ [705, 1077, 1078, 1079, 1080, 1081, 1082, 1083, 706, 707, 708, 709, 710, 711, 712, 713, 714, 715, 716, 717, 213, 214, 224, 215] (by decide +kernel) (by decide +kernel)
set_option maxRecDepth 20000 in
theorem my_in_wsL_law0_r30 : GoodIn lw_tbl wsL_law0_r30 := goodIn_r _ [216, 217, 1084, 1085, 1086, 1087, 1088, 1089, 1090, 1091, 1092, 1093, 1094, 1095, 1096, 718, 719, 720, 721, 722, 723, 724, 725, 726] (by decide +kernel) (by decide +kernel)
set_option maxRecDepth 20000 in
theorem my_in_wsL_law0_r31 : GoodIn lw_tbl wsL_law0_r31 := goodIn_r _ [727, 729, 730, 731, 732, 734, 735, 736, 737, 738, 109, 110, 111, 112, 1097, 1098, 1099, 1100, 821, 1101, 1102, 1103, 105, 106] (by decide +kernel) (by decide +kernel)
set_option maxRecDepth 20000 in
theorem my_in_wsL_law0_r32 : GoodIn lw_tbl wsL_law0_r32 := goodIn_r _ [107, 108, 113, 114, 115, 116, 1104, 1105, 1106, 1107, 739, 740, 741, 742, 743, 744, 745, 746, 265, 266, 267, 253, 254, 255] (by decide +kernel) (by decide +kernel)
set_option maxRecDepth 20000 in
theorem my_in_wsL_law0_r33 : GoodIn lw_tbl wsL_law0_r33 := goodIn_r _ [256, 257, 258, 259, 1108, 1109, 1110, 1111, 1112, 1114, 10, 1115, 1116, 1118, 11, 1119, 747, 748, 749, 750, 751, 752, 753, 754] (by decide +kernel) (by decide +kernel)
set_option maxRecDepth 20000 in
theorem my_in_wsL_law0_r34 : GoodIn lw_tbl wsL_law0_r34 := goodIn_r _ [269, 270, 271, 1120, 1121, 1122, 1123, 1124, 1126, 12, 1127, 755, 756, 757, 758, 759, 760, 761, 260, 261, 262, 263, 264, 268] (by decide +kernel) (by decide +kernel)
set_option maxRecDepth 20000 in
theorem my_in_wsL_law0_r35 : GoodIn lw_tbl wsL_law0_r35 := goodIn_r _ [1128, 1129, 1130, 1131, 762, 763, 764, 765, 766, 767, 768, 249, 250, 251, 252, 1132, 1133, 1134, 1135, 769, 770, 771, 772, 773] (by decide +kernel) (by decide +kernel)
set_option maxRecDepth 20000 in
theorem my_in_wsL_law0_r36 : GoodIn lw_tbl wsL_law0_r36 := goodIn_r _ [774, 775, 776, 781, 33, 777, 778, 779, 780, 797, 798, 799, 800, 801, 802, 803, 804, 805, 806, 807, 808, 844, 845, 846] (by decide +kernel) (by decide +kernel)
set_option maxRecDepth 20000 in
theorem my_in_wsL_law0_r37 : GoodIn lw_tbl wsL_law0_r37 := goodIn_r _ [847, 117, 118, 119, 120, 127, 1136, 1137, 1138, 1139, 1140, 128, 129, 130, 131, 135, 1141, 1142, 1143, 1144, 1145, 136, 137, 138] (by decide +kernel) (by decide +kernel)
set_option maxRecDepth 20000 in
theorem my_in_wsL_law0_r38 : GoodIn lw_tbl wsL_law0_r38 := goodIn_r _ [139, 140, 141, 142, 143, 144, 145, 146, 1146, 1147, 1148, 1149, 1150, 1151, 147, 148, 149, 150, 151, 152, 34, 153, 154, 155] (by decide +kernel) (by decide +kernel)
set_option maxRecDepth 20000 in
theorem my_in_wsL_law0_r39 : GoodIn lw_tbl wsL_law0_r39 := goodIn_r _ [156, 164, 157, 165, 166, 173, 174, 175, 176, 177, 178, 210, 211, 212, 225, 226, 227, 228, 231, 236, 239, 240, 272, 273] (by decide +kernel) (by decide +kernel)
set_option maxRecDepth 20000 in
theorem my_in_wsL_law0_r40 : GoodIn lw_tbl wsL_law0_r40 := goodIn_r _ [274, 275, 276, 277, 278, 283, 1152, 1153, 1154, 1155] (by decide +kernel) (by decide +kernel)
theorem my_in_wX5 : GoodIn lw_tbl wsX50 := goodIn_of _ (by decide +kernel)
theorem my_in_wX6 : GoodIn lw_tbl wsX60 := goodIn_of _ (by decide +kernel)
theorem my_in_wX3 : GoodIn lw_tbl wsX30 := goodIn_of _ (by decide +kernel)
theorem my_in_wX2 : GoodIn lw_tbl wsX20 := goodIn_of _ (by decide +kernel)
set_option maxRecDepth 20000 in
theorem my_in_law0 : GoodIn lw_tbl wsL_law0 := goodIn_app (goodIn_app (goodIn_app (goodIn_app (goodIn_app (goodIn_app my_in_wsL_law0_r1 (goodIn_app my_in_wsL_law0_r2 (goodIn_app my_in_wsL_law0_r3 (goodIn_app my_in_wsL_law0_r4 (goodIn_app my_in_wsL_law0_r5 (goodIn_app my_in_wsL_law0_r6 (goodIn_app my_in_wsL_law0_r7 (goodIn_app my_in_wsL_law0_r8 (goodIn_app my_in_wsL_law0_r9 (goodIn_app my_in_wsL_law0_r10 (goodIn_app my_in_wsL_law0_r11 (goodIn_app my_in_wsL_law0_r12 (goodIn_app my_in_wsL_law0_r13 (goodIn_app my_in_wsL_law0_r14 (goodIn_app my_in_wsL_law0_r15 (goodIn_app my_in_wsL_law0_r16 (goodIn_app my_in_wsL_law0_r17 (goodIn_app my_in_wsL_law0_r18 (goodIn_app my_in_wsL_law0_r19 (goodIn_app my_in_wsL_law0_r20 (goodIn_app my_in_wsL_law0_r21 (goodIn_app my_in_wsL_law0_r22 (goodIn_app my_in_wsL_law0_r23 (goodIn_app my_in_wsL_law0_r24 (goodIn_app my_in_wsL_law0_r25 (goodIn_app my_in_wsL_law0_r26 (goodIn_app my_in_wsL_law0_r27 (goodIn_app my_in_wsL_law0_r28 (goodIn_app my_in_wsL_law0_r29 (goodIn_app my_in_wsL_law0_r30 (goodIn_app my_in_wsL_law0_r31 (goodIn_app my_in_wsL_law0_r32 (goodIn_app my_in_wsL_law0_r33 (goodIn_app my_in_wsL_law0_r34 (goodIn_app my_in_wsL_law0_r35 (goodIn_app my_in_wsL_law0_r36 (goodIn_app my_in_wsL_law0_r37 (goodIn_app my_in_wsL_law0_r38 (goodIn_app my_in_wsL_law0_r39 (my_in_wsL_law0_r40)))))))))))))))))))))))))))))))))))))))) my_in_wX5) my_in_wX6) my_in_wX3) my_in_wX2) (goodIn_of ([] : List Cond) rfl)
theorem wsL_law_in0 : ∀ w ∈ wsL_law0, w ∈ lw_tbl := fun w h => (my_in_law0 w h).1
theorem wsL_law_x0 : ∀ w ∈ (vx_atM "java/lang/ArrayIndexOutOfBoundsException" ["java/lang/IndexOutOfBoundsException", "java/lang/RuntimeException", "java/lang/Exception"]).filter goodWord, w ∈ lw_tbl := by decide +kernel
theorem wsL_law_x1 : ∀ w ∈ (vx_atS RX5 219 "java/lang/IndexOutOfBoundsException" ["java/lang/RuntimeException", "java/lang/Exception"]).filter goodWord, w ∈ lw_tbl := by decide +kernel
theorem wsL_law_x2 : ∀ w ∈ (vx_atS RX5 139 "java/lang/IllegalArgumentException" ["java/lang/RuntimeException", "java/lang/Exception"]).filter goodWord, w ∈ lw_tbl := by decide +kernel
theorem wsL_law_x3 : ∀ w ∈ (vx_atM "java/lang/ArithmeticException" ["java/lang/RuntimeException", "java/lang/Exception"]).filter goodWord, w ∈ lw_tbl := by decide +kernel
theorem wsL_law_x4 : ∀ w ∈ (vx_atS RX5 229 "java/lang/ArithmeticException" ["java/lang/RuntimeException", "java/lang/Exception"]).filter goodWord, w ∈ lw_tbl := by decide +kernel
theorem wsL_law_x5 : ∀ w ∈ (vx_atS RX5 150 "java/lang/IllegalStateException" ["java/lang/RuntimeException", "java/lang/Exception"]).filter goodWord, w ∈ lw_tbl := by decide +kernel
theorem wsL_law_x6 : ∀ w ∈ my_atN.filter goodWord, w ∈ lw_tbl := by decide +kernel
theorem wsL_law_in : ∀ w ∈ wsL_law, w ∈ lw_tbl := fun w h => (List.mem_append.mp h).elim (fun h => (List.mem_append.mp h).elim (fun h => (List.mem_append.mp h).elim (fun h => (List.mem_append.mp h).elim (fun h => (List.mem_append.mp h).elim (fun h => (List.mem_append.mp h).elim (fun h => (List.mem_append.mp h).elim (fun h => wsL_law_in0 w h) (fun h => wsL_law_x0 w h)) (fun h => wsL_law_x1 w h)) (fun h => wsL_law_x2 w h)) (fun h => wsL_law_x3 w h)) (fun h => wsL_law_x4 w h)) (fun h => wsL_law_x5 w h)) (fun h => wsL_law_x6 w h)
theorem inX0 : ∀ w ∈ wsX00, w ∈ lw_tbl := by decide +kernel
theorem inX1 : ∀ w ∈ wsX10, w ∈ lw_tbl := by decide +kernel
theorem inlX2 : ∀ w ∈ wsX20, w ∈ wsL_law := fun _ h => List.mem_append_left _ (List.mem_append_left _ (List.mem_append_left _ (List.mem_append_left _ (List.mem_append_left _ (List.mem_append_left _ (List.mem_append_left _ (List.mem_append_left _ (List.mem_append_right _ h))))))))
theorem inX2 : ∀ w ∈ wsX20, w ∈ lw_tbl := fun w h => wsL_law_in w (inlX2 w h)
theorem inlX3 : ∀ w ∈ wsX30, w ∈ wsL_law := fun _ h => List.mem_append_left _ (List.mem_append_left _ (List.mem_append_left _ (List.mem_append_left _ (List.mem_append_left _ (List.mem_append_left _ (List.mem_append_left _ (List.mem_append_left _ (List.mem_append_left _ (List.mem_append_right _ h)))))))))
theorem inX3 : ∀ w ∈ wsX30, w ∈ lw_tbl := fun w h => wsL_law_in w (inlX3 w h)
theorem inX4 : ∀ w ∈ wsX40, w ∈ lw_tbl := by decide +kernel
theorem inlX5 : ∀ w ∈ wsX50, w ∈ wsL_law := fun _ h => List.mem_append_left _ (List.mem_append_left _ (List.mem_append_left _ (List.mem_append_left _ (List.mem_append_left _ (List.mem_append_left _ (List.mem_append_left _ (List.mem_append_left _ (List.mem_append_left _ (List.mem_append_left _ (List.mem_append_left _ (List.mem_append_right _ h)))))))))))
theorem inX5 : ∀ w ∈ wsX50, w ∈ lw_tbl := fun w h => wsL_law_in w (inlX5 w h)
theorem inlX6 : ∀ w ∈ wsX60, w ∈ wsL_law := fun _ h => List.mem_append_left _ (List.mem_append_left _ (List.mem_append_left _ (List.mem_append_left _ (List.mem_append_left _ (List.mem_append_left _ (List.mem_append_left _ (List.mem_append_left _ (List.mem_append_left _ (List.mem_append_left _ (List.mem_append_right _ h))))))))))
theorem inX6 : ∀ w ∈ wsX60, w ∈ lw_tbl := fun w h => wsL_law_in w (inlX6 w h)
theorem inJx145de : ∀ w ∈ wsJx145de0, w ∈ lw_tbl := by decide +kernel
theorem inJx00060 : ∀ w ∈ wsJx000600, w ∈ lw_tbl := by decide +kernel
theorem inJxb160c : ∀ w ∈ wsJxb160c0, w ∈ lw_tbl := by decide +kernel
theorem inJ6 : ∀ w ∈ wsJ60, w ∈ lw_tbl := by decide +kernel
theorem inJ13 : ∀ w ∈ wsJ130, w ∈ lw_tbl := by decide +kernel
theorem inJ9 : ∀ w ∈ wsJ90, w ∈ lw_tbl := by decide +kernel
theorem inJxd2413 : ∀ w ∈ wsJxd24130, w ∈ lw_tbl := by decide +kernel
theorem inJ0 : ∀ w ∈ wsJ00, w ∈ lw_tbl := by decide +kernel
theorem inJxfd54e : ∀ w ∈ wsJxfd54e0, w ∈ lw_tbl := by decide +kernel
theorem inJx3cf43 : ∀ w ∈ wsJx3cf430, w ∈ lw_tbl := by decide +kernel

