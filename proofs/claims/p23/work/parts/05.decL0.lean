theorem dJ9_max_7cf53_0 : decode cJ9_max_7cf53 0 = .ok (.iload_n 0, 1) := by decide +kernel
theorem dJ9_max_7cf53_1 : decode cJ9_max_7cf53 1 = .ok (.iload_n 1, 1) := by decide +kernel
theorem dJ9_max_7cf53_2 : decode cJ9_max_7cf53 2 = .ok (.if_icmp .lt 7, 3) := by decide +kernel
theorem dJ9_max_7cf53_5 : decode cJ9_max_7cf53 5 = .ok (.iload_n 0, 1) := by decide +kernel
theorem dJ9_max_7cf53_6 : decode cJ9_max_7cf53 6 = .ok (.goto 4, 3) := by decide +kernel
theorem dJ9_max_7cf53_9 : decode cJ9_max_7cf53 9 = .ok (.iload_n 1, 1) := by decide +kernel
theorem dJ9_max_7cf53_10 : decode cJ9_max_7cf53 10 = .ok (.ireturn, 1) := by decide +kernel
theorem dJ9_min_7cf53_0 : decode cJ9_min_7cf53 0 = .ok (.iload_n 0, 1) := by decide +kernel
theorem dJ9_min_7cf53_1 : decode cJ9_min_7cf53 1 = .ok (.iload_n 1, 1) := by decide +kernel
theorem dJ9_min_7cf53_2 : decode cJ9_min_7cf53 2 = .ok (.if_icmp .gt 7, 3) := by decide +kernel
theorem dJ9_min_7cf53_5 : decode cJ9_min_7cf53 5 = .ok (.iload_n 0, 1) := by decide +kernel
theorem dJ9_min_7cf53_6 : decode cJ9_min_7cf53 6 = .ok (.goto 4, 3) := by decide +kernel
theorem dJ9_min_7cf53_9 : decode cJ9_min_7cf53 9 = .ok (.iload_n 1, 1) := by decide +kernel
theorem dJ9_min_7cf53_10 : decode cJ9_min_7cf53 10 = .ok (.ireturn, 1) := by decide +kernel
theorem dL_cell_0 : decode cL_cell 0 = .ok (.iload_n 1, 1) := by decide +kernel
theorem dL_cell_1 : decode cL_cell 1 = .ok (.aload_n 0, 1) := by decide +kernel
theorem dL_cell_2 : decode cL_cell 2 = .ok (.arraylength, 1) := by decide +kernel
theorem dL_cell_3 : decode cL_cell 3 = .ok (.if_icmp .ge 9, 3) := by decide +kernel
theorem dL_cell_6 : decode cL_cell 6 = .ok (.aload_n 0, 1) := by decide +kernel
theorem dL_cell_7 : decode cL_cell 7 = .ok (.iload_n 1, 1) := by decide +kernel
theorem dL_cell_8 : decode cL_cell 8 = .ok (.iaload, 1) := by decide +kernel
theorem dL_cell_9 : decode cL_cell 9 = .ok (.goto 11, 3) := by decide +kernel
theorem dL_cell_12 : decode cL_cell 12 = .ok (.ldc 7, 2) := by decide +kernel
theorem dL_cell_14 : decode cL_cell 14 = .ok (.iload_n 1, 1) := by decide +kernel
theorem dL_cell_15 : decode cL_cell 15 = .ok (.sipush 1327, 3) := by decide +kernel
theorem dL_cell_18 : decode cL_cell 18 = .ok (.iadd, 1) := by decide +kernel
theorem dL_cell_19 : decode cL_cell 19 = .ok (.imul, 1) := by decide +kernel
theorem dL_cell_20 : decode cL_cell 20 = .ok (.ireturn, 1) := by decide +kernel
theorem dL_up_0 : decode cL_up 0 = .ok (.iload_n 0, 1) := by decide +kernel
theorem dL_up_1 : decode cL_up 1 = .ok (.ldc 8, 2) := by decide +kernel
theorem dL_up_3 : decode cL_up 3 = .ok (.iand, 1) := by decide +kernel
theorem dL_up_4 : decode cL_up 4 = .ok (.iload_n 1, 1) := by decide +kernel
theorem dL_up_5 : decode cL_up 5 = .ok (.irem, 1) := by decide +kernel
theorem dL_up_6 : decode cL_up 6 = .ok (.ireturn, 1) := by decide +kernel
set_option maxRecDepth 20000 in
theorem ggL_number_X4_put : GoodIn wsL_number wsX4_put := goodIn_r _ [5, 6, 7, 8, 9, 4, 10, 11, 12, 13, 14, 15, 16, 17, 18, 19, 20, 21, 22, 23, 24, 25, 26, 27, 28, 29, 30, 31, 32, 33, 34, 35, 36] (by decide +kernel) (by decide +kernel)
set_option maxRecDepth 20000 in
theorem gL_number_X4_put : GoodIn wsL_number (wsV RL 9 RX4 yX4_put wsX4_put) := goodIn_app (goodIn_of _ (by decide +kernel)) ggL_number_X4_put
theorem dL_number_0 : decode cL_number 0 = .ok (.iload_n 1, 1) := by decide +kernel
theorem dL_number_1 : decode cL_number 1 = .ok (.sipush 1000, 3) := by decide +kernel
theorem dL_number_4 : decode cL_number 4 = .ok (.if_icmp .lt 19, 3) := by decide +kernel
theorem dL_number_7 : decode cL_number 7 = .ok (.aload_n 0, 1) := by decide +kernel
theorem dL_number_8 : decode cL_number 8 = .ok (.bipush 48, 2) := by decide +kernel
theorem dL_number_10 : decode cL_number 10 = .ok (.iload_n 1, 1) := by decide +kernel
theorem dL_number_11 : decode cL_number 11 = .ok (.sipush 1000, 3) := by decide +kernel
theorem dL_number_14 : decode cL_number 14 = .ok (.idiv, 1) := by decide +kernel
theorem dL_number_15 : decode cL_number 15 = .ok (.iadd, 1) := by decide +kernel
theorem dL_number_16 : decode cL_number 16 = .ok (.i2l, 1) := by decide +kernel
theorem dL_number_17 : decode cL_number 17 = .ok (.invokevirtual 9, 3) := by decide +kernel
theorem dL_number_20 : decode cL_number 20 = .ok (.ifCond .le 70, 3) := by decide +kernel
theorem dL_number_23 : decode cL_number 23 = .ok (.iload_n 1, 1) := by decide +kernel
theorem dL_number_24 : decode cL_number 24 = .ok (.bipush 100, 2) := by decide +kernel
theorem dL_number_26 : decode cL_number 26 = .ok (.if_icmp .lt 21, 3) := by decide +kernel
theorem dL_number_29 : decode cL_number 29 = .ok (.aload_n 0, 1) := by decide +kernel
theorem dL_number_30 : decode cL_number 30 = .ok (.bipush 48, 2) := by decide +kernel
theorem dL_number_32 : decode cL_number 32 = .ok (.iload_n 1, 1) := by decide +kernel
theorem dL_number_33 : decode cL_number 33 = .ok (.bipush 100, 2) := by decide +kernel
theorem dL_number_35 : decode cL_number 35 = .ok (.idiv, 1) := by decide +kernel
theorem dL_number_36 : decode cL_number 36 = .ok (.bipush 10, 2) := by decide +kernel
theorem dL_number_38 : decode cL_number 38 = .ok (.irem, 1) := by decide +kernel
theorem dL_number_39 : decode cL_number 39 = .ok (.iadd, 1) := by decide +kernel
theorem dL_number_40 : decode cL_number 40 = .ok (.i2l, 1) := by decide +kernel
theorem dL_number_41 : decode cL_number 41 = .ok (.invokevirtual 9, 3) := by decide +kernel
theorem dL_number_44 : decode cL_number 44 = .ok (.ifCond .le 46, 3) := by decide +kernel
theorem dL_number_47 : decode cL_number 47 = .ok (.iload_n 1, 1) := by decide +kernel
theorem dL_number_48 : decode cL_number 48 = .ok (.bipush 10, 2) := by decide +kernel
theorem dL_number_50 : decode cL_number 50 = .ok (.if_icmp .lt 21, 3) := by decide +kernel
theorem dL_number_53 : decode cL_number 53 = .ok (.aload_n 0, 1) := by decide +kernel
theorem dL_number_54 : decode cL_number 54 = .ok (.bipush 48, 2) := by decide +kernel
theorem dL_number_56 : decode cL_number 56 = .ok (.iload_n 1, 1) := by decide +kernel
theorem dL_number_57 : decode cL_number 57 = .ok (.bipush 10, 2) := by decide +kernel
theorem dL_number_59 : decode cL_number 59 = .ok (.idiv, 1) := by decide +kernel
theorem dL_number_60 : decode cL_number 60 = .ok (.bipush 10, 2) := by decide +kernel
theorem dL_number_62 : decode cL_number 62 = .ok (.irem, 1) := by decide +kernel
theorem dL_number_63 : decode cL_number 63 = .ok (.iadd, 1) := by decide +kernel
theorem dL_number_64 : decode cL_number 64 = .ok (.i2l, 1) := by decide +kernel
theorem dL_number_65 : decode cL_number 65 = .ok (.invokevirtual 9, 3) := by decide +kernel
theorem dL_number_68 : decode cL_number 68 = .ok (.ifCond .le 22, 3) := by decide +kernel
theorem dL_number_71 : decode cL_number 71 = .ok (.aload_n 0, 1) := by decide +kernel
theorem dL_number_72 : decode cL_number 72 = .ok (.bipush 48, 2) := by decide +kernel
theorem dL_number_74 : decode cL_number 74 = .ok (.iload_n 1, 1) := by decide +kernel
theorem dL_number_75 : decode cL_number 75 = .ok (.bipush 10, 2) := by decide +kernel
theorem dL_number_77 : decode cL_number 77 = .ok (.irem, 1) := by decide +kernel
theorem dL_number_78 : decode cL_number 78 = .ok (.iadd, 1) := by decide +kernel
theorem dL_number_79 : decode cL_number 79 = .ok (.i2l, 1) := by decide +kernel
theorem dL_number_80 : decode cL_number 80 = .ok (.invokevirtual 9, 3) := by decide +kernel
theorem dL_number_83 : decode cL_number 83 = .ok (.ifCond .le 7, 3) := by decide +kernel
theorem dL_number_86 : decode cL_number 86 = .ok (.iconst 1, 1) := by decide +kernel
theorem dL_number_87 : decode cL_number 87 = .ok (.goto 4, 3) := by decide +kernel
theorem dL_number_90 : decode cL_number 90 = .ok (.iconst 0, 1) := by decide +kernel
theorem dL_number_91 : decode cL_number 91 = .ok (.ireturn, 1) := by decide +kernel
set_option maxRecDepth 20000 in
theorem ggL_isTyped_X4_wipe : GoodIn wsL_isTyped wsX4_wipe := goodIn_r _ [9, 10, 11, 80, 81, 82, 83, 84, 85, 86, 87, 88, 89, 90, 91, 92, 93, 94] (by decide +kernel) (by decide +kernel)
set_option maxRecDepth 20000 in
theorem gL_isTyped_X4_wipe : GoodIn wsL_isTyped (wsV RL 15 RX4 yX4_wipe wsX4_wipe) := goodIn_app (goodIn_of _ (by decide +kernel)) ggL_isTyped_X4_wipe
set_option maxRecDepth 20000 in
theorem ggL_isTyped_X4_put : GoodIn wsL_isTyped wsX4_put := goodIn_r _ [15, 10, 11, 16, 17, 8, 18, 19, 20, 21, 22, 23, 24, 25, 26, 27, 28, 29, 80, 81, 82, 83, 84, 85, 86, 87, 88, 89, 90, 91, 92, 93, 94] (by decide +kernel) (by decide +kernel)
set_option maxRecDepth 20000 in
theorem gL_isTyped_X4_put : GoodIn wsL_isTyped (wsV RL 9 RX4 yX4_put wsX4_put) := goodIn_app (goodIn_of _ (by decide +kernel)) ggL_isTyped_X4_put
set_option maxRecDepth 20000 in
theorem ggL_isTyped_L_number : GoodIn wsL_isTyped wsL_number := goodIn_r _ [33, 12, 13, 14, 8, 15, 10, 11, 16, 17, 18, 19, 20, 21, 22, 23, 24, 25, 26, 27, 28, 29, 80, 81, 82, 83, 84, 85, 86, 87, 88, 89, 90, 91, 92, 93, 94] (by decide +kernel) (by decide +kernel)
set_option maxRecDepth 20000 in
theorem gL_isTyped_L_number : GoodIn wsL_isTyped (va_wsS RL 21 yL_number wsL_number) := goodIn_app (goodIn_of _ (by decide +kernel)) ggL_isTyped_L_number
set_option maxRecDepth 20000 in
theorem ggL_isTyped_X4_fault : GoodIn wsL_isTyped wsX4_fault := goodIn_r _ [37, 10, 38, 39, 40, 26, 41, 42, 43, 44, 28, 29, 45, 46, 47, 48, 49, 50, 51, 52, 21, 8, 22, 53, 54, 55, 56, 57, 58, 59, 60, 61, 62, 63, 64, 65, 66, 67, 68, 69, 70, 71, 72, 73, 74, 75, 76, 77, 78, 79, 80, 81, 82, 83, 84, 85, 86, 87, 88, 89, 90, 91, 92, 93, 94, 95, 96, 97] (by decide +kernel) (by decide +kernel)
set_option maxRecDepth 20000 in
theorem gL_isTyped_X4_fault : GoodIn wsL_isTyped (wsV RL 33 RX4 yX4_fault wsX4_fault) := goodIn_app (goodIn_of _ (by decide +kernel)) ggL_isTyped_X4_fault
theorem dL_isTyped_0 : decode cL_isTyped 0 = .ok (.aload_n 0, 1) := by decide +kernel
theorem dL_isTyped_1 : decode cL_isTyped 1 = .ok (.invokevirtual 15, 3) := by decide +kernel
theorem dL_isTyped_4 : decode cL_isTyped 4 = .ok (.ifCond .lt 89, 3) := by decide +kernel
theorem dL_isTyped_7 : decode cL_isTyped 7 = .ok (.aload_n 0, 1) := by decide +kernel
theorem dL_isTyped_8 : decode cL_isTyped 8 = .ok (.ldc2_w 19, 3) := by decide +kernel
theorem dL_isTyped_11 : decode cL_isTyped 11 = .ok (.invokevirtual 9, 3) := by decide +kernel
theorem dL_isTyped_14 : decode cL_isTyped 14 = .ok (.ifCond .le 79, 3) := by decide +kernel
theorem dL_isTyped_17 : decode cL_isTyped 17 = .ok (.aload_n 0, 1) := by decide +kernel
theorem dL_isTyped_18 : decode cL_isTyped 18 = .ok (.iload_n 1, 1) := by decide +kernel
theorem dL_isTyped_19 : decode cL_isTyped 19 = .ok (.invokestatic 21, 3) := by decide +kernel
theorem dL_isTyped_22 : decode cL_isTyped 22 = .ok (.ifCond .eq 71, 3) := by decide +kernel
theorem dL_isTyped_25 : decode cL_isTyped 25 = .ok (.aload_n 0, 1) := by decide +kernel
theorem dL_isTyped_26 : decode cL_isTyped 26 = .ok (.ldc2_w 27, 3) := by decide +kernel
theorem dL_isTyped_29 : decode cL_isTyped 29 = .ok (.invokevirtual 9, 3) := by decide +kernel
theorem dL_isTyped_32 : decode cL_isTyped 32 = .ok (.ifCond .le 61, 3) := by decide +kernel
theorem dL_isTyped_35 : decode cL_isTyped 35 = .ok (.aload_n 0, 1) := by decide +kernel
theorem dL_isTyped_36 : decode cL_isTyped 36 = .ok (.iload_n 2, 1) := by decide +kernel
theorem dL_isTyped_37 : decode cL_isTyped 37 = .ok (.invokestatic 21, 3) := by decide +kernel
theorem dL_isTyped_40 : decode cL_isTyped 40 = .ok (.ifCond .eq 53, 3) := by decide +kernel
theorem dL_isTyped_43 : decode cL_isTyped 43 = .ok (.aload_n 0, 1) := by decide +kernel
theorem dL_isTyped_44 : decode cL_isTyped 44 = .ok (.ldc2_w 29, 3) := by decide +kernel
theorem dL_isTyped_47 : decode cL_isTyped 47 = .ok (.invokevirtual 9, 3) := by decide +kernel
theorem dL_isTyped_50 : decode cL_isTyped 50 = .ok (.ifCond .le 43, 3) := by decide +kernel
theorem dL_isTyped_53 : decode cL_isTyped 53 = .ok (.aload_n 0, 1) := by decide +kernel
theorem dL_isTyped_54 : decode cL_isTyped 54 = .ok (.iload_n 3, 1) := by decide +kernel
theorem dL_isTyped_55 : decode cL_isTyped 55 = .ok (.invokestatic 21, 3) := by decide +kernel
theorem dL_isTyped_58 : decode cL_isTyped 58 = .ok (.ifCond .eq 35, 3) := by decide +kernel
theorem dL_isTyped_61 : decode cL_isTyped 61 = .ok (.aload_n 0, 1) := by decide +kernel
theorem dL_isTyped_62 : decode cL_isTyped 62 = .ok (.ldc2_w 31, 3) := by decide +kernel
theorem dL_isTyped_65 : decode cL_isTyped 65 = .ok (.invokevirtual 9, 3) := by decide +kernel
theorem dL_isTyped_68 : decode cL_isTyped 68 = .ok (.ifCond .le 25, 3) := by decide +kernel
theorem dL_isTyped_71 : decode cL_isTyped 71 = .ok (.aload_n 0, 1) := by decide +kernel
theorem dL_isTyped_72 : decode cL_isTyped 72 = .ok (.iload 4, 2) := by decide +kernel
theorem dL_isTyped_74 : decode cL_isTyped 74 = .ok (.invokestatic 21, 3) := by decide +kernel
theorem dL_isTyped_77 : decode cL_isTyped 77 = .ok (.ifCond .eq 16, 3) := by decide +kernel
theorem dL_isTyped_80 : decode cL_isTyped 80 = .ok (.aload_n 0, 1) := by decide +kernel
theorem dL_isTyped_81 : decode cL_isTyped 81 = .ok (.invokevirtual 33, 3) := by decide +kernel
theorem dL_isTyped_84 : decode cL_isTyped 84 = .ok (.bipush (-6), 2) := by decide +kernel
theorem dL_isTyped_86 : decode cL_isTyped 86 = .ok (.if_icmp .ne 7, 3) := by decide +kernel
theorem dL_isTyped_89 : decode cL_isTyped 89 = .ok (.iconst 1, 1) := by decide +kernel
theorem dL_isTyped_90 : decode cL_isTyped 90 = .ok (.goto 4, 3) := by decide +kernel
theorem dL_isTyped_93 : decode cL_isTyped 93 = .ok (.iconst 0, 1) := by decide +kernel
theorem dL_isTyped_94 : decode cL_isTyped 94 = .ok (.ireturn, 1) := by decide +kernel
theorem dL_twice_0 : decode cL_twice 0 = .ok (.iload_n 0, 1) := by decide +kernel
theorem dL_twice_1 : decode cL_twice 1 = .ok (.ifCond .ge 7, 3) := by decide +kernel
theorem dL_twice_4 : decode cL_twice 4 = .ok (.iload_n 0, 1) := by decide +kernel
theorem dL_twice_5 : decode cL_twice 5 = .ok (.goto 6, 3) := by decide +kernel
theorem dL_twice_8 : decode cL_twice 8 = .ok (.iconst 2, 1) := by decide +kernel
theorem dL_twice_9 : decode cL_twice 9 = .ok (.iload_n 0, 1) := by decide +kernel
theorem dL_twice_10 : decode cL_twice 10 = .ok (.imul, 1) := by decide +kernel
theorem dL_twice_11 : decode cL_twice 11 = .ok (.ireturn, 1) := by decide +kernel
set_option maxRecDepth 20000 in
theorem ggL_isStep_X4_count : GoodIn wsL_isStep wsX4_count := goodIn_r _ [5, 6, 7, 8, 9, 10, 11, 12, 13, 14, 15, 16, 17, 18, 19, 20, 21, 22, 23, 24, 4, 25, 26, 27, 28, 29, 30, 31, 32, 33, 34, 35, 36, 37, 38, 39, 40, 41, 42, 43, 44, 45, 46, 47, 48, 49, 50, 51, 52, 53, 54, 55, 56, 57, 58, 59, 60, 61, 62, 63, 64, 65, 66, 67, 68, 69, 70, 71, 72, 73, 74, 75, 76, 77, 78, 79, 80, 81, 82, 83, 84, 85, 86, 87, 88, 89, 90, 91, 314, 315, 316, 317, 318, 319, 320, 321, 322, 323, 324, 325, 326, 327, 328, 329, 330, 331, 332, 333, 334, 335, 336, 337, 338, 339, 340, 341, 342, 343, 344, 345, 346, 347, 348, 349, 350, 351, 352] (by decide +kernel) (by decide +kernel)
set_option maxRecDepth 20000 in
theorem gL_isStep_X4_count : GoodIn wsL_isStep (wsV RL 36 RX4 yX4_count wsX4_count) := goodIn_app (goodIn_of _ (by decide +kernel)) ggL_isStep_X4_count
set_option maxRecDepth 20000 in
theorem ggL_isStep_L_up : GoodIn wsL_isStep wsL_up := goodIn_r _ [95, 96] (by decide +kernel) (by decide +kernel)
set_option maxRecDepth 20000 in
theorem gL_isStep_L_up : GoodIn wsL_isStep (va_wsS RL 40 yL_up wsL_up) := goodIn_app (goodIn_of _ (by decide +kernel)) ggL_isStep_L_up
set_option maxRecDepth 20000 in
theorem ggL_isStep_X4_set : GoodIn wsL_isStep wsX4_set := goodIn_r _ [100, 101, 102, 6, 7, 21, 23, 24, 4, 25, 103, 104, 105, 84, 106, 86, 87, 107, 73, 74, 75, 65, 66, 108, 109, 110, 111, 112, 113, 114, 115, 116, 117, 118, 119, 120, 121, 122, 123, 124, 125, 126, 127, 314, 315, 316, 317, 318, 319, 320, 321, 322, 323, 350, 351, 352] (by decide +kernel) (by decide +kernel)
set_option maxRecDepth 20000 in
theorem gL_isStep_X4_set : GoodIn wsL_isStep (wsV RL 44 RX4 yX4_set wsX4_set) := goodIn_app (goodIn_of _ (by decide +kernel)) ggL_isStep_X4_set
set_option maxRecDepth 20000 in
theorem ggL_isStep_L_twice : GoodIn wsL_isStep wsL_twice := goodIn_r _ [130] (by decide +kernel) (by decide +kernel)
set_option maxRecDepth 20000 in
theorem gL_isStep_L_twice : GoodIn wsL_isStep (va_wsS RL 47 yL_twice wsL_twice) := goodIn_app (goodIn_of _ (by decide +kernel)) ggL_isStep_L_twice
set_option maxRecDepth 20000 in
theorem ggL_isStep_X4_drop : GoodIn wsL_isStep wsX4_drop := goodIn_r _ [134, 21, 6, 9, 135, 136, 137, 4, 138, 23, 24, 25, 108, 109, 110, 111, 112, 113, 114, 115, 116, 117, 74, 118, 119, 120, 121, 84, 122, 123, 124, 125, 126, 127, 87, 86, 139, 140, 141, 142, 143, 144, 145, 146, 314, 315, 316, 317, 318, 319, 320, 321, 322, 323, 350, 351, 352] (by decide +kernel) (by decide +kernel)
set_option maxRecDepth 20000 in
theorem gL_isStep_X4_drop : GoodIn wsL_isStep (wsV RL 50 RX4 yX4_drop wsX4_drop) := goodIn_app (goodIn_of _ (by decide +kernel)) ggL_isStep_X4_drop
set_option maxRecDepth 20000 in
theorem ggL_isStep_X4_jobOf : GoodIn wsL_isStep wsX4_jobOf := goodIn_r _ [150, 6, 151, 8, 7, 152, 153, 10, 11, 154, 155, 156, 157, 135, 136, 137, 4, 138, 9, 23, 24, 25, 26, 27, 28, 29, 30, 31, 32, 33, 34, 35, 36, 37, 38, 39, 40, 41, 42, 43, 44, 45, 46, 47, 48, 49, 50, 51, 52, 53, 54, 55, 56, 57, 58, 59, 60, 61, 62, 63, 64, 65, 66, 67, 68, 69, 70, 71, 72, 73, 74, 75, 76, 77, 78, 79, 80, 314, 315, 316, 317, 318, 319, 320, 321, 322, 323, 324, 325, 326, 327, 328, 329, 330, 331, 332, 333, 334, 335, 336, 337, 338, 339, 340, 341] (by decide +kernel) (by decide +kernel)
set_option maxRecDepth 20000 in
theorem gL_isStep_X4_jobOf : GoodIn wsL_isStep (wsV RL 53 RX4 yX4_jobOf wsX4_jobOf) := goodIn_app (goodIn_of _ (by decide +kernel)) ggL_isStep_X4_jobOf
set_option maxRecDepth 20000 in
theorem ggL_isStep_X4_move : GoodIn wsL_isStep wsX4_move := goodIn_r _ [161, 21, 6, 135, 136, 137, 4, 138, 9, 23, 24, 25, 108, 109, 110, 111, 112, 113, 114, 115, 116, 117, 74, 118, 119, 120, 121, 84, 122, 123, 124, 125, 126, 127, 87, 86, 162, 144, 145, 146, 163, 164, 165, 166, 8, 7, 13, 26, 27, 28, 29, 30, 31, 32, 33, 34, 35, 36, 37, 38, 39, 40, 41, 42, 43, 44, 45, 46, 47, 48, 49, 50, 51, 52, 53, 54, 55, 56, 57, 58, 59, 60, 61, 62, 63, 64, 65, 66, 67, 68, 69, 70, 71, 72, 73, 75, 76, 77, 78, 79, 80, 314, 315, 316, 317, 318, 319, 320, 321, 322, 323, 350, 351, 352, 324, 325, 326, 327, 328, 329, 330, 331, 332, 333, 334, 335, 336, 337, 338, 339, 340, 341] (by decide +kernel) (by decide +kernel)
set_option maxRecDepth 20000 in
theorem gL_isStep_X4_move : GoodIn wsL_isStep (wsV RL 56 RX4 yX4_move wsX4_move) := goodIn_app (goodIn_of _ (by decide +kernel)) ggL_isStep_X4_move
set_option maxRecDepth 20000 in
theorem ggL_isStep_X4_due : GoodIn wsL_isStep wsX4_due := goodIn_r _ [170, 21, 6, 151, 8, 7, 154, 135, 136, 137, 4, 138, 9, 23, 24, 25, 108, 109, 110, 111, 112, 113, 114, 115, 116, 117, 74, 118, 119, 120, 121, 84, 122, 123, 124, 125, 126, 127, 87, 86, 26, 27, 28, 29, 30, 31, 32, 33, 34, 35, 36, 37, 38, 39, 40, 41, 42, 43, 44, 45, 46, 47, 48, 49, 50, 51, 52, 53, 54, 55, 56, 57, 58, 59, 60, 61, 62, 63, 64, 65, 66, 67, 68, 69, 70, 71, 72, 73, 75, 76, 77, 78, 79, 80, 314, 315, 316, 317, 318, 319, 320, 321, 322, 323, 324, 325, 326, 327, 328, 329, 330, 331, 332, 333, 334, 335, 336, 337, 338, 339, 340, 341, 350, 351, 352] (by decide +kernel) (by decide +kernel)
set_option maxRecDepth 20000 in
theorem gL_isStep_X4_due : GoodIn wsL_isStep (wsV RL 59 RX4 yX4_due wsX4_due) := goodIn_app (goodIn_of _ (by decide +kernel)) ggL_isStep_X4_due
set_option maxRecDepth 20000 in
theorem ggL_isStep_X4_ifOrdered : GoodIn wsL_isStep wsX4_ifOrdered := goodIn_r _ [174, 175, 6, 176, 8, 7, 11, 13, 15, 16, 23, 24, 4, 25, 177, 178, 179, 84, 180, 86, 87, 181, 120, 121, 122, 123, 124, 125, 126, 127, 182, 183, 184, 185, 26, 27, 28, 29, 30, 31, 32, 33, 34, 35, 36, 37, 38, 39, 40, 41, 42, 43, 44, 45, 46, 47, 48, 49, 50, 51, 52, 53, 54, 55, 56, 57, 58, 59, 60, 61, 62, 63, 64, 65, 66, 67, 68, 69, 70, 71, 72, 73, 74, 75, 76, 77, 78, 79, 80, 88, 89, 90, 91, 314, 315, 316, 317, 318, 319, 320, 321, 322, 323, 324, 325, 326, 327, 328, 329, 330, 331, 332, 333, 334, 335, 336, 337, 338, 339, 340, 341] (by decide +kernel) (by decide +kernel)
set_option maxRecDepth 20000 in
theorem gL_isStep_X4_ifOrdered : GoodIn wsL_isStep (wsV RL 62 RX4 yX4_ifOrdered wsX4_ifOrdered) := goodIn_app (goodIn_of _ (by decide +kernel)) ggL_isStep_X4_ifOrdered
set_option maxRecDepth 20000 in
theorem ggL_isStep_X4_order : GoodIn wsL_isStep wsX4_order := goodIn_r _ [189, 21, 6, 175, 176, 23, 24, 4, 25, 108, 109, 110, 111, 112, 113, 114, 115, 116, 117, 74, 118, 119, 120, 121, 84, 122, 123, 124, 125, 126, 127, 87, 86, 177, 178, 179, 180, 181, 182, 183, 184, 185, 190, 314, 315, 316, 317, 318, 319, 320, 350, 351, 352, 321, 322, 323] (by decide +kernel) (by decide +kernel)
set_option maxRecDepth 20000 in
theorem gL_isStep_X4_order : GoodIn wsL_isStep (wsV RL 65 RX4 yX4_order wsX4_order) := goodIn_app (goodIn_of _ (by decide +kernel)) ggL_isStep_X4_order
set_option maxRecDepth 20000 in
theorem ggL_isStep_L_isTyped : GoodIn wsL_isStep wsL_isTyped := goodIn_r _ [193, 194, 195, 196, 197, 198, 199, 200, 4, 201, 19, 20, 202, 203, 204, 205, 206, 207, 208, 209, 23, 24, 25, 210, 211, 212, 213, 214, 215, 216, 217, 218, 94, 219, 220, 221, 222, 223, 224, 225, 226, 227, 228, 229, 230, 231, 232, 233, 234, 235, 236, 237, 238, 239, 240, 241, 242, 243, 244, 245, 246, 247, 248, 249, 250, 251, 252, 253, 254, 255, 256, 257, 84, 258, 86, 87, 259, 260, 261, 262, 314, 315, 316, 317, 318, 319, 320, 342, 343, 344, 345, 346, 347, 348, 349, 321, 322, 323] (by decide +kernel) (by decide +kernel)
set_option maxRecDepth 20000 in
theorem gL_isStep_L_isTyped : GoodIn wsL_isStep (va_wsS RL 68 yL_isTyped wsL_isTyped) := goodIn_app (goodIn_of _ (by decide +kernel)) ggL_isStep_L_isTyped
set_option maxRecDepth 20000 in
theorem ggL_isStep_X4_read : GoodIn wsL_isStep wsX4_read := goodIn_r _ [266, 19, 267, 6, 7, 9, 21, 20, 224, 225, 226, 213, 227, 228, 229, 230, 215, 216, 231, 232, 233, 234, 235, 236, 237, 238, 24, 4, 25, 239, 240, 241, 242, 243, 244, 245, 246, 247, 248, 249, 250, 251, 252, 253, 254, 255, 256, 257, 84, 258, 86, 87, 259, 260, 261, 262, 103, 104, 105, 106, 107, 73, 74, 75, 65, 66, 108, 109, 110, 111, 112, 113, 114, 115, 116, 117, 118, 119, 120, 121, 122, 123, 124, 125, 126, 127, 268, 269, 270, 271, 272, 314, 315, 316, 317, 318, 319, 320, 342, 343, 344, 345, 346, 347, 348, 349, 321, 322, 323, 350, 351, 352] (by decide +kernel) (by decide +kernel)
set_option maxRecDepth 20000 in
theorem gL_isStep_X4_read : GoodIn wsL_isStep (wsV RL 72 RX4 yX4_read wsX4_read) := goodIn_app (goodIn_of _ (by decide +kernel)) ggL_isStep_X4_read
set_option maxRecDepth 20000 in
theorem ggL_isStep_X4_undo : GoodIn wsL_isStep wsX4_undo := goodIn_r _ [276, 21, 22, 6, 277, 278, 279, 111, 280, 114, 115, 113, 119, 120, 121, 84, 122, 123, 124, 125, 126, 127, 87, 86, 314, 315, 316, 317, 318, 319, 320, 350, 351, 352, 321, 322, 323] (by decide +kernel) (by decide +kernel)
set_option maxRecDepth 20000 in
theorem gL_isStep_X4_undo : GoodIn wsL_isStep (wsV RL 75 RX4 yX4_undo wsX4_undo) := goodIn_app (goodIn_of _ (by decide +kernel)) ggL_isStep_X4_undo
set_option maxRecDepth 20000 in
theorem ggL_isStep_X4_save : GoodIn wsL_isStep wsX4_save := goodIn_r _ [284, 285, 6, 286, 9, 23, 24, 4, 25, 190, 120, 121, 84, 122, 123, 124, 125, 126, 127, 87, 86, 314, 315, 316, 317, 318, 319, 320, 321, 322, 323] (by decide +kernel) (by decide +kernel)
set_option maxRecDepth 20000 in
theorem gL_isStep_X4_save : GoodIn wsL_isStep (wsV RL 78 RX4 yX4_save wsX4_save) := goodIn_app (goodIn_of _ (by decide +kernel)) ggL_isStep_X4_save
set_option maxRecDepth 20000 in
theorem ggL_isStep_X4_restore : GoodIn wsL_isStep wsX4_restore := goodIn_r _ [290, 286, 21, 6, 285, 9, 23, 24, 4, 25, 108, 109, 110, 111, 112, 113, 114, 115, 116, 117, 74, 118, 119, 120, 121, 84, 122, 123, 124, 125, 126, 127, 87, 86, 190, 314, 315, 316, 317, 318, 319, 320, 321, 322, 323, 350, 351, 352] (by decide +kernel) (by decide +kernel)
set_option maxRecDepth 20000 in
theorem gL_isStep_X4_restore : GoodIn wsL_isStep (wsV RL 81 RX4 yX4_restore wsX4_restore) := goodIn_app (goodIn_of _ (by decide +kernel)) ggL_isStep_X4_restore
set_option maxRecDepth 20000 in
theorem ggL_isStep_X4_at : GoodIn wsL_isStep wsX4_at := goodIn_r _ [294, 295, 8, 6, 7, 10, 11, 23, 24, 4, 25, 26, 27, 28, 29, 30, 31, 32, 33, 34, 35, 36, 37, 38, 39, 40, 41, 42, 43, 44, 45, 46, 47, 48, 49, 50, 51, 52, 53, 54, 55, 56, 57, 58, 59, 60, 61, 62, 63, 64, 65, 66, 67, 68, 69, 70, 71, 72, 73, 74, 75, 76, 77, 78, 79, 80, 296, 297, 298, 299, 300, 301, 302, 303, 304, 305, 306, 307, 314, 315, 316, 317, 318, 319, 320, 321, 322, 323, 324, 325, 326, 327, 328, 329, 330, 331, 332, 333, 334, 335, 336, 337, 338, 339, 340, 341] (by decide +kernel) (by decide +kernel)
set_option maxRecDepth 20000 in
theorem gL_isStep_X4_at : GoodIn wsL_isStep (wsV RL 84 RX4 yX4_at wsX4_at) := goodIn_app (goodIn_of _ (by decide +kernel)) ggL_isStep_X4_at
set_option maxRecDepth 20000 in
theorem ggL_isStep_X4_job : GoodIn wsL_isStep wsX4_job := goodIn_r _ [311, 6, 7, 9, 21, 23, 24, 4, 25, 312, 65, 66, 108, 109, 110, 111, 112, 113, 114, 115, 116, 117, 74, 118, 119, 120, 121, 84, 122, 123, 124, 125, 126, 127, 87, 86, 313, 256, 257, 258, 314, 315, 316, 317, 318, 319, 320, 321, 322, 323, 350, 351, 352] (by decide +kernel) (by decide +kernel)
set_option maxRecDepth 20000 in
theorem gL_isStep_X4_job : GoodIn wsL_isStep (wsV RL 87 RX4 yX4_job wsX4_job) := goodIn_app (goodIn_of _ (by decide +kernel)) ggL_isStep_X4_job
theorem dL_isStep_0 : decode cL_isStep 0 = .ok (.iload_n 2, 1) := by decide +kernel
theorem dL_isStep_1 : decode cL_isStep 1 = .ok (.iconst 4, 1) := by decide +kernel
theorem dL_isStep_2 : decode cL_isStep 2 = .ok (.ishr, 1) := by decide +kernel
theorem dL_isStep_3 : decode cL_isStep 3 = .ok (.istore 4, 2) := by decide +kernel
theorem dL_isStep_5 : decode cL_isStep 5 = .ok (.aload_n 0, 1) := by decide +kernel
theorem dL_isStep_6 : decode cL_isStep 6 = .ok (.bipush 7, 2) := by decide +kernel
theorem dL_isStep_8 : decode cL_isStep 8 = .ok (.invokevirtual 36, 3) := by decide +kernel
theorem dL_isStep_11 : decode cL_isStep 11 = .ok (.istore 5, 2) := by decide +kernel
theorem dL_isStep_13 : decode cL_isStep 13 = .ok (.iload 5, 2) := by decide +kernel
theorem dL_isStep_15 : decode cL_isStep 15 = .ok (.ifCond .ne 7, 3) := by decide +kernel
theorem dL_isStep_18 : decode cL_isStep 18 = .ok (.iconst 0, 1) := by decide +kernel
theorem dL_isStep_19 : decode cL_isStep 19 = .ok (.goto 10, 3) := by decide +kernel
theorem dL_isStep_22 : decode cL_isStep 22 = .ok (.iload 4, 2) := by decide +kernel
theorem dL_isStep_24 : decode cL_isStep 24 = .ok (.iload 5, 2) := by decide +kernel
theorem dL_isStep_26 : decode cL_isStep 26 = .ok (.invokestatic 40, 3) := by decide +kernel
theorem dL_isStep_29 : decode cL_isStep 29 = .ok (.istore 6, 2) := by decide +kernel
theorem dL_isStep_31 : decode cL_isStep 31 = .ok (.iload 4, 2) := by decide +kernel
theorem dL_isStep_33 : decode cL_isStep 33 = .ok (.iconst 4, 1) := by decide +kernel
theorem dL_isStep_34 : decode cL_isStep 34 = .ok (.invokestatic 40, 3) := by decide +kernel
theorem dL_isStep_37 : decode cL_isStep 37 = .ok (.istore 7, 2) := by decide +kernel
theorem dL_isStep_39 : decode cL_isStep 39 = .ok (.iload 4, 2) := by decide +kernel
theorem dL_isStep_41 : decode cL_isStep 41 = .ok (.iconst 3, 1) := by decide +kernel
theorem dL_isStep_42 : decode cL_isStep 42 = .ok (.ishr, 1) := by decide +kernel
theorem dL_isStep_43 : decode cL_isStep 43 = .ok (.bipush 10, 2) := by decide +kernel
theorem dL_isStep_45 : decode cL_isStep 45 = .ok (.invokestatic 40, 3) := by decide +kernel
theorem dL_isStep_48 : decode cL_isStep 48 = .ok (.istore 8, 2) := by decide +kernel
theorem dL_isStep_50 : decode cL_isStep 50 = .ok (.iconst 1, 1) := by decide +kernel
theorem dL_isStep_51 : decode cL_isStep 51 = .ok (.iload_n 3, 1) := by decide +kernel
theorem dL_isStep_52 : decode cL_isStep 52 = .ok (.bipush 20, 2) := by decide +kernel
theorem dL_isStep_54 : decode cL_isStep 54 = .ok (.invokestatic 40, 3) := by decide +kernel
theorem dL_isStep_57 : decode cL_isStep 57 = .ok (.iadd, 1) := by decide +kernel
theorem dL_isStep_58 : decode cL_isStep 58 = .ok (.istore 9, 2) := by decide +kernel
theorem dL_isStep_60 : decode cL_isStep 60 = .ok (.iload_n 3, 1) := by decide +kernel
theorem dL_isStep_61 : decode cL_isStep 61 = .ok (.iconst 5, 1) := by decide +kernel
theorem dL_isStep_62 : decode cL_isStep 62 = .ok (.ishr, 1) := by decide +kernel
theorem dL_isStep_63 : decode cL_isStep 63 = .ok (.iload 4, 2) := by decide +kernel
theorem dL_isStep_65 : decode cL_isStep 65 = .ok (.bipush 7, 2) := by decide +kernel
theorem dL_isStep_67 : decode cL_isStep 67 = .ok (.ishr, 1) := by decide +kernel
theorem dL_isStep_68 : decode cL_isStep 68 = .ok (.iconst 2, 1) := by decide +kernel
theorem dL_isStep_69 : decode cL_isStep 69 = .ok (.invokestatic 40, 3) := by decide +kernel
theorem dL_isStep_72 : decode cL_isStep 72 = .ok (.ifCond .ne 9, 3) := by decide +kernel
theorem dL_isStep_75 : decode cL_isStep 75 = .ok (.sipush 1501, 3) := by decide +kernel
theorem dL_isStep_78 : decode cL_isStep 78 = .ok (.goto 6, 3) := by decide +kernel
theorem dL_isStep_81 : decode cL_isStep 81 = .ok (.sipush 400, 3) := by decide +kernel
theorem dL_isStep_84 : decode cL_isStep 84 = .ok (.invokestatic 40, 3) := by decide +kernel
theorem dL_isStep_87 : decode cL_isStep 87 = .ok (.istore 10, 2) := by decide +kernel
theorem dL_isStep_89 : decode cL_isStep 89 = .ok (.iload_n 2, 1) := by decide +kernel
theorem dL_isStep_90 : decode cL_isStep 90 = .ok (.bipush 16, 2) := by decide +kernel
theorem dL_isStep_92 : decode cL_isStep 92 = .ok (.invokestatic 40, 3) := by decide +kernel
theorem dL_isStep_95 : decode cL_isStep 95 = .ok (.tableswitch 931 0 10 #[57, 57, 258, 301, 301, 417, 490, 641, 746, 772, 840], 57) := by decide +kernel
theorem dL_isStep_152 : decode cL_isStep 152 = .ok (.iload 4, 2) := by decide +kernel
theorem dL_isStep_154 : decode cL_isStep 154 = .ok (.bipush 7, 2) := by decide +kernel
theorem dL_isStep_156 : decode cL_isStep 156 = .ok (.invokestatic 40, 3) := by decide +kernel
theorem dL_isStep_159 : decode cL_isStep 159 = .ok (.istore 11, 2) := by decide +kernel
theorem dL_isStep_161 : decode cL_isStep 161 = .ok (.iload 11, 2) := by decide +kernel
theorem dL_isStep_163 : decode cL_isStep 163 = .ok (.iconst 2, 1) := by decide +kernel
theorem dL_isStep_164 : decode cL_isStep 164 = .ok (.if_icmp .ge 12, 3) := by decide +kernel
theorem dL_isStep_167 : decode cL_isStep 167 = .ok (.iload_n 3, 1) := by decide +kernel
theorem dL_isStep_168 : decode cL_isStep 168 = .ok (.bipush 31, 2) := by decide +kernel
theorem dL_isStep_170 : decode cL_isStep 170 = .ok (.invokestatic 40, 3) := by decide +kernel
theorem dL_isStep_173 : decode cL_isStep 173 = .ok (.goto 75, 3) := by decide +kernel
theorem dL_isStep_176 : decode cL_isStep 176 = .ok (.iload 11, 2) := by decide +kernel
theorem dL_isStep_178 : decode cL_isStep 178 = .ok (.iconst 2, 1) := by decide +kernel
theorem dL_isStep_179 : decode cL_isStep 179 = .ok (.if_icmp .ne 11, 3) := by decide +kernel
theorem dL_isStep_182 : decode cL_isStep 182 = .ok (.iload_n 3, 1) := by decide +kernel
theorem dL_isStep_183 : decode cL_isStep 183 = .ok (.iconst 5, 1) := by decide +kernel
theorem dL_isStep_184 : decode cL_isStep 184 = .ok (.invokestatic 40, 3) := by decide +kernel
theorem dL_isStep_187 : decode cL_isStep 187 = .ok (.goto 61, 3) := by decide +kernel
theorem dL_isStep_190 : decode cL_isStep 190 = .ok (.iload 11, 2) := by decide +kernel
theorem dL_isStep_192 : decode cL_isStep 192 = .ok (.iconst 3, 1) := by decide +kernel
theorem dL_isStep_193 : decode cL_isStep 193 = .ok (.if_icmp .ne 14, 3) := by decide +kernel
theorem dL_isStep_196 : decode cL_isStep 196 = .ok (.iconst 1, 1) := by decide +kernel
theorem dL_isStep_197 : decode cL_isStep 197 = .ok (.iload_n 3, 1) := by decide +kernel
theorem dL_isStep_198 : decode cL_isStep 198 = .ok (.bipush 10, 2) := by decide +kernel
theorem dL_isStep_200 : decode cL_isStep 200 = .ok (.invokestatic 40, 3) := by decide +kernel
theorem dL_isStep_203 : decode cL_isStep 203 = .ok (.iadd, 1) := by decide +kernel
theorem dL_isStep_204 : decode cL_isStep 204 = .ok (.goto 44, 3) := by decide +kernel
theorem dL_isStep_207 : decode cL_isStep 207 = .ok (.iload 11, 2) := by decide +kernel
theorem dL_isStep_209 : decode cL_isStep 209 = .ok (.iconst 4, 1) := by decide +kernel
theorem dL_isStep_210 : decode cL_isStep 210 = .ok (.if_icmp .ne 13, 3) := by decide +kernel
theorem dL_isStep_213 : decode cL_isStep 213 = .ok (.iload_n 3, 1) := by decide +kernel
theorem dL_isStep_214 : decode cL_isStep 214 = .ok (.sipush 251, 3) := by decide +kernel
theorem dL_isStep_217 : decode cL_isStep 217 = .ok (.invokestatic 40, 3) := by decide +kernel
theorem dL_isStep_220 : decode cL_isStep 220 = .ok (.goto 28, 3) := by decide +kernel
theorem dL_isStep_223 : decode cL_isStep 223 = .ok (.iload 11, 2) := by decide +kernel
theorem dL_isStep_225 : decode cL_isStep 225 = .ok (.iconst 5, 1) := by decide +kernel
theorem dL_isStep_226 : decode cL_isStep 226 = .ok (.if_icmp .ne 14, 3) := by decide +kernel
theorem dL_isStep_229 : decode cL_isStep 229 = .ok (.iconst 4, 1) := by decide +kernel
theorem dL_isStep_230 : decode cL_isStep 230 = .ok (.iload_n 3, 1) := by decide +kernel
theorem dL_isStep_231 : decode cL_isStep 231 = .ok (.bipush 17, 2) := by decide +kernel
theorem dL_isStep_233 : decode cL_isStep 233 = .ok (.invokestatic 40, 3) := by decide +kernel
theorem dL_isStep_236 : decode cL_isStep 236 = .ok (.iadd, 1) := by decide +kernel
theorem dL_isStep_237 : decode cL_isStep 237 = .ok (.goto 11, 3) := by decide +kernel
theorem dL_isStep_240 : decode cL_isStep 240 = .ok (.iconst 1, 1) := by decide +kernel
theorem dL_isStep_241 : decode cL_isStep 241 = .ok (.iload_n 3, 1) := by decide +kernel
theorem dL_isStep_242 : decode cL_isStep 242 = .ok (.bipush 10, 2) := by decide +kernel
theorem dL_isStep_244 : decode cL_isStep 244 = .ok (.invokestatic 40, 3) := by decide +kernel
theorem dL_isStep_247 : decode cL_isStep 247 = .ok (.iadd, 1) := by decide +kernel
theorem dL_isStep_248 : decode cL_isStep 248 = .ok (.istore 12, 2) := by decide +kernel
theorem dL_isStep_250 : decode cL_isStep 250 = .ok (.aload_n 0, 1) := by decide +kernel
theorem dL_isStep_251 : decode cL_isStep 251 = .ok (.iload 11, 2) := by decide +kernel
theorem dL_isStep_253 : decode cL_isStep 253 = .ok (.invokevirtual 36, 3) := by decide +kernel
theorem dL_isStep_256 : decode cL_isStep 256 = .ok (.istore 13, 2) := by decide +kernel
theorem dL_isStep_258 : decode cL_isStep 258 = .ok (.aload_n 0, 1) := by decide +kernel
theorem dL_isStep_259 : decode cL_isStep 259 = .ok (.iload 11, 2) := by decide +kernel
theorem dL_isStep_261 : decode cL_isStep 261 = .ok (.iload 12, 2) := by decide +kernel
theorem dL_isStep_263 : decode cL_isStep 263 = .ok (.invokevirtual 44, 3) := by decide +kernel
theorem dL_isStep_266 : decode cL_isStep 266 = .ok (.istore 14, 2) := by decide +kernel
theorem dL_isStep_268 : decode cL_isStep 268 = .ok (.aload_n 1, 1) := by decide +kernel
theorem dL_isStep_269 : decode cL_isStep 269 = .ok (.iload 11, 2) := by decide +kernel
theorem dL_isStep_271 : decode cL_isStep 271 = .ok (.iload 11, 2) := by decide +kernel
theorem dL_isStep_273 : decode cL_isStep 273 = .ok (.iconst 5, 1) := by decide +kernel
theorem dL_isStep_274 : decode cL_isStep 274 = .ok (.if_icmp .ge 10, 3) := by decide +kernel
theorem dL_isStep_277 : decode cL_isStep 277 = .ok (.iconst 2, 1) := by decide +kernel
theorem dL_isStep_278 : decode cL_isStep 278 = .ok (.iload 12, 2) := by decide +kernel
theorem dL_isStep_280 : decode cL_isStep 280 = .ok (.imul, 1) := by decide +kernel
theorem dL_isStep_281 : decode cL_isStep 281 = .ok (.goto 5, 3) := by decide +kernel
theorem dL_isStep_284 : decode cL_isStep 284 = .ok (.iload 12, 2) := by decide +kernel
theorem dL_isStep_286 : decode cL_isStep 286 = .ok (.invokevirtual 44, 3) := by decide +kernel
theorem dL_isStep_289 : decode cL_isStep 289 = .ok (.iload 11, 2) := by decide +kernel
theorem dL_isStep_291 : decode cL_isStep 291 = .ok (.iconst 5, 1) := by decide +kernel
theorem dL_isStep_292 : decode cL_isStep 292 = .ok (.if_icmp .ge 11, 3) := by decide +kernel
theorem dL_isStep_295 : decode cL_isStep 295 = .ok (.iload 14, 2) := by decide +kernel
theorem dL_isStep_297 : decode cL_isStep 297 = .ok (.invokestatic 47, 3) := by decide +kernel
theorem dL_isStep_300 : decode cL_isStep 300 = .ok (.goto 5, 3) := by decide +kernel
theorem dL_isStep_303 : decode cL_isStep 303 = .ok (.iload 14, 2) := by decide +kernel
theorem dL_isStep_305 : decode cL_isStep 305 = .ok (.if_icmp .ne 46, 3) := by decide +kernel
theorem dL_isStep_308 : decode cL_isStep 308 = .ok (.iload 14, 2) := by decide +kernel
theorem dL_isStep_310 : decode cL_isStep 310 = .ok (.bipush (-5), 2) := by decide +kernel
theorem dL_isStep_312 : decode cL_isStep 312 = .ok (.if_icmp .ne 17, 3) := by decide +kernel
theorem dL_isStep_315 : decode cL_isStep 315 = .ok (.aload_n 0, 1) := by decide +kernel
theorem dL_isStep_316 : decode cL_isStep 316 = .ok (.iload 11, 2) := by decide +kernel
theorem dL_isStep_318 : decode cL_isStep 318 = .ok (.invokevirtual 36, 3) := by decide +kernel
theorem dL_isStep_321 : decode cL_isStep 321 = .ok (.iload 13, 2) := by decide +kernel
theorem dL_isStep_323 : decode cL_isStep 323 = .ok (.if_icmp .ne 28, 3) := by decide +kernel
theorem dL_isStep_326 : decode cL_isStep 326 = .ok (.goto 21, 3) := by decide +kernel
theorem dL_isStep_329 : decode cL_isStep 329 = .ok (.iload 14, 2) := by decide +kernel
theorem dL_isStep_331 : decode cL_isStep 331 = .ok (.iload 13, 2) := by decide +kernel
theorem dL_isStep_333 : decode cL_isStep 333 = .ok (.if_icmp .ne 18, 3) := by decide +kernel
theorem dL_isStep_336 : decode cL_isStep 336 = .ok (.aload_n 0, 1) := by decide +kernel
theorem dL_isStep_337 : decode cL_isStep 337 = .ok (.iload 11, 2) := by decide +kernel
theorem dL_isStep_339 : decode cL_isStep 339 = .ok (.invokevirtual 36, 3) := by decide +kernel
theorem dL_isStep_342 : decode cL_isStep 342 = .ok (.iload 12, 2) := by decide +kernel
theorem dL_isStep_344 : decode cL_isStep 344 = .ok (.if_icmp .ne 7, 3) := by decide +kernel
theorem dL_isStep_347 : decode cL_isStep 347 = .ok (.iconst 1, 1) := by decide +kernel
theorem dL_isStep_348 : decode cL_isStep 348 = .ok (.goto 4, 3) := by decide +kernel
theorem dL_isStep_351 : decode cL_isStep 351 = .ok (.iconst 0, 1) := by decide +kernel
theorem dL_isStep_352 : decode cL_isStep 352 = .ok (.ireturn, 1) := by decide +kernel
theorem dL_isStep_353 : decode cL_isStep 353 = .ok (.aload_n 0, 1) := by decide +kernel
theorem dL_isStep_354 : decode cL_isStep 354 = .ok (.iload 6, 2) := by decide +kernel
theorem dL_isStep_356 : decode cL_isStep 356 = .ok (.invokevirtual 50, 3) := by decide +kernel
theorem dL_isStep_359 : decode cL_isStep 359 = .ok (.istore 11, 2) := by decide +kernel
theorem dL_isStep_361 : decode cL_isStep 361 = .ok (.iload 11, 2) := by decide +kernel
theorem dL_isStep_363 : decode cL_isStep 363 = .ok (.aload_n 1, 1) := by decide +kernel
theorem dL_isStep_364 : decode cL_isStep 364 = .ok (.iload 6, 2) := by decide +kernel
theorem dL_isStep_366 : decode cL_isStep 366 = .ok (.invokevirtual 50, 3) := by decide +kernel
theorem dL_isStep_369 : decode cL_isStep 369 = .ok (.if_icmp .ne 25, 3) := by decide +kernel
theorem dL_isStep_372 : decode cL_isStep 372 = .ok (.iload 11, 2) := by decide +kernel
theorem dL_isStep_374 : decode cL_isStep 374 = .ok (.iload 5, 2) := by decide +kernel
theorem dL_isStep_376 : decode cL_isStep 376 = .ok (.ifCond .ne 7, 3) := by decide +kernel
theorem dL_isStep_379 : decode cL_isStep 379 = .ok (.iconst (-1), 1) := by decide +kernel
theorem dL_isStep_380 : decode cL_isStep 380 = .ok (.goto 7, 3) := by decide +kernel
theorem dL_isStep_383 : decode cL_isStep 383 = .ok (.iload 5, 2) := by decide +kernel
theorem dL_isStep_385 : decode cL_isStep 385 = .ok (.iconst 1, 1) := by decide +kernel
theorem dL_isStep_386 : decode cL_isStep 386 = .ok (.isub, 1) := by decide +kernel
theorem dL_isStep_387 : decode cL_isStep 387 = .ok (.if_icmp .ne 7, 3) := by decide +kernel
theorem dL_isStep_390 : decode cL_isStep 390 = .ok (.iconst 1, 1) := by decide +kernel
theorem dL_isStep_391 : decode cL_isStep 391 = .ok (.goto 4, 3) := by decide +kernel
theorem dL_isStep_394 : decode cL_isStep 394 = .ok (.iconst 0, 1) := by decide +kernel
theorem dL_isStep_395 : decode cL_isStep 395 = .ok (.ireturn, 1) := by decide +kernel
theorem dL_isStep_396 : decode cL_isStep 396 = .ok (.iload 5, 2) := by decide +kernel
theorem dL_isStep_398 : decode cL_isStep 398 = .ok (.ifCond .ne 7, 3) := by decide +kernel
theorem dL_isStep_401 : decode cL_isStep 401 = .ok (.iconst 0, 1) := by decide +kernel
theorem dL_isStep_402 : decode cL_isStep 402 = .ok (.goto 9, 3) := by decide +kernel
theorem dL_isStep_405 : decode cL_isStep 405 = .ok (.iload_n 3, 1) := by decide +kernel
theorem dL_isStep_406 : decode cL_isStep 406 = .ok (.iload 5, 2) := by decide +kernel
theorem dL_isStep_408 : decode cL_isStep 408 = .ok (.invokestatic 40, 3) := by decide +kernel
theorem dL_isStep_411 : decode cL_isStep 411 = .ok (.istore 11, 2) := by decide +kernel
theorem dL_isStep_413 : decode cL_isStep 413 = .ok (.aload_n 0, 1) := by decide +kernel
theorem dL_isStep_414 : decode cL_isStep 414 = .ok (.iload 6, 2) := by decide +kernel
theorem dL_isStep_416 : decode cL_isStep 416 = .ok (.iconst 0, 1) := by decide +kernel
theorem dL_isStep_417 : decode cL_isStep 417 = .ok (.invokevirtual 53, 3) := by decide +kernel
theorem dL_isStep_420 : decode cL_isStep 420 = .ok (.istore 12, 2) := by decide +kernel
theorem dL_isStep_422 : decode cL_isStep 422 = .ok (.aload_n 0, 1) := by decide +kernel
theorem dL_isStep_423 : decode cL_isStep 423 = .ok (.iload 6, 2) := by decide +kernel
theorem dL_isStep_425 : decode cL_isStep 425 = .ok (.iconst 3, 1) := by decide +kernel
theorem dL_isStep_426 : decode cL_isStep 426 = .ok (.invokevirtual 53, 3) := by decide +kernel
theorem dL_isStep_429 : decode cL_isStep 429 = .ok (.istore 13, 2) := by decide +kernel
theorem dL_isStep_431 : decode cL_isStep 431 = .ok (.aload_n 0, 1) := by decide +kernel
theorem dL_isStep_432 : decode cL_isStep 432 = .ok (.iload 6, 2) := by decide +kernel
theorem dL_isStep_434 : decode cL_isStep 434 = .ok (.iload 11, 2) := by decide +kernel
theorem dL_isStep_436 : decode cL_isStep 436 = .ok (.invokevirtual 56, 3) := by decide +kernel
theorem dL_isStep_439 : decode cL_isStep 439 = .ok (.istore 14, 2) := by decide +kernel
theorem dL_isStep_441 : decode cL_isStep 441 = .ok (.aload_n 1, 1) := by decide +kernel
theorem dL_isStep_442 : decode cL_isStep 442 = .ok (.iload 6, 2) := by decide +kernel
theorem dL_isStep_444 : decode cL_isStep 444 = .ok (.iload 11, 2) := by decide +kernel
theorem dL_isStep_446 : decode cL_isStep 446 = .ok (.invokevirtual 56, 3) := by decide +kernel
theorem dL_isStep_449 : decode cL_isStep 449 = .ok (.iload 14, 2) := by decide +kernel
theorem dL_isStep_451 : decode cL_isStep 451 = .ok (.invokestatic 47, 3) := by decide +kernel
theorem dL_isStep_454 : decode cL_isStep 454 = .ok (.if_icmp .ne 56, 3) := by decide +kernel
theorem dL_isStep_457 : decode cL_isStep 457 = .ok (.iload 5, 2) := by decide +kernel
theorem dL_isStep_459 : decode cL_isStep 459 = .ok (.ifCond .ne 12, 3) := by decide +kernel
theorem dL_isStep_462 : decode cL_isStep 462 = .ok (.iload 14, 2) := by decide +kernel
theorem dL_isStep_464 : decode cL_isStep 464 = .ok (.iconst (-1), 1) := by decide +kernel
theorem dL_isStep_465 : decode cL_isStep 465 = .ok (.if_icmp .ne 45, 3) := by decide +kernel
theorem dL_isStep_468 : decode cL_isStep 468 = .ok (.goto 38, 3) := by decide +kernel
theorem dL_isStep_471 : decode cL_isStep 471 = .ok (.iload 14, 2) := by decide +kernel
theorem dL_isStep_473 : decode cL_isStep 473 = .ok (.aload_n 0, 1) := by decide +kernel
theorem dL_isStep_474 : decode cL_isStep 474 = .ok (.bipush 12, 2) := by decide +kernel
theorem dL_isStep_476 : decode cL_isStep 476 = .ok (.invokevirtual 36, 3) := by decide +kernel
theorem dL_isStep_479 : decode cL_isStep 479 = .ok (.if_icmp .ne 31, 3) := by decide +kernel
theorem dL_isStep_482 : decode cL_isStep 482 = .ok (.aload_n 0, 1) := by decide +kernel
theorem dL_isStep_483 : decode cL_isStep 483 = .ok (.iload 11, 2) := by decide +kernel
theorem dL_isStep_485 : decode cL_isStep 485 = .ok (.iconst 0, 1) := by decide +kernel
theorem dL_isStep_486 : decode cL_isStep 486 = .ok (.invokevirtual 53, 3) := by decide +kernel
theorem dL_isStep_489 : decode cL_isStep 489 = .ok (.iload 12, 2) := by decide +kernel
theorem dL_isStep_491 : decode cL_isStep 491 = .ok (.if_icmp .ne 19, 3) := by decide +kernel
theorem dL_isStep_494 : decode cL_isStep 494 = .ok (.aload_n 0, 1) := by decide +kernel
theorem dL_isStep_495 : decode cL_isStep 495 = .ok (.iload 11, 2) := by decide +kernel
theorem dL_isStep_497 : decode cL_isStep 497 = .ok (.iconst 3, 1) := by decide +kernel
theorem dL_isStep_498 : decode cL_isStep 498 = .ok (.invokevirtual 53, 3) := by decide +kernel
theorem dL_isStep_501 : decode cL_isStep 501 = .ok (.iload 13, 2) := by decide +kernel
theorem dL_isStep_503 : decode cL_isStep 503 = .ok (.if_icmp .ne 7, 3) := by decide +kernel
theorem dL_isStep_506 : decode cL_isStep 506 = .ok (.iconst 1, 1) := by decide +kernel
theorem dL_isStep_507 : decode cL_isStep 507 = .ok (.goto 4, 3) := by decide +kernel
theorem dL_isStep_510 : decode cL_isStep 510 = .ok (.iconst 0, 1) := by decide +kernel
theorem dL_isStep_511 : decode cL_isStep 511 = .ok (.ireturn, 1) := by decide +kernel
theorem dL_isStep_512 : decode cL_isStep 512 = .ok (.aload_n 0, 1) := by decide +kernel
theorem dL_isStep_513 : decode cL_isStep 513 = .ok (.iload 6, 2) := by decide +kernel
theorem dL_isStep_515 : decode cL_isStep 515 = .ok (.iload 10, 2) := by decide +kernel
theorem dL_isStep_517 : decode cL_isStep 517 = .ok (.invokevirtual 59, 3) := by decide +kernel
theorem dL_isStep_520 : decode cL_isStep 520 = .ok (.istore 11, 2) := by decide +kernel
theorem dL_isStep_522 : decode cL_isStep 522 = .ok (.aload_n 1, 1) := by decide +kernel
theorem dL_isStep_523 : decode cL_isStep 523 = .ok (.iload 6, 2) := by decide +kernel
theorem dL_isStep_525 : decode cL_isStep 525 = .ok (.iconst 2, 1) := by decide +kernel
theorem dL_isStep_526 : decode cL_isStep 526 = .ok (.iload 10, 2) := by decide +kernel
theorem dL_isStep_528 : decode cL_isStep 528 = .ok (.imul, 1) := by decide +kernel
theorem dL_isStep_529 : decode cL_isStep 529 = .ok (.invokevirtual 59, 3) := by decide +kernel
theorem dL_isStep_532 : decode cL_isStep 532 = .ok (.iload 11, 2) := by decide +kernel
theorem dL_isStep_534 : decode cL_isStep 534 = .ok (.invokestatic 47, 3) := by decide +kernel
theorem dL_isStep_537 : decode cL_isStep 537 = .ok (.if_icmp .ne 46, 3) := by decide +kernel
theorem dL_isStep_540 : decode cL_isStep 540 = .ok (.iload 5, 2) := by decide +kernel
theorem dL_isStep_542 : decode cL_isStep 542 = .ok (.ifCond .ne 12, 3) := by decide +kernel
theorem dL_isStep_545 : decode cL_isStep 545 = .ok (.iload 11, 2) := by decide +kernel
theorem dL_isStep_547 : decode cL_isStep 547 = .ok (.iconst (-1), 1) := by decide +kernel
theorem dL_isStep_548 : decode cL_isStep 548 = .ok (.if_icmp .ne 35, 3) := by decide +kernel
theorem dL_isStep_551 : decode cL_isStep 551 = .ok (.goto 28, 3) := by decide +kernel
theorem dL_isStep_554 : decode cL_isStep 554 = .ok (.iload 11, 2) := by decide +kernel
theorem dL_isStep_556 : decode cL_isStep 556 = .ok (.aload_n 0, 1) := by decide +kernel
theorem dL_isStep_557 : decode cL_isStep 557 = .ok (.iload 6, 2) := by decide +kernel
theorem dL_isStep_559 : decode cL_isStep 559 = .ok (.bipush 8, 2) := by decide +kernel
theorem dL_isStep_561 : decode cL_isStep 561 = .ok (.invokevirtual 53, 3) := by decide +kernel
theorem dL_isStep_564 : decode cL_isStep 564 = .ok (.if_icmp .ne 19, 3) := by decide +kernel
theorem dL_isStep_567 : decode cL_isStep 567 = .ok (.aload_n 0, 1) := by decide +kernel
theorem dL_isStep_568 : decode cL_isStep 568 = .ok (.iload 6, 2) := by decide +kernel
theorem dL_isStep_570 : decode cL_isStep 570 = .ok (.iconst 3, 1) := by decide +kernel
theorem dL_isStep_571 : decode cL_isStep 571 = .ok (.invokevirtual 53, 3) := by decide +kernel
theorem dL_isStep_574 : decode cL_isStep 574 = .ok (.iload 10, 2) := by decide +kernel
theorem dL_isStep_576 : decode cL_isStep 576 = .ok (.if_icmp .ne 7, 3) := by decide +kernel
theorem dL_isStep_579 : decode cL_isStep 579 = .ok (.iconst 1, 1) := by decide +kernel
theorem dL_isStep_580 : decode cL_isStep 580 = .ok (.goto 4, 3) := by decide +kernel
theorem dL_isStep_583 : decode cL_isStep 583 = .ok (.iconst 0, 1) := by decide +kernel
theorem dL_isStep_584 : decode cL_isStep 584 = .ok (.ireturn, 1) := by decide +kernel
theorem dL_isStep_585 : decode cL_isStep 585 = .ok (.iload 4, 2) := by decide +kernel
theorem dL_isStep_587 : decode cL_isStep 587 = .ok (.iconst 4, 1) := by decide +kernel
theorem dL_isStep_588 : decode cL_isStep 588 = .ok (.invokestatic 40, 3) := by decide +kernel
theorem dL_isStep_591 : decode cL_isStep 591 = .ok (.istore 11, 2) := by decide +kernel
theorem dL_isStep_593 : decode cL_isStep 593 = .ok (.iload 11, 2) := by decide +kernel
theorem dL_isStep_595 : decode cL_isStep 595 = .ok (.ifCond .ne 7, 3) := by decide +kernel
theorem dL_isStep_598 : decode cL_isStep 598 = .ok (.iconst 3, 1) := by decide +kernel
theorem dL_isStep_599 : decode cL_isStep 599 = .ok (.goto 24, 3) := by decide +kernel
theorem dL_isStep_602 : decode cL_isStep 602 = .ok (.iload 11, 2) := by decide +kernel
theorem dL_isStep_604 : decode cL_isStep 604 = .ok (.iconst 1, 1) := by decide +kernel
theorem dL_isStep_605 : decode cL_isStep 605 = .ok (.if_icmp .ne 7, 3) := by decide +kernel
theorem dL_isStep_608 : decode cL_isStep 608 = .ok (.iconst 1, 1) := by decide +kernel
theorem dL_isStep_609 : decode cL_isStep 609 = .ok (.goto 14, 3) := by decide +kernel
theorem dL_isStep_612 : decode cL_isStep 612 = .ok (.iload 11, 2) := by decide +kernel
theorem dL_isStep_614 : decode cL_isStep 614 = .ok (.iconst 2, 1) := by decide +kernel
theorem dL_isStep_615 : decode cL_isStep 615 = .ok (.if_icmp .ne 7, 3) := by decide +kernel
theorem dL_isStep_618 : decode cL_isStep 618 = .ok (.iconst 0, 1) := by decide +kernel
theorem dL_isStep_619 : decode cL_isStep 619 = .ok (.goto 4, 3) := by decide +kernel
theorem dL_isStep_622 : decode cL_isStep 622 = .ok (.iconst 2, 1) := by decide +kernel
theorem dL_isStep_623 : decode cL_isStep 623 = .ok (.istore 12, 2) := by decide +kernel
theorem dL_isStep_625 : decode cL_isStep 625 = .ok (.aload_n 0, 1) := by decide +kernel
theorem dL_isStep_626 : decode cL_isStep 626 = .ok (.iload 11, 2) := by decide +kernel
theorem dL_isStep_628 : decode cL_isStep 628 = .ok (.iconst 1, 1) := by decide +kernel
theorem dL_isStep_629 : decode cL_isStep 629 = .ok (.invokevirtual 62, 3) := by decide +kernel
theorem dL_isStep_632 : decode cL_isStep 632 = .ok (.istore 13, 2) := by decide +kernel
theorem dL_isStep_634 : decode cL_isStep 634 = .ok (.aload_n 0, 1) := by decide +kernel
theorem dL_isStep_635 : decode cL_isStep 635 = .ok (.iload 11, 2) := by decide +kernel
theorem dL_isStep_637 : decode cL_isStep 637 = .ok (.invokevirtual 65, 3) := by decide +kernel
theorem dL_isStep_640 : decode cL_isStep 640 = .ok (.istore 14, 2) := by decide +kernel
theorem dL_isStep_642 : decode cL_isStep 642 = .ok (.iload 14, 2) := by decide +kernel
theorem dL_isStep_644 : decode cL_isStep 644 = .ok (.aload_n 1, 1) := by decide +kernel
theorem dL_isStep_645 : decode cL_isStep 645 = .ok (.iload 11, 2) := by decide +kernel
theorem dL_isStep_647 : decode cL_isStep 647 = .ok (.invokevirtual 65, 3) := by decide +kernel
theorem dL_isStep_650 : decode cL_isStep 650 = .ok (.if_icmp .ne 31, 3) := by decide +kernel
theorem dL_isStep_653 : decode cL_isStep 653 = .ok (.aload_n 0, 1) := by decide +kernel
theorem dL_isStep_654 : decode cL_isStep 654 = .ok (.bipush 12, 2) := by decide +kernel
theorem dL_isStep_656 : decode cL_isStep 656 = .ok (.invokevirtual 36, 3) := by decide +kernel
theorem dL_isStep_659 : decode cL_isStep 659 = .ok (.iload 13, 2) := by decide +kernel
theorem dL_isStep_661 : decode cL_isStep 661 = .ok (.if_icmp .ne 20, 3) := by decide +kernel
theorem dL_isStep_664 : decode cL_isStep 664 = .ok (.iload 14, 2) := by decide +kernel
theorem dL_isStep_666 : decode cL_isStep 666 = .ok (.iconst 1, 1) := by decide +kernel
theorem dL_isStep_667 : decode cL_isStep 667 = .ok (.if_icmp .eq 14, 3) := by decide +kernel
theorem dL_isStep_670 : decode cL_isStep 670 = .ok (.iload 14, 2) := by decide +kernel
theorem dL_isStep_672 : decode cL_isStep 672 = .ok (.iload 5, 2) := by decide +kernel
theorem dL_isStep_674 : decode cL_isStep 674 = .ok (.if_icmp .gt 7, 3) := by decide +kernel
theorem dL_isStep_677 : decode cL_isStep 677 = .ok (.iconst 1, 1) := by decide +kernel
theorem dL_isStep_678 : decode cL_isStep 678 = .ok (.goto 4, 3) := by decide +kernel
theorem dL_isStep_681 : decode cL_isStep 681 = .ok (.iconst 0, 1) := by decide +kernel
theorem dL_isStep_682 : decode cL_isStep 682 = .ok (.istore 15, 2) := by decide +kernel
theorem dL_isStep_684 : decode cL_isStep 684 = .ok (.iconst 1, 1) := by decide +kernel
theorem dL_isStep_685 : decode cL_isStep 685 = .ok (.istore 16, 2) := by decide +kernel
theorem dL_isStep_687 : decode cL_isStep 687 = .ok (.iload 16, 2) := by decide +kernel
theorem dL_isStep_689 : decode cL_isStep 689 = .ok (.iload 5, 2) := by decide +kernel
theorem dL_isStep_691 : decode cL_isStep 691 = .ok (.if_icmp .ge 42, 3) := by decide +kernel
theorem dL_isStep_694 : decode cL_isStep 694 = .ok (.iload 15, 2) := by decide +kernel
theorem dL_isStep_696 : decode cL_isStep 696 = .ok (.ifCond .eq 28, 3) := by decide +kernel
theorem dL_isStep_699 : decode cL_isStep 699 = .ok (.aload_n 0, 1) := by decide +kernel
theorem dL_isStep_700 : decode cL_isStep 700 = .ok (.iload 16, 2) := by decide +kernel
theorem dL_isStep_702 : decode cL_isStep 702 = .ok (.iconst 1, 1) := by decide +kernel
theorem dL_isStep_703 : decode cL_isStep 703 = .ok (.isub, 1) := by decide +kernel
theorem dL_isStep_704 : decode cL_isStep 704 = .ok (.iload 12, 2) := by decide +kernel
theorem dL_isStep_706 : decode cL_isStep 706 = .ok (.invokevirtual 53, 3) := by decide +kernel
theorem dL_isStep_709 : decode cL_isStep 709 = .ok (.aload_n 0, 1) := by decide +kernel
theorem dL_isStep_710 : decode cL_isStep 710 = .ok (.iload 16, 2) := by decide +kernel
theorem dL_isStep_712 : decode cL_isStep 712 = .ok (.iload 12, 2) := by decide +kernel
theorem dL_isStep_714 : decode cL_isStep 714 = .ok (.invokevirtual 53, 3) := by decide +kernel
theorem dL_isStep_717 : decode cL_isStep 717 = .ok (.if_icmp .gt 7, 3) := by decide +kernel
theorem dL_isStep_720 : decode cL_isStep 720 = .ok (.iconst 1, 1) := by decide +kernel
theorem dL_isStep_721 : decode cL_isStep 721 = .ok (.goto 4, 3) := by decide +kernel
theorem dL_isStep_724 : decode cL_isStep 724 = .ok (.iconst 0, 1) := by decide +kernel
theorem dL_isStep_725 : decode cL_isStep 725 = .ok (.istore 15, 2) := by decide +kernel
theorem dL_isStep_727 : decode cL_isStep 727 = .ok (.iinc 16 1, 3) := by decide +kernel
theorem dL_isStep_730 : decode cL_isStep 730 = .ok (.goto (-43), 3) := by decide +kernel
theorem dL_isStep_733 : decode cL_isStep 733 = .ok (.iload 15, 2) := by decide +kernel
theorem dL_isStep_735 : decode cL_isStep 735 = .ok (.ireturn, 1) := by decide +kernel
theorem dL_isStep_736 : decode cL_isStep 736 = .ok (.aload_n 0, 1) := by decide +kernel
theorem dL_isStep_737 : decode cL_isStep 737 = .ok (.iload 7, 2) := by decide +kernel
theorem dL_isStep_739 : decode cL_isStep 739 = .ok (.iload 8, 2) := by decide +kernel
theorem dL_isStep_741 : decode cL_isStep 741 = .ok (.iload 9, 2) := by decide +kernel
theorem dL_isStep_743 : decode cL_isStep 743 = .ok (.iload 10, 2) := by decide +kernel
theorem dL_isStep_745 : decode cL_isStep 745 = .ok (.invokestatic 68, 3) := by decide +kernel
theorem dL_isStep_748 : decode cL_isStep 748 = .ok (.ifCond .eq 24, 3) := by decide +kernel
theorem dL_isStep_751 : decode cL_isStep 751 = .ok (.aload_n 1, 1) := by decide +kernel
theorem dL_isStep_752 : decode cL_isStep 752 = .ok (.iload 7, 2) := by decide +kernel
theorem dL_isStep_754 : decode cL_isStep 754 = .ok (.iload 8, 2) := by decide +kernel
theorem dL_isStep_756 : decode cL_isStep 756 = .ok (.iload 9, 2) := by decide +kernel
theorem dL_isStep_758 : decode cL_isStep 758 = .ok (.iconst 2, 1) := by decide +kernel
theorem dL_isStep_759 : decode cL_isStep 759 = .ok (.iload 10, 2) := by decide +kernel
theorem dL_isStep_761 : decode cL_isStep 761 = .ok (.imul, 1) := by decide +kernel
theorem dL_isStep_762 : decode cL_isStep 762 = .ok (.invokestatic 68, 3) := by decide +kernel
theorem dL_isStep_765 : decode cL_isStep 765 = .ok (.ifCond .eq 7, 3) := by decide +kernel
theorem dL_isStep_768 : decode cL_isStep 768 = .ok (.iconst 1, 1) := by decide +kernel
theorem dL_isStep_769 : decode cL_isStep 769 = .ok (.goto 4, 3) := by decide +kernel
theorem dL_isStep_772 : decode cL_isStep 772 = .ok (.iconst 0, 1) := by decide +kernel
theorem dL_isStep_773 : decode cL_isStep 773 = .ok (.istore 11, 2) := by decide +kernel
theorem dL_isStep_775 : decode cL_isStep 775 = .ok (.aload_n 0, 1) := by decide +kernel
theorem dL_isStep_776 : decode cL_isStep 776 = .ok (.invokevirtual 72, 3) := by decide +kernel
theorem dL_isStep_779 : decode cL_isStep 779 = .ok (.istore 12, 2) := by decide +kernel
theorem dL_isStep_781 : decode cL_isStep 781 = .ok (.iload 11, 2) := by decide +kernel
theorem dL_isStep_783 : decode cL_isStep 783 = .ok (.ifCond .eq 56, 3) := by decide +kernel
theorem dL_isStep_786 : decode cL_isStep 786 = .ok (.iload 12, 2) := by decide +kernel
theorem dL_isStep_788 : decode cL_isStep 788 = .ok (.aload_n 1, 1) := by decide +kernel
theorem dL_isStep_789 : decode cL_isStep 789 = .ok (.invokevirtual 72, 3) := by decide +kernel
theorem dL_isStep_792 : decode cL_isStep 792 = .ok (.if_icmp .ne 47, 3) := by decide +kernel
theorem dL_isStep_795 : decode cL_isStep 795 = .ok (.iload 12, 2) := by decide +kernel
theorem dL_isStep_797 : decode cL_isStep 797 = .ok (.ifCond .ge 17, 3) := by decide +kernel
theorem dL_isStep_800 : decode cL_isStep 800 = .ok (.aload_n 0, 1) := by decide +kernel
theorem dL_isStep_801 : decode cL_isStep 801 = .ok (.bipush 7, 2) := by decide +kernel
theorem dL_isStep_803 : decode cL_isStep 803 = .ok (.invokevirtual 36, 3) := by decide +kernel
theorem dL_isStep_806 : decode cL_isStep 806 = .ok (.iload 5, 2) := by decide +kernel
theorem dL_isStep_808 : decode cL_isStep 808 = .ok (.if_icmp .ne 31, 3) := by decide +kernel
theorem dL_isStep_811 : decode cL_isStep 811 = .ok (.goto 24, 3) := by decide +kernel
theorem dL_isStep_814 : decode cL_isStep 814 = .ok (.iload 12, 2) := by decide +kernel
theorem dL_isStep_816 : decode cL_isStep 816 = .ok (.iload 5, 2) := by decide +kernel
theorem dL_isStep_818 : decode cL_isStep 818 = .ok (.iconst 1, 1) := by decide +kernel
theorem dL_isStep_819 : decode cL_isStep 819 = .ok (.iadd, 1) := by decide +kernel
theorem dL_isStep_820 : decode cL_isStep 820 = .ok (.if_icmp .ne 19, 3) := by decide +kernel
theorem dL_isStep_823 : decode cL_isStep 823 = .ok (.aload_n 0, 1) := by decide +kernel
theorem dL_isStep_824 : decode cL_isStep 824 = .ok (.iload 5, 2) := by decide +kernel
theorem dL_isStep_826 : decode cL_isStep 826 = .ok (.iconst 2, 1) := by decide +kernel
theorem dL_isStep_827 : decode cL_isStep 827 = .ok (.invokevirtual 53, 3) := by decide +kernel
theorem dL_isStep_830 : decode cL_isStep 830 = .ok (.iload 9, 2) := by decide +kernel
theorem dL_isStep_832 : decode cL_isStep 832 = .ok (.if_icmp .ne 7, 3) := by decide +kernel
theorem dL_isStep_835 : decode cL_isStep 835 = .ok (.iconst 1, 1) := by decide +kernel
theorem dL_isStep_836 : decode cL_isStep 836 = .ok (.goto 4, 3) := by decide +kernel
theorem dL_isStep_839 : decode cL_isStep 839 = .ok (.iconst 0, 1) := by decide +kernel
theorem dL_isStep_840 : decode cL_isStep 840 = .ok (.ireturn, 1) := by decide +kernel
theorem dL_isStep_841 : decode cL_isStep 841 = .ok (.aload_n 0, 1) := by decide +kernel
theorem dL_isStep_842 : decode cL_isStep 842 = .ok (.bipush 19, 2) := by decide +kernel
theorem dL_isStep_844 : decode cL_isStep 844 = .ok (.invokevirtual 36, 3) := by decide +kernel
theorem dL_isStep_847 : decode cL_isStep 847 = .ok (.ifCond .eq 14, 3) := by decide +kernel
theorem dL_isStep_850 : decode cL_isStep 850 = .ok (.aload_n 0, 1) := by decide +kernel
theorem dL_isStep_851 : decode cL_isStep 851 = .ok (.invokevirtual 75, 3) := by decide +kernel
theorem dL_isStep_854 : decode cL_isStep 854 = .ok (.aload_n 1, 1) := by decide +kernel
theorem dL_isStep_855 : decode cL_isStep 855 = .ok (.invokevirtual 75, 3) := by decide +kernel
theorem dL_isStep_858 : decode cL_isStep 858 = .ok (.if_icmp .ne 7, 3) := by decide +kernel
theorem dL_isStep_861 : decode cL_isStep 861 = .ok (.iconst 1, 1) := by decide +kernel
theorem dL_isStep_862 : decode cL_isStep 862 = .ok (.goto 4, 3) := by decide +kernel
theorem dL_isStep_865 : decode cL_isStep 865 = .ok (.iconst 0, 1) := by decide +kernel
theorem dL_isStep_866 : decode cL_isStep 866 = .ok (.ireturn, 1) := by decide +kernel
theorem dL_isStep_867 : decode cL_isStep 867 = .ok (.iload_n 3, 1) := by decide +kernel
theorem dL_isStep_868 : decode cL_isStep 868 = .ok (.iconst 2, 1) := by decide +kernel
theorem dL_isStep_869 : decode cL_isStep 869 = .ok (.invokestatic 40, 3) := by decide +kernel
theorem dL_isStep_872 : decode cL_isStep 872 = .ok (.ifCond .ne 34, 3) := by decide +kernel
theorem dL_isStep_875 : decode cL_isStep 875 = .ok (.aload_n 0, 1) := by decide +kernel
theorem dL_isStep_876 : decode cL_isStep 876 = .ok (.iload 4, 2) := by decide +kernel
theorem dL_isStep_878 : decode cL_isStep 878 = .ok (.iconst 2, 1) := by decide +kernel
theorem dL_isStep_879 : decode cL_isStep 879 = .ok (.invokestatic 40, 3) := by decide +kernel
theorem dL_isStep_882 : decode cL_isStep 882 = .ok (.invokevirtual 78, 3) := by decide +kernel
theorem dL_isStep_885 : decode cL_isStep 885 = .ok (.aload_n 1, 1) := by decide +kernel
theorem dL_isStep_886 : decode cL_isStep 886 = .ok (.iload 4, 2) := by decide +kernel
theorem dL_isStep_888 : decode cL_isStep 888 = .ok (.iconst 2, 1) := by decide +kernel
theorem dL_isStep_889 : decode cL_isStep 889 = .ok (.invokestatic 40, 3) := by decide +kernel
theorem dL_isStep_892 : decode cL_isStep 892 = .ok (.invokevirtual 78, 3) := by decide +kernel
theorem dL_isStep_895 : decode cL_isStep 895 = .ok (.if_icmp .ne 7, 3) := by decide +kernel
theorem dL_isStep_898 : decode cL_isStep 898 = .ok (.iconst 1, 1) := by decide +kernel
theorem dL_isStep_899 : decode cL_isStep 899 = .ok (.goto 35, 3) := by decide +kernel
theorem dL_isStep_902 : decode cL_isStep 902 = .ok (.iconst 0, 1) := by decide +kernel
theorem dL_isStep_903 : decode cL_isStep 903 = .ok (.goto 31, 3) := by decide +kernel
theorem dL_isStep_906 : decode cL_isStep 906 = .ok (.aload_n 0, 1) := by decide +kernel
theorem dL_isStep_907 : decode cL_isStep 907 = .ok (.iload 4, 2) := by decide +kernel
theorem dL_isStep_909 : decode cL_isStep 909 = .ok (.iconst 2, 1) := by decide +kernel
theorem dL_isStep_910 : decode cL_isStep 910 = .ok (.invokestatic 40, 3) := by decide +kernel
theorem dL_isStep_913 : decode cL_isStep 913 = .ok (.invokevirtual 81, 3) := by decide +kernel
theorem dL_isStep_916 : decode cL_isStep 916 = .ok (.aload_n 1, 1) := by decide +kernel
theorem dL_isStep_917 : decode cL_isStep 917 = .ok (.iload 4, 2) := by decide +kernel
theorem dL_isStep_919 : decode cL_isStep 919 = .ok (.iconst 2, 1) := by decide +kernel
theorem dL_isStep_920 : decode cL_isStep 920 = .ok (.invokestatic 40, 3) := by decide +kernel
theorem dL_isStep_923 : decode cL_isStep 923 = .ok (.invokevirtual 81, 3) := by decide +kernel
theorem dL_isStep_926 : decode cL_isStep 926 = .ok (.if_icmp .ne 7, 3) := by decide +kernel
theorem dL_isStep_929 : decode cL_isStep 929 = .ok (.iconst 1, 1) := by decide +kernel
theorem dL_isStep_930 : decode cL_isStep 930 = .ok (.goto 4, 3) := by decide +kernel
theorem dL_isStep_933 : decode cL_isStep 933 = .ok (.iconst 0, 1) := by decide +kernel
theorem dL_isStep_934 : decode cL_isStep 934 = .ok (.ireturn, 1) := by decide +kernel
theorem dL_isStep_935 : decode cL_isStep 935 = .ok (.iload_n 3, 1) := by decide +kernel
theorem dL_isStep_936 : decode cL_isStep 936 = .ok (.sipush 3000, 3) := by decide +kernel
theorem dL_isStep_939 : decode cL_isStep 939 = .ok (.invokestatic 40, 3) := by decide +kernel
theorem dL_isStep_942 : decode cL_isStep 942 = .ok (.istore 11, 2) := by decide +kernel
theorem dL_isStep_944 : decode cL_isStep 944 = .ok (.iconst 1, 1) := by decide +kernel
theorem dL_isStep_945 : decode cL_isStep 945 = .ok (.istore 12, 2) := by decide +kernel
theorem dL_isStep_947 : decode cL_isStep 947 = .ok (.iconst 0, 1) := by decide +kernel
theorem dL_isStep_948 : decode cL_isStep 948 = .ok (.istore 13, 2) := by decide +kernel
theorem dL_isStep_950 : decode cL_isStep 950 = .ok (.iload 13, 2) := by decide +kernel
theorem dL_isStep_952 : decode cL_isStep 952 = .ok (.iconst 4, 1) := by decide +kernel
theorem dL_isStep_953 : decode cL_isStep 953 = .ok (.if_icmp .ge 70, 3) := by decide +kernel
theorem dL_isStep_956 : decode cL_isStep 956 = .ok (.iload 12, 2) := by decide +kernel
theorem dL_isStep_958 : decode cL_isStep 958 = .ok (.ifCond .eq 56, 3) := by decide +kernel
theorem dL_isStep_961 : decode cL_isStep 961 = .ok (.aload_n 0, 1) := by decide +kernel
theorem dL_isStep_962 : decode cL_isStep 962 = .ok (.iload 11, 2) := by decide +kernel
theorem dL_isStep_964 : decode cL_isStep 964 = .ok (.iload 13, 2) := by decide +kernel
theorem dL_isStep_966 : decode cL_isStep 966 = .ok (.invokevirtual 84, 3) := by decide +kernel
theorem dL_isStep_969 : decode cL_isStep 969 = .ok (.aload_n 1, 1) := by decide +kernel
theorem dL_isStep_970 : decode cL_isStep 970 = .ok (.iconst 2, 1) := by decide +kernel
theorem dL_isStep_971 : decode cL_isStep 971 = .ok (.iload 11, 2) := by decide +kernel
theorem dL_isStep_973 : decode cL_isStep 973 = .ok (.imul, 1) := by decide +kernel
theorem dL_isStep_974 : decode cL_isStep 974 = .ok (.iload 13, 2) := by decide +kernel
theorem dL_isStep_976 : decode cL_isStep 976 = .ok (.invokevirtual 84, 3) := by decide +kernel
theorem dL_isStep_979 : decode cL_isStep 979 = .ok (.if_icmp .ne 35, 3) := by decide +kernel
theorem dL_isStep_982 : decode cL_isStep 982 = .ok (.iload 13, 2) := by decide +kernel
theorem dL_isStep_984 : decode cL_isStep 984 = .ok (.ifCond .eq 26, 3) := by decide +kernel
theorem dL_isStep_987 : decode cL_isStep 987 = .ok (.aload_n 0, 1) := by decide +kernel
theorem dL_isStep_988 : decode cL_isStep 988 = .ok (.iload 11, 2) := by decide +kernel
theorem dL_isStep_990 : decode cL_isStep 990 = .ok (.iload 13, 2) := by decide +kernel
theorem dL_isStep_992 : decode cL_isStep 992 = .ok (.invokevirtual 84, 3) := by decide +kernel
theorem dL_isStep_995 : decode cL_isStep 995 = .ok (.aload_n 1, 1) := by decide +kernel
theorem dL_isStep_996 : decode cL_isStep 996 = .ok (.iconst 2, 1) := by decide +kernel
theorem dL_isStep_997 : decode cL_isStep 997 = .ok (.iload 11, 2) := by decide +kernel
theorem dL_isStep_999 : decode cL_isStep 999 = .ok (.imul, 1) := by decide +kernel
theorem dL_isStep_1000 : decode cL_isStep 1000 = .ok (.iconst 1, 1) := by decide +kernel
theorem dL_isStep_1001 : decode cL_isStep 1001 = .ok (.iadd, 1) := by decide +kernel
theorem dL_isStep_1002 : decode cL_isStep 1002 = .ok (.iload 13, 2) := by decide +kernel
theorem dL_isStep_1004 : decode cL_isStep 1004 = .ok (.invokevirtual 84, 3) := by decide +kernel
theorem dL_isStep_1007 : decode cL_isStep 1007 = .ok (.if_icmp .ne 7, 3) := by decide +kernel
theorem dL_isStep_1010 : decode cL_isStep 1010 = .ok (.iconst 1, 1) := by decide +kernel
theorem dL_isStep_1011 : decode cL_isStep 1011 = .ok (.goto 4, 3) := by decide +kernel
theorem dL_isStep_1014 : decode cL_isStep 1014 = .ok (.iconst 0, 1) := by decide +kernel
theorem dL_isStep_1015 : decode cL_isStep 1015 = .ok (.istore 12, 2) := by decide +kernel
theorem dL_isStep_1017 : decode cL_isStep 1017 = .ok (.iinc 13 1, 3) := by decide +kernel
theorem dL_isStep_1020 : decode cL_isStep 1020 = .ok (.goto (-70), 3) := by decide +kernel
theorem dL_isStep_1023 : decode cL_isStep 1023 = .ok (.iload 12, 2) := by decide +kernel
theorem dL_isStep_1025 : decode cL_isStep 1025 = .ok (.ireturn, 1) := by decide +kernel
theorem dL_isStep_1026 : decode cL_isStep 1026 = .ok (.aload_n 0, 1) := by decide +kernel
theorem dL_isStep_1027 : decode cL_isStep 1027 = .ok (.iload 7, 2) := by decide +kernel
theorem dL_isStep_1029 : decode cL_isStep 1029 = .ok (.iload 8, 2) := by decide +kernel
theorem dL_isStep_1031 : decode cL_isStep 1031 = .ok (.iload 9, 2) := by decide +kernel
theorem dL_isStep_1033 : decode cL_isStep 1033 = .ok (.iload 10, 2) := by decide +kernel
theorem dL_isStep_1035 : decode cL_isStep 1035 = .ok (.invokevirtual 87, 3) := by decide +kernel
theorem dL_isStep_1038 : decode cL_isStep 1038 = .ok (.istore 11, 2) := by decide +kernel
theorem dL_isStep_1040 : decode cL_isStep 1040 = .ok (.iload 9, 2) := by decide +kernel
theorem dL_isStep_1042 : decode cL_isStep 1042 = .ok (.iconst 1, 1) := by decide +kernel
theorem dL_isStep_1043 : decode cL_isStep 1043 = .ok (.isub, 1) := by decide +kernel
theorem dL_isStep_1044 : decode cL_isStep 1044 = .ok (.aload_n 0, 1) := by decide +kernel
theorem dL_isStep_1045 : decode cL_isStep 1045 = .ok (.bipush 6, 2) := by decide +kernel
theorem dL_isStep_1047 : decode cL_isStep 1047 = .ok (.invokevirtual 36, 3) := by decide +kernel
theorem dL_isStep_1050 : decode cL_isStep 1050 = .ok (.idiv, 1) := by decide +kernel
theorem dL_isStep_1051 : decode cL_isStep 1051 = .ok (.iconst 1, 1) := by decide +kernel
theorem dL_isStep_1052 : decode cL_isStep 1052 = .ok (.iadd, 1) := by decide +kernel
theorem dL_isStep_1053 : decode cL_isStep 1053 = .ok (.istore 12, 2) := by decide +kernel
theorem dL_isStep_1055 : decode cL_isStep 1055 = .ok (.iload 11, 2) := by decide +kernel
theorem dL_isStep_1057 : decode cL_isStep 1057 = .ok (.aload_n 1, 1) := by decide +kernel
theorem dL_isStep_1058 : decode cL_isStep 1058 = .ok (.iload 7, 2) := by decide +kernel
theorem dL_isStep_1060 : decode cL_isStep 1060 = .ok (.iload 8, 2) := by decide +kernel
theorem dL_isStep_1062 : decode cL_isStep 1062 = .ok (.iload 9, 2) := by decide +kernel
theorem dL_isStep_1064 : decode cL_isStep 1064 = .ok (.iconst 2, 1) := by decide +kernel
theorem dL_isStep_1065 : decode cL_isStep 1065 = .ok (.iload 10, 2) := by decide +kernel
theorem dL_isStep_1067 : decode cL_isStep 1067 = .ok (.imul, 1) := by decide +kernel
theorem dL_isStep_1068 : decode cL_isStep 1068 = .ok (.invokevirtual 87, 3) := by decide +kernel
theorem dL_isStep_1071 : decode cL_isStep 1071 = .ok (.if_icmp .ne 41, 3) := by decide +kernel
theorem dL_isStep_1074 : decode cL_isStep 1074 = .ok (.iload 11, 2) := by decide +kernel
theorem dL_isStep_1076 : decode cL_isStep 1076 = .ok (.iload 12, 2) := by decide +kernel
theorem dL_isStep_1078 : decode cL_isStep 1078 = .ok (.aload_n 0, 1) := by decide +kernel
theorem dL_isStep_1079 : decode cL_isStep 1079 = .ok (.iconst 5, 1) := by decide +kernel
theorem dL_isStep_1080 : decode cL_isStep 1080 = .ok (.invokevirtual 36, 3) := by decide +kernel
theorem dL_isStep_1083 : decode cL_isStep 1083 = .ok (.if_icmp .le 8, 3) := by decide +kernel
theorem dL_isStep_1086 : decode cL_isStep 1086 = .ok (.bipush (-5), 2) := by decide +kernel
theorem dL_isStep_1088 : decode cL_isStep 1088 = .ok (.goto 17, 3) := by decide +kernel
theorem dL_isStep_1091 : decode cL_isStep 1091 = .ok (.iload 5, 2) := by decide +kernel
theorem dL_isStep_1093 : decode cL_isStep 1093 = .ok (.bipush 12, 2) := by decide +kernel
theorem dL_isStep_1095 : decode cL_isStep 1095 = .ok (.if_icmp .ne 8, 3) := by decide +kernel
theorem dL_isStep_1098 : decode cL_isStep 1098 = .ok (.bipush (-4), 2) := by decide +kernel
theorem dL_isStep_1100 : decode cL_isStep 1100 = .ok (.goto 5, 3) := by decide +kernel
theorem dL_isStep_1103 : decode cL_isStep 1103 = .ok (.iload 5, 2) := by decide +kernel
theorem dL_isStep_1105 : decode cL_isStep 1105 = .ok (.if_icmp .ne 7, 3) := by decide +kernel
theorem dL_isStep_1108 : decode cL_isStep 1108 = .ok (.iconst 1, 1) := by decide +kernel
theorem dL_isStep_1109 : decode cL_isStep 1109 = .ok (.goto 4, 3) := by decide +kernel
theorem dL_isStep_1112 : decode cL_isStep 1112 = .ok (.iconst 0, 1) := by decide +kernel
theorem dL_isStep_1113 : decode cL_isStep 1113 = .ok (.ireturn, 1) := by decide +kernel
