theorem dX3_init_0 : decode cX3_init 0 = .ok (.aload_n 0, 1) := by decide +kernel
theorem dX3_init_1 : decode cX3_init 1 = .ok (.invokespecial 3, 3) := by decide +kernel
theorem dX3_init_4 : decode cX3_init 4 = .ok (.aload_n 0, 1) := by decide +kernel
theorem dX3_init_5 : decode cX3_init 5 = .ok (.bipush 12, 2) := by decide +kernel
theorem dX3_init_7 : decode cX3_init 7 = .ok (.newarray .int, 2) := by decide +kernel
theorem dX3_init_9 : decode cX3_init 9 = .ok (.putfield 9, 3) := by decide +kernel
theorem dX3_init_12 : decode cX3_init 12 = .ok (.aload_n 0, 1) := by decide +kernel
theorem dX3_init_13 : decode cX3_init 13 = .ok (.bipush 12, 2) := by decide +kernel
theorem dX3_init_15 : decode cX3_init 15 = .ok (.newarray .int, 2) := by decide +kernel
theorem dX3_init_17 : decode cX3_init 17 = .ok (.putfield 15, 3) := by decide +kernel
theorem dX3_init_20 : decode cX3_init 20 = .ok (.aload_n 0, 1) := by decide +kernel
theorem dX3_init_21 : decode cX3_init 21 = .ok (.bipush 12, 2) := by decide +kernel
theorem dX3_init_23 : decode cX3_init 23 = .ok (.newarray .int, 2) := by decide +kernel
theorem dX3_init_25 : decode cX3_init 25 = .ok (.putfield 18, 3) := by decide +kernel
theorem dX3_init_28 : decode cX3_init 28 = .ok (.aload_n 0, 1) := by decide +kernel
theorem dX3_init_29 : decode cX3_init 29 = .ok (.bipush 12, 2) := by decide +kernel
theorem dX3_init_31 : decode cX3_init 31 = .ok (.newarray .int, 2) := by decide +kernel
theorem dX3_init_33 : decode cX3_init 33 = .ok (.putfield 21, 3) := by decide +kernel
theorem dX3_init_36 : decode cX3_init 36 = .ok (.aload_n 0, 1) := by decide +kernel
theorem dX3_init_37 : decode cX3_init 37 = .ok (.bipush 12, 2) := by decide +kernel
theorem dX3_init_39 : decode cX3_init 39 = .ok (.newarray .int, 2) := by decide +kernel
theorem dX3_init_41 : decode cX3_init 41 = .ok (.putfield 24, 3) := by decide +kernel
theorem dX3_init_44 : decode cX3_init 44 = .ok (.aload_n 0, 1) := by decide +kernel
theorem dX3_init_45 : decode cX3_init 45 = .ok (.bipush 12, 2) := by decide +kernel
theorem dX3_init_47 : decode cX3_init 47 = .ok (.newarray .int, 2) := by decide +kernel
theorem dX3_init_49 : decode cX3_init 49 = .ok (.putfield 27, 3) := by decide +kernel
theorem dX3_init_52 : decode cX3_init 52 = .ok (.aload_n 0, 1) := by decide +kernel
theorem dX3_init_53 : decode cX3_init 53 = .ok (.bipush 12, 2) := by decide +kernel
theorem dX3_init_55 : decode cX3_init 55 = .ok (.newarray .int, 2) := by decide +kernel
theorem dX3_init_57 : decode cX3_init 57 = .ok (.putfield 30, 3) := by decide +kernel
theorem dX3_init_60 : decode cX3_init 60 = .ok (.aload_n 0, 1) := by decide +kernel
theorem dX3_init_61 : decode cX3_init 61 = .ok (.bipush 12, 2) := by decide +kernel
theorem dX3_init_63 : decode cX3_init 63 = .ok (.newarray .int, 2) := by decide +kernel
theorem dX3_init_65 : decode cX3_init 65 = .ok (.putfield 33, 3) := by decide +kernel
theorem dX3_init_68 : decode cX3_init 68 = .ok (.return_, 1) := by decide +kernel
set_option maxRecDepth 20000 in
theorem ggX3_print_X3_clear : GoodIn wsX3_print wsX3_clear := goodIn_r _ [7, 8, 9, 10, 11, 12, 13, 14, 15, 16, 56, 57, 58, 59, 60, 61, 62, 63, 64, 65, 66, 67, 68, 69, 70, 71, 72, 73] (by decide +kernel) (by decide +kernel)
set_option maxRecDepth 20000 in
theorem gX3_print_X3_clear : GoodIn wsX3_print (wsV RX3 36 RX3 yX3_clear wsX3_clear) := goodIn_app (goodIn_of _ (by decide +kernel)) ggX3_print_X3_clear
set_option maxRecDepth 20000 in
theorem ggX3_print_X3_makeReady : GoodIn wsX3_print wsX3_makeReady := goodIn_r _ [20, 21, 22, 11, 23, 24, 12, 25, 26, 6, 27, 53, 54, 55, 56, 57, 58, 59, 60, 61, 62, 63, 64, 65, 66, 67, 68, 69, 70, 71, 72, 73] (by decide +kernel) (by decide +kernel)
set_option maxRecDepth 20000 in
theorem gX3_print_X3_makeReady : GoodIn wsX3_print (wsV RX3 46 RX3 yX3_makeReady wsX3_makeReady) := goodIn_app (goodIn_of _ (by decide +kernel)) ggX3_print_X3_makeReady
set_option maxRecDepth 20000 in
theorem ggX3_print_X3_printJob : GoodIn wsX3_print wsX3_printJob := goodIn_r _ [31, 32, 21, 23, 24, 33, 34, 35, 13, 36, 37, 38, 39, 40, 41, 6, 42, 16, 43, 15, 44, 45, 46, 47, 56, 57, 58, 59, 60, 61, 62, 63, 64, 65, 66, 67, 68, 69, 70, 71, 72, 73, 53, 54, 55] (by decide +kernel) (by decide +kernel)
set_option maxRecDepth 20000 in
theorem gX3_print_X3_printJob : GoodIn wsX3_print (wsV RX3 50 RX3 yX3_printJob wsX3_printJob) := goodIn_app (goodIn_of _ (by decide +kernel)) ggX3_print_X3_printJob
set_option maxRecDepth 20000 in
theorem ggX3_print_X3_dryJob : GoodIn wsX3_print wsX3_dryJob := goodIn_r _ [51, 43, 32, 24, 15, 33, 14, 44, 45, 46, 47, 52, 21, 9, 10, 8, 56, 57, 58, 59, 60, 61, 62, 63, 64, 65, 66, 67, 68, 69, 70, 71, 72, 73, 53, 54, 55] (by decide +kernel) (by decide +kernel)
set_option maxRecDepth 20000 in
theorem gX3_print_X3_dryJob : GoodIn wsX3_print (wsV RX3 54 RX3 yX3_dryJob wsX3_dryJob) := goodIn_app (goodIn_of _ (by decide +kernel)) ggX3_print_X3_dryJob
theorem dX3_print_0 : decode cX3_print 0 = .ok (.aload_n 0, 1) := by decide +kernel
theorem dX3_print_1 : decode cX3_print 1 = .ok (.invokevirtual 36, 3) := by decide +kernel
theorem dX3_print_4 : decode cX3_print 4 = .ok (.aload_n 0, 1) := by decide +kernel
theorem dX3_print_5 : decode cX3_print 5 = .ok (.aload_n 1, 1) := by decide +kernel
theorem dX3_print_6 : decode cX3_print 6 = .ok (.getfield 39, 3) := by decide +kernel
theorem dX3_print_9 : decode cX3_print 9 = .ok (.putfield 45, 3) := by decide +kernel
theorem dX3_print_12 : decode cX3_print 12 = .ok (.iconst 0, 1) := by decide +kernel
theorem dX3_print_13 : decode cX3_print 13 = .ok (.istore_n 3, 1) := by decide +kernel
theorem dX3_print_14 : decode cX3_print 14 = .ok (.iload_n 3, 1) := by decide +kernel
theorem dX3_print_15 : decode cX3_print 15 = .ok (.aload_n 0, 1) := by decide +kernel
theorem dX3_print_16 : decode cX3_print 16 = .ok (.getfield 45, 3) := by decide +kernel
theorem dX3_print_19 : decode cX3_print 19 = .ok (.if_icmp .ge 28, 3) := by decide +kernel
theorem dX3_print_22 : decode cX3_print 22 = .ok (.aload_n 0, 1) := by decide +kernel
theorem dX3_print_23 : decode cX3_print 23 = .ok (.aload_n 1, 1) := by decide +kernel
theorem dX3_print_24 : decode cX3_print 24 = .ok (.iload_n 3, 1) := by decide +kernel
theorem dX3_print_25 : decode cX3_print 25 = .ok (.invokevirtual 46, 3) := by decide +kernel
theorem dX3_print_28 : decode cX3_print 28 = .ok (.aload_n 0, 1) := by decide +kernel
theorem dX3_print_29 : decode cX3_print 29 = .ok (.aload_n 1, 1) := by decide +kernel
theorem dX3_print_30 : decode cX3_print 30 = .ok (.iload_n 3, 1) := by decide +kernel
theorem dX3_print_31 : decode cX3_print 31 = .ok (.iload_n 2, 1) := by decide +kernel
theorem dX3_print_32 : decode cX3_print 32 = .ok (.invokevirtual 50, 3) := by decide +kernel
theorem dX3_print_35 : decode cX3_print 35 = .ok (.aload_n 0, 1) := by decide +kernel
theorem dX3_print_36 : decode cX3_print 36 = .ok (.aload_n 1, 1) := by decide +kernel
theorem dX3_print_37 : decode cX3_print 37 = .ok (.iload_n 3, 1) := by decide +kernel
theorem dX3_print_38 : decode cX3_print 38 = .ok (.invokevirtual 54, 3) := by decide +kernel
theorem dX3_print_41 : decode cX3_print 41 = .ok (.iinc 3 1, 3) := by decide +kernel
theorem dX3_print_44 : decode cX3_print 44 = .ok (.goto (-30), 3) := by decide +kernel
theorem dX3_print_47 : decode cX3_print 47 = .ok (.return_, 1) := by decide +kernel
theorem dX3_clear_0 : decode cX3_clear 0 = .ok (.aload_n 0, 1) := by decide +kernel
theorem dX3_clear_1 : decode cX3_clear 1 = .ok (.iconst 0, 1) := by decide +kernel
theorem dX3_clear_2 : decode cX3_clear 2 = .ok (.putfield 57, 3) := by decide +kernel
theorem dX3_clear_5 : decode cX3_clear 5 = .ok (.aload_n 0, 1) := by decide +kernel
theorem dX3_clear_6 : decode cX3_clear 6 = .ok (.iconst 0, 1) := by decide +kernel
theorem dX3_clear_7 : decode cX3_clear 7 = .ok (.putfield 60, 3) := by decide +kernel
theorem dX3_clear_10 : decode cX3_clear 10 = .ok (.aload_n 0, 1) := by decide +kernel
theorem dX3_clear_11 : decode cX3_clear 11 = .ok (.iconst 0, 1) := by decide +kernel
theorem dX3_clear_12 : decode cX3_clear 12 = .ok (.putfield 63, 3) := by decide +kernel
theorem dX3_clear_15 : decode cX3_clear 15 = .ok (.aload_n 0, 1) := by decide +kernel
theorem dX3_clear_16 : decode cX3_clear 16 = .ok (.iconst 0, 1) := by decide +kernel
theorem dX3_clear_17 : decode cX3_clear 17 = .ok (.putfield 66, 3) := by decide +kernel
theorem dX3_clear_20 : decode cX3_clear 20 = .ok (.aload_n 0, 1) := by decide +kernel
theorem dX3_clear_21 : decode cX3_clear 21 = .ok (.iconst 0, 1) := by decide +kernel
theorem dX3_clear_22 : decode cX3_clear 22 = .ok (.putfield 69, 3) := by decide +kernel
theorem dX3_clear_25 : decode cX3_clear 25 = .ok (.aload_n 0, 1) := by decide +kernel
theorem dX3_clear_26 : decode cX3_clear 26 = .ok (.iconst 0, 1) := by decide +kernel
theorem dX3_clear_27 : decode cX3_clear 27 = .ok (.putfield 72, 3) := by decide +kernel
theorem dX3_clear_30 : decode cX3_clear 30 = .ok (.aload_n 0, 1) := by decide +kernel
theorem dX3_clear_31 : decode cX3_clear 31 = .ok (.iconst 0, 1) := by decide +kernel
theorem dX3_clear_32 : decode cX3_clear 32 = .ok (.putfield 75, 3) := by decide +kernel
theorem dX3_clear_35 : decode cX3_clear 35 = .ok (.aload_n 0, 1) := by decide +kernel
theorem dX3_clear_36 : decode cX3_clear 36 = .ok (.iconst 0, 1) := by decide +kernel
theorem dX3_clear_37 : decode cX3_clear 37 = .ok (.putfield 78, 3) := by decide +kernel
theorem dX3_clear_40 : decode cX3_clear 40 = .ok (.aload_n 0, 1) := by decide +kernel
theorem dX3_clear_41 : decode cX3_clear 41 = .ok (.iconst 0, 1) := by decide +kernel
theorem dX3_clear_42 : decode cX3_clear 42 = .ok (.putfield 81, 3) := by decide +kernel
theorem dX3_clear_45 : decode cX3_clear 45 = .ok (.return_, 1) := by decide +kernel
set_option maxRecDepth 20000 in
theorem ggX3_makeReady_X3_washAhead : GoodIn wsX3_makeReady wsX3_washAhead := goodIn_r _ [10, 1, 5, 11, 12, 13] (by decide +kernel) (by decide +kernel)
set_option maxRecDepth 20000 in
theorem gX3_makeReady_X3_washAhead : GoodIn wsX3_makeReady (va_wsS RX3 88 yX3_washAhead wsX3_washAhead) := goodIn_app (goodIn_of _ (by decide +kernel)) ggX3_makeReady_X3_washAhead
theorem dX3_makeReady_0 : decode cX3_makeReady 0 = .ok (.aload_n 1, 1) := by decide +kernel
theorem dX3_makeReady_1 : decode cX3_makeReady 1 = .ok (.getfield 84, 3) := by decide +kernel
theorem dX3_makeReady_4 : decode cX3_makeReady 4 = .ok (.iconst 0, 1) := by decide +kernel
theorem dX3_makeReady_5 : decode cX3_makeReady 5 = .ok (.aaload, 1) := by decide +kernel
theorem dX3_makeReady_6 : decode cX3_makeReady 6 = .ok (.astore_n 3, 1) := by decide +kernel
theorem dX3_makeReady_7 : decode cX3_makeReady 7 = .ok (.aload_n 0, 1) := by decide +kernel
theorem dX3_makeReady_8 : decode cX3_makeReady 8 = .ok (.getfield 15, 3) := by decide +kernel
theorem dX3_makeReady_11 : decode cX3_makeReady 11 = .ok (.iload_n 2, 1) := by decide +kernel
theorem dX3_makeReady_12 : decode cX3_makeReady 12 = .ok (.aload_n 1, 1) := by decide +kernel
theorem dX3_makeReady_13 : decode cX3_makeReady 13 = .ok (.iload_n 2, 1) := by decide +kernel
theorem dX3_makeReady_14 : decode cX3_makeReady 14 = .ok (.invokestatic 88, 3) := by decide +kernel
theorem dX3_makeReady_17 : decode cX3_makeReady 17 = .ok (.iastore, 1) := by decide +kernel
theorem dX3_makeReady_18 : decode cX3_makeReady 18 = .ok (.aload_n 0, 1) := by decide +kernel
theorem dX3_makeReady_19 : decode cX3_makeReady 19 = .ok (.dup, 1) := by decide +kernel
theorem dX3_makeReady_20 : decode cX3_makeReady 20 = .ok (.getfield 66, 3) := by decide +kernel
theorem dX3_makeReady_23 : decode cX3_makeReady 23 = .ok (.aload_n 0, 1) := by decide +kernel
theorem dX3_makeReady_24 : decode cX3_makeReady 24 = .ok (.getfield 15, 3) := by decide +kernel
theorem dX3_makeReady_27 : decode cX3_makeReady 27 = .ok (.iload_n 2, 1) := by decide +kernel
theorem dX3_makeReady_28 : decode cX3_makeReady 28 = .ok (.iaload, 1) := by decide +kernel
theorem dX3_makeReady_29 : decode cX3_makeReady 29 = .ok (.iadd, 1) := by decide +kernel
theorem dX3_makeReady_30 : decode cX3_makeReady 30 = .ok (.putfield 66, 3) := by decide +kernel
theorem dX3_makeReady_33 : decode cX3_makeReady 33 = .ok (.aload_n 0, 1) := by decide +kernel
theorem dX3_makeReady_34 : decode cX3_makeReady 34 = .ok (.getfield 18, 3) := by decide +kernel
theorem dX3_makeReady_37 : decode cX3_makeReady 37 = .ok (.iload_n 2, 1) := by decide +kernel
theorem dX3_makeReady_38 : decode cX3_makeReady 38 = .ok (.aload_n 0, 1) := by decide +kernel
theorem dX3_makeReady_39 : decode cX3_makeReady 39 = .ok (.getfield 15, 3) := by decide +kernel
theorem dX3_makeReady_42 : decode cX3_makeReady 42 = .ok (.iload_n 2, 1) := by decide +kernel
theorem dX3_makeReady_43 : decode cX3_makeReady 43 = .ok (.iaload, 1) := by decide +kernel
theorem dX3_makeReady_44 : decode cX3_makeReady 44 = .ok (.iastore, 1) := by decide +kernel
theorem dX3_makeReady_45 : decode cX3_makeReady 45 = .ok (.iload_n 2, 1) := by decide +kernel
theorem dX3_makeReady_46 : decode cX3_makeReady 46 = .ok (.ifCond .eq 14, 3) := by decide +kernel
theorem dX3_makeReady_49 : decode cX3_makeReady 49 = .ok (.aload_n 3, 1) := by decide +kernel
theorem dX3_makeReady_50 : decode cX3_makeReady 50 = .ok (.iload_n 2, 1) := by decide +kernel
theorem dX3_makeReady_51 : decode cX3_makeReady 51 = .ok (.iaload, 1) := by decide +kernel
theorem dX3_makeReady_52 : decode cX3_makeReady 52 = .ok (.aload_n 3, 1) := by decide +kernel
theorem dX3_makeReady_53 : decode cX3_makeReady 53 = .ok (.iload_n 2, 1) := by decide +kernel
theorem dX3_makeReady_54 : decode cX3_makeReady 54 = .ok (.iconst 1, 1) := by decide +kernel
theorem dX3_makeReady_55 : decode cX3_makeReady 55 = .ok (.isub, 1) := by decide +kernel
theorem dX3_makeReady_56 : decode cX3_makeReady 56 = .ok (.iaload, 1) := by decide +kernel
theorem dX3_makeReady_57 : decode cX3_makeReady 57 = .ok (.if_icmp .eq 28, 3) := by decide +kernel
theorem dX3_makeReady_60 : decode cX3_makeReady 60 = .ok (.aload_n 0, 1) := by decide +kernel
theorem dX3_makeReady_61 : decode cX3_makeReady 61 = .ok (.getfield 18, 3) := by decide +kernel
theorem dX3_makeReady_64 : decode cX3_makeReady 64 = .ok (.iload_n 2, 1) := by decide +kernel
theorem dX3_makeReady_65 : decode cX3_makeReady 65 = .ok (.dup2, 1) := by decide +kernel
theorem dX3_makeReady_66 : decode cX3_makeReady 66 = .ok (.iaload, 1) := by decide +kernel
theorem dX3_makeReady_67 : decode cX3_makeReady 67 = .ok (.aload_n 1, 1) := by decide +kernel
theorem dX3_makeReady_68 : decode cX3_makeReady 68 = .ok (.getfield 92, 3) := by decide +kernel
theorem dX3_makeReady_71 : decode cX3_makeReady 71 = .ok (.iconst 0, 1) := by decide +kernel
theorem dX3_makeReady_72 : decode cX3_makeReady 72 = .ok (.iaload, 1) := by decide +kernel
theorem dX3_makeReady_73 : decode cX3_makeReady 73 = .ok (.iadd, 1) := by decide +kernel
theorem dX3_makeReady_74 : decode cX3_makeReady 74 = .ok (.iastore, 1) := by decide +kernel
theorem dX3_makeReady_75 : decode cX3_makeReady 75 = .ok (.aload_n 0, 1) := by decide +kernel
theorem dX3_makeReady_76 : decode cX3_makeReady 76 = .ok (.dup, 1) := by decide +kernel
theorem dX3_makeReady_77 : decode cX3_makeReady 77 = .ok (.getfield 69, 3) := by decide +kernel
theorem dX3_makeReady_80 : decode cX3_makeReady 80 = .ok (.iconst 1, 1) := by decide +kernel
theorem dX3_makeReady_81 : decode cX3_makeReady 81 = .ok (.iadd, 1) := by decide +kernel
theorem dX3_makeReady_82 : decode cX3_makeReady 82 = .ok (.putfield 69, 3) := by decide +kernel
theorem dX3_makeReady_85 : decode cX3_makeReady 85 = .ok (.return_, 1) := by decide +kernel
theorem dX3_washAhead_0 : decode cX3_washAhead 0 = .ok (.iload_n 1, 1) := by decide +kernel
theorem dX3_washAhead_1 : decode cX3_washAhead 1 = .ok (.ifCond .ne 5, 3) := by decide +kernel
theorem dX3_washAhead_4 : decode cX3_washAhead 4 = .ok (.iconst 0, 1) := by decide +kernel
theorem dX3_washAhead_5 : decode cX3_washAhead 5 = .ok (.ireturn, 1) := by decide +kernel
theorem dX3_washAhead_6 : decode cX3_washAhead 6 = .ok (.aload_n 0, 1) := by decide +kernel
theorem dX3_washAhead_7 : decode cX3_washAhead 7 = .ok (.getfield 84, 3) := by decide +kernel
theorem dX3_washAhead_10 : decode cX3_washAhead 10 = .ok (.iconst 1, 1) := by decide +kernel
theorem dX3_washAhead_11 : decode cX3_washAhead 11 = .ok (.aaload, 1) := by decide +kernel
theorem dX3_washAhead_12 : decode cX3_washAhead 12 = .ok (.iload_n 1, 1) := by decide +kernel
theorem dX3_washAhead_13 : decode cX3_washAhead 13 = .ok (.iconst 1, 1) := by decide +kernel
theorem dX3_washAhead_14 : decode cX3_washAhead 14 = .ok (.isub, 1) := by decide +kernel
theorem dX3_washAhead_15 : decode cX3_washAhead 15 = .ok (.iaload, 1) := by decide +kernel
theorem dX3_washAhead_16 : decode cX3_washAhead 16 = .ok (.aload_n 0, 1) := by decide +kernel
theorem dX3_washAhead_17 : decode cX3_washAhead 17 = .ok (.getfield 84, 3) := by decide +kernel
theorem dX3_washAhead_20 : decode cX3_washAhead 20 = .ok (.iconst 1, 1) := by decide +kernel
theorem dX3_washAhead_21 : decode cX3_washAhead 21 = .ok (.aaload, 1) := by decide +kernel
theorem dX3_washAhead_22 : decode cX3_washAhead 22 = .ok (.iload_n 1, 1) := by decide +kernel
theorem dX3_washAhead_23 : decode cX3_washAhead 23 = .ok (.iaload, 1) := by decide +kernel
theorem dX3_washAhead_24 : decode cX3_washAhead 24 = .ok (.isub, 1) := by decide +kernel
theorem dX3_washAhead_25 : decode cX3_washAhead 25 = .ok (.istore_n 2, 1) := by decide +kernel
theorem dX3_washAhead_26 : decode cX3_washAhead 26 = .ok (.iload_n 2, 1) := by decide +kernel
theorem dX3_washAhead_27 : decode cX3_washAhead 27 = .ok (.ifCond .le 19, 3) := by decide +kernel
theorem dX3_washAhead_30 : decode cX3_washAhead 30 = .ok (.aload_n 0, 1) := by decide +kernel
theorem dX3_washAhead_31 : decode cX3_washAhead 31 = .ok (.getfield 92, 3) := by decide +kernel
theorem dX3_washAhead_34 : decode cX3_washAhead 34 = .ok (.iconst 1, 1) := by decide +kernel
theorem dX3_washAhead_35 : decode cX3_washAhead 35 = .ok (.iaload, 1) := by decide +kernel
theorem dX3_washAhead_36 : decode cX3_washAhead 36 = .ok (.iload_n 2, 1) := by decide +kernel
theorem dX3_washAhead_37 : decode cX3_washAhead 37 = .ok (.aload_n 0, 1) := by decide +kernel
theorem dX3_washAhead_38 : decode cX3_washAhead 38 = .ok (.getfield 92, 3) := by decide +kernel
theorem dX3_washAhead_41 : decode cX3_washAhead 41 = .ok (.iconst 2, 1) := by decide +kernel
theorem dX3_washAhead_42 : decode cX3_washAhead 42 = .ok (.iaload, 1) := by decide +kernel
theorem dX3_washAhead_43 : decode cX3_washAhead 43 = .ok (.imul, 1) := by decide +kernel
theorem dX3_washAhead_44 : decode cX3_washAhead 44 = .ok (.iadd, 1) := by decide +kernel
theorem dX3_washAhead_45 : decode cX3_washAhead 45 = .ok (.ireturn, 1) := by decide +kernel
theorem dX3_washAhead_46 : decode cX3_washAhead 46 = .ok (.iload_n 2, 1) := by decide +kernel
theorem dX3_washAhead_47 : decode cX3_washAhead 47 = .ok (.ifCond .ge 12, 3) := by decide +kernel
theorem dX3_washAhead_50 : decode cX3_washAhead 50 = .ok (.aload_n 0, 1) := by decide +kernel
theorem dX3_washAhead_51 : decode cX3_washAhead 51 = .ok (.getfield 92, 3) := by decide +kernel
theorem dX3_washAhead_54 : decode cX3_washAhead 54 = .ok (.iconst 2, 1) := by decide +kernel
theorem dX3_washAhead_55 : decode cX3_washAhead 55 = .ok (.iaload, 1) := by decide +kernel
theorem dX3_washAhead_56 : decode cX3_washAhead 56 = .ok (.goto 4, 3) := by decide +kernel
theorem dX3_washAhead_59 : decode cX3_washAhead 59 = .ok (.iconst 0, 1) := by decide +kernel
theorem dX3_washAhead_60 : decode cX3_washAhead 60 = .ok (.ireturn, 1) := by decide +kernel
set_option maxRecDepth 20000 in
theorem ggX3_printJob_X4_racksFor : GoodIn wsX3_printJob wsX4_racksFor := goodIn_r _ [11] (by decide +kernel) (by decide +kernel)
set_option maxRecDepth 20000 in
theorem gX3_printJob_X4_racksFor_n95 : GoodIn wsX3_printJob (wsX4_racksFor) := ggX3_printJob_X4_racksFor
set_option maxRecDepth 20000 in
theorem ggX3_printJob_X3_whenRacksAreFree : GoodIn wsX3_printJob wsX3_whenRacksAreFree := goodIn_r _ [16, 17, 18, 19, 20, 21, 22, 23, 5, 24, 25, 26, 27, 28, 29, 30, 31, 32, 33, 34, 35, 36, 37, 38, 39, 40, 41] (by decide +kernel) (by decide +kernel)
set_option maxRecDepth 20000 in
theorem gX3_printJob_X3_whenRacksAreFree : GoodIn wsX3_printJob (wsV RX3 99 RX3 yX3_whenRacksAreFree wsX3_whenRacksAreFree) := goodIn_app (goodIn_of _ (by decide +kernel)) ggX3_printJob_X3_whenRacksAreFree
theorem dX3_printJob_0 : decode cX3_printJob 0 = .ok (.iload_n 2, 1) := by decide +kernel
theorem dX3_printJob_1 : decode cX3_printJob 1 = .ok (.ifCond .ne 7, 3) := by decide +kernel
theorem dX3_printJob_4 : decode cX3_printJob 4 = .ok (.iconst 0, 1) := by decide +kernel
theorem dX3_printJob_5 : decode cX3_printJob 5 = .ok (.goto 11, 3) := by decide +kernel
theorem dX3_printJob_8 : decode cX3_printJob 8 = .ok (.aload_n 0, 1) := by decide +kernel
theorem dX3_printJob_9 : decode cX3_printJob 9 = .ok (.getfield 27, 3) := by decide +kernel
theorem dX3_printJob_12 : decode cX3_printJob 12 = .ok (.iload_n 2, 1) := by decide +kernel
theorem dX3_printJob_13 : decode cX3_printJob 13 = .ok (.iconst 1, 1) := by decide +kernel
theorem dX3_printJob_14 : decode cX3_printJob 14 = .ok (.isub, 1) := by decide +kernel
theorem dX3_printJob_15 : decode cX3_printJob 15 = .ok (.iaload, 1) := by decide +kernel
theorem dX3_printJob_16 : decode cX3_printJob 16 = .ok (.istore 4, 2) := by decide +kernel
theorem dX3_printJob_18 : decode cX3_printJob 18 = .ok (.aload_n 1, 1) := by decide +kernel
theorem dX3_printJob_19 : decode cX3_printJob 19 = .ok (.getfield 84, 3) := by decide +kernel
theorem dX3_printJob_22 : decode cX3_printJob 22 = .ok (.iconst 2, 1) := by decide +kernel
theorem dX3_printJob_23 : decode cX3_printJob 23 = .ok (.aaload, 1) := by decide +kernel
theorem dX3_printJob_24 : decode cX3_printJob 24 = .ok (.iload_n 2, 1) := by decide +kernel
theorem dX3_printJob_25 : decode cX3_printJob 25 = .ok (.iaload, 1) := by decide +kernel
theorem dX3_printJob_26 : decode cX3_printJob 26 = .ok (.istore 5, 2) := by decide +kernel
theorem dX3_printJob_28 : decode cX3_printJob 28 = .ok (.iload 4, 2) := by decide +kernel
theorem dX3_printJob_30 : decode cX3_printJob 30 = .ok (.aload_n 0, 1) := by decide +kernel
theorem dX3_printJob_31 : decode cX3_printJob 31 = .ok (.getfield 18, 3) := by decide +kernel
theorem dX3_printJob_34 : decode cX3_printJob 34 = .ok (.iload_n 2, 1) := by decide +kernel
theorem dX3_printJob_35 : decode cX3_printJob 35 = .ok (.iaload, 1) := by decide +kernel
theorem dX3_printJob_36 : decode cX3_printJob 36 = .ok (.iadd, 1) := by decide +kernel
theorem dX3_printJob_37 : decode cX3_printJob 37 = .ok (.iload 5, 2) := by decide +kernel
theorem dX3_printJob_39 : decode cX3_printJob 39 = .ok (.aload_n 1, 1) := by decide +kernel
theorem dX3_printJob_40 : decode cX3_printJob 40 = .ok (.getfield 92, 3) := by decide +kernel
theorem dX3_printJob_43 : decode cX3_printJob 43 = .ok (.iconst 3, 1) := by decide +kernel
theorem dX3_printJob_44 : decode cX3_printJob 44 = .ok (.iaload, 1) := by decide +kernel
theorem dX3_printJob_45 : decode cX3_printJob 45 = .ok (.imul, 1) := by decide +kernel
theorem dX3_printJob_46 : decode cX3_printJob 46 = .ok (.iadd, 1) := by decide +kernel
theorem dX3_printJob_47 : decode cX3_printJob 47 = .ok (.istore 6, 2) := by decide +kernel
theorem dX3_printJob_49 : decode cX3_printJob 49 = .ok (.aload_n 0, 1) := by decide +kernel
theorem dX3_printJob_50 : decode cX3_printJob 50 = .ok (.getfield 9, 3) := by decide +kernel
theorem dX3_printJob_53 : decode cX3_printJob 53 = .ok (.iload_n 2, 1) := by decide +kernel
theorem dX3_printJob_54 : decode cX3_printJob 54 = .ok (.iload 5, 2) := by decide +kernel
theorem dX3_printJob_56 : decode cX3_printJob 56 = .ok (.aload_n 1, 1) := by decide +kernel
theorem dX3_printJob_57 : decode cX3_printJob 57 = .ok (.getfield 92, 3) := by decide +kernel
theorem dX3_printJob_60 : decode cX3_printJob 60 = .ok (.bipush 6, 2) := by decide +kernel
theorem dX3_printJob_62 : decode cX3_printJob 62 = .ok (.iaload, 1) := by decide +kernel
theorem dX3_printJob_63 : decode cX3_printJob 63 = .ok (.invokestatic 95, 3) := by decide +kernel
theorem dX3_printJob_66 : decode cX3_printJob 66 = .ok (.iastore, 1) := by decide +kernel
theorem dX3_printJob_67 : decode cX3_printJob 67 = .ok (.aload_n 0, 1) := by decide +kernel
theorem dX3_printJob_68 : decode cX3_printJob 68 = .ok (.getfield 27, 3) := by decide +kernel
theorem dX3_printJob_71 : decode cX3_printJob 71 = .ok (.iload_n 2, 1) := by decide +kernel
theorem dX3_printJob_72 : decode cX3_printJob 72 = .ok (.aload_n 0, 1) := by decide +kernel
theorem dX3_printJob_73 : decode cX3_printJob 73 = .ok (.iload_n 2, 1) := by decide +kernel
theorem dX3_printJob_74 : decode cX3_printJob 74 = .ok (.iload 6, 2) := by decide +kernel
theorem dX3_printJob_76 : decode cX3_printJob 76 = .ok (.iload_n 3, 1) := by decide +kernel
theorem dX3_printJob_77 : decode cX3_printJob 77 = .ok (.aload_n 0, 1) := by decide +kernel
theorem dX3_printJob_78 : decode cX3_printJob 78 = .ok (.getfield 9, 3) := by decide +kernel
theorem dX3_printJob_81 : decode cX3_printJob 81 = .ok (.iload_n 2, 1) := by decide +kernel
theorem dX3_printJob_82 : decode cX3_printJob 82 = .ok (.iaload, 1) := by decide +kernel
theorem dX3_printJob_83 : decode cX3_printJob 83 = .ok (.isub, 1) := by decide +kernel
theorem dX3_printJob_84 : decode cX3_printJob 84 = .ok (.invokevirtual 99, 3) := by decide +kernel
theorem dX3_printJob_87 : decode cX3_printJob 87 = .ok (.iastore, 1) := by decide +kernel
theorem dX3_printJob_88 : decode cX3_printJob 88 = .ok (.aload_n 0, 1) := by decide +kernel
theorem dX3_printJob_89 : decode cX3_printJob 89 = .ok (.getfield 21, 3) := by decide +kernel
theorem dX3_printJob_92 : decode cX3_printJob 92 = .ok (.iload_n 2, 1) := by decide +kernel
theorem dX3_printJob_93 : decode cX3_printJob 93 = .ok (.aload_n 0, 1) := by decide +kernel
theorem dX3_printJob_94 : decode cX3_printJob 94 = .ok (.getfield 27, 3) := by decide +kernel
theorem dX3_printJob_97 : decode cX3_printJob 97 = .ok (.iload_n 2, 1) := by decide +kernel
theorem dX3_printJob_98 : decode cX3_printJob 98 = .ok (.iaload, 1) := by decide +kernel
theorem dX3_printJob_99 : decode cX3_printJob 99 = .ok (.iload 6, 2) := by decide +kernel
theorem dX3_printJob_101 : decode cX3_printJob 101 = .ok (.isub, 1) := by decide +kernel
theorem dX3_printJob_102 : decode cX3_printJob 102 = .ok (.iastore, 1) := by decide +kernel
theorem dX3_printJob_103 : decode cX3_printJob 103 = .ok (.aload_n 0, 1) := by decide +kernel
theorem dX3_printJob_104 : decode cX3_printJob 104 = .ok (.getfield 24, 3) := by decide +kernel
theorem dX3_printJob_107 : decode cX3_printJob 107 = .ok (.iload_n 2, 1) := by decide +kernel
theorem dX3_printJob_108 : decode cX3_printJob 108 = .ok (.iload 4, 2) := by decide +kernel
theorem dX3_printJob_110 : decode cX3_printJob 110 = .ok (.aload_n 0, 1) := by decide +kernel
theorem dX3_printJob_111 : decode cX3_printJob 111 = .ok (.getfield 21, 3) := by decide +kernel
theorem dX3_printJob_114 : decode cX3_printJob 114 = .ok (.iload_n 2, 1) := by decide +kernel
theorem dX3_printJob_115 : decode cX3_printJob 115 = .ok (.iaload, 1) := by decide +kernel
theorem dX3_printJob_116 : decode cX3_printJob 116 = .ok (.iadd, 1) := by decide +kernel
theorem dX3_printJob_117 : decode cX3_printJob 117 = .ok (.iastore, 1) := by decide +kernel
theorem dX3_printJob_118 : decode cX3_printJob 118 = .ok (.aload_n 0, 1) := by decide +kernel
theorem dX3_printJob_119 : decode cX3_printJob 119 = .ok (.dup, 1) := by decide +kernel
theorem dX3_printJob_120 : decode cX3_printJob 120 = .ok (.getfield 72, 3) := by decide +kernel
theorem dX3_printJob_123 : decode cX3_printJob 123 = .ok (.aload_n 0, 1) := by decide +kernel
theorem dX3_printJob_124 : decode cX3_printJob 124 = .ok (.getfield 21, 3) := by decide +kernel
theorem dX3_printJob_127 : decode cX3_printJob 127 = .ok (.iload_n 2, 1) := by decide +kernel
theorem dX3_printJob_128 : decode cX3_printJob 128 = .ok (.iaload, 1) := by decide +kernel
theorem dX3_printJob_129 : decode cX3_printJob 129 = .ok (.iadd, 1) := by decide +kernel
theorem dX3_printJob_130 : decode cX3_printJob 130 = .ok (.putfield 72, 3) := by decide +kernel
theorem dX3_printJob_133 : decode cX3_printJob 133 = .ok (.return_, 1) := by decide +kernel
theorem dX3_whenRacksAreFree_0 : decode cX3_whenRacksAreFree 0 = .ok (.iload_n 2, 1) := by decide +kernel
theorem dX3_whenRacksAreFree_1 : decode cX3_whenRacksAreFree 1 = .ok (.istore 4, 2) := by decide +kernel
theorem dX3_whenRacksAreFree_3 : decode cX3_whenRacksAreFree 3 = .ok (.aload_n 0, 1) := by decide +kernel
theorem dX3_whenRacksAreFree_4 : decode cX3_whenRacksAreFree 4 = .ok (.getfield 81, 3) := by decide +kernel
theorem dX3_whenRacksAreFree_7 : decode cX3_whenRacksAreFree 7 = .ok (.iload_n 1, 1) := by decide +kernel
theorem dX3_whenRacksAreFree_8 : decode cX3_whenRacksAreFree 8 = .ok (.if_icmp .ge 72, 3) := by decide +kernel
theorem dX3_whenRacksAreFree_11 : decode cX3_whenRacksAreFree 11 = .ok (.aload_n 0, 1) := by decide +kernel
theorem dX3_whenRacksAreFree_12 : decode cX3_whenRacksAreFree 12 = .ok (.getfield 30, 3) := by decide +kernel
theorem dX3_whenRacksAreFree_15 : decode cX3_whenRacksAreFree 15 = .ok (.aload_n 0, 1) := by decide +kernel
theorem dX3_whenRacksAreFree_16 : decode cX3_whenRacksAreFree 16 = .ok (.getfield 81, 3) := by decide +kernel
theorem dX3_whenRacksAreFree_19 : decode cX3_whenRacksAreFree 19 = .ok (.iaload, 1) := by decide +kernel
theorem dX3_whenRacksAreFree_20 : decode cX3_whenRacksAreFree 20 = .ok (.iload 4, 2) := by decide +kernel
theorem dX3_whenRacksAreFree_22 : decode cX3_whenRacksAreFree 22 = .ok (.if_icmp .le 11, 3) := by decide +kernel
theorem dX3_whenRacksAreFree_25 : decode cX3_whenRacksAreFree 25 = .ok (.aload_n 0, 1) := by decide +kernel
theorem dX3_whenRacksAreFree_26 : decode cX3_whenRacksAreFree 26 = .ok (.getfield 78, 3) := by decide +kernel
theorem dX3_whenRacksAreFree_29 : decode cX3_whenRacksAreFree 29 = .ok (.iload_n 3, 1) := by decide +kernel
theorem dX3_whenRacksAreFree_30 : decode cX3_whenRacksAreFree 30 = .ok (.if_icmp .le 50, 3) := by decide +kernel
theorem dX3_whenRacksAreFree_33 : decode cX3_whenRacksAreFree 33 = .ok (.iload 4, 2) := by decide +kernel
theorem dX3_whenRacksAreFree_35 : decode cX3_whenRacksAreFree 35 = .ok (.aload_n 0, 1) := by decide +kernel
theorem dX3_whenRacksAreFree_36 : decode cX3_whenRacksAreFree 36 = .ok (.getfield 30, 3) := by decide +kernel
theorem dX3_whenRacksAreFree_39 : decode cX3_whenRacksAreFree 39 = .ok (.aload_n 0, 1) := by decide +kernel
theorem dX3_whenRacksAreFree_40 : decode cX3_whenRacksAreFree 40 = .ok (.getfield 81, 3) := by decide +kernel
theorem dX3_whenRacksAreFree_43 : decode cX3_whenRacksAreFree 43 = .ok (.iaload, 1) := by decide +kernel
theorem dX3_whenRacksAreFree_44 : decode cX3_whenRacksAreFree 44 = .ok (.invokestatic 103, 3) := by decide +kernel
theorem dX3_whenRacksAreFree_47 : decode cX3_whenRacksAreFree 47 = .ok (.istore 4, 2) := by decide +kernel
theorem dX3_whenRacksAreFree_49 : decode cX3_whenRacksAreFree 49 = .ok (.aload_n 0, 1) := by decide +kernel
theorem dX3_whenRacksAreFree_50 : decode cX3_whenRacksAreFree 50 = .ok (.dup, 1) := by decide +kernel
theorem dX3_whenRacksAreFree_51 : decode cX3_whenRacksAreFree 51 = .ok (.getfield 78, 3) := by decide +kernel
theorem dX3_whenRacksAreFree_54 : decode cX3_whenRacksAreFree 54 = .ok (.aload_n 0, 1) := by decide +kernel
theorem dX3_whenRacksAreFree_55 : decode cX3_whenRacksAreFree 55 = .ok (.getfield 9, 3) := by decide +kernel
theorem dX3_whenRacksAreFree_58 : decode cX3_whenRacksAreFree 58 = .ok (.aload_n 0, 1) := by decide +kernel
theorem dX3_whenRacksAreFree_59 : decode cX3_whenRacksAreFree 59 = .ok (.getfield 81, 3) := by decide +kernel
theorem dX3_whenRacksAreFree_62 : decode cX3_whenRacksAreFree 62 = .ok (.iaload, 1) := by decide +kernel
theorem dX3_whenRacksAreFree_63 : decode cX3_whenRacksAreFree 63 = .ok (.isub, 1) := by decide +kernel
theorem dX3_whenRacksAreFree_64 : decode cX3_whenRacksAreFree 64 = .ok (.putfield 78, 3) := by decide +kernel
theorem dX3_whenRacksAreFree_67 : decode cX3_whenRacksAreFree 67 = .ok (.aload_n 0, 1) := by decide +kernel
theorem dX3_whenRacksAreFree_68 : decode cX3_whenRacksAreFree 68 = .ok (.dup, 1) := by decide +kernel
theorem dX3_whenRacksAreFree_69 : decode cX3_whenRacksAreFree 69 = .ok (.getfield 81, 3) := by decide +kernel
theorem dX3_whenRacksAreFree_72 : decode cX3_whenRacksAreFree 72 = .ok (.iconst 1, 1) := by decide +kernel
theorem dX3_whenRacksAreFree_73 : decode cX3_whenRacksAreFree 73 = .ok (.iadd, 1) := by decide +kernel
theorem dX3_whenRacksAreFree_74 : decode cX3_whenRacksAreFree 74 = .ok (.putfield 81, 3) := by decide +kernel
theorem dX3_whenRacksAreFree_77 : decode cX3_whenRacksAreFree 77 = .ok (.goto (-74), 3) := by decide +kernel
theorem dX3_whenRacksAreFree_80 : decode cX3_whenRacksAreFree 80 = .ok (.iload 4, 2) := by decide +kernel
theorem dX3_whenRacksAreFree_82 : decode cX3_whenRacksAreFree 82 = .ok (.ireturn, 1) := by decide +kernel
theorem dX3_dryJob_0 : decode cX3_dryJob 0 = .ok (.aload_n 0, 1) := by decide +kernel
theorem dX3_dryJob_1 : decode cX3_dryJob 1 = .ok (.getfield 30, 3) := by decide +kernel
theorem dX3_dryJob_4 : decode cX3_dryJob 4 = .ok (.iload_n 2, 1) := by decide +kernel
theorem dX3_dryJob_5 : decode cX3_dryJob 5 = .ok (.aload_n 0, 1) := by decide +kernel
theorem dX3_dryJob_6 : decode cX3_dryJob 6 = .ok (.getfield 27, 3) := by decide +kernel
theorem dX3_dryJob_9 : decode cX3_dryJob 9 = .ok (.iload_n 2, 1) := by decide +kernel
theorem dX3_dryJob_10 : decode cX3_dryJob 10 = .ok (.iaload, 1) := by decide +kernel
theorem dX3_dryJob_11 : decode cX3_dryJob 11 = .ok (.aload_n 1, 1) := by decide +kernel
theorem dX3_dryJob_12 : decode cX3_dryJob 12 = .ok (.getfield 92, 3) := by decide +kernel
theorem dX3_dryJob_15 : decode cX3_dryJob 15 = .ok (.iconst 4, 1) := by decide +kernel
theorem dX3_dryJob_16 : decode cX3_dryJob 16 = .ok (.iaload, 1) := by decide +kernel
theorem dX3_dryJob_17 : decode cX3_dryJob 17 = .ok (.iadd, 1) := by decide +kernel
theorem dX3_dryJob_18 : decode cX3_dryJob 18 = .ok (.iastore, 1) := by decide +kernel
theorem dX3_dryJob_19 : decode cX3_dryJob 19 = .ok (.aload_n 0, 1) := by decide +kernel
theorem dX3_dryJob_20 : decode cX3_dryJob 20 = .ok (.dup, 1) := by decide +kernel
theorem dX3_dryJob_21 : decode cX3_dryJob 21 = .ok (.getfield 78, 3) := by decide +kernel
theorem dX3_dryJob_24 : decode cX3_dryJob 24 = .ok (.aload_n 0, 1) := by decide +kernel
theorem dX3_dryJob_25 : decode cX3_dryJob 25 = .ok (.getfield 9, 3) := by decide +kernel
theorem dX3_dryJob_28 : decode cX3_dryJob 28 = .ok (.iload_n 2, 1) := by decide +kernel
theorem dX3_dryJob_29 : decode cX3_dryJob 29 = .ok (.iaload, 1) := by decide +kernel
theorem dX3_dryJob_30 : decode cX3_dryJob 30 = .ok (.iadd, 1) := by decide +kernel
theorem dX3_dryJob_31 : decode cX3_dryJob 31 = .ok (.putfield 78, 3) := by decide +kernel
theorem dX3_dryJob_34 : decode cX3_dryJob 34 = .ok (.aload_n 1, 1) := by decide +kernel
theorem dX3_dryJob_35 : decode cX3_dryJob 35 = .ok (.getfield 92, 3) := by decide +kernel
theorem dX3_dryJob_38 : decode cX3_dryJob 38 = .ok (.iconst 4, 1) := by decide +kernel
theorem dX3_dryJob_39 : decode cX3_dryJob 39 = .ok (.iaload, 1) := by decide +kernel
theorem dX3_dryJob_40 : decode cX3_dryJob 40 = .ok (.ifCond .le 18, 3) := by decide +kernel
theorem dX3_dryJob_43 : decode cX3_dryJob 43 = .ok (.aload_n 0, 1) := by decide +kernel
theorem dX3_dryJob_44 : decode cX3_dryJob 44 = .ok (.aload_n 0, 1) := by decide +kernel
theorem dX3_dryJob_45 : decode cX3_dryJob 45 = .ok (.getfield 75, 3) := by decide +kernel
theorem dX3_dryJob_48 : decode cX3_dryJob 48 = .ok (.aload_n 0, 1) := by decide +kernel
theorem dX3_dryJob_49 : decode cX3_dryJob 49 = .ok (.getfield 78, 3) := by decide +kernel
theorem dX3_dryJob_52 : decode cX3_dryJob 52 = .ok (.invokestatic 103, 3) := by decide +kernel
theorem dX3_dryJob_55 : decode cX3_dryJob 55 = .ok (.putfield 75, 3) := by decide +kernel
theorem dX3_dryJob_58 : decode cX3_dryJob 58 = .ok (.aload_n 0, 1) := by decide +kernel
theorem dX3_dryJob_59 : decode cX3_dryJob 59 = .ok (.getfield 33, 3) := by decide +kernel
theorem dX3_dryJob_62 : decode cX3_dryJob 62 = .ok (.iload_n 2, 1) := by decide +kernel
theorem dX3_dryJob_63 : decode cX3_dryJob 63 = .ok (.iconst 0, 1) := by decide +kernel
theorem dX3_dryJob_64 : decode cX3_dryJob 64 = .ok (.aload_n 0, 1) := by decide +kernel
theorem dX3_dryJob_65 : decode cX3_dryJob 65 = .ok (.getfield 30, 3) := by decide +kernel
theorem dX3_dryJob_68 : decode cX3_dryJob 68 = .ok (.iload_n 2, 1) := by decide +kernel
theorem dX3_dryJob_69 : decode cX3_dryJob 69 = .ok (.iaload, 1) := by decide +kernel
theorem dX3_dryJob_70 : decode cX3_dryJob 70 = .ok (.aload_n 1, 1) := by decide +kernel
theorem dX3_dryJob_71 : decode cX3_dryJob 71 = .ok (.getfield 84, 3) := by decide +kernel
theorem dX3_dryJob_74 : decode cX3_dryJob 74 = .ok (.iconst 3, 1) := by decide +kernel
theorem dX3_dryJob_75 : decode cX3_dryJob 75 = .ok (.aaload, 1) := by decide +kernel
theorem dX3_dryJob_76 : decode cX3_dryJob 76 = .ok (.iload_n 2, 1) := by decide +kernel
theorem dX3_dryJob_77 : decode cX3_dryJob 77 = .ok (.iaload, 1) := by decide +kernel
theorem dX3_dryJob_78 : decode cX3_dryJob 78 = .ok (.isub, 1) := by decide +kernel
theorem dX3_dryJob_79 : decode cX3_dryJob 79 = .ok (.invokestatic 103, 3) := by decide +kernel
theorem dX3_dryJob_82 : decode cX3_dryJob 82 = .ok (.iastore, 1) := by decide +kernel
theorem dX3_dryJob_83 : decode cX3_dryJob 83 = .ok (.aload_n 0, 1) := by decide +kernel
theorem dX3_dryJob_84 : decode cX3_dryJob 84 = .ok (.dup, 1) := by decide +kernel
theorem dX3_dryJob_85 : decode cX3_dryJob 85 = .ok (.getfield 60, 3) := by decide +kernel
theorem dX3_dryJob_88 : decode cX3_dryJob 88 = .ok (.aload_n 0, 1) := by decide +kernel
theorem dX3_dryJob_89 : decode cX3_dryJob 89 = .ok (.getfield 33, 3) := by decide +kernel
theorem dX3_dryJob_92 : decode cX3_dryJob 92 = .ok (.iload_n 2, 1) := by decide +kernel
theorem dX3_dryJob_93 : decode cX3_dryJob 93 = .ok (.iaload, 1) := by decide +kernel
theorem dX3_dryJob_94 : decode cX3_dryJob 94 = .ok (.iadd, 1) := by decide +kernel
theorem dX3_dryJob_95 : decode cX3_dryJob 95 = .ok (.putfield 60, 3) := by decide +kernel
theorem dX3_dryJob_98 : decode cX3_dryJob 98 = .ok (.aload_n 0, 1) := by decide +kernel
theorem dX3_dryJob_99 : decode cX3_dryJob 99 = .ok (.aload_n 0, 1) := by decide +kernel
theorem dX3_dryJob_100 : decode cX3_dryJob 100 = .ok (.getfield 63, 3) := by decide +kernel
theorem dX3_dryJob_103 : decode cX3_dryJob 103 = .ok (.aload_n 0, 1) := by decide +kernel
theorem dX3_dryJob_104 : decode cX3_dryJob 104 = .ok (.getfield 33, 3) := by decide +kernel
theorem dX3_dryJob_107 : decode cX3_dryJob 107 = .ok (.iload_n 2, 1) := by decide +kernel
theorem dX3_dryJob_108 : decode cX3_dryJob 108 = .ok (.iaload, 1) := by decide +kernel
theorem dX3_dryJob_109 : decode cX3_dryJob 109 = .ok (.invokestatic 103, 3) := by decide +kernel
theorem dX3_dryJob_112 : decode cX3_dryJob 112 = .ok (.putfield 63, 3) := by decide +kernel
theorem dX3_dryJob_115 : decode cX3_dryJob 115 = .ok (.aload_n 0, 1) := by decide +kernel
theorem dX3_dryJob_116 : decode cX3_dryJob 116 = .ok (.getfield 33, 3) := by decide +kernel
theorem dX3_dryJob_119 : decode cX3_dryJob 119 = .ok (.iload_n 2, 1) := by decide +kernel
theorem dX3_dryJob_120 : decode cX3_dryJob 120 = .ok (.iaload, 1) := by decide +kernel
theorem dX3_dryJob_121 : decode cX3_dryJob 121 = .ok (.ifCond .le 13, 3) := by decide +kernel
theorem dX3_dryJob_124 : decode cX3_dryJob 124 = .ok (.aload_n 0, 1) := by decide +kernel
theorem dX3_dryJob_125 : decode cX3_dryJob 125 = .ok (.dup, 1) := by decide +kernel
theorem dX3_dryJob_126 : decode cX3_dryJob 126 = .ok (.getfield 57, 3) := by decide +kernel
theorem dX3_dryJob_129 : decode cX3_dryJob 129 = .ok (.iconst 1, 1) := by decide +kernel
theorem dX3_dryJob_130 : decode cX3_dryJob 130 = .ok (.iadd, 1) := by decide +kernel
theorem dX3_dryJob_131 : decode cX3_dryJob 131 = .ok (.putfield 57, 3) := by decide +kernel
theorem dX3_dryJob_134 : decode cX3_dryJob 134 = .ok (.return_, 1) := by decide +kernel
theorem dX3_lastOf_0 : decode cX3_lastOf 0 = .ok (.aload_n 0, 1) := by decide +kernel
theorem dX3_lastOf_1 : decode cX3_lastOf 1 = .ok (.getfield 45, 3) := by decide +kernel
theorem dX3_lastOf_4 : decode cX3_lastOf 4 = .ok (.ifCond .ne 7, 3) := by decide +kernel
theorem dX3_lastOf_7 : decode cX3_lastOf 7 = .ok (.iconst 0, 1) := by decide +kernel
theorem dX3_lastOf_8 : decode cX3_lastOf 8 = .ok (.goto 11, 3) := by decide +kernel
theorem dX3_lastOf_11 : decode cX3_lastOf 11 = .ok (.aload_n 1, 1) := by decide +kernel
theorem dX3_lastOf_12 : decode cX3_lastOf 12 = .ok (.aload_n 0, 1) := by decide +kernel
theorem dX3_lastOf_13 : decode cX3_lastOf 13 = .ok (.getfield 45, 3) := by decide +kernel
theorem dX3_lastOf_16 : decode cX3_lastOf 16 = .ok (.iconst 1, 1) := by decide +kernel
theorem dX3_lastOf_17 : decode cX3_lastOf 17 = .ok (.isub, 1) := by decide +kernel
theorem dX3_lastOf_18 : decode cX3_lastOf 18 = .ok (.iaload, 1) := by decide +kernel
theorem dX3_lastOf_19 : decode cX3_lastOf 19 = .ok (.ireturn, 1) := by decide +kernel
theorem dX3_jobOnPress_0 : decode cX3_jobOnPress 0 = .ok (.iconst 0, 1) := by decide +kernel
theorem dX3_jobOnPress_1 : decode cX3_jobOnPress 1 = .ok (.istore_n 2, 1) := by decide +kernel
theorem dX3_jobOnPress_2 : decode cX3_jobOnPress 2 = .ok (.iload_n 2, 1) := by decide +kernel
theorem dX3_jobOnPress_3 : decode cX3_jobOnPress 3 = .ok (.aload_n 0, 1) := by decide +kernel
theorem dX3_jobOnPress_4 : decode cX3_jobOnPress 4 = .ok (.getfield 45, 3) := by decide +kernel
theorem dX3_jobOnPress_7 : decode cX3_jobOnPress 7 = .ok (.if_icmp .ge 31, 3) := by decide +kernel
theorem dX3_jobOnPress_10 : decode cX3_jobOnPress 10 = .ok (.aload_n 0, 1) := by decide +kernel
theorem dX3_jobOnPress_11 : decode cX3_jobOnPress 11 = .ok (.getfield 24, 3) := by decide +kernel
theorem dX3_jobOnPress_14 : decode cX3_jobOnPress 14 = .ok (.iload_n 2, 1) := by decide +kernel
theorem dX3_jobOnPress_15 : decode cX3_jobOnPress 15 = .ok (.iaload, 1) := by decide +kernel
theorem dX3_jobOnPress_16 : decode cX3_jobOnPress 16 = .ok (.iload_n 1, 1) := by decide +kernel
theorem dX3_jobOnPress_17 : decode cX3_jobOnPress 17 = .ok (.if_icmp .gt 15, 3) := by decide +kernel
theorem dX3_jobOnPress_20 : decode cX3_jobOnPress 20 = .ok (.iload_n 1, 1) := by decide +kernel
theorem dX3_jobOnPress_21 : decode cX3_jobOnPress 21 = .ok (.aload_n 0, 1) := by decide +kernel
theorem dX3_jobOnPress_22 : decode cX3_jobOnPress 22 = .ok (.getfield 27, 3) := by decide +kernel
theorem dX3_jobOnPress_25 : decode cX3_jobOnPress 25 = .ok (.iload_n 2, 1) := by decide +kernel
theorem dX3_jobOnPress_26 : decode cX3_jobOnPress 26 = .ok (.iaload, 1) := by decide +kernel
theorem dX3_jobOnPress_27 : decode cX3_jobOnPress 27 = .ok (.if_icmp .ge 5, 3) := by decide +kernel
theorem dX3_jobOnPress_30 : decode cX3_jobOnPress 30 = .ok (.iload_n 2, 1) := by decide +kernel
theorem dX3_jobOnPress_31 : decode cX3_jobOnPress 31 = .ok (.ireturn, 1) := by decide +kernel
theorem dX3_jobOnPress_32 : decode cX3_jobOnPress 32 = .ok (.iinc 2 1, 3) := by decide +kernel
theorem dX3_jobOnPress_35 : decode cX3_jobOnPress 35 = .ok (.goto (-33), 3) := by decide +kernel
theorem dX3_jobOnPress_38 : decode cX3_jobOnPress 38 = .ok (.bipush (-6), 2) := by decide +kernel
theorem dX3_jobOnPress_40 : decode cX3_jobOnPress 40 = .ok (.ireturn, 1) := by decide +kernel
theorem dX3_racksTaken_0 : decode cX3_racksTaken 0 = .ok (.iconst 0, 1) := by decide +kernel
theorem dX3_racksTaken_1 : decode cX3_racksTaken 1 = .ok (.istore_n 2, 1) := by decide +kernel
theorem dX3_racksTaken_2 : decode cX3_racksTaken 2 = .ok (.iconst 0, 1) := by decide +kernel
theorem dX3_racksTaken_3 : decode cX3_racksTaken 3 = .ok (.istore_n 3, 1) := by decide +kernel
theorem dX3_racksTaken_4 : decode cX3_racksTaken 4 = .ok (.iload_n 3, 1) := by decide +kernel
theorem dX3_racksTaken_5 : decode cX3_racksTaken 5 = .ok (.aload_n 0, 1) := by decide +kernel
theorem dX3_racksTaken_6 : decode cX3_racksTaken 6 = .ok (.getfield 45, 3) := by decide +kernel
theorem dX3_racksTaken_9 : decode cX3_racksTaken 9 = .ok (.if_icmp .ge 38, 3) := by decide +kernel
theorem dX3_racksTaken_12 : decode cX3_racksTaken 12 = .ok (.aload_n 0, 1) := by decide +kernel
theorem dX3_racksTaken_13 : decode cX3_racksTaken 13 = .ok (.getfield 27, 3) := by decide +kernel
theorem dX3_racksTaken_16 : decode cX3_racksTaken 16 = .ok (.iload_n 3, 1) := by decide +kernel
theorem dX3_racksTaken_17 : decode cX3_racksTaken 17 = .ok (.iaload, 1) := by decide +kernel
theorem dX3_racksTaken_18 : decode cX3_racksTaken 18 = .ok (.iload_n 1, 1) := by decide +kernel
theorem dX3_racksTaken_19 : decode cX3_racksTaken 19 = .ok (.if_icmp .gt 22, 3) := by decide +kernel
theorem dX3_racksTaken_22 : decode cX3_racksTaken 22 = .ok (.iload_n 1, 1) := by decide +kernel
theorem dX3_racksTaken_23 : decode cX3_racksTaken 23 = .ok (.aload_n 0, 1) := by decide +kernel
theorem dX3_racksTaken_24 : decode cX3_racksTaken 24 = .ok (.getfield 30, 3) := by decide +kernel
theorem dX3_racksTaken_27 : decode cX3_racksTaken 27 = .ok (.iload_n 3, 1) := by decide +kernel
theorem dX3_racksTaken_28 : decode cX3_racksTaken 28 = .ok (.iaload, 1) := by decide +kernel
theorem dX3_racksTaken_29 : decode cX3_racksTaken 29 = .ok (.if_icmp .ge 12, 3) := by decide +kernel
theorem dX3_racksTaken_32 : decode cX3_racksTaken 32 = .ok (.iload_n 2, 1) := by decide +kernel
theorem dX3_racksTaken_33 : decode cX3_racksTaken 33 = .ok (.aload_n 0, 1) := by decide +kernel
theorem dX3_racksTaken_34 : decode cX3_racksTaken 34 = .ok (.getfield 9, 3) := by decide +kernel
theorem dX3_racksTaken_37 : decode cX3_racksTaken 37 = .ok (.iload_n 3, 1) := by decide +kernel
theorem dX3_racksTaken_38 : decode cX3_racksTaken 38 = .ok (.iaload, 1) := by decide +kernel
theorem dX3_racksTaken_39 : decode cX3_racksTaken 39 = .ok (.iadd, 1) := by decide +kernel
theorem dX3_racksTaken_40 : decode cX3_racksTaken 40 = .ok (.istore_n 2, 1) := by decide +kernel
theorem dX3_racksTaken_41 : decode cX3_racksTaken 41 = .ok (.iinc 3 1, 3) := by decide +kernel
theorem dX3_racksTaken_44 : decode cX3_racksTaken 44 = .ok (.goto (-40), 3) := by decide +kernel
theorem dX3_racksTaken_47 : decode cX3_racksTaken 47 = .ok (.iload_n 2, 1) := by decide +kernel
theorem dX3_racksTaken_48 : decode cX3_racksTaken 48 = .ok (.ireturn, 1) := by decide +kernel
theorem dX3_reached_0 : decode cX3_reached 0 = .ok (.iconst 0, 1) := by decide +kernel
theorem dX3_reached_1 : decode cX3_reached 1 = .ok (.istore_n 3, 1) := by decide +kernel
theorem dX3_reached_2 : decode cX3_reached 2 = .ok (.iconst 0, 1) := by decide +kernel
theorem dX3_reached_3 : decode cX3_reached 3 = .ok (.istore 4, 2) := by decide +kernel
theorem dX3_reached_5 : decode cX3_reached 5 = .ok (.iload 4, 2) := by decide +kernel
theorem dX3_reached_7 : decode cX3_reached 7 = .ok (.aload_n 0, 1) := by decide +kernel
theorem dX3_reached_8 : decode cX3_reached 8 = .ok (.getfield 45, 3) := by decide +kernel
theorem dX3_reached_11 : decode cX3_reached 11 = .ok (.if_icmp .ge 20, 3) := by decide +kernel
theorem dX3_reached_14 : decode cX3_reached 14 = .ok (.aload_n 1, 1) := by decide +kernel
theorem dX3_reached_15 : decode cX3_reached 15 = .ok (.iload 4, 2) := by decide +kernel
theorem dX3_reached_17 : decode cX3_reached 17 = .ok (.iaload, 1) := by decide +kernel
theorem dX3_reached_18 : decode cX3_reached 18 = .ok (.iload_n 2, 1) := by decide +kernel
theorem dX3_reached_19 : decode cX3_reached 19 = .ok (.if_icmp .gt 6, 3) := by decide +kernel
theorem dX3_reached_22 : decode cX3_reached 22 = .ok (.iinc 3 1, 3) := by decide +kernel
theorem dX3_reached_25 : decode cX3_reached 25 = .ok (.iinc 4 1, 3) := by decide +kernel
theorem dX3_reached_28 : decode cX3_reached 28 = .ok (.goto (-23), 3) := by decide +kernel
theorem dX3_reached_31 : decode cX3_reached 31 = .ok (.iload_n 3, 1) := by decide +kernel
theorem dX3_reached_32 : decode cX3_reached 32 = .ok (.ireturn, 1) := by decide +kernel
