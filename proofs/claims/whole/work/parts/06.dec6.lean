theorem dX5_orders_40 : decode cX5_orders 40 = .ok (.invokestatic 132, 3) := by decide +kernel
theorem dX5_orders_43 : decode cX5_orders 43 = .ok (.invokevirtual 48, 3) := by decide +kernel
theorem dX5_orders_46 : decode cX5_orders 46 = .ok (.if_icmp .le 49, 3) := by decide +kernel
theorem dX5_orders_49 : decode cX5_orders 49 = .ok (.aload_n 0, 1) := by decide +kernel
theorem dX5_orders_50 : decode cX5_orders 50 = .ok (.iload_n 3, 1) := by decide +kernel
theorem dX5_orders_51 : decode cX5_orders 51 = .ok (.iload_n 3, 1) := by decide +kernel
theorem dX5_orders_52 : decode cX5_orders 52 = .ok (.iconst 1, 1) := by decide +kernel
theorem dX5_orders_53 : decode cX5_orders 53 = .ok (.isub, 1) := by decide +kernel
theorem dX5_orders_54 : decode cX5_orders 54 = .ok (.invokevirtual 56, 3) := by decide +kernel
theorem dX5_orders_57 : decode cX5_orders 57 = .ok (.aload_n 0, 1) := by decide +kernel
theorem dX5_orders_58 : decode cX5_orders 58 = .ok (.getfield 31, 3) := by decide +kernel
theorem dX5_orders_61 : decode cX5_orders 61 = .ok (.iload_n 3, 1) := by decide +kernel
theorem dX5_orders_62 : decode cX5_orders 62 = .ok (.iaload, 1) := by decide +kernel
theorem dX5_orders_63 : decode cX5_orders 63 = .ok (.istore 4, 2) := by decide +kernel
theorem dX5_orders_65 : decode cX5_orders 65 = .ok (.aload_n 0, 1) := by decide +kernel
theorem dX5_orders_66 : decode cX5_orders 66 = .ok (.getfield 31, 3) := by decide +kernel
theorem dX5_orders_69 : decode cX5_orders 69 = .ok (.iload_n 3, 1) := by decide +kernel
theorem dX5_orders_70 : decode cX5_orders 70 = .ok (.aload_n 0, 1) := by decide +kernel
theorem dX5_orders_71 : decode cX5_orders 71 = .ok (.getfield 31, 3) := by decide +kernel
theorem dX5_orders_74 : decode cX5_orders 74 = .ok (.iload_n 3, 1) := by decide +kernel
theorem dX5_orders_75 : decode cX5_orders 75 = .ok (.iconst 1, 1) := by decide +kernel
theorem dX5_orders_76 : decode cX5_orders 76 = .ok (.isub, 1) := by decide +kernel
theorem dX5_orders_77 : decode cX5_orders 77 = .ok (.iaload, 1) := by decide +kernel
theorem dX5_orders_78 : decode cX5_orders 78 = .ok (.iastore, 1) := by decide +kernel
theorem dX5_orders_79 : decode cX5_orders 79 = .ok (.aload_n 0, 1) := by decide +kernel
theorem dX5_orders_80 : decode cX5_orders 80 = .ok (.getfield 31, 3) := by decide +kernel
theorem dX5_orders_83 : decode cX5_orders 83 = .ok (.iload_n 3, 1) := by decide +kernel
theorem dX5_orders_84 : decode cX5_orders 84 = .ok (.iconst 1, 1) := by decide +kernel
theorem dX5_orders_85 : decode cX5_orders 85 = .ok (.isub, 1) := by decide +kernel
theorem dX5_orders_86 : decode cX5_orders 86 = .ok (.iload 4, 2) := by decide +kernel
theorem dX5_orders_88 : decode cX5_orders 88 = .ok (.iastore, 1) := by decide +kernel
theorem dX5_orders_89 : decode cX5_orders 89 = .ok (.iinc 3 (-1), 3) := by decide +kernel
theorem dX5_orders_92 : decode cX5_orders 92 = .ok (.goto (-70), 3) := by decide +kernel
theorem dX5_orders_95 : decode cX5_orders 95 = .ok (.iinc 2 1, 3) := by decide +kernel
theorem dX5_orders_98 : decode cX5_orders 98 = .ok (.goto (-96), 3) := by decide +kernel
theorem dX5_orders_101 : decode cX5_orders 101 = .ok (.return_, 1) := by decide +kernel
set_option maxRecDepth 20000 in
theorem ggX5_order_X5_in : GoodIn wsX5_order wsX5_in := goodIn_r _ [7] (by decide +kernel) (by decide +kernel)
set_option maxRecDepth 20000 in
theorem gX5_order_X5_in : GoodIn wsX5_order (va_wsS RX5 44 yX5_in wsX5_in) := goodIn_app (goodIn_of _ (by decide +kernel)) ggX5_order_X5_in
set_option maxRecDepth 20000 in
theorem ggX5_order_X5_changes : GoodIn wsX5_order wsX5_changes := goodIn_r _ [11, 12, 13, 2, 29, 30, 31, 32, 33, 34, 35, 36, 37, 38, 39, 40, 41, 42] (by decide +kernel) (by decide +kernel)
set_option maxRecDepth 20000 in
theorem gX5_order_X5_changes : GoodIn wsX5_order (wsV RX5 113 RX5 yX5_changes wsX5_changes) := goodIn_app (goodIn_of _ (by decide +kernel)) ggX5_order_X5_changes
set_option maxRecDepth 20000 in
theorem ggX5_order_X5_orders : GoodIn wsX5_order wsX5_orders := goodIn_r _ [17, 2, 3, 18, 19, 6, 20, 21, 22, 23, 24, 25, 26, 27, 28, 29, 30, 31, 32, 33, 34, 35, 36, 37, 38, 39, 40, 41, 42] (by decide +kernel) (by decide +kernel)
set_option maxRecDepth 20000 in
theorem gX5_order_X5_orders : GoodIn wsX5_order (wsV RX5 137 RX5 yX5_orders wsX5_orders) := goodIn_app (goodIn_of _ (by decide +kernel)) ggX5_order_X5_orders
theorem dX5_order_0 : decode cX5_order 0 = .ok (.iload_n 1, 1) := by decide +kernel
theorem dX5_order_1 : decode cX5_order 1 = .ok (.i2l, 1) := by decide +kernel
theorem dX5_order_2 : decode cX5_order 2 = .ok (.lconst 0, 1) := by decide +kernel
theorem dX5_order_3 : decode cX5_order 3 = .ok (.ldc2_w 135, 3) := by decide +kernel
theorem dX5_order_6 : decode cX5_order 6 = .ok (.invokestatic 44, 3) := by decide +kernel
theorem dX5_order_9 : decode cX5_order 9 = .ok (.ifCond .ne 6, 3) := by decide +kernel
theorem dX5_order_12 : decode cX5_order 12 = .ok (.bipush (-2), 2) := by decide +kernel
theorem dX5_order_14 : decode cX5_order 14 = .ok (.ireturn, 1) := by decide +kernel
theorem dX5_order_15 : decode cX5_order 15 = .ok (.aload_n 0, 1) := by decide +kernel
theorem dX5_order_16 : decode cX5_order 16 = .ok (.invokevirtual 113, 3) := by decide +kernel
theorem dX5_order_19 : decode cX5_order 19 = .ok (.aload_n 0, 1) := by decide +kernel
theorem dX5_order_20 : decode cX5_order 20 = .ok (.iload_n 1, 1) := by decide +kernel
theorem dX5_order_21 : decode cX5_order 21 = .ok (.invokevirtual 137, 3) := by decide +kernel
theorem dX5_order_24 : decode cX5_order 24 = .ok (.iconst 0, 1) := by decide +kernel
theorem dX5_order_25 : decode cX5_order 25 = .ok (.istore_n 2, 1) := by decide +kernel
theorem dX5_order_26 : decode cX5_order 26 = .ok (.iconst 0, 1) := by decide +kernel
theorem dX5_order_27 : decode cX5_order 27 = .ok (.istore_n 3, 1) := by decide +kernel
theorem dX5_order_28 : decode cX5_order 28 = .ok (.iload_n 3, 1) := by decide +kernel
theorem dX5_order_29 : decode cX5_order 29 = .ok (.aload_n 0, 1) := by decide +kernel
theorem dX5_order_30 : decode cX5_order 30 = .ok (.getfield 7, 3) := by decide +kernel
theorem dX5_order_33 : decode cX5_order 33 = .ok (.bipush 7, 2) := by decide +kernel
theorem dX5_order_35 : decode cX5_order 35 = .ok (.iaload, 1) := by decide +kernel
theorem dX5_order_36 : decode cX5_order 36 = .ok (.if_icmp .ge 27, 3) := by decide +kernel
theorem dX5_order_39 : decode cX5_order 39 = .ok (.iload_n 2, 1) := by decide +kernel
theorem dX5_order_40 : decode cX5_order 40 = .ok (.aload_n 0, 1) := by decide +kernel
theorem dX5_order_41 : decode cX5_order 41 = .ok (.getfield 31, 3) := by decide +kernel
theorem dX5_order_44 : decode cX5_order 44 = .ok (.iload_n 3, 1) := by decide +kernel
theorem dX5_order_45 : decode cX5_order 45 = .ok (.iaload, 1) := by decide +kernel
theorem dX5_order_46 : decode cX5_order 46 = .ok (.iload_n 3, 1) := by decide +kernel
theorem dX5_order_47 : decode cX5_order 47 = .ok (.if_icmp .ne 7, 3) := by decide +kernel
theorem dX5_order_50 : decode cX5_order 50 = .ok (.iconst 0, 1) := by decide +kernel
theorem dX5_order_51 : decode cX5_order 51 = .ok (.goto 4, 3) := by decide +kernel
theorem dX5_order_54 : decode cX5_order 54 = .ok (.iconst 1, 1) := by decide +kernel
theorem dX5_order_55 : decode cX5_order 55 = .ok (.iadd, 1) := by decide +kernel
theorem dX5_order_56 : decode cX5_order 56 = .ok (.istore_n 2, 1) := by decide +kernel
theorem dX5_order_57 : decode cX5_order 57 = .ok (.iinc 3 1, 3) := by decide +kernel
theorem dX5_order_60 : decode cX5_order 60 = .ok (.goto (-32), 3) := by decide +kernel
theorem dX5_order_63 : decode cX5_order 63 = .ok (.iload_n 2, 1) := by decide +kernel
theorem dX5_order_64 : decode cX5_order 64 = .ok (.ireturn, 1) := by decide +kernel
set_option maxRecDepth 20000 in
theorem ggX5_jobOf_X5_isJob : GoodIn wsX5_jobOf wsX5_isJob := goodIn_r _ [7, 8, 9, 10, 6, 11, 56, 57, 58, 59, 60, 61, 62, 63, 64, 65, 66, 67, 68, 69] (by decide +kernel) (by decide +kernel)
set_option maxRecDepth 20000 in
theorem gX5_jobOf_X5_isJob : GoodIn wsX5_jobOf (wsV RX5 122 RX5 yX5_isJob wsX5_isJob) := goodIn_app (goodIn_of _ (by decide +kernel)) ggX5_jobOf_X5_isJob
set_option maxRecDepth 20000 in
theorem ggX5_jobOf_X5_prints : GoodIn wsX5_jobOf wsX5_prints := goodIn_r _ [15, 8, 1, 2, 16, 17, 18, 6, 19, 20, 21, 22, 23, 24, 25, 26, 27, 28, 29, 30, 31, 32, 33, 34, 35, 36, 37, 38, 39, 40, 41, 42, 43, 44, 45, 46, 47, 56, 57, 58, 59, 60, 61, 62, 63, 64, 65, 66, 67, 68, 69] (by decide +kernel) (by decide +kernel)
set_option maxRecDepth 20000 in
theorem gX5_jobOf_X5_prints : GoodIn wsX5_jobOf (wsV RX5 87 RX5 yX5_prints wsX5_prints) := goodIn_app (goodIn_of _ (by decide +kernel)) ggX5_jobOf_X5_prints
set_option maxRecDepth 20000 in
theorem ggX5_jobOf_X5_its : GoodIn wsX5_jobOf wsX5_its := goodIn_r _ [27, 8, 56, 57, 58, 59, 60, 61, 62, 63, 64, 65, 66, 67, 68, 69] (by decide +kernel) (by decide +kernel)
set_option maxRecDepth 20000 in
theorem gX5_jobOf_X5_its : GoodIn wsX5_jobOf (wsV RX5 48 RX5 yX5_its wsX5_its) := goodIn_app (goodIn_of _ (by decide +kernel)) ggX5_jobOf_X5_its
set_option maxRecDepth 20000 in
theorem ggX5_jobOf_X5_racksOf : GoodIn wsX5_jobOf wsX5_racksOf := goodIn_r _ [43, 24, 25, 26, 6, 27, 8, 44, 45, 46, 47, 56, 57, 58, 59, 60, 61, 62, 63, 64, 65, 66, 67, 68, 69] (by decide +kernel) (by decide +kernel)
set_option maxRecDepth 20000 in
theorem gX5_jobOf_X5_racksOf : GoodIn wsX5_jobOf (wsV RX5 69 RX5 yX5_racksOf wsX5_racksOf) := goodIn_app (goodIn_of _ (by decide +kernel)) ggX5_jobOf_X5_racksOf
set_option maxRecDepth 20000 in
theorem ggX5_jobOf_X5_dry : GoodIn wsX5_jobOf wsX5_dry := goodIn_r _ [39, 2, 8, 56, 57, 58, 59, 60, 61, 62, 63, 64, 65, 66, 67, 68, 69] (by decide +kernel) (by decide +kernel)
set_option maxRecDepth 20000 in
theorem gX5_jobOf_X5_dry : GoodIn wsX5_jobOf (wsV RX5 66 RX5 yX5_dry wsX5_dry) := goodIn_app (goodIn_of _ (by decide +kernel)) ggX5_jobOf_X5_dry
set_option maxRecDepth 20000 in
theorem ggX5_jobOf_X5_late : GoodIn wsX5_jobOf wsX5_late := goodIn_r _ [51, 36, 37, 38, 6, 39, 2, 8, 24, 25, 26, 27, 56, 57, 58, 59, 60, 61, 62, 63, 64, 65, 66, 67, 68, 69] (by decide +kernel) (by decide +kernel)
set_option maxRecDepth 20000 in
theorem gX5_jobOf_X5_late : GoodIn wsX5_jobOf (wsV RX5 78 RX5 yX5_late wsX5_late) := goodIn_app (goodIn_of _ (by decide +kernel)) ggX5_jobOf_X5_late
set_option maxRecDepth 20000 in
theorem ggX5_jobOf_X5_waits : GoodIn wsX5_jobOf wsX5_waits := goodIn_r _ [55, 1, 2, 56, 57, 58, 59, 60, 61, 62, 63, 64, 65, 66, 67, 68, 69] (by decide +kernel) (by decide +kernel)
set_option maxRecDepth 20000 in
theorem gX5_jobOf_X5_waits : GoodIn wsX5_jobOf (wsV RX5 84 RX5 yX5_waits wsX5_waits) := goodIn_app (goodIn_of _ (by decide +kernel)) ggX5_jobOf_X5_waits
set_option maxRecDepth 20000 in
theorem ggX5_jobOf_X5_readyFor : GoodIn wsX5_jobOf wsX5_readyFor := goodIn_r _ [19, 20, 21, 22, 6, 23, 8, 24, 25, 26, 27, 28, 29, 30, 31, 56, 57, 58, 59, 60, 61, 62, 63, 64, 65, 66, 67, 68, 69] (by decide +kernel) (by decide +kernel)
set_option maxRecDepth 20000 in
theorem gX5_jobOf_X5_readyFor : GoodIn wsX5_jobOf (wsV RX5 72 RX5 yX5_readyFor wsX5_readyFor) := goodIn_app (goodIn_of _ (by decide +kernel)) ggX5_jobOf_X5_readyFor
set_option maxRecDepth 20000 in
theorem ggX5_jobOf_X5_washFor : GoodIn wsX5_jobOf wsX5_washFor := goodIn_r _ [31, 8, 24, 25, 26, 6, 27, 56, 57, 58, 59, 60, 61, 62, 63, 64, 65, 66, 67, 68, 69] (by decide +kernel) (by decide +kernel)
set_option maxRecDepth 20000 in
theorem gX5_jobOf_X5_washFor : GoodIn wsX5_jobOf (wsV RX5 63 RX5 yX5_washFor wsX5_washFor) := goodIn_app (goodIn_of _ (by decide +kernel)) ggX5_jobOf_X5_washFor
theorem dX5_jobOf_0 : decode cX5_jobOf 0 = .ok (.aload_n 0, 1) := by decide +kernel
theorem dX5_jobOf_1 : decode cX5_jobOf 1 = .ok (.iload_n 1, 1) := by decide +kernel
theorem dX5_jobOf_2 : decode cX5_jobOf 2 = .ok (.invokevirtual 122, 3) := by decide +kernel
theorem dX5_jobOf_5 : decode cX5_jobOf 5 = .ok (.ifCond .ne 5, 3) := by decide +kernel
theorem dX5_jobOf_8 : decode cX5_jobOf 8 = .ok (.iconst (-1), 1) := by decide +kernel
theorem dX5_jobOf_9 : decode cX5_jobOf 9 = .ok (.ireturn, 1) := by decide +kernel
theorem dX5_jobOf_10 : decode cX5_jobOf 10 = .ok (.aload_n 0, 1) := by decide +kernel
theorem dX5_jobOf_11 : decode cX5_jobOf 11 = .ok (.invokevirtual 87, 3) := by decide +kernel
theorem dX5_jobOf_14 : decode cX5_jobOf 14 = .ok (.iload_n 2, 1) := by decide +kernel
theorem dX5_jobOf_15 : decode cX5_jobOf 15 = .ok (.tableswitch 118 0 11 #[61, 61, 61, 61, 68, 74, 81, 88, 94, 100, 106, 112], 61) := by decide +kernel
theorem dX5_jobOf_76 : decode cX5_jobOf 76 = .ok (.aload_n 0, 1) := by decide +kernel
theorem dX5_jobOf_77 : decode cX5_jobOf 77 = .ok (.iload_n 1, 1) := by decide +kernel
theorem dX5_jobOf_78 : decode cX5_jobOf 78 = .ok (.iload_n 2, 1) := by decide +kernel
theorem dX5_jobOf_79 : decode cX5_jobOf 79 = .ok (.invokevirtual 48, 3) := by decide +kernel
theorem dX5_jobOf_82 : decode cX5_jobOf 82 = .ok (.ireturn, 1) := by decide +kernel
theorem dX5_jobOf_83 : decode cX5_jobOf 83 = .ok (.aload_n 0, 1) := by decide +kernel
theorem dX5_jobOf_84 : decode cX5_jobOf 84 = .ok (.iload_n 1, 1) := by decide +kernel
theorem dX5_jobOf_85 : decode cX5_jobOf 85 = .ok (.invokevirtual 69, 3) := by decide +kernel
theorem dX5_jobOf_88 : decode cX5_jobOf 88 = .ok (.ireturn, 1) := by decide +kernel
theorem dX5_jobOf_89 : decode cX5_jobOf 89 = .ok (.aload_n 0, 1) := by decide +kernel
theorem dX5_jobOf_90 : decode cX5_jobOf 90 = .ok (.getfield 25, 3) := by decide +kernel
theorem dX5_jobOf_93 : decode cX5_jobOf 93 = .ok (.iload_n 1, 1) := by decide +kernel
theorem dX5_jobOf_94 : decode cX5_jobOf 94 = .ok (.iaload, 1) := by decide +kernel
theorem dX5_jobOf_95 : decode cX5_jobOf 95 = .ok (.ireturn, 1) := by decide +kernel
theorem dX5_jobOf_96 : decode cX5_jobOf 96 = .ok (.aload_n 0, 1) := by decide +kernel
theorem dX5_jobOf_97 : decode cX5_jobOf 97 = .ok (.getfield 28, 3) := by decide +kernel
theorem dX5_jobOf_100 : decode cX5_jobOf 100 = .ok (.iload_n 1, 1) := by decide +kernel
theorem dX5_jobOf_101 : decode cX5_jobOf 101 = .ok (.iaload, 1) := by decide +kernel
theorem dX5_jobOf_102 : decode cX5_jobOf 102 = .ok (.ireturn, 1) := by decide +kernel
theorem dX5_jobOf_103 : decode cX5_jobOf 103 = .ok (.aload_n 0, 1) := by decide +kernel
theorem dX5_jobOf_104 : decode cX5_jobOf 104 = .ok (.iload_n 1, 1) := by decide +kernel
theorem dX5_jobOf_105 : decode cX5_jobOf 105 = .ok (.invokevirtual 66, 3) := by decide +kernel
theorem dX5_jobOf_108 : decode cX5_jobOf 108 = .ok (.ireturn, 1) := by decide +kernel
theorem dX5_jobOf_109 : decode cX5_jobOf 109 = .ok (.aload_n 0, 1) := by decide +kernel
theorem dX5_jobOf_110 : decode cX5_jobOf 110 = .ok (.iload_n 1, 1) := by decide +kernel
theorem dX5_jobOf_111 : decode cX5_jobOf 111 = .ok (.invokevirtual 78, 3) := by decide +kernel
theorem dX5_jobOf_114 : decode cX5_jobOf 114 = .ok (.ireturn, 1) := by decide +kernel
theorem dX5_jobOf_115 : decode cX5_jobOf 115 = .ok (.aload_n 0, 1) := by decide +kernel
theorem dX5_jobOf_116 : decode cX5_jobOf 116 = .ok (.iload_n 1, 1) := by decide +kernel
theorem dX5_jobOf_117 : decode cX5_jobOf 117 = .ok (.invokevirtual 84, 3) := by decide +kernel
theorem dX5_jobOf_120 : decode cX5_jobOf 120 = .ok (.ireturn, 1) := by decide +kernel
theorem dX5_jobOf_121 : decode cX5_jobOf 121 = .ok (.aload_n 0, 1) := by decide +kernel
theorem dX5_jobOf_122 : decode cX5_jobOf 122 = .ok (.iload_n 1, 1) := by decide +kernel
theorem dX5_jobOf_123 : decode cX5_jobOf 123 = .ok (.invokevirtual 72, 3) := by decide +kernel
theorem dX5_jobOf_126 : decode cX5_jobOf 126 = .ok (.ireturn, 1) := by decide +kernel
theorem dX5_jobOf_127 : decode cX5_jobOf 127 = .ok (.aload_n 0, 1) := by decide +kernel
theorem dX5_jobOf_128 : decode cX5_jobOf 128 = .ok (.iload_n 1, 1) := by decide +kernel
theorem dX5_jobOf_129 : decode cX5_jobOf 129 = .ok (.invokevirtual 63, 3) := by decide +kernel
theorem dX5_jobOf_132 : decode cX5_jobOf 132 = .ok (.ireturn, 1) := by decide +kernel
theorem dX5_jobOf_133 : decode cX5_jobOf 133 = .ok (.bipush (-2), 2) := by decide +kernel
theorem dX5_jobOf_135 : decode cX5_jobOf 135 = .ok (.ireturn, 1) := by decide +kernel
set_option maxRecDepth 20000 in
theorem ggX5_count_X5_prints : GoodIn wsX5_count wsX5_prints := goodIn_r _ [9, 1, 10, 11, 12, 13, 14, 8, 15, 16, 17, 18, 19, 20, 21, 22, 23, 24, 25, 26, 27, 28, 29, 30, 31, 32, 33, 34, 35, 36, 37, 38, 39, 40, 41, 42, 43, 67, 68, 69, 70, 71, 72, 73, 74, 75, 76, 77, 78, 79, 80] (by decide +kernel) (by decide +kernel)
set_option maxRecDepth 20000 in
theorem gX5_count_X5_prints : GoodIn wsX5_count (wsV RX5 87 RX5 yX5_prints wsX5_prints) := goodIn_app (goodIn_of _ (by decide +kernel)) ggX5_count_X5_prints
set_option maxRecDepth 20000 in
theorem ggX5_count_X5_sumOf : GoodIn wsX5_count wsX5_sumOf := goodIn_r _ [47, 1, 20, 21, 22, 8, 23, 48, 49, 50, 51, 32, 33, 34, 35, 11, 24, 25, 26, 27, 52, 53, 54, 55, 56, 57, 58, 59, 10, 67, 68, 69, 70, 71, 72, 73, 74, 75, 76, 77, 78, 79, 80] (by decide +kernel) (by decide +kernel)
set_option maxRecDepth 20000 in
theorem gX5_count_X5_sumOf : GoodIn wsX5_count (wsV RX5 90 RX5 yX5_sumOf wsX5_sumOf) := goodIn_app (goodIn_of _ (by decide +kernel)) ggX5_count_X5_sumOf
set_option maxRecDepth 20000 in
theorem ggX5_count_X5_greatestOf : GoodIn wsX5_count wsX5_greatestOf := goodIn_r _ [63, 1, 11, 32, 33, 34, 8, 35, 48, 49, 50, 51, 20, 21, 22, 23, 28, 29, 30, 31, 36, 37, 38, 39, 40, 41, 42, 43, 67, 68, 69, 70, 71, 72, 73, 74, 75, 76, 77, 78, 79, 80] (by decide +kernel) (by decide +kernel)
set_option maxRecDepth 20000 in
theorem gX5_count_X5_greatestOf : GoodIn wsX5_count (wsV RX5 141 RX5 yX5_greatestOf wsX5_greatestOf) := goodIn_app (goodIn_of _ (by decide +kernel)) ggX5_count_X5_greatestOf
set_option maxRecDepth 20000 in
theorem ggX5_count_X5_in : GoodIn wsX5_count wsX5_in := goodIn_r _ [66] (by decide +kernel) (by decide +kernel)
set_option maxRecDepth 20000 in
theorem gX5_count_X5_in : GoodIn wsX5_count (va_wsS RX5 44 yX5_in wsX5_in) := goodIn_app (goodIn_of _ (by decide +kernel)) ggX5_count_X5_in
theorem dX5_count_0 : decode cX5_count 0 = .ok (.aload_n 0, 1) := by decide +kernel
theorem dX5_count_1 : decode cX5_count 1 = .ok (.invokevirtual 87, 3) := by decide +kernel
theorem dX5_count_4 : decode cX5_count 4 = .ok (.iload_n 1, 1) := by decide +kernel
theorem dX5_count_5 : decode cX5_count 5 = .ok (.tableswitch 97 7 19 #[67, 75, 81, 81, 75, 75, 81, 75, 75, 75, 81, 87, 92], 67) := by decide +kernel
theorem dX5_count_72 : decode cX5_count 72 = .ok (.aload_n 0, 1) := by decide +kernel
theorem dX5_count_73 : decode cX5_count 73 = .ok (.getfield 7, 3) := by decide +kernel
theorem dX5_count_76 : decode cX5_count 76 = .ok (.bipush 7, 2) := by decide +kernel
theorem dX5_count_78 : decode cX5_count 78 = .ok (.iaload, 1) := by decide +kernel
theorem dX5_count_79 : decode cX5_count 79 = .ok (.ireturn, 1) := by decide +kernel
theorem dX5_count_80 : decode cX5_count 80 = .ok (.aload_n 0, 1) := by decide +kernel
theorem dX5_count_81 : decode cX5_count 81 = .ok (.iload_n 1, 1) := by decide +kernel
theorem dX5_count_82 : decode cX5_count 82 = .ok (.invokevirtual 90, 3) := by decide +kernel
theorem dX5_count_85 : decode cX5_count 85 = .ok (.ireturn, 1) := by decide +kernel
theorem dX5_count_86 : decode cX5_count 86 = .ok (.aload_n 0, 1) := by decide +kernel
theorem dX5_count_87 : decode cX5_count 87 = .ok (.iload_n 1, 1) := by decide +kernel
theorem dX5_count_88 : decode cX5_count 88 = .ok (.invokevirtual 141, 3) := by decide +kernel
theorem dX5_count_91 : decode cX5_count 91 = .ok (.ireturn, 1) := by decide +kernel
theorem dX5_count_92 : decode cX5_count 92 = .ok (.aload_n 0, 1) := by decide +kernel
theorem dX5_count_93 : decode cX5_count 93 = .ok (.getfield 144, 3) := by decide +kernel
theorem dX5_count_96 : decode cX5_count 96 = .ok (.ireturn, 1) := by decide +kernel
theorem dX5_count_97 : decode cX5_count 97 = .ok (.aload_n 0, 1) := by decide +kernel
theorem dX5_count_98 : decode cX5_count 98 = .ok (.getfield 40, 3) := by decide +kernel
theorem dX5_count_101 : decode cX5_count 101 = .ok (.ireturn, 1) := by decide +kernel
theorem dX5_count_102 : decode cX5_count 102 = .ok (.iload_n 1, 1) := by decide +kernel
theorem dX5_count_103 : decode cX5_count 103 = .ok (.i2l, 1) := by decide +kernel
theorem dX5_count_104 : decode cX5_count 104 = .ok (.lconst 0, 1) := by decide +kernel
theorem dX5_count_105 : decode cX5_count 105 = .ok (.ldc2_w 147, 3) := by decide +kernel
theorem dX5_count_108 : decode cX5_count 108 = .ok (.invokestatic 44, 3) := by decide +kernel
theorem dX5_count_111 : decode cX5_count 111 = .ok (.ifCond .eq 12, 3) := by decide +kernel
theorem dX5_count_114 : decode cX5_count 114 = .ok (.aload_n 0, 1) := by decide +kernel
theorem dX5_count_115 : decode cX5_count 115 = .ok (.getfield 7, 3) := by decide +kernel
theorem dX5_count_118 : decode cX5_count 118 = .ok (.iload_n 1, 1) := by decide +kernel
theorem dX5_count_119 : decode cX5_count 119 = .ok (.iaload, 1) := by decide +kernel
theorem dX5_count_120 : decode cX5_count 120 = .ok (.goto 5, 3) := by decide +kernel
theorem dX5_count_123 : decode cX5_count 123 = .ok (.bipush (-2), 2) := by decide +kernel
theorem dX5_count_125 : decode cX5_count 125 = .ok (.ireturn, 1) := by decide +kernel
set_option maxRecDepth 20000 in
theorem ggX5_at_X5_in : GoodIn wsX5_at wsX5_in := goodIn_r _ [9] (by decide +kernel) (by decide +kernel)
set_option maxRecDepth 20000 in
theorem gX5_at_X5_in : GoodIn wsX5_at (va_wsS RX5 44 yX5_in wsX5_in) := goodIn_app (goodIn_of _ (by decide +kernel)) ggX5_at_X5_in
set_option maxRecDepth 20000 in
theorem ggX5_at_X5_prints : GoodIn wsX5_at wsX5_prints := goodIn_r _ [13, 3, 4, 5, 14, 15, 16, 8, 17, 18, 19, 20, 21, 22, 23, 24, 25, 26, 27, 28, 29, 30, 31, 32, 33, 34, 35, 36, 37, 38, 39, 40, 41, 42, 43, 44, 45, 46, 47, 48, 49, 50, 51, 52, 53, 54, 55, 56, 57, 58, 59] (by decide +kernel) (by decide +kernel)
set_option maxRecDepth 20000 in
theorem gX5_at_X5_prints : GoodIn wsX5_at (wsV RX5 87 RX5 yX5_prints wsX5_prints) := goodIn_app (goodIn_of _ (by decide +kernel)) ggX5_at_X5_prints
set_option maxRecDepth 20000 in
theorem ggX5_at_X5_dry : GoodIn wsX5_at wsX5_dry := goodIn_r _ [37, 5, 3, 46, 47, 48, 49, 50, 51, 52, 53, 54, 55, 56, 57, 58, 59] (by decide +kernel) (by decide +kernel)
set_option maxRecDepth 20000 in
theorem gX5_at_X5_dry : GoodIn wsX5_at (wsV RX5 66 RX5 yX5_dry wsX5_dry) := goodIn_app (goodIn_of _ (by decide +kernel)) ggX5_at_X5_dry
set_option maxRecDepth 20000 in
theorem ggX5_at_X5_taken : GoodIn wsX5_at wsX5_taken := goodIn_r _ [33, 5, 34, 35, 36, 8, 37, 3, 38, 39, 40, 41, 22, 23, 24, 25, 42, 43, 44, 45, 46, 47, 48, 49, 50, 51, 52, 53, 54, 55, 56, 57, 58, 59] (by decide +kernel) (by decide +kernel)
set_option maxRecDepth 20000 in
theorem gX5_at_X5_taken : GoodIn wsX5_at (wsV RX5 75 RX5 yX5_taken wsX5_taken) := goodIn_app (goodIn_of _ (by decide +kernel)) ggX5_at_X5_taken
theorem dX5_at_0 : decode cX5_at 0 = .ok (.iload_n 1, 1) := by decide +kernel
theorem dX5_at_1 : decode cX5_at 1 = .ok (.i2l, 1) := by decide +kernel
theorem dX5_at_2 : decode cX5_at 2 = .ok (.lconst 0, 1) := by decide +kernel
theorem dX5_at_3 : decode cX5_at 3 = .ok (.ldc2_w 149, 3) := by decide +kernel
theorem dX5_at_6 : decode cX5_at 6 = .ok (.invokestatic 44, 3) := by decide +kernel
theorem dX5_at_9 : decode cX5_at 9 = .ok (.ifCond .eq 15, 3) := by decide +kernel
theorem dX5_at_12 : decode cX5_at 12 = .ok (.iload_n 2, 1) := by decide +kernel
theorem dX5_at_13 : decode cX5_at 13 = .ok (.i2l, 1) := by decide +kernel
theorem dX5_at_14 : decode cX5_at 14 = .ok (.lconst 0, 1) := by decide +kernel
theorem dX5_at_15 : decode cX5_at 15 = .ok (.ldc2_w 135, 3) := by decide +kernel
theorem dX5_at_18 : decode cX5_at 18 = .ok (.invokestatic 44, 3) := by decide +kernel
theorem dX5_at_21 : decode cX5_at 21 = .ok (.ifCond .ne 6, 3) := by decide +kernel
theorem dX5_at_24 : decode cX5_at 24 = .ok (.bipush (-2), 2) := by decide +kernel
theorem dX5_at_26 : decode cX5_at 26 = .ok (.ireturn, 1) := by decide +kernel
theorem dX5_at_27 : decode cX5_at 27 = .ok (.aload_n 0, 1) := by decide +kernel
theorem dX5_at_28 : decode cX5_at 28 = .ok (.invokevirtual 87, 3) := by decide +kernel
theorem dX5_at_31 : decode cX5_at 31 = .ok (.iload_n 2, 1) := by decide +kernel
theorem dX5_at_32 : decode cX5_at 32 = .ok (.ifCond .ne 8, 3) := by decide +kernel
theorem dX5_at_35 : decode cX5_at 35 = .ok (.bipush (-6), 2) := by decide +kernel
theorem dX5_at_37 : decode cX5_at 37 = .ok (.goto 4, 3) := by decide +kernel
theorem dX5_at_40 : decode cX5_at 40 = .ok (.iconst 0, 1) := by decide +kernel
theorem dX5_at_41 : decode cX5_at 41 = .ok (.istore_n 3, 1) := by decide +kernel
theorem dX5_at_42 : decode cX5_at 42 = .ok (.iconst 0, 1) := by decide +kernel
theorem dX5_at_43 : decode cX5_at 43 = .ok (.istore 4, 2) := by decide +kernel
theorem dX5_at_45 : decode cX5_at 45 = .ok (.iload 4, 2) := by decide +kernel
theorem dX5_at_47 : decode cX5_at 47 = .ok (.aload_n 0, 1) := by decide +kernel
theorem dX5_at_48 : decode cX5_at 48 = .ok (.getfield 7, 3) := by decide +kernel
theorem dX5_at_51 : decode cX5_at 51 = .ok (.bipush 7, 2) := by decide +kernel
theorem dX5_at_53 : decode cX5_at 53 = .ok (.iaload, 1) := by decide +kernel
theorem dX5_at_54 : decode cX5_at 54 = .ok (.if_icmp .ge 96, 3) := by decide +kernel
theorem dX5_at_57 : decode cX5_at 57 = .ok (.iload_n 2, 1) := by decide +kernel
theorem dX5_at_58 : decode cX5_at 58 = .ok (.ifCond .ne 35, 3) := by decide +kernel
theorem dX5_at_61 : decode cX5_at 61 = .ok (.aload_n 0, 1) := by decide +kernel
theorem dX5_at_62 : decode cX5_at 62 = .ok (.getfield 25, 3) := by decide +kernel
theorem dX5_at_65 : decode cX5_at 65 = .ok (.iload 4, 2) := by decide +kernel
theorem dX5_at_67 : decode cX5_at 67 = .ok (.iaload, 1) := by decide +kernel
theorem dX5_at_68 : decode cX5_at 68 = .ok (.iload_n 1, 1) := by decide +kernel
theorem dX5_at_69 : decode cX5_at 69 = .ok (.if_icmp .gt 19, 3) := by decide +kernel
theorem dX5_at_72 : decode cX5_at 72 = .ok (.iload_n 1, 1) := by decide +kernel
theorem dX5_at_73 : decode cX5_at 73 = .ok (.aload_n 0, 1) := by decide +kernel
theorem dX5_at_74 : decode cX5_at 74 = .ok (.getfield 28, 3) := by decide +kernel
theorem dX5_at_77 : decode cX5_at 77 = .ok (.iload 4, 2) := by decide +kernel
theorem dX5_at_79 : decode cX5_at 79 = .ok (.iaload, 1) := by decide +kernel
theorem dX5_at_80 : decode cX5_at 80 = .ok (.if_icmp .ge 8, 3) := by decide +kernel
theorem dX5_at_83 : decode cX5_at 83 = .ok (.iload 4, 2) := by decide +kernel
theorem dX5_at_85 : decode cX5_at 85 = .ok (.goto 4, 3) := by decide +kernel
theorem dX5_at_88 : decode cX5_at 88 = .ok (.iload_n 3, 1) := by decide +kernel
theorem dX5_at_89 : decode cX5_at 89 = .ok (.istore_n 3, 1) := by decide +kernel
theorem dX5_at_90 : decode cX5_at 90 = .ok (.goto 54, 3) := by decide +kernel
theorem dX5_at_93 : decode cX5_at 93 = .ok (.iload_n 3, 1) := by decide +kernel
theorem dX5_at_94 : decode cX5_at 94 = .ok (.iload_n 2, 1) := by decide +kernel
theorem dX5_at_95 : decode cX5_at 95 = .ok (.iconst 2, 1) := by decide +kernel
theorem dX5_at_96 : decode cX5_at 96 = .ok (.if_icmp .ne 22, 3) := by decide +kernel
theorem dX5_at_99 : decode cX5_at 99 = .ok (.aload_n 0, 1) := by decide +kernel
theorem dX5_at_100 : decode cX5_at 100 = .ok (.getfield 28, 3) := by decide +kernel
theorem dX5_at_103 : decode cX5_at 103 = .ok (.iload 4, 2) := by decide +kernel
theorem dX5_at_105 : decode cX5_at 105 = .ok (.iaload, 1) := by decide +kernel
theorem dX5_at_106 : decode cX5_at 106 = .ok (.iload_n 1, 1) := by decide +kernel
theorem dX5_at_107 : decode cX5_at 107 = .ok (.if_icmp .gt 7, 3) := by decide +kernel
theorem dX5_at_110 : decode cX5_at 110 = .ok (.iconst 1, 1) := by decide +kernel
theorem dX5_at_111 : decode cX5_at 111 = .ok (.goto 31, 3) := by decide +kernel
theorem dX5_at_114 : decode cX5_at 114 = .ok (.iconst 0, 1) := by decide +kernel
theorem dX5_at_115 : decode cX5_at 115 = .ok (.goto 27, 3) := by decide +kernel
theorem dX5_at_118 : decode cX5_at 118 = .ok (.iload_n 2, 1) := by decide +kernel
theorem dX5_at_119 : decode cX5_at 119 = .ok (.iconst 3, 1) := by decide +kernel
theorem dX5_at_120 : decode cX5_at 120 = .ok (.if_icmp .ne 21, 3) := by decide +kernel
theorem dX5_at_123 : decode cX5_at 123 = .ok (.aload_n 0, 1) := by decide +kernel
theorem dX5_at_124 : decode cX5_at 124 = .ok (.iload 4, 2) := by decide +kernel
theorem dX5_at_126 : decode cX5_at 126 = .ok (.invokevirtual 66, 3) := by decide +kernel
theorem dX5_at_129 : decode cX5_at 129 = .ok (.iload_n 1, 1) := by decide +kernel
theorem dX5_at_130 : decode cX5_at 130 = .ok (.if_icmp .gt 7, 3) := by decide +kernel
theorem dX5_at_133 : decode cX5_at 133 = .ok (.iconst 1, 1) := by decide +kernel
theorem dX5_at_134 : decode cX5_at 134 = .ok (.goto 8, 3) := by decide +kernel
theorem dX5_at_137 : decode cX5_at 137 = .ok (.iconst 0, 1) := by decide +kernel
theorem dX5_at_138 : decode cX5_at 138 = .ok (.goto 4, 3) := by decide +kernel
theorem dX5_at_141 : decode cX5_at 141 = .ok (.iconst 0, 1) := by decide +kernel
theorem dX5_at_142 : decode cX5_at 142 = .ok (.iadd, 1) := by decide +kernel
theorem dX5_at_143 : decode cX5_at 143 = .ok (.istore_n 3, 1) := by decide +kernel
theorem dX5_at_144 : decode cX5_at 144 = .ok (.iinc 4 1, 3) := by decide +kernel
theorem dX5_at_147 : decode cX5_at 147 = .ok (.goto (-102), 3) := by decide +kernel
theorem dX5_at_150 : decode cX5_at 150 = .ok (.iload_n 2, 1) := by decide +kernel
theorem dX5_at_151 : decode cX5_at 151 = .ok (.iconst 1, 1) := by decide +kernel
theorem dX5_at_152 : decode cX5_at 152 = .ok (.if_icmp .ne 18, 3) := by decide +kernel
theorem dX5_at_155 : decode cX5_at 155 = .ok (.aload_n 0, 1) := by decide +kernel
theorem dX5_at_156 : decode cX5_at 156 = .ok (.aload_n 0, 1) := by decide +kernel
theorem dX5_at_157 : decode cX5_at 157 = .ok (.getfield 7, 3) := by decide +kernel
theorem dX5_at_160 : decode cX5_at 160 = .ok (.bipush 7, 2) := by decide +kernel
theorem dX5_at_162 : decode cX5_at 162 = .ok (.iaload, 1) := by decide +kernel
theorem dX5_at_163 : decode cX5_at 163 = .ok (.iload_n 1, 1) := by decide +kernel
theorem dX5_at_164 : decode cX5_at 164 = .ok (.invokevirtual 75, 3) := by decide +kernel
theorem dX5_at_167 : decode cX5_at 167 = .ok (.goto 4, 3) := by decide +kernel
theorem dX5_at_170 : decode cX5_at 170 = .ok (.iload_n 3, 1) := by decide +kernel
theorem dX5_at_171 : decode cX5_at 171 = .ok (.ireturn, 1) := by decide +kernel
set_option maxRecDepth 20000 in
theorem ggX5_ifOrdered_X5_in : GoodIn wsX5_ifOrdered wsX5_in := goodIn_r _ [5] (by decide +kernel) (by decide +kernel)
set_option maxRecDepth 20000 in
theorem gX5_ifOrdered_X5_in : GoodIn wsX5_ifOrdered (va_wsS RX5 44 yX5_in wsX5_in) := goodIn_app (goodIn_of _ (by decide +kernel)) ggX5_ifOrdered_X5_in
set_option maxRecDepth 20000 in
theorem ggX5_ifOrdered_X5_keeps : GoodIn wsX5_ifOrdered wsX5_keeps := goodIn_r _ [9, 10, 11, 86, 87, 88, 89, 90, 91, 92, 93, 94, 95, 96, 97, 98, 99] (by decide +kernel) (by decide +kernel)
set_option maxRecDepth 20000 in
theorem gX5_ifOrdered_X5_keeps : GoodIn wsX5_ifOrdered (wsV RX5 151 RX5 yX5_keeps wsX5_keeps) := goodIn_app (goodIn_of _ (by decide +kernel)) ggX5_ifOrdered_X5_keeps
set_option maxRecDepth 20000 in
theorem ggX5_ifOrdered_X5_orders : GoodIn wsX5_ifOrdered wsX5_orders := goodIn_r _ [15, 11, 16, 17, 18, 4, 19, 20, 21, 22, 23, 24, 25, 26, 27, 86, 87, 88, 89, 90, 91, 92, 93, 94, 95, 96, 97, 98, 99] (by decide +kernel) (by decide +kernel)
set_option maxRecDepth 20000 in
theorem gX5_ifOrdered_X5_orders : GoodIn wsX5_ifOrdered (wsV RX5 137 RX5 yX5_orders wsX5_orders) := goodIn_app (goodIn_of _ (by decide +kernel)) ggX5_ifOrdered_X5_orders
set_option maxRecDepth 20000 in
theorem ggX5_ifOrdered_X5_prints : GoodIn wsX5_ifOrdered wsX5_prints := goodIn_r _ [31, 11, 32, 33, 34, 35, 36, 4, 37, 38, 39, 40, 41, 20, 21, 22, 23, 42, 43, 44, 45, 46, 47, 48, 49, 50, 51, 52, 53, 54, 55, 56, 57, 58, 59, 60, 61, 86, 87, 88, 89, 90, 91, 92, 93, 94, 95, 96, 97, 98, 99] (by decide +kernel) (by decide +kernel)
set_option maxRecDepth 20000 in
theorem gX5_ifOrdered_X5_prints : GoodIn wsX5_ifOrdered (wsV RX5 87 RX5 yX5_prints wsX5_prints) := goodIn_app (goodIn_of _ (by decide +kernel)) ggX5_ifOrdered_X5_prints
set_option maxRecDepth 20000 in
theorem ggX5_ifOrdered_X5_greatestOf : GoodIn wsX5_ifOrdered wsX5_greatestOf := goodIn_r _ [65, 11, 33, 50, 51, 52, 4, 53, 66, 67, 68, 69, 20, 21, 22, 23, 46, 47, 48, 49, 54, 55, 56, 57, 58, 59, 60, 61, 86, 87, 88, 89, 90, 91, 92, 93, 94, 95, 96, 97, 98, 99] (by decide +kernel) (by decide +kernel)
set_option maxRecDepth 20000 in
theorem gX5_ifOrdered_X5_greatestOf : GoodIn wsX5_ifOrdered (wsV RX5 141 RX5 yX5_greatestOf wsX5_greatestOf) := goodIn_app (goodIn_of _ (by decide +kernel)) ggX5_ifOrdered_X5_greatestOf
set_option maxRecDepth 20000 in
theorem ggX5_ifOrdered_X5_sumOf : GoodIn wsX5_ifOrdered wsX5_sumOf := goodIn_r _ [73, 11, 20, 21, 22, 4, 23, 66, 67, 68, 69, 50, 51, 52, 53, 33, 42, 43, 44, 45, 74, 75, 76, 77, 78, 79, 80, 81, 32, 86, 87, 88, 89, 90, 91, 92, 93, 94, 95, 96, 97, 98, 99] (by decide +kernel) (by decide +kernel)
set_option maxRecDepth 20000 in
theorem gX5_ifOrdered_X5_sumOf : GoodIn wsX5_ifOrdered (wsV RX5 90 RX5 yX5_sumOf wsX5_sumOf) := goodIn_app (goodIn_of _ (by decide +kernel)) ggX5_ifOrdered_X5_sumOf
set_option maxRecDepth 20000 in
theorem ggX5_ifOrdered_X5_comesBack : GoodIn wsX5_ifOrdered wsX5_comesBack := goodIn_r _ [85, 11, 10, 86, 87, 88, 89, 90, 91, 92, 93, 94, 95, 96, 97, 98, 99] (by decide +kernel) (by decide +kernel)
set_option maxRecDepth 20000 in
theorem gX5_ifOrdered_X5_comesBack : GoodIn wsX5_ifOrdered (wsV RX5 154 RX5 yX5_comesBack wsX5_comesBack) := goodIn_app (goodIn_of _ (by decide +kernel)) ggX5_ifOrdered_X5_comesBack
theorem dX5_ifOrdered_0 : decode cX5_ifOrdered 0 = .ok (.iload_n 1, 1) := by decide +kernel
theorem dX5_ifOrdered_1 : decode cX5_ifOrdered 1 = .ok (.i2l, 1) := by decide +kernel
theorem dX5_ifOrdered_2 : decode cX5_ifOrdered 2 = .ok (.lconst 0, 1) := by decide +kernel
theorem dX5_ifOrdered_3 : decode cX5_ifOrdered 3 = .ok (.ldc2_w 135, 3) := by decide +kernel
theorem dX5_ifOrdered_6 : decode cX5_ifOrdered 6 = .ok (.invokestatic 44, 3) := by decide +kernel
theorem dX5_ifOrdered_9 : decode cX5_ifOrdered 9 = .ok (.ifCond .eq 15, 3) := by decide +kernel
theorem dX5_ifOrdered_12 : decode cX5_ifOrdered 12 = .ok (.iload_n 2, 1) := by decide +kernel
theorem dX5_ifOrdered_13 : decode cX5_ifOrdered 13 = .ok (.i2l, 1) := by decide +kernel
theorem dX5_ifOrdered_14 : decode cX5_ifOrdered 14 = .ok (.lconst 0, 1) := by decide +kernel
theorem dX5_ifOrdered_15 : decode cX5_ifOrdered 15 = .ok (.ldc2_w 135, 3) := by decide +kernel
theorem dX5_ifOrdered_18 : decode cX5_ifOrdered 18 = .ok (.invokestatic 44, 3) := by decide +kernel
theorem dX5_ifOrdered_21 : decode cX5_ifOrdered 21 = .ok (.ifCond .ne 6, 3) := by decide +kernel
theorem dX5_ifOrdered_24 : decode cX5_ifOrdered 24 = .ok (.bipush (-2), 2) := by decide +kernel
theorem dX5_ifOrdered_26 : decode cX5_ifOrdered 26 = .ok (.ireturn, 1) := by decide +kernel
theorem dX5_ifOrdered_27 : decode cX5_ifOrdered 27 = .ok (.aload_n 0, 1) := by decide +kernel
theorem dX5_ifOrdered_28 : decode cX5_ifOrdered 28 = .ok (.invokevirtual 151, 3) := by decide +kernel
theorem dX5_ifOrdered_31 : decode cX5_ifOrdered 31 = .ok (.aload_n 0, 1) := by decide +kernel
theorem dX5_ifOrdered_32 : decode cX5_ifOrdered 32 = .ok (.iload_n 1, 1) := by decide +kernel
theorem dX5_ifOrdered_33 : decode cX5_ifOrdered 33 = .ok (.invokevirtual 137, 3) := by decide +kernel
theorem dX5_ifOrdered_36 : decode cX5_ifOrdered 36 = .ok (.aload_n 0, 1) := by decide +kernel
theorem dX5_ifOrdered_37 : decode cX5_ifOrdered 37 = .ok (.invokevirtual 87, 3) := by decide +kernel
theorem dX5_ifOrdered_40 : decode cX5_ifOrdered 40 = .ok (.iload_n 2, 1) := by decide +kernel
theorem dX5_ifOrdered_41 : decode cX5_ifOrdered 41 = .ok (.ifCond .ne 12, 3) := by decide +kernel
theorem dX5_ifOrdered_44 : decode cX5_ifOrdered 44 = .ok (.aload_n 0, 1) := by decide +kernel
theorem dX5_ifOrdered_45 : decode cX5_ifOrdered 45 = .ok (.bipush 10, 2) := by decide +kernel
theorem dX5_ifOrdered_47 : decode cX5_ifOrdered 47 = .ok (.invokevirtual 141, 3) := by decide +kernel
theorem dX5_ifOrdered_50 : decode cX5_ifOrdered 50 = .ok (.goto 29, 3) := by decide +kernel
theorem dX5_ifOrdered_53 : decode cX5_ifOrdered 53 = .ok (.aload_n 0, 1) := by decide +kernel
theorem dX5_ifOrdered_54 : decode cX5_ifOrdered 54 = .ok (.iload_n 2, 1) := by decide +kernel
theorem dX5_ifOrdered_55 : decode cX5_ifOrdered 55 = .ok (.iconst 1, 1) := by decide +kernel
theorem dX5_ifOrdered_56 : decode cX5_ifOrdered 56 = .ok (.if_icmp .ne 8, 3) := by decide +kernel
theorem dX5_ifOrdered_59 : decode cX5_ifOrdered 59 = .ok (.bipush 12, 2) := by decide +kernel
theorem dX5_ifOrdered_61 : decode cX5_ifOrdered 61 = .ok (.goto 15, 3) := by decide +kernel
theorem dX5_ifOrdered_64 : decode cX5_ifOrdered 64 = .ok (.iload_n 2, 1) := by decide +kernel
theorem dX5_ifOrdered_65 : decode cX5_ifOrdered 65 = .ok (.iconst 2, 1) := by decide +kernel
theorem dX5_ifOrdered_66 : decode cX5_ifOrdered 66 = .ok (.if_icmp .ne 8, 3) := by decide +kernel
theorem dX5_ifOrdered_69 : decode cX5_ifOrdered 69 = .ok (.bipush 14, 2) := by decide +kernel
theorem dX5_ifOrdered_71 : decode cX5_ifOrdered 71 = .ok (.goto 5, 3) := by decide +kernel
theorem dX5_ifOrdered_74 : decode cX5_ifOrdered 74 = .ok (.bipush 15, 2) := by decide +kernel
theorem dX5_ifOrdered_76 : decode cX5_ifOrdered 76 = .ok (.invokevirtual 90, 3) := by decide +kernel
theorem dX5_ifOrdered_79 : decode cX5_ifOrdered 79 = .ok (.istore_n 3, 1) := by decide +kernel
theorem dX5_ifOrdered_80 : decode cX5_ifOrdered 80 = .ok (.aload_n 0, 1) := by decide +kernel
theorem dX5_ifOrdered_81 : decode cX5_ifOrdered 81 = .ok (.invokevirtual 154, 3) := by decide +kernel
theorem dX5_ifOrdered_84 : decode cX5_ifOrdered 84 = .ok (.iload_n 3, 1) := by decide +kernel
theorem dX5_ifOrdered_85 : decode cX5_ifOrdered 85 = .ok (.ireturn, 1) := by decide +kernel
set_option maxRecDepth 20000 in
theorem ggX5_bestExchange_X5_in : GoodIn wsX5_bestExchange wsX5_in := goodIn_r _ [6] (by decide +kernel) (by decide +kernel)
set_option maxRecDepth 20000 in
theorem gX5_bestExchange_X5_in : GoodIn wsX5_bestExchange (va_wsS RX5 44 yX5_in wsX5_in) := goodIn_app (goodIn_of _ (by decide +kernel)) ggX5_bestExchange_X5_in
set_option maxRecDepth 20000 in
theorem ggX5_bestExchange_X5_lateAll : GoodIn wsX5_bestExchange wsX5_lateAll := goodIn_r _ [10, 11, 12, 13, 5, 14, 2, 15, 16, 17, 18, 19, 20, 21, 22, 23, 24, 25, 26, 27, 28, 29, 30, 31, 32, 33, 34, 35, 36, 37, 38, 39, 40, 41, 42, 43, 44, 45, 46, 47, 48, 49, 50, 51, 52, 53, 54, 55, 56, 57, 58, 59, 60, 61, 62, 63, 64, 69, 70, 71, 72, 73, 74, 75, 76, 77, 78, 79, 80, 81, 82] (by decide +kernel) (by decide +kernel)
set_option maxRecDepth 20000 in
theorem gX5_bestExchange_X5_lateAll : GoodIn wsX5_bestExchange (wsV RX5 129 RX5 yX5_lateAll wsX5_lateAll) := goodIn_app (goodIn_of _ (by decide +kernel)) ggX5_bestExchange_X5_lateAll
set_option maxRecDepth 20000 in
theorem ggX5_bestExchange_X5_exchanges : GoodIn wsX5_bestExchange wsX5_exchanges := goodIn_r _ [68, 2, 25, 26, 27, 5, 28, 69, 70, 71, 72, 73, 74, 75, 76, 77, 78, 79, 80, 81, 82] (by decide +kernel) (by decide +kernel)
set_option maxRecDepth 20000 in
theorem gX5_bestExchange_X5_exchanges : GoodIn wsX5_bestExchange (wsV RX5 56 RX5 yX5_exchanges wsX5_exchanges) := goodIn_app (goodIn_of _ (by decide +kernel)) ggX5_bestExchange_X5_exchanges
theorem dX5_bestExchange_0 : decode cX5_bestExchange 0 = .ok (.iload_n 1, 1) := by decide +kernel
theorem dX5_bestExchange_1 : decode cX5_bestExchange 1 = .ok (.i2l, 1) := by decide +kernel
theorem dX5_bestExchange_2 : decode cX5_bestExchange 2 = .ok (.lconst 0, 1) := by decide +kernel
theorem dX5_bestExchange_3 : decode cX5_bestExchange 3 = .ok (.ldc2_w 157, 3) := by decide +kernel
theorem dX5_bestExchange_6 : decode cX5_bestExchange 6 = .ok (.invokestatic 44, 3) := by decide +kernel
theorem dX5_bestExchange_9 : decode cX5_bestExchange 9 = .ok (.ifCond .ne 6, 3) := by decide +kernel
theorem dX5_bestExchange_12 : decode cX5_bestExchange 12 = .ok (.bipush (-2), 2) := by decide +kernel
theorem dX5_bestExchange_14 : decode cX5_bestExchange 14 = .ok (.ireturn, 1) := by decide +kernel
theorem dX5_bestExchange_15 : decode cX5_bestExchange 15 = .ok (.aload_n 0, 1) := by decide +kernel
theorem dX5_bestExchange_16 : decode cX5_bestExchange 16 = .ok (.invokevirtual 129, 3) := by decide +kernel
theorem dX5_bestExchange_19 : decode cX5_bestExchange 19 = .ok (.istore_n 2, 1) := by decide +kernel
theorem dX5_bestExchange_20 : decode cX5_bestExchange 20 = .ok (.bipush (-6), 2) := by decide +kernel
theorem dX5_bestExchange_22 : decode cX5_bestExchange 22 = .ok (.istore_n 3, 1) := by decide +kernel
theorem dX5_bestExchange_23 : decode cX5_bestExchange 23 = .ok (.bipush (-6), 2) := by decide +kernel
theorem dX5_bestExchange_25 : decode cX5_bestExchange 25 = .ok (.istore 4, 2) := by decide +kernel
theorem dX5_bestExchange_27 : decode cX5_bestExchange 27 = .ok (.iconst 0, 1) := by decide +kernel
theorem dX5_bestExchange_28 : decode cX5_bestExchange 28 = .ok (.istore 5, 2) := by decide +kernel
theorem dX5_bestExchange_30 : decode cX5_bestExchange 30 = .ok (.iload 5, 2) := by decide +kernel
theorem dX5_bestExchange_32 : decode cX5_bestExchange 32 = .ok (.aload_n 0, 1) := by decide +kernel
theorem dX5_bestExchange_33 : decode cX5_bestExchange 33 = .ok (.getfield 7, 3) := by decide +kernel
theorem dX5_bestExchange_36 : decode cX5_bestExchange 36 = .ok (.bipush 7, 2) := by decide +kernel
theorem dX5_bestExchange_38 : decode cX5_bestExchange 38 = .ok (.iaload, 1) := by decide +kernel
theorem dX5_bestExchange_39 : decode cX5_bestExchange 39 = .ok (.if_icmp .ge 106, 3) := by decide +kernel
theorem dX5_bestExchange_42 : decode cX5_bestExchange 42 = .ok (.iload 5, 2) := by decide +kernel
theorem dX5_bestExchange_44 : decode cX5_bestExchange 44 = .ok (.iconst 1, 1) := by decide +kernel
theorem dX5_bestExchange_45 : decode cX5_bestExchange 45 = .ok (.iadd, 1) := by decide +kernel
theorem dX5_bestExchange_46 : decode cX5_bestExchange 46 = .ok (.istore 6, 2) := by decide +kernel
theorem dX5_bestExchange_48 : decode cX5_bestExchange 48 = .ok (.iload 6, 2) := by decide +kernel
theorem dX5_bestExchange_50 : decode cX5_bestExchange 50 = .ok (.aload_n 0, 1) := by decide +kernel
theorem dX5_bestExchange_51 : decode cX5_bestExchange 51 = .ok (.getfield 7, 3) := by decide +kernel
theorem dX5_bestExchange_54 : decode cX5_bestExchange 54 = .ok (.bipush 7, 2) := by decide +kernel
theorem dX5_bestExchange_56 : decode cX5_bestExchange 56 = .ok (.iaload, 1) := by decide +kernel
theorem dX5_bestExchange_57 : decode cX5_bestExchange 57 = .ok (.if_icmp .ge 82, 3) := by decide +kernel
theorem dX5_bestExchange_60 : decode cX5_bestExchange 60 = .ok (.aload_n 0, 1) := by decide +kernel
theorem dX5_bestExchange_61 : decode cX5_bestExchange 61 = .ok (.iload 5, 2) := by decide +kernel
theorem dX5_bestExchange_63 : decode cX5_bestExchange 63 = .ok (.iload 6, 2) := by decide +kernel
theorem dX5_bestExchange_65 : decode cX5_bestExchange 65 = .ok (.invokevirtual 56, 3) := by decide +kernel
theorem dX5_bestExchange_68 : decode cX5_bestExchange 68 = .ok (.aload_n 0, 1) := by decide +kernel
theorem dX5_bestExchange_69 : decode cX5_bestExchange 69 = .ok (.invokevirtual 129, 3) := by decide +kernel
theorem dX5_bestExchange_72 : decode cX5_bestExchange 72 = .ok (.istore 7, 2) := by decide +kernel
theorem dX5_bestExchange_74 : decode cX5_bestExchange 74 = .ok (.aload_n 0, 1) := by decide +kernel
theorem dX5_bestExchange_75 : decode cX5_bestExchange 75 = .ok (.iload 5, 2) := by decide +kernel
theorem dX5_bestExchange_77 : decode cX5_bestExchange 77 = .ok (.iload 6, 2) := by decide +kernel
theorem dX5_bestExchange_79 : decode cX5_bestExchange 79 = .ok (.invokevirtual 56, 3) := by decide +kernel
theorem dX5_bestExchange_82 : decode cX5_bestExchange 82 = .ok (.iload 7, 2) := by decide +kernel
theorem dX5_bestExchange_84 : decode cX5_bestExchange 84 = .ok (.iload_n 2, 1) := by decide +kernel
theorem dX5_bestExchange_85 : decode cX5_bestExchange 85 = .ok (.if_icmp .ge 7, 3) := by decide +kernel
theorem dX5_bestExchange_88 : decode cX5_bestExchange 88 = .ok (.iconst 1, 1) := by decide +kernel
theorem dX5_bestExchange_89 : decode cX5_bestExchange 89 = .ok (.goto 4, 3) := by decide +kernel
theorem dX5_bestExchange_92 : decode cX5_bestExchange 92 = .ok (.iconst 0, 1) := by decide +kernel
theorem dX5_bestExchange_93 : decode cX5_bestExchange 93 = .ok (.istore 8, 2) := by decide +kernel
theorem dX5_bestExchange_95 : decode cX5_bestExchange 95 = .ok (.iload 8, 2) := by decide +kernel
theorem dX5_bestExchange_97 : decode cX5_bestExchange 97 = .ok (.ifCond .eq 8, 3) := by decide +kernel
theorem dX5_bestExchange_100 : decode cX5_bestExchange 100 = .ok (.iload 5, 2) := by decide +kernel
theorem dX5_bestExchange_102 : decode cX5_bestExchange 102 = .ok (.goto 4, 3) := by decide +kernel
theorem dX5_bestExchange_105 : decode cX5_bestExchange 105 = .ok (.iload_n 3, 1) := by decide +kernel
theorem dX5_bestExchange_106 : decode cX5_bestExchange 106 = .ok (.istore_n 3, 1) := by decide +kernel
theorem dX5_bestExchange_107 : decode cX5_bestExchange 107 = .ok (.iload 8, 2) := by decide +kernel
theorem dX5_bestExchange_109 : decode cX5_bestExchange 109 = .ok (.ifCond .eq 8, 3) := by decide +kernel
theorem dX5_bestExchange_112 : decode cX5_bestExchange 112 = .ok (.iload 6, 2) := by decide +kernel
theorem dX5_bestExchange_114 : decode cX5_bestExchange 114 = .ok (.goto 5, 3) := by decide +kernel
theorem dX5_bestExchange_117 : decode cX5_bestExchange 117 = .ok (.iload 4, 2) := by decide +kernel
theorem dX5_bestExchange_119 : decode cX5_bestExchange 119 = .ok (.istore 4, 2) := by decide +kernel
theorem dX5_bestExchange_121 : decode cX5_bestExchange 121 = .ok (.iload 8, 2) := by decide +kernel
theorem dX5_bestExchange_123 : decode cX5_bestExchange 123 = .ok (.ifCond .eq 8, 3) := by decide +kernel
theorem dX5_bestExchange_126 : decode cX5_bestExchange 126 = .ok (.iload 7, 2) := by decide +kernel
theorem dX5_bestExchange_128 : decode cX5_bestExchange 128 = .ok (.goto 4, 3) := by decide +kernel
theorem dX5_bestExchange_131 : decode cX5_bestExchange 131 = .ok (.iload_n 2, 1) := by decide +kernel
theorem dX5_bestExchange_132 : decode cX5_bestExchange 132 = .ok (.istore_n 2, 1) := by decide +kernel
theorem dX5_bestExchange_133 : decode cX5_bestExchange 133 = .ok (.iinc 6 1, 3) := by decide +kernel
theorem dX5_bestExchange_136 : decode cX5_bestExchange 136 = .ok (.goto (-88), 3) := by decide +kernel
theorem dX5_bestExchange_139 : decode cX5_bestExchange 139 = .ok (.iinc 5 1, 3) := by decide +kernel
theorem dX5_bestExchange_142 : decode cX5_bestExchange 142 = .ok (.goto (-112), 3) := by decide +kernel
theorem dX5_bestExchange_145 : decode cX5_bestExchange 145 = .ok (.iload_n 3, 1) := by decide +kernel
theorem dX5_bestExchange_146 : decode cX5_bestExchange 146 = .ok (.bipush (-6), 2) := by decide +kernel
theorem dX5_bestExchange_148 : decode cX5_bestExchange 148 = .ok (.if_icmp .eq 7, 3) := by decide +kernel
theorem dX5_bestExchange_151 : decode cX5_bestExchange 151 = .ok (.iload_n 1, 1) := by decide +kernel
theorem dX5_bestExchange_152 : decode cX5_bestExchange 152 = .ok (.ifCond .ne 7, 3) := by decide +kernel
theorem dX5_bestExchange_155 : decode cX5_bestExchange 155 = .ok (.iload_n 3, 1) := by decide +kernel
theorem dX5_bestExchange_156 : decode cX5_bestExchange 156 = .ok (.goto 14, 3) := by decide +kernel
theorem dX5_bestExchange_159 : decode cX5_bestExchange 159 = .ok (.iload_n 1, 1) := by decide +kernel
theorem dX5_bestExchange_160 : decode cX5_bestExchange 160 = .ok (.iconst 1, 1) := by decide +kernel
theorem dX5_bestExchange_161 : decode cX5_bestExchange 161 = .ok (.if_icmp .ne 8, 3) := by decide +kernel
theorem dX5_bestExchange_164 : decode cX5_bestExchange 164 = .ok (.iload 4, 2) := by decide +kernel
theorem dX5_bestExchange_166 : decode cX5_bestExchange 166 = .ok (.goto 4, 3) := by decide +kernel
theorem dX5_bestExchange_169 : decode cX5_bestExchange 169 = .ok (.iload_n 2, 1) := by decide +kernel
theorem dX5_bestExchange_170 : decode cX5_bestExchange 170 = .ok (.ireturn, 1) := by decide +kernel
set_option maxRecDepth 20000 in
theorem ggX5_bestFirst_X5_moves : GoodIn wsX5_bestFirst wsX5_moves := goodIn_r _ [6, 7, 8, 9, 5, 10, 1, 11, 12, 13, 14, 69, 70, 71, 72, 73, 74, 75, 76, 77, 78, 79, 80, 81, 82] (by decide +kernel) (by decide +kernel)
set_option maxRecDepth 20000 in
theorem gX5_bestFirst_X5_moves : GoodIn wsX5_bestFirst (wsV RX5 126 RX5 yX5_moves wsX5_moves) := goodIn_app (goodIn_of _ (by decide +kernel)) ggX5_bestFirst_X5_moves
set_option maxRecDepth 20000 in
theorem ggX5_bestFirst_X5_lateAll : GoodIn wsX5_bestFirst wsX5_lateAll := goodIn_r _ [18, 19, 20, 21, 5, 22, 1, 23, 24, 25, 26, 27, 28, 29, 30, 31, 32, 11, 12, 13, 14, 33, 34, 35, 36, 37, 38, 39, 40, 41, 42, 43, 44, 45, 46, 47, 48, 49, 50, 51, 52, 53, 54, 55, 56, 57, 58, 59, 60, 61, 62, 63, 64, 65, 66, 67, 68, 69, 70, 71, 72, 73, 74, 75, 76, 77, 78, 79, 80, 81, 82] (by decide +kernel) (by decide +kernel)
set_option maxRecDepth 20000 in
theorem gX5_bestFirst_X5_lateAll : GoodIn wsX5_bestFirst (wsV RX5 129 RX5 yX5_lateAll wsX5_lateAll) := goodIn_app (goodIn_of _ (by decide +kernel)) ggX5_bestFirst_X5_lateAll
theorem dX5_bestFirst_0 : decode cX5_bestFirst 0 = .ok (.bipush (-6), 2) := by decide +kernel
theorem dX5_bestFirst_2 : decode cX5_bestFirst 2 = .ok (.istore_n 1, 1) := by decide +kernel
theorem dX5_bestFirst_3 : decode cX5_bestFirst 3 = .ok (.iconst 0, 1) := by decide +kernel
theorem dX5_bestFirst_4 : decode cX5_bestFirst 4 = .ok (.istore_n 2, 1) := by decide +kernel
theorem dX5_bestFirst_5 : decode cX5_bestFirst 5 = .ok (.iconst 0, 1) := by decide +kernel
theorem dX5_bestFirst_6 : decode cX5_bestFirst 6 = .ok (.istore_n 3, 1) := by decide +kernel
theorem dX5_bestFirst_7 : decode cX5_bestFirst 7 = .ok (.iload_n 3, 1) := by decide +kernel
theorem dX5_bestFirst_8 : decode cX5_bestFirst 8 = .ok (.aload_n 0, 1) := by decide +kernel
theorem dX5_bestFirst_9 : decode cX5_bestFirst 9 = .ok (.getfield 7, 3) := by decide +kernel
theorem dX5_bestFirst_12 : decode cX5_bestFirst 12 = .ok (.bipush 7, 2) := by decide +kernel
theorem dX5_bestFirst_14 : decode cX5_bestFirst 14 = .ok (.iaload, 1) := by decide +kernel
theorem dX5_bestFirst_15 : decode cX5_bestFirst 15 = .ok (.if_icmp .ge 69, 3) := by decide +kernel
theorem dX5_bestFirst_18 : decode cX5_bestFirst 18 = .ok (.aload_n 0, 1) := by decide +kernel
theorem dX5_bestFirst_19 : decode cX5_bestFirst 19 = .ok (.iload_n 3, 1) := by decide +kernel
theorem dX5_bestFirst_20 : decode cX5_bestFirst 20 = .ok (.iconst 0, 1) := by decide +kernel
theorem dX5_bestFirst_21 : decode cX5_bestFirst 21 = .ok (.invokevirtual 126, 3) := by decide +kernel
theorem dX5_bestFirst_24 : decode cX5_bestFirst 24 = .ok (.aload_n 0, 1) := by decide +kernel
theorem dX5_bestFirst_25 : decode cX5_bestFirst 25 = .ok (.invokevirtual 129, 3) := by decide +kernel
theorem dX5_bestFirst_28 : decode cX5_bestFirst 28 = .ok (.istore 4, 2) := by decide +kernel
theorem dX5_bestFirst_30 : decode cX5_bestFirst 30 = .ok (.aload_n 0, 1) := by decide +kernel
theorem dX5_bestFirst_31 : decode cX5_bestFirst 31 = .ok (.iconst 0, 1) := by decide +kernel
theorem dX5_bestFirst_32 : decode cX5_bestFirst 32 = .ok (.iload_n 3, 1) := by decide +kernel
theorem dX5_bestFirst_33 : decode cX5_bestFirst 33 = .ok (.invokevirtual 126, 3) := by decide +kernel
theorem dX5_bestFirst_36 : decode cX5_bestFirst 36 = .ok (.iload_n 1, 1) := by decide +kernel
theorem dX5_bestFirst_37 : decode cX5_bestFirst 37 = .ok (.bipush (-6), 2) := by decide +kernel
theorem dX5_bestFirst_39 : decode cX5_bestFirst 39 = .ok (.if_icmp .eq 9, 3) := by decide +kernel
theorem dX5_bestFirst_42 : decode cX5_bestFirst 42 = .ok (.iload 4, 2) := by decide +kernel
theorem dX5_bestFirst_44 : decode cX5_bestFirst 44 = .ok (.iload_n 2, 1) := by decide +kernel
theorem dX5_bestFirst_45 : decode cX5_bestFirst 45 = .ok (.if_icmp .ge 7, 3) := by decide +kernel
theorem dX5_bestFirst_48 : decode cX5_bestFirst 48 = .ok (.iconst 1, 1) := by decide +kernel
theorem dX5_bestFirst_49 : decode cX5_bestFirst 49 = .ok (.goto 4, 3) := by decide +kernel
theorem dX5_bestFirst_52 : decode cX5_bestFirst 52 = .ok (.iconst 0, 1) := by decide +kernel
theorem dX5_bestFirst_53 : decode cX5_bestFirst 53 = .ok (.istore 5, 2) := by decide +kernel
theorem dX5_bestFirst_55 : decode cX5_bestFirst 55 = .ok (.iload 5, 2) := by decide +kernel
theorem dX5_bestFirst_57 : decode cX5_bestFirst 57 = .ok (.ifCond .eq 7, 3) := by decide +kernel
theorem dX5_bestFirst_60 : decode cX5_bestFirst 60 = .ok (.iload_n 3, 1) := by decide +kernel
theorem dX5_bestFirst_61 : decode cX5_bestFirst 61 = .ok (.goto 4, 3) := by decide +kernel
theorem dX5_bestFirst_64 : decode cX5_bestFirst 64 = .ok (.iload_n 1, 1) := by decide +kernel
theorem dX5_bestFirst_65 : decode cX5_bestFirst 65 = .ok (.istore_n 1, 1) := by decide +kernel
theorem dX5_bestFirst_66 : decode cX5_bestFirst 66 = .ok (.iload 5, 2) := by decide +kernel
theorem dX5_bestFirst_68 : decode cX5_bestFirst 68 = .ok (.ifCond .eq 8, 3) := by decide +kernel
theorem dX5_bestFirst_71 : decode cX5_bestFirst 71 = .ok (.iload 4, 2) := by decide +kernel
theorem dX5_bestFirst_73 : decode cX5_bestFirst 73 = .ok (.goto 4, 3) := by decide +kernel
theorem dX5_bestFirst_76 : decode cX5_bestFirst 76 = .ok (.iload_n 2, 1) := by decide +kernel
theorem dX5_bestFirst_77 : decode cX5_bestFirst 77 = .ok (.istore_n 2, 1) := by decide +kernel
theorem dX5_bestFirst_78 : decode cX5_bestFirst 78 = .ok (.iinc 3 1, 3) := by decide +kernel
theorem dX5_bestFirst_81 : decode cX5_bestFirst 81 = .ok (.goto (-74), 3) := by decide +kernel
theorem dX5_bestFirst_84 : decode cX5_bestFirst 84 = .ok (.iload_n 1, 1) := by decide +kernel
theorem dX5_bestFirst_85 : decode cX5_bestFirst 85 = .ok (.ireturn, 1) := by decide +kernel
set_option maxRecDepth 20000 in
theorem ggX5_leastRacks_X5_mostNeeded : GoodIn wsX5_leastRacks wsX5_mostNeeded := goodIn_r _ [6, 1, 7, 8, 9, 5, 10, 11, 12, 13, 14, 15, 16, 17, 18, 61, 62, 63, 64, 65, 66, 67, 68, 69, 70, 71, 72, 73, 74] (by decide +kernel) (by decide +kernel)
set_option maxRecDepth 20000 in
theorem gX5_leastRacks_X5_mostNeeded : GoodIn wsX5_leastRacks (wsV RX5 109 RX5 yX5_mostNeeded wsX5_mostNeeded) := goodIn_app (goodIn_of _ (by decide +kernel)) ggX5_leastRacks_X5_mostNeeded
set_option maxRecDepth 20000 in
theorem ggX5_leastRacks_X5_prints : GoodIn wsX5_leastRacks wsX5_prints := goodIn_r _ [22, 1, 23, 24, 25, 26, 27, 5, 28, 29, 30, 31, 32, 11, 12, 13, 14, 33, 34, 35, 36, 37, 38, 39, 40, 41, 42, 43, 44, 7, 8, 9, 10, 15, 16, 17, 18, 61, 62, 63, 64, 65, 66, 67, 68, 69, 70, 71, 72, 73, 74] (by decide +kernel) (by decide +kernel)
set_option maxRecDepth 20000 in
theorem gX5_leastRacks_X5_prints : GoodIn wsX5_leastRacks (wsV RX5 87 RX5 yX5_prints wsX5_prints) := goodIn_app (goodIn_of _ (by decide +kernel)) ggX5_leastRacks_X5_prints
set_option maxRecDepth 20000 in
theorem ggX5_leastRacks_X5_sumOf : GoodIn wsX5_leastRacks wsX5_sumOf := goodIn_r _ [48, 1, 11, 12, 13, 5, 14, 49, 50, 51, 52, 41, 42, 43, 44, 24, 33, 34, 35, 36, 53, 54, 55, 56, 57, 58, 59, 60, 23, 61, 62, 63, 64, 65, 66, 67, 68, 69, 70, 71, 72, 73, 74] (by decide +kernel) (by decide +kernel)
set_option maxRecDepth 20000 in
theorem gX5_leastRacks_X5_sumOf : GoodIn wsX5_leastRacks (wsV RX5 90 RX5 yX5_sumOf wsX5_sumOf) := goodIn_app (goodIn_of _ (by decide +kernel)) ggX5_leastRacks_X5_sumOf
theorem dX5_leastRacks_0 : decode cX5_leastRacks 0 = .ok (.aload_n 0, 1) := by decide +kernel
theorem dX5_leastRacks_1 : decode cX5_leastRacks 1 = .ok (.getfield 7, 3) := by decide +kernel
theorem dX5_leastRacks_4 : decode cX5_leastRacks 4 = .ok (.iconst 5, 1) := by decide +kernel
theorem dX5_leastRacks_5 : decode cX5_leastRacks 5 = .ok (.iaload, 1) := by decide +kernel
theorem dX5_leastRacks_6 : decode cX5_leastRacks 6 = .ok (.istore_n 1, 1) := by decide +kernel
theorem dX5_leastRacks_7 : decode cX5_leastRacks 7 = .ok (.iconst 3, 1) := by decide +kernel
theorem dX5_leastRacks_8 : decode cX5_leastRacks 8 = .ok (.istore_n 2, 1) := by decide +kernel
theorem dX5_leastRacks_9 : decode cX5_leastRacks 9 = .ok (.iconst 0, 1) := by decide +kernel
theorem dX5_leastRacks_10 : decode cX5_leastRacks 10 = .ok (.istore_n 3, 1) := by decide +kernel
theorem dX5_leastRacks_11 : decode cX5_leastRacks 11 = .ok (.iload_n 2, 1) := by decide +kernel
theorem dX5_leastRacks_12 : decode cX5_leastRacks 12 = .ok (.bipush 20, 2) := by decide +kernel
theorem dX5_leastRacks_14 : decode cX5_leastRacks 14 = .ok (.if_icmp .ge 47, 3) := by decide +kernel
theorem dX5_leastRacks_17 : decode cX5_leastRacks 17 = .ok (.iload_n 3, 1) := by decide +kernel
theorem dX5_leastRacks_18 : decode cX5_leastRacks 18 = .ok (.ifCond .ne 43, 3) := by decide +kernel
theorem dX5_leastRacks_21 : decode cX5_leastRacks 21 = .ok (.iinc 2 1, 3) := by decide +kernel
theorem dX5_leastRacks_24 : decode cX5_leastRacks 24 = .ok (.aload_n 0, 1) := by decide +kernel
theorem dX5_leastRacks_25 : decode cX5_leastRacks 25 = .ok (.getfield 7, 3) := by decide +kernel
theorem dX5_leastRacks_28 : decode cX5_leastRacks 28 = .ok (.iconst 5, 1) := by decide +kernel
theorem dX5_leastRacks_29 : decode cX5_leastRacks 29 = .ok (.iload_n 2, 1) := by decide +kernel
theorem dX5_leastRacks_30 : decode cX5_leastRacks 30 = .ok (.iastore, 1) := by decide +kernel
theorem dX5_leastRacks_31 : decode cX5_leastRacks 31 = .ok (.aload_n 0, 1) := by decide +kernel
theorem dX5_leastRacks_32 : decode cX5_leastRacks 32 = .ok (.invokevirtual 109, 3) := by decide +kernel
theorem dX5_leastRacks_35 : decode cX5_leastRacks 35 = .ok (.iload_n 2, 1) := by decide +kernel
theorem dX5_leastRacks_36 : decode cX5_leastRacks 36 = .ok (.if_icmp .gt (-25), 3) := by decide +kernel
theorem dX5_leastRacks_39 : decode cX5_leastRacks 39 = .ok (.aload_n 0, 1) := by decide +kernel
theorem dX5_leastRacks_40 : decode cX5_leastRacks 40 = .ok (.invokevirtual 87, 3) := by decide +kernel
theorem dX5_leastRacks_43 : decode cX5_leastRacks 43 = .ok (.aload_n 0, 1) := by decide +kernel
theorem dX5_leastRacks_44 : decode cX5_leastRacks 44 = .ok (.bipush 16, 2) := by decide +kernel
theorem dX5_leastRacks_46 : decode cX5_leastRacks 46 = .ok (.invokevirtual 90, 3) := by decide +kernel
theorem dX5_leastRacks_49 : decode cX5_leastRacks 49 = .ok (.ifCond .ne 7, 3) := by decide +kernel
theorem dX5_leastRacks_52 : decode cX5_leastRacks 52 = .ok (.iconst 1, 1) := by decide +kernel
theorem dX5_leastRacks_53 : decode cX5_leastRacks 53 = .ok (.goto 4, 3) := by decide +kernel
theorem dX5_leastRacks_56 : decode cX5_leastRacks 56 = .ok (.iconst 0, 1) := by decide +kernel
theorem dX5_leastRacks_57 : decode cX5_leastRacks 57 = .ok (.istore_n 3, 1) := by decide +kernel
theorem dX5_leastRacks_58 : decode cX5_leastRacks 58 = .ok (.goto (-47), 3) := by decide +kernel
theorem dX5_leastRacks_61 : decode cX5_leastRacks 61 = .ok (.aload_n 0, 1) := by decide +kernel
theorem dX5_leastRacks_62 : decode cX5_leastRacks 62 = .ok (.getfield 7, 3) := by decide +kernel
theorem dX5_leastRacks_65 : decode cX5_leastRacks 65 = .ok (.iconst 5, 1) := by decide +kernel
theorem dX5_leastRacks_66 : decode cX5_leastRacks 66 = .ok (.iload_n 1, 1) := by decide +kernel
theorem dX5_leastRacks_67 : decode cX5_leastRacks 67 = .ok (.iastore, 1) := by decide +kernel
theorem dX5_leastRacks_68 : decode cX5_leastRacks 68 = .ok (.iload_n 3, 1) := by decide +kernel
theorem dX5_leastRacks_69 : decode cX5_leastRacks 69 = .ok (.ifCond .eq 7, 3) := by decide +kernel
theorem dX5_leastRacks_72 : decode cX5_leastRacks 72 = .ok (.iload_n 2, 1) := by decide +kernel
theorem dX5_leastRacks_73 : decode cX5_leastRacks 73 = .ok (.goto 5, 3) := by decide +kernel
theorem dX5_leastRacks_76 : decode cX5_leastRacks 76 = .ok (.bipush (-6), 2) := by decide +kernel
theorem dX5_leastRacks_78 : decode cX5_leastRacks 78 = .ok (.ireturn, 1) := by decide +kernel
set_option maxRecDepth 20000 in
theorem ggX5_charactersOf_X5_in : GoodIn wsX5_charactersOf wsX5_in := goodIn_r _ [7] (by decide +kernel) (by decide +kernel)
set_option maxRecDepth 20000 in
theorem gX5_charactersOf_X5_in : GoodIn wsX5_charactersOf (va_wsS RX5 44 yX5_in wsX5_in) := goodIn_app (goodIn_of _ (by decide +kernel)) ggX5_charactersOf_X5_in
theorem dX5_charactersOf_0 : decode cX5_charactersOf 0 = .ok (.lload_n 0, 1) := by decide +kernel
theorem dX5_charactersOf_1 : decode cX5_charactersOf 1 = .ok (.lstore_n 2, 1) := by decide +kernel
theorem dX5_charactersOf_2 : decode cX5_charactersOf 2 = .ok (.iconst 0, 1) := by decide +kernel
theorem dX5_charactersOf_3 : decode cX5_charactersOf 3 = .ok (.istore 4, 2) := by decide +kernel
theorem dX5_charactersOf_5 : decode cX5_charactersOf 5 = .ok (.iload 4, 2) := by decide +kernel
theorem dX5_charactersOf_7 : decode cX5_charactersOf 7 = .ok (.bipush 8, 2) := by decide +kernel
theorem dX5_charactersOf_9 : decode cX5_charactersOf 9 = .ok (.if_icmp .ge 31, 3) := by decide +kernel
theorem dX5_charactersOf_12 : decode cX5_charactersOf 12 = .ok (.lload_n 2, 1) := by decide +kernel
theorem dX5_charactersOf_13 : decode cX5_charactersOf 13 = .ok (.ldc2_w 159, 3) := by decide +kernel
theorem dX5_charactersOf_16 : decode cX5_charactersOf 16 = .ok (.land, 1) := by decide +kernel
theorem dX5_charactersOf_17 : decode cX5_charactersOf 17 = .ok (.ldc2_w 161, 3) := by decide +kernel
theorem dX5_charactersOf_20 : decode cX5_charactersOf 20 = .ok (.ldc2_w 163, 3) := by decide +kernel
theorem dX5_charactersOf_23 : decode cX5_charactersOf 23 = .ok (.invokestatic 44, 3) := by decide +kernel
theorem dX5_charactersOf_26 : decode cX5_charactersOf 26 = .ok (.ifCond .eq 14, 3) := by decide +kernel
theorem dX5_charactersOf_29 : decode cX5_charactersOf 29 = .ok (.lload_n 2, 1) := by decide +kernel
theorem dX5_charactersOf_30 : decode cX5_charactersOf 30 = .ok (.bipush 8, 2) := by decide +kernel
theorem dX5_charactersOf_32 : decode cX5_charactersOf 32 = .ok (.lushr, 1) := by decide +kernel
theorem dX5_charactersOf_33 : decode cX5_charactersOf 33 = .ok (.lstore_n 2, 1) := by decide +kernel
theorem dX5_charactersOf_34 : decode cX5_charactersOf 34 = .ok (.iinc 4 1, 3) := by decide +kernel
theorem dX5_charactersOf_37 : decode cX5_charactersOf 37 = .ok (.goto (-32), 3) := by decide +kernel
theorem dX5_charactersOf_40 : decode cX5_charactersOf 40 = .ok (.lload_n 2, 1) := by decide +kernel
theorem dX5_charactersOf_41 : decode cX5_charactersOf 41 = .ok (.lconst 0, 1) := by decide +kernel
theorem dX5_charactersOf_42 : decode cX5_charactersOf 42 = .ok (.lcmp, 1) := by decide +kernel
theorem dX5_charactersOf_43 : decode cX5_charactersOf 43 = .ok (.ifCond .ne 8, 3) := by decide +kernel
theorem dX5_charactersOf_46 : decode cX5_charactersOf 46 = .ok (.iload 4, 2) := by decide +kernel
theorem dX5_charactersOf_48 : decode cX5_charactersOf 48 = .ok (.goto 4, 3) := by decide +kernel
theorem dX5_charactersOf_51 : decode cX5_charactersOf 51 = .ok (.iconst 0, 1) := by decide +kernel
theorem dX5_charactersOf_52 : decode cX5_charactersOf 52 = .ok (.ireturn, 1) := by decide +kernel
set_option maxRecDepth 20000 in
theorem ggX5_put_X5_charactersOf : GoodIn wsX5_put wsX5_charactersOf := goodIn_r _ [7, 3, 8, 9, 10, 11, 6, 12] (by decide +kernel) (by decide +kernel)
set_option maxRecDepth 20000 in
theorem gX5_put_X5_charactersOf : GoodIn wsX5_put (va_wsS RX5 165 yX5_charactersOf wsX5_charactersOf) := goodIn_app (goodIn_of _ (by decide +kernel)) ggX5_put_X5_charactersOf
theorem dX5_put_0 : decode cX5_put 0 = .ok (.lload_n 1, 1) := by decide +kernel
theorem dX5_put_1 : decode cX5_put 1 = .ok (.invokestatic 165, 3) := by decide +kernel
theorem dX5_put_4 : decode cX5_put 4 = .ok (.istore_n 3, 1) := by decide +kernel
theorem dX5_put_5 : decode cX5_put 5 = .ok (.iload_n 3, 1) := by decide +kernel
theorem dX5_put_6 : decode cX5_put 6 = .ok (.ifCond .ne 6, 3) := by decide +kernel
theorem dX5_put_9 : decode cX5_put 9 = .ok (.bipush (-2), 2) := by decide +kernel
theorem dX5_put_11 : decode cX5_put 11 = .ok (.ireturn, 1) := by decide +kernel
theorem dX5_put_12 : decode cX5_put 12 = .ok (.aload_n 0, 1) := by decide +kernel
theorem dX5_put_13 : decode cX5_put 13 = .ok (.getfield 144, 3) := by decide +kernel
theorem dX5_put_16 : decode cX5_put 16 = .ok (.iload_n 3, 1) := by decide +kernel
theorem dX5_put_17 : decode cX5_put 17 = .ok (.iadd, 1) := by decide +kernel
theorem dX5_put_18 : decode cX5_put 18 = .ok (.bipush 60, 2) := by decide +kernel
theorem dX5_put_20 : decode cX5_put 20 = .ok (.if_icmp .le 6, 3) := by decide +kernel
theorem dX5_put_23 : decode cX5_put 23 = .ok (.bipush (-4), 2) := by decide +kernel
theorem dX5_put_25 : decode cX5_put 25 = .ok (.ireturn, 1) := by decide +kernel
theorem dX5_put_26 : decode cX5_put 26 = .ok (.iconst 0, 1) := by decide +kernel
theorem dX5_put_27 : decode cX5_put 27 = .ok (.istore 4, 2) := by decide +kernel
theorem dX5_put_29 : decode cX5_put 29 = .ok (.iload 4, 2) := by decide +kernel
theorem dX5_put_31 : decode cX5_put 31 = .ok (.iload_n 3, 1) := by decide +kernel
theorem dX5_put_32 : decode cX5_put 32 = .ok (.if_icmp .ge 37, 3) := by decide +kernel
theorem dX5_put_35 : decode cX5_put 35 = .ok (.aload_n 0, 1) := by decide +kernel
theorem dX5_put_36 : decode cX5_put 36 = .ok (.getfield 34, 3) := by decide +kernel
theorem dX5_put_39 : decode cX5_put 39 = .ok (.aload_n 0, 1) := by decide +kernel
theorem dX5_put_40 : decode cX5_put 40 = .ok (.getfield 144, 3) := by decide +kernel
theorem dX5_put_43 : decode cX5_put 43 = .ok (.iload 4, 2) := by decide +kernel
theorem dX5_put_45 : decode cX5_put 45 = .ok (.iadd, 1) := by decide +kernel
theorem dX5_put_46 : decode cX5_put 46 = .ok (.lload_n 1, 1) := by decide +kernel
theorem dX5_put_47 : decode cX5_put 47 = .ok (.bipush 8, 2) := by decide +kernel
theorem dX5_put_49 : decode cX5_put 49 = .ok (.iload_n 3, 1) := by decide +kernel
theorem dX5_put_50 : decode cX5_put 50 = .ok (.iconst 1, 1) := by decide +kernel
theorem dX5_put_51 : decode cX5_put 51 = .ok (.isub, 1) := by decide +kernel
theorem dX5_put_52 : decode cX5_put 52 = .ok (.iload 4, 2) := by decide +kernel
theorem dX5_put_54 : decode cX5_put 54 = .ok (.isub, 1) := by decide +kernel
theorem dX5_put_55 : decode cX5_put 55 = .ok (.imul, 1) := by decide +kernel
theorem dX5_put_56 : decode cX5_put 56 = .ok (.lushr, 1) := by decide +kernel
theorem dX5_put_57 : decode cX5_put 57 = .ok (.ldc2_w 159, 3) := by decide +kernel
theorem dX5_put_60 : decode cX5_put 60 = .ok (.land, 1) := by decide +kernel
theorem dX5_put_61 : decode cX5_put 61 = .ok (.l2i, 1) := by decide +kernel
theorem dX5_put_62 : decode cX5_put 62 = .ok (.iastore, 1) := by decide +kernel
theorem dX5_put_63 : decode cX5_put 63 = .ok (.iinc 4 1, 3) := by decide +kernel
theorem dX5_put_66 : decode cX5_put 66 = .ok (.goto (-37), 3) := by decide +kernel
theorem dX5_put_69 : decode cX5_put 69 = .ok (.aload_n 0, 1) := by decide +kernel
theorem dX5_put_70 : decode cX5_put 70 = .ok (.dup, 1) := by decide +kernel
theorem dX5_put_71 : decode cX5_put 71 = .ok (.getfield 144, 3) := by decide +kernel
theorem dX5_put_74 : decode cX5_put 74 = .ok (.iload_n 3, 1) := by decide +kernel
theorem dX5_put_75 : decode cX5_put 75 = .ok (.iadd, 1) := by decide +kernel
theorem dX5_put_76 : decode cX5_put 76 = .ok (.putfield 144, 3) := by decide +kernel
theorem dX5_put_79 : decode cX5_put 79 = .ok (.aload_n 0, 1) := by decide +kernel
theorem dX5_put_80 : decode cX5_put 80 = .ok (.getfield 144, 3) := by decide +kernel
theorem dX5_put_83 : decode cX5_put 83 = .ok (.ireturn, 1) := by decide +kernel
theorem dX5_wipe_0 : decode cX5_wipe 0 = .ok (.aload_n 0, 1) := by decide +kernel
theorem dX5_wipe_1 : decode cX5_wipe 1 = .ok (.getfield 144, 3) := by decide +kernel
theorem dX5_wipe_4 : decode cX5_wipe 4 = .ok (.istore_n 1, 1) := by decide +kernel
theorem dX5_wipe_5 : decode cX5_wipe 5 = .ok (.aload_n 0, 1) := by decide +kernel
theorem dX5_wipe_6 : decode cX5_wipe 6 = .ok (.iconst 0, 1) := by decide +kernel
theorem dX5_wipe_7 : decode cX5_wipe 7 = .ok (.putfield 144, 3) := by decide +kernel
theorem dX5_wipe_10 : decode cX5_wipe 10 = .ok (.iload_n 1, 1) := by decide +kernel
theorem dX5_wipe_11 : decode cX5_wipe 11 = .ok (.ireturn, 1) := by decide +kernel
set_option maxRecDepth 20000 in
theorem ggX5_isHere_X5_in : GoodIn wsX5_isHere wsX5_in := goodIn_r _ [7] (by decide +kernel) (by decide +kernel)
set_option maxRecDepth 20000 in
theorem gX5_isHere_X5_in : GoodIn wsX5_isHere (va_wsS RX5 44 yX5_in wsX5_in) := goodIn_app (goodIn_of _ (by decide +kernel)) ggX5_isHere_X5_in
theorem dX5_isHere_0 : decode cX5_isHere 0 = .ok (.aload_n 0, 1) := by decide +kernel
theorem dX5_isHere_1 : decode cX5_isHere 1 = .ok (.getfield 169, 3) := by decide +kernel
theorem dX5_isHere_4 : decode cX5_isHere 4 = .ok (.aload_n 0, 1) := by decide +kernel
theorem dX5_isHere_5 : decode cX5_isHere 5 = .ok (.getfield 144, 3) := by decide +kernel
theorem dX5_isHere_8 : decode cX5_isHere 8 = .ok (.if_icmp .ge 27, 3) := by decide +kernel
theorem dX5_isHere_11 : decode cX5_isHere 11 = .ok (.aload_n 0, 1) := by decide +kernel
theorem dX5_isHere_12 : decode cX5_isHere 12 = .ok (.getfield 34, 3) := by decide +kernel
theorem dX5_isHere_15 : decode cX5_isHere 15 = .ok (.aload_n 0, 1) := by decide +kernel
theorem dX5_isHere_16 : decode cX5_isHere 16 = .ok (.getfield 169, 3) := by decide +kernel
theorem dX5_isHere_19 : decode cX5_isHere 19 = .ok (.iaload, 1) := by decide +kernel
theorem dX5_isHere_20 : decode cX5_isHere 20 = .ok (.i2l, 1) := by decide +kernel
theorem dX5_isHere_21 : decode cX5_isHere 21 = .ok (.iload_n 1, 1) := by decide +kernel
theorem dX5_isHere_22 : decode cX5_isHere 22 = .ok (.i2l, 1) := by decide +kernel
theorem dX5_isHere_23 : decode cX5_isHere 23 = .ok (.iload_n 2, 1) := by decide +kernel
theorem dX5_isHere_24 : decode cX5_isHere 24 = .ok (.i2l, 1) := by decide +kernel
theorem dX5_isHere_25 : decode cX5_isHere 25 = .ok (.invokestatic 44, 3) := by decide +kernel
theorem dX5_isHere_28 : decode cX5_isHere 28 = .ok (.ifCond .eq 7, 3) := by decide +kernel
theorem dX5_isHere_31 : decode cX5_isHere 31 = .ok (.iconst 1, 1) := by decide +kernel
theorem dX5_isHere_32 : decode cX5_isHere 32 = .ok (.goto 4, 3) := by decide +kernel
theorem dX5_isHere_35 : decode cX5_isHere 35 = .ok (.iconst 0, 1) := by decide +kernel
theorem dX5_isHere_36 : decode cX5_isHere 36 = .ok (.ireturn, 1) := by decide +kernel
set_option maxRecDepth 20000 in
theorem ggX5_takesOne_X5_isHere : GoodIn wsX5_takesOne wsX5_isHere := goodIn_r _ [6, 1, 7, 8, 9, 10, 5, 11, 12, 13, 14, 15, 16, 17, 18, 19, 20, 21, 22, 23, 24, 25] (by decide +kernel) (by decide +kernel)
set_option maxRecDepth 20000 in
theorem gX5_takesOne_X5_isHere : GoodIn wsX5_takesOne (wsV RX5 172 RX5 yX5_isHere wsX5_isHere) := goodIn_app (goodIn_of _ (by decide +kernel)) ggX5_takesOne_X5_isHere
theorem dX5_takesOne_0 : decode cX5_takesOne 0 = .ok (.aload_n 0, 1) := by decide +kernel
theorem dX5_takesOne_1 : decode cX5_takesOne 1 = .ok (.iload_n 1, 1) := by decide +kernel
theorem dX5_takesOne_2 : decode cX5_takesOne 2 = .ok (.iload_n 1, 1) := by decide +kernel
theorem dX5_takesOne_3 : decode cX5_takesOne 3 = .ok (.invokevirtual 172, 3) := by decide +kernel
theorem dX5_takesOne_6 : decode cX5_takesOne 6 = .ok (.istore_n 2, 1) := by decide +kernel
theorem dX5_takesOne_7 : decode cX5_takesOne 7 = .ok (.aload_n 0, 1) := by decide +kernel
theorem dX5_takesOne_8 : decode cX5_takesOne 8 = .ok (.dup, 1) := by decide +kernel
theorem dX5_takesOne_9 : decode cX5_takesOne 9 = .ok (.getfield 169, 3) := by decide +kernel
theorem dX5_takesOne_12 : decode cX5_takesOne 12 = .ok (.iload_n 2, 1) := by decide +kernel
theorem dX5_takesOne_13 : decode cX5_takesOne 13 = .ok (.ifCond .eq 7, 3) := by decide +kernel
theorem dX5_takesOne_16 : decode cX5_takesOne 16 = .ok (.iconst 1, 1) := by decide +kernel
theorem dX5_takesOne_17 : decode cX5_takesOne 17 = .ok (.goto 4, 3) := by decide +kernel
theorem dX5_takesOne_20 : decode cX5_takesOne 20 = .ok (.iconst 0, 1) := by decide +kernel
theorem dX5_takesOne_21 : decode cX5_takesOne 21 = .ok (.iadd, 1) := by decide +kernel
theorem dX5_takesOne_22 : decode cX5_takesOne 22 = .ok (.putfield 169, 3) := by decide +kernel
theorem dX5_takesOne_25 : decode cX5_takesOne 25 = .ok (.iload_n 2, 1) := by decide +kernel
theorem dX5_takesOne_26 : decode cX5_takesOne 26 = .ok (.ireturn, 1) := by decide +kernel
set_option maxRecDepth 20000 in
theorem ggX5_readsNumber_X5_takesOne : GoodIn wsX5_readsNumber wsX5_takesOne := goodIn_r _ [9, 2, 10, 11, 12, 8, 13, 14, 1, 15, 16, 17, 18, 19, 20, 21, 22, 23, 24, 25, 26, 27, 28, 29, 30, 31] (by decide +kernel) (by decide +kernel)
set_option maxRecDepth 20000 in
theorem gX5_readsNumber_X5_takesOne : GoodIn wsX5_readsNumber (wsV RX5 175 RX5 yX5_takesOne wsX5_takesOne) := goodIn_app (goodIn_of _ (by decide +kernel)) ggX5_readsNumber_X5_takesOne
set_option maxRecDepth 20000 in
theorem ggX5_readsNumber_X5_isHere : GoodIn wsX5_readsNumber wsX5_isHere := goodIn_r _ [13, 2, 14, 1, 15, 16, 8, 17, 18, 19, 20, 21, 22, 23, 24, 25, 26, 27, 28, 29, 30, 31] (by decide +kernel) (by decide +kernel)
set_option maxRecDepth 20000 in
theorem gX5_readsNumber_X5_isHere : GoodIn wsX5_readsNumber (wsV RX5 172 RX5 yX5_isHere wsX5_isHere) := goodIn_app (goodIn_of _ (by decide +kernel)) ggX5_readsNumber_X5_isHere
theorem dX5_readsNumber_0 : decode cX5_readsNumber 0 = .ok (.aload_n 0, 1) := by decide +kernel
theorem dX5_readsNumber_1 : decode cX5_readsNumber 1 = .ok (.iload_n 1, 1) := by decide +kernel
theorem dX5_readsNumber_2 : decode cX5_readsNumber 2 = .ok (.invokevirtual 175, 3) := by decide +kernel
theorem dX5_readsNumber_5 : decode cX5_readsNumber 5 = .ok (.ifCond .eq 16, 3) := by decide +kernel
theorem dX5_readsNumber_8 : decode cX5_readsNumber 8 = .ok (.aload_n 0, 1) := by decide +kernel
theorem dX5_readsNumber_9 : decode cX5_readsNumber 9 = .ok (.bipush 48, 2) := by decide +kernel
theorem dX5_readsNumber_11 : decode cX5_readsNumber 11 = .ok (.iload_n 3, 1) := by decide +kernel
theorem dX5_readsNumber_12 : decode cX5_readsNumber 12 = .ok (.iadd, 1) := by decide +kernel
theorem dX5_readsNumber_13 : decode cX5_readsNumber 13 = .ok (.bipush 57, 2) := by decide +kernel
theorem dX5_readsNumber_15 : decode cX5_readsNumber 15 = .ok (.invokevirtual 172, 3) := by decide +kernel
theorem dX5_readsNumber_18 : decode cX5_readsNumber 18 = .ok (.ifCond .ne 5, 3) := by decide +kernel
theorem dX5_readsNumber_21 : decode cX5_readsNumber 21 = .ok (.iconst 0, 1) := by decide +kernel
theorem dX5_readsNumber_22 : decode cX5_readsNumber 22 = .ok (.ireturn, 1) := by decide +kernel
theorem dX5_readsNumber_23 : decode cX5_readsNumber 23 = .ok (.aload_n 0, 1) := by decide +kernel
theorem dX5_readsNumber_24 : decode cX5_readsNumber 24 = .ok (.getfield 34, 3) := by decide +kernel
theorem dX5_readsNumber_27 : decode cX5_readsNumber 27 = .ok (.aload_n 0, 1) := by decide +kernel
theorem dX5_readsNumber_28 : decode cX5_readsNumber 28 = .ok (.getfield 169, 3) := by decide +kernel
theorem dX5_readsNumber_31 : decode cX5_readsNumber 31 = .ok (.iaload, 1) := by decide +kernel
theorem dX5_readsNumber_32 : decode cX5_readsNumber 32 = .ok (.bipush 48, 2) := by decide +kernel
theorem dX5_readsNumber_34 : decode cX5_readsNumber 34 = .ok (.isub, 1) := by decide +kernel
theorem dX5_readsNumber_35 : decode cX5_readsNumber 35 = .ok (.istore 5, 2) := by decide +kernel
theorem dX5_readsNumber_37 : decode cX5_readsNumber 37 = .ok (.aload_n 0, 1) := by decide +kernel
theorem dX5_readsNumber_38 : decode cX5_readsNumber 38 = .ok (.dup, 1) := by decide +kernel
theorem dX5_readsNumber_39 : decode cX5_readsNumber 39 = .ok (.getfield 169, 3) := by decide +kernel
theorem dX5_readsNumber_42 : decode cX5_readsNumber 42 = .ok (.iconst 1, 1) := by decide +kernel
theorem dX5_readsNumber_43 : decode cX5_readsNumber 43 = .ok (.iadd, 1) := by decide +kernel
theorem dX5_readsNumber_44 : decode cX5_readsNumber 44 = .ok (.putfield 169, 3) := by decide +kernel
theorem dX5_readsNumber_47 : decode cX5_readsNumber 47 = .ok (.iload 5, 2) := by decide +kernel
theorem dX5_readsNumber_49 : decode cX5_readsNumber 49 = .ok (.ifCond .le 70, 3) := by decide +kernel
theorem dX5_readsNumber_52 : decode cX5_readsNumber 52 = .ok (.aload_n 0, 1) := by decide +kernel
theorem dX5_readsNumber_53 : decode cX5_readsNumber 53 = .ok (.bipush 48, 2) := by decide +kernel
theorem dX5_readsNumber_55 : decode cX5_readsNumber 55 = .ok (.bipush 57, 2) := by decide +kernel
theorem dX5_readsNumber_57 : decode cX5_readsNumber 57 = .ok (.invokevirtual 172, 3) := by decide +kernel
theorem dX5_readsNumber_60 : decode cX5_readsNumber 60 = .ok (.ifCond .eq 59, 3) := by decide +kernel
theorem dX5_readsNumber_63 : decode cX5_readsNumber 63 = .ok (.bipush 10, 2) := by decide +kernel
theorem dX5_readsNumber_65 : decode cX5_readsNumber 65 = .ok (.iload 5, 2) := by decide +kernel
theorem dX5_readsNumber_67 : decode cX5_readsNumber 67 = .ok (.imul, 1) := by decide +kernel
theorem dX5_readsNumber_68 : decode cX5_readsNumber 68 = .ok (.aload_n 0, 1) := by decide +kernel
theorem dX5_readsNumber_69 : decode cX5_readsNumber 69 = .ok (.getfield 34, 3) := by decide +kernel
theorem dX5_readsNumber_72 : decode cX5_readsNumber 72 = .ok (.aload_n 0, 1) := by decide +kernel
theorem dX5_readsNumber_73 : decode cX5_readsNumber 73 = .ok (.getfield 169, 3) := by decide +kernel
theorem dX5_readsNumber_76 : decode cX5_readsNumber 76 = .ok (.iaload, 1) := by decide +kernel
theorem dX5_readsNumber_77 : decode cX5_readsNumber 77 = .ok (.iadd, 1) := by decide +kernel
theorem dX5_readsNumber_78 : decode cX5_readsNumber 78 = .ok (.bipush 48, 2) := by decide +kernel
theorem dX5_readsNumber_80 : decode cX5_readsNumber 80 = .ok (.isub, 1) := by decide +kernel
theorem dX5_readsNumber_81 : decode cX5_readsNumber 81 = .ok (.iload 4, 2) := by decide +kernel
theorem dX5_readsNumber_83 : decode cX5_readsNumber 83 = .ok (.if_icmp .gt 36, 3) := by decide +kernel
theorem dX5_readsNumber_86 : decode cX5_readsNumber 86 = .ok (.bipush 10, 2) := by decide +kernel
theorem dX5_readsNumber_88 : decode cX5_readsNumber 88 = .ok (.iload 5, 2) := by decide +kernel
theorem dX5_readsNumber_90 : decode cX5_readsNumber 90 = .ok (.imul, 1) := by decide +kernel
theorem dX5_readsNumber_91 : decode cX5_readsNumber 91 = .ok (.aload_n 0, 1) := by decide +kernel
theorem dX5_readsNumber_92 : decode cX5_readsNumber 92 = .ok (.getfield 34, 3) := by decide +kernel
theorem dX5_readsNumber_95 : decode cX5_readsNumber 95 = .ok (.aload_n 0, 1) := by decide +kernel
theorem dX5_readsNumber_96 : decode cX5_readsNumber 96 = .ok (.getfield 169, 3) := by decide +kernel
theorem dX5_readsNumber_99 : decode cX5_readsNumber 99 = .ok (.iaload, 1) := by decide +kernel
theorem dX5_readsNumber_100 : decode cX5_readsNumber 100 = .ok (.iadd, 1) := by decide +kernel
theorem dX5_readsNumber_101 : decode cX5_readsNumber 101 = .ok (.bipush 48, 2) := by decide +kernel
theorem dX5_readsNumber_103 : decode cX5_readsNumber 103 = .ok (.isub, 1) := by decide +kernel
theorem dX5_readsNumber_104 : decode cX5_readsNumber 104 = .ok (.istore 5, 2) := by decide +kernel
theorem dX5_readsNumber_106 : decode cX5_readsNumber 106 = .ok (.aload_n 0, 1) := by decide +kernel
theorem dX5_readsNumber_107 : decode cX5_readsNumber 107 = .ok (.dup, 1) := by decide +kernel
theorem dX5_readsNumber_108 : decode cX5_readsNumber 108 = .ok (.getfield 169, 3) := by decide +kernel
theorem dX5_readsNumber_111 : decode cX5_readsNumber 111 = .ok (.iconst 1, 1) := by decide +kernel
theorem dX5_readsNumber_112 : decode cX5_readsNumber 112 = .ok (.iadd, 1) := by decide +kernel
theorem dX5_readsNumber_113 : decode cX5_readsNumber 113 = .ok (.putfield 169, 3) := by decide +kernel
theorem dX5_readsNumber_116 : decode cX5_readsNumber 116 = .ok (.goto (-69), 3) := by decide +kernel
theorem dX5_readsNumber_119 : decode cX5_readsNumber 119 = .ok (.aload_n 0, 1) := by decide +kernel
theorem dX5_readsNumber_120 : decode cX5_readsNumber 120 = .ok (.getfield 37, 3) := by decide +kernel
theorem dX5_readsNumber_123 : decode cX5_readsNumber 123 = .ok (.iconst 4, 1) := by decide +kernel
theorem dX5_readsNumber_124 : decode cX5_readsNumber 124 = .ok (.aload_n 0, 1) := by decide +kernel
theorem dX5_readsNumber_125 : decode cX5_readsNumber 125 = .ok (.getfield 178, 3) := by decide +kernel
theorem dX5_readsNumber_128 : decode cX5_readsNumber 128 = .ok (.imul, 1) := by decide +kernel
theorem dX5_readsNumber_129 : decode cX5_readsNumber 129 = .ok (.iload_n 2, 1) := by decide +kernel
theorem dX5_readsNumber_130 : decode cX5_readsNumber 130 = .ok (.iadd, 1) := by decide +kernel
theorem dX5_readsNumber_131 : decode cX5_readsNumber 131 = .ok (.iload 5, 2) := by decide +kernel
theorem dX5_readsNumber_133 : decode cX5_readsNumber 133 = .ok (.iastore, 1) := by decide +kernel
theorem dX5_readsNumber_134 : decode cX5_readsNumber 134 = .ok (.iconst 1, 1) := by decide +kernel
theorem dX5_readsNumber_135 : decode cX5_readsNumber 135 = .ok (.ireturn, 1) := by decide +kernel
set_option maxRecDepth 20000 in
theorem ggX5_readsJob_X5_readsNumber : GoodIn wsX5_readsJob wsX5_readsNumber := goodIn_r _ [7, 8, 9, 1, 2, 10, 11, 12, 6, 13, 14, 15, 16, 17, 18, 19, 20, 21, 22, 23, 24, 25, 26, 27, 28, 29, 30, 31, 32, 33, 34, 35] (by decide +kernel) (by decide +kernel)
set_option maxRecDepth 20000 in
theorem gX5_readsJob_X5_readsNumber : GoodIn wsX5_readsJob (wsV RX5 181 RX5 yX5_readsNumber wsX5_readsNumber) := goodIn_app (goodIn_of _ (by decide +kernel)) ggX5_readsJob_X5_readsNumber
set_option maxRecDepth 20000 in
theorem ggX5_readsJob_X5_isHere : GoodIn wsX5_readsJob wsX5_isHere := goodIn_r _ [17, 9, 18, 8, 19, 20, 6, 21, 22, 23, 24, 25, 26, 27, 28, 29, 30, 31, 32, 33, 34, 35] (by decide +kernel) (by decide +kernel)
set_option maxRecDepth 20000 in
theorem gX5_readsJob_X5_isHere : GoodIn wsX5_readsJob (wsV RX5 172 RX5 yX5_isHere wsX5_isHere) := goodIn_app (goodIn_of _ (by decide +kernel)) ggX5_readsJob_X5_isHere
theorem dX5_readsJob_0 : decode cX5_readsJob 0 = .ok (.aload_n 0, 1) := by decide +kernel
theorem dX5_readsJob_1 : decode cX5_readsJob 1 = .ok (.getfield 37, 3) := by decide +kernel
theorem dX5_readsJob_4 : decode cX5_readsJob 4 = .ok (.iconst 4, 1) := by decide +kernel
theorem dX5_readsJob_5 : decode cX5_readsJob 5 = .ok (.aload_n 0, 1) := by decide +kernel
theorem dX5_readsJob_6 : decode cX5_readsJob 6 = .ok (.getfield 178, 3) := by decide +kernel
theorem dX5_readsJob_9 : decode cX5_readsJob 9 = .ok (.imul, 1) := by decide +kernel
theorem dX5_readsJob_10 : decode cX5_readsJob 10 = .ok (.iconst 3, 1) := by decide +kernel
theorem dX5_readsJob_11 : decode cX5_readsJob 11 = .ok (.iadd, 1) := by decide +kernel
theorem dX5_readsJob_12 : decode cX5_readsJob 12 = .ok (.sipush 3000, 3) := by decide +kernel
theorem dX5_readsJob_15 : decode cX5_readsJob 15 = .ok (.iastore, 1) := by decide +kernel
theorem dX5_readsJob_16 : decode cX5_readsJob 16 = .ok (.aload_n 0, 1) := by decide +kernel
theorem dX5_readsJob_17 : decode cX5_readsJob 17 = .ok (.bipush 112, 2) := by decide +kernel
theorem dX5_readsJob_19 : decode cX5_readsJob 19 = .ok (.iconst 0, 1) := by decide +kernel
theorem dX5_readsJob_20 : decode cX5_readsJob 20 = .ok (.iconst 0, 1) := by decide +kernel
theorem dX5_readsJob_21 : decode cX5_readsJob 21 = .ok (.bipush 9, 2) := by decide +kernel
theorem dX5_readsJob_23 : decode cX5_readsJob 23 = .ok (.invokevirtual 181, 3) := by decide +kernel
theorem dX5_readsJob_26 : decode cX5_readsJob 26 = .ok (.ifCond .eq 58, 3) := by decide +kernel
theorem dX5_readsJob_29 : decode cX5_readsJob 29 = .ok (.aload_n 0, 1) := by decide +kernel
theorem dX5_readsJob_30 : decode cX5_readsJob 30 = .ok (.bipush 115, 2) := by decide +kernel
theorem dX5_readsJob_32 : decode cX5_readsJob 32 = .ok (.iconst 1, 1) := by decide +kernel
theorem dX5_readsJob_33 : decode cX5_readsJob 33 = .ok (.iconst 0, 1) := by decide +kernel
theorem dX5_readsJob_34 : decode cX5_readsJob 34 = .ok (.bipush 9, 2) := by decide +kernel
theorem dX5_readsJob_36 : decode cX5_readsJob 36 = .ok (.invokevirtual 181, 3) := by decide +kernel
theorem dX5_readsJob_39 : decode cX5_readsJob 39 = .ok (.ifCond .eq 45, 3) := by decide +kernel
theorem dX5_readsJob_42 : decode cX5_readsJob 42 = .ok (.aload_n 0, 1) := by decide +kernel
theorem dX5_readsJob_43 : decode cX5_readsJob 43 = .ok (.bipush 110, 2) := by decide +kernel
theorem dX5_readsJob_45 : decode cX5_readsJob 45 = .ok (.iconst 2, 1) := by decide +kernel
theorem dX5_readsJob_46 : decode cX5_readsJob 46 = .ok (.iconst 1, 1) := by decide +kernel
theorem dX5_readsJob_47 : decode cX5_readsJob 47 = .ok (.bipush 20, 2) := by decide +kernel
theorem dX5_readsJob_49 : decode cX5_readsJob 49 = .ok (.invokevirtual 181, 3) := by decide +kernel
theorem dX5_readsJob_52 : decode cX5_readsJob 52 = .ok (.ifCond .eq 32, 3) := by decide +kernel
theorem dX5_readsJob_55 : decode cX5_readsJob 55 = .ok (.aload_n 0, 1) := by decide +kernel
theorem dX5_readsJob_56 : decode cX5_readsJob 56 = .ok (.bipush 100, 2) := by decide +kernel
theorem dX5_readsJob_58 : decode cX5_readsJob 58 = .ok (.bipush 100, 2) := by decide +kernel
theorem dX5_readsJob_60 : decode cX5_readsJob 60 = .ok (.invokevirtual 172, 3) := by decide +kernel
theorem dX5_readsJob_63 : decode cX5_readsJob 63 = .ok (.ifCond .eq 17, 3) := by decide +kernel
theorem dX5_readsJob_66 : decode cX5_readsJob 66 = .ok (.aload_n 0, 1) := by decide +kernel
theorem dX5_readsJob_67 : decode cX5_readsJob 67 = .ok (.bipush 100, 2) := by decide +kernel
theorem dX5_readsJob_69 : decode cX5_readsJob 69 = .ok (.iconst 3, 1) := by decide +kernel
theorem dX5_readsJob_70 : decode cX5_readsJob 70 = .ok (.iconst 0, 1) := by decide +kernel
theorem dX5_readsJob_71 : decode cX5_readsJob 71 = .ok (.sipush 3000, 3) := by decide +kernel
theorem dX5_readsJob_74 : decode cX5_readsJob 74 = .ok (.invokevirtual 181, 3) := by decide +kernel
theorem dX5_readsJob_77 : decode cX5_readsJob 77 = .ok (.ifCond .eq 7, 3) := by decide +kernel
theorem dX5_readsJob_80 : decode cX5_readsJob 80 = .ok (.iconst 1, 1) := by decide +kernel
theorem dX5_readsJob_81 : decode cX5_readsJob 81 = .ok (.goto 4, 3) := by decide +kernel
theorem dX5_readsJob_84 : decode cX5_readsJob 84 = .ok (.iconst 0, 1) := by decide +kernel
theorem dX5_readsJob_85 : decode cX5_readsJob 85 = .ok (.istore_n 1, 1) := by decide +kernel
theorem dX5_readsJob_86 : decode cX5_readsJob 86 = .ok (.aload_n 0, 1) := by decide +kernel
theorem dX5_readsJob_87 : decode cX5_readsJob 87 = .ok (.dup, 1) := by decide +kernel
theorem dX5_readsJob_88 : decode cX5_readsJob 88 = .ok (.getfield 178, 3) := by decide +kernel
theorem dX5_readsJob_91 : decode cX5_readsJob 91 = .ok (.iload_n 1, 1) := by decide +kernel
theorem dX5_readsJob_92 : decode cX5_readsJob 92 = .ok (.ifCond .eq 7, 3) := by decide +kernel
theorem dX5_readsJob_95 : decode cX5_readsJob 95 = .ok (.iconst 1, 1) := by decide +kernel
theorem dX5_readsJob_96 : decode cX5_readsJob 96 = .ok (.goto 4, 3) := by decide +kernel
theorem dX5_readsJob_99 : decode cX5_readsJob 99 = .ok (.iconst 0, 1) := by decide +kernel
theorem dX5_readsJob_100 : decode cX5_readsJob 100 = .ok (.iadd, 1) := by decide +kernel
theorem dX5_readsJob_101 : decode cX5_readsJob 101 = .ok (.putfield 178, 3) := by decide +kernel
theorem dX5_readsJob_104 : decode cX5_readsJob 104 = .ok (.iload_n 1, 1) := by decide +kernel
theorem dX5_readsJob_105 : decode cX5_readsJob 105 = .ok (.ireturn, 1) := by decide +kernel
set_option maxRecDepth 20000 in
theorem ggX5_fault_X5_readsJob : GoodIn wsX5_fault wsX5_readsJob := goodIn_r _ [8, 9, 2, 10, 11, 12, 7, 13, 14, 1, 15, 16, 17, 18, 19, 20, 21, 22, 3, 23, 24, 25, 26, 27, 28, 29, 30, 31, 32, 33, 34, 35, 36, 37, 38, 39] (by decide +kernel) (by decide +kernel)
set_option maxRecDepth 20000 in
theorem gX5_fault_X5_readsJob : GoodIn wsX5_fault (wsV RX5 185 RX5 yX5_readsJob wsX5_readsJob) := goodIn_app (goodIn_of _ (by decide +kernel)) ggX5_fault_X5_readsJob
set_option maxRecDepth 20000 in
theorem ggX5_fault_X5_takesOne : GoodIn wsX5_fault wsX5_takesOne := goodIn_r _ [18, 1, 19, 20, 21, 7, 22, 3, 14, 23, 24, 25, 26, 27, 28, 29, 30, 31, 32, 33, 34, 35, 36, 37, 38, 39] (by decide +kernel) (by decide +kernel)
set_option maxRecDepth 20000 in
theorem gX5_fault_X5_takesOne : GoodIn wsX5_fault (wsV RX5 175 RX5 yX5_takesOne wsX5_takesOne) := goodIn_app (goodIn_of _ (by decide +kernel)) ggX5_fault_X5_takesOne
theorem dX5_fault_0 : decode cX5_fault 0 = .ok (.aload_n 0, 1) := by decide +kernel
theorem dX5_fault_1 : decode cX5_fault 1 = .ok (.iconst 0, 1) := by decide +kernel
theorem dX5_fault_2 : decode cX5_fault 2 = .ok (.putfield 169, 3) := by decide +kernel
theorem dX5_fault_5 : decode cX5_fault 5 = .ok (.aload_n 0, 1) := by decide +kernel
theorem dX5_fault_6 : decode cX5_fault 6 = .ok (.iconst 0, 1) := by decide +kernel
theorem dX5_fault_7 : decode cX5_fault 7 = .ok (.putfield 178, 3) := by decide +kernel
theorem dX5_fault_10 : decode cX5_fault 10 = .ok (.iconst 1, 1) := by decide +kernel
theorem dX5_fault_11 : decode cX5_fault 11 = .ok (.istore_n 1, 1) := by decide +kernel
theorem dX5_fault_12 : decode cX5_fault 12 = .ok (.iload_n 1, 1) := by decide +kernel
theorem dX5_fault_13 : decode cX5_fault 13 = .ok (.ifCond .eq 25, 3) := by decide +kernel
theorem dX5_fault_16 : decode cX5_fault 16 = .ok (.aload_n 0, 1) := by decide +kernel
theorem dX5_fault_17 : decode cX5_fault 17 = .ok (.invokevirtual 185, 3) := by decide +kernel
theorem dX5_fault_20 : decode cX5_fault 20 = .ok (.ifCond .ne 8, 3) := by decide +kernel
theorem dX5_fault_23 : decode cX5_fault 23 = .ok (.aload_n 0, 1) := by decide +kernel
theorem dX5_fault_24 : decode cX5_fault 24 = .ok (.getfield 169, 3) := by decide +kernel
theorem dX5_fault_27 : decode cX5_fault 27 = .ok (.ireturn, 1) := by decide +kernel
theorem dX5_fault_28 : decode cX5_fault 28 = .ok (.aload_n 0, 1) := by decide +kernel
theorem dX5_fault_29 : decode cX5_fault 29 = .ok (.bipush 59, 2) := by decide +kernel
theorem dX5_fault_31 : decode cX5_fault 31 = .ok (.invokevirtual 175, 3) := by decide +kernel
theorem dX5_fault_34 : decode cX5_fault 34 = .ok (.istore_n 1, 1) := by decide +kernel
theorem dX5_fault_35 : decode cX5_fault 35 = .ok (.goto (-23), 3) := by decide +kernel
theorem dX5_fault_38 : decode cX5_fault 38 = .ok (.aload_n 0, 1) := by decide +kernel
theorem dX5_fault_39 : decode cX5_fault 39 = .ok (.getfield 169, 3) := by decide +kernel
theorem dX5_fault_42 : decode cX5_fault 42 = .ok (.aload_n 0, 1) := by decide +kernel
theorem dX5_fault_43 : decode cX5_fault 43 = .ok (.getfield 144, 3) := by decide +kernel
theorem dX5_fault_46 : decode cX5_fault 46 = .ok (.if_icmp .ne 8, 3) := by decide +kernel
theorem dX5_fault_49 : decode cX5_fault 49 = .ok (.bipush (-6), 2) := by decide +kernel
theorem dX5_fault_51 : decode cX5_fault 51 = .ok (.goto 7, 3) := by decide +kernel
theorem dX5_fault_54 : decode cX5_fault 54 = .ok (.aload_n 0, 1) := by decide +kernel
theorem dX5_fault_55 : decode cX5_fault 55 = .ok (.getfield 169, 3) := by decide +kernel
theorem dX5_fault_58 : decode cX5_fault 58 = .ok (.ireturn, 1) := by decide +kernel
set_option maxRecDepth 20000 in
theorem ggX5_read_X5_fault : GoodIn wsX5_read wsX5_fault := goodIn_r _ [9, 10, 1, 4, 11, 12, 13, 8, 14, 2, 15, 16, 17, 18, 19, 20, 21, 22, 23, 24, 25, 26, 27, 28, 29, 30, 45, 46, 47, 48, 49, 50, 51, 52, 53, 54, 55, 56, 57, 58] (by decide +kernel) (by decide +kernel)
set_option maxRecDepth 20000 in
theorem gX5_read_X5_fault : GoodIn wsX5_read (wsV RX5 189 RX5 yX5_fault wsX5_fault) := goodIn_app (goodIn_of _ (by decide +kernel)) ggX5_read_X5_fault
set_option maxRecDepth 20000 in
theorem ggX5_read_X5_racksFor : GoodIn wsX5_read wsX5_racksFor := goodIn_r _ [34, 3, 45, 46, 47, 48, 49, 50, 51, 52, 53, 54, 55, 56, 57, 58] (by decide +kernel) (by decide +kernel)
set_option maxRecDepth 20000 in
theorem gX5_read_X5_racksFor : GoodIn wsX5_read (wsV RX5 52 RX5 yX5_racksFor wsX5_racksFor) := goodIn_app (goodIn_of _ (by decide +kernel)) ggX5_read_X5_racksFor
set_option maxRecDepth 20000 in
theorem ggX5_read_X5_changes : GoodIn wsX5_read wsX5_changes := goodIn_r _ [38, 39, 40, 3, 45, 46, 47, 48, 49, 50, 51, 52, 53, 54, 55, 56, 57, 58] (by decide +kernel) (by decide +kernel)
set_option maxRecDepth 20000 in
theorem gX5_read_X5_changes : GoodIn wsX5_read (wsV RX5 113 RX5 yX5_changes wsX5_changes) := goodIn_app (goodIn_of _ (by decide +kernel)) ggX5_read_X5_changes
set_option maxRecDepth 20000 in
theorem ggX5_read_X5_puts : GoodIn wsX5_read wsX5_puts := goodIn_r _ [44, 3, 45, 46, 47, 48, 49, 50, 51, 52, 53, 54, 55, 56, 57, 58] (by decide +kernel) (by decide +kernel)
set_option maxRecDepth 20000 in
theorem gX5_read_X5_puts : GoodIn wsX5_read (wsV RX5 118 RX5 yX5_puts wsX5_puts) := goodIn_app (goodIn_of _ (by decide +kernel)) ggX5_read_X5_puts
theorem dX5_read_0 : decode cX5_read 0 = .ok (.aload_n 0, 1) := by decide +kernel
theorem dX5_read_1 : decode cX5_read 1 = .ok (.invokevirtual 189, 3) := by decide +kernel
theorem dX5_read_4 : decode cX5_read 4 = .ok (.bipush (-6), 2) := by decide +kernel
theorem dX5_read_6 : decode cX5_read 6 = .ok (.if_icmp .eq 6, 3) := by decide +kernel
theorem dX5_read_9 : decode cX5_read 9 = .ok (.bipush (-3), 2) := by decide +kernel
theorem dX5_read_11 : decode cX5_read 11 = .ok (.ireturn, 1) := by decide +kernel
theorem dX5_read_12 : decode cX5_read 12 = .ok (.iconst 0, 1) := by decide +kernel
theorem dX5_read_13 : decode cX5_read 13 = .ok (.istore_n 1, 1) := by decide +kernel
theorem dX5_read_14 : decode cX5_read 14 = .ok (.iload_n 1, 1) := by decide +kernel
theorem dX5_read_15 : decode cX5_read 15 = .ok (.aload_n 0, 1) := by decide +kernel
theorem dX5_read_16 : decode cX5_read 16 = .ok (.getfield 178, 3) := by decide +kernel
theorem dX5_read_19 : decode cX5_read 19 = .ok (.if_icmp .ge 35, 3) := by decide +kernel
theorem dX5_read_22 : decode cX5_read 22 = .ok (.aload_n 0, 1) := by decide +kernel
theorem dX5_read_23 : decode cX5_read 23 = .ok (.aload_n 0, 1) := by decide +kernel
theorem dX5_read_24 : decode cX5_read 24 = .ok (.getfield 37, 3) := by decide +kernel
theorem dX5_read_27 : decode cX5_read 27 = .ok (.iconst 4, 1) := by decide +kernel
theorem dX5_read_28 : decode cX5_read 28 = .ok (.iload_n 1, 1) := by decide +kernel
theorem dX5_read_29 : decode cX5_read 29 = .ok (.imul, 1) := by decide +kernel
theorem dX5_read_30 : decode cX5_read 30 = .ok (.iconst 2, 1) := by decide +kernel
theorem dX5_read_31 : decode cX5_read 31 = .ok (.iadd, 1) := by decide +kernel
theorem dX5_read_32 : decode cX5_read 32 = .ok (.iaload, 1) := by decide +kernel
theorem dX5_read_33 : decode cX5_read 33 = .ok (.invokevirtual 52, 3) := by decide +kernel
theorem dX5_read_36 : decode cX5_read 36 = .ok (.aload_n 0, 1) := by decide +kernel
theorem dX5_read_37 : decode cX5_read 37 = .ok (.getfield 7, 3) := by decide +kernel
theorem dX5_read_40 : decode cX5_read 40 = .ok (.iconst 5, 1) := by decide +kernel
theorem dX5_read_41 : decode cX5_read 41 = .ok (.iaload, 1) := by decide +kernel
theorem dX5_read_42 : decode cX5_read 42 = .ok (.if_icmp .le 6, 3) := by decide +kernel
theorem dX5_read_45 : decode cX5_read 45 = .ok (.bipush (-5), 2) := by decide +kernel
theorem dX5_read_47 : decode cX5_read 47 = .ok (.ireturn, 1) := by decide +kernel
theorem dX5_read_48 : decode cX5_read 48 = .ok (.iinc 1 1, 3) := by decide +kernel
theorem dX5_read_51 : decode cX5_read 51 = .ok (.goto (-37), 3) := by decide +kernel
theorem dX5_read_54 : decode cX5_read 54 = .ok (.aload_n 0, 1) := by decide +kernel
theorem dX5_read_55 : decode cX5_read 55 = .ok (.getfield 7, 3) := by decide +kernel
theorem dX5_read_58 : decode cX5_read 58 = .ok (.bipush 7, 2) := by decide +kernel
theorem dX5_read_60 : decode cX5_read 60 = .ok (.iaload, 1) := by decide +kernel
theorem dX5_read_61 : decode cX5_read 61 = .ok (.aload_n 0, 1) := by decide +kernel
theorem dX5_read_62 : decode cX5_read 62 = .ok (.getfield 178, 3) := by decide +kernel
theorem dX5_read_65 : decode cX5_read 65 = .ok (.iadd, 1) := by decide +kernel
theorem dX5_read_66 : decode cX5_read 66 = .ok (.bipush 12, 2) := by decide +kernel
theorem dX5_read_68 : decode cX5_read 68 = .ok (.if_icmp .le 6, 3) := by decide +kernel
theorem dX5_read_71 : decode cX5_read 71 = .ok (.bipush (-4), 2) := by decide +kernel
theorem dX5_read_73 : decode cX5_read 73 = .ok (.ireturn, 1) := by decide +kernel
theorem dX5_read_74 : decode cX5_read 74 = .ok (.aload_n 0, 1) := by decide +kernel
theorem dX5_read_75 : decode cX5_read 75 = .ok (.invokevirtual 113, 3) := by decide +kernel
theorem dX5_read_78 : decode cX5_read 78 = .ok (.iconst 0, 1) := by decide +kernel
theorem dX5_read_79 : decode cX5_read 79 = .ok (.istore_n 1, 1) := by decide +kernel
theorem dX5_read_80 : decode cX5_read 80 = .ok (.iload_n 1, 1) := by decide +kernel
theorem dX5_read_81 : decode cX5_read 81 = .ok (.aload_n 0, 1) := by decide +kernel
theorem dX5_read_82 : decode cX5_read 82 = .ok (.getfield 178, 3) := by decide +kernel
theorem dX5_read_85 : decode cX5_read 85 = .ok (.if_icmp .ge 51, 3) := by decide +kernel
theorem dX5_read_88 : decode cX5_read 88 = .ok (.aload_n 0, 1) := by decide +kernel
theorem dX5_read_89 : decode cX5_read 89 = .ok (.aload_n 0, 1) := by decide +kernel
theorem dX5_read_90 : decode cX5_read 90 = .ok (.getfield 37, 3) := by decide +kernel
theorem dX5_read_93 : decode cX5_read 93 = .ok (.iconst 4, 1) := by decide +kernel
theorem dX5_read_94 : decode cX5_read 94 = .ok (.iload_n 1, 1) := by decide +kernel
theorem dX5_read_95 : decode cX5_read 95 = .ok (.imul, 1) := by decide +kernel
theorem dX5_read_96 : decode cX5_read 96 = .ok (.iaload, 1) := by decide +kernel
theorem dX5_read_97 : decode cX5_read 97 = .ok (.aload_n 0, 1) := by decide +kernel
theorem dX5_read_98 : decode cX5_read 98 = .ok (.getfield 37, 3) := by decide +kernel
theorem dX5_read_101 : decode cX5_read 101 = .ok (.iconst 4, 1) := by decide +kernel
theorem dX5_read_102 : decode cX5_read 102 = .ok (.iload_n 1, 1) := by decide +kernel
theorem dX5_read_103 : decode cX5_read 103 = .ok (.imul, 1) := by decide +kernel
theorem dX5_read_104 : decode cX5_read 104 = .ok (.iconst 1, 1) := by decide +kernel
theorem dX5_read_105 : decode cX5_read 105 = .ok (.iadd, 1) := by decide +kernel
theorem dX5_read_106 : decode cX5_read 106 = .ok (.iaload, 1) := by decide +kernel
theorem dX5_read_107 : decode cX5_read 107 = .ok (.aload_n 0, 1) := by decide +kernel
theorem dX5_read_108 : decode cX5_read 108 = .ok (.getfield 37, 3) := by decide +kernel
theorem dX5_read_111 : decode cX5_read 111 = .ok (.iconst 4, 1) := by decide +kernel
theorem dX5_read_112 : decode cX5_read 112 = .ok (.iload_n 1, 1) := by decide +kernel
theorem dX5_read_113 : decode cX5_read 113 = .ok (.imul, 1) := by decide +kernel
theorem dX5_read_114 : decode cX5_read 114 = .ok (.iconst 2, 1) := by decide +kernel
theorem dX5_read_115 : decode cX5_read 115 = .ok (.iadd, 1) := by decide +kernel
theorem dX5_read_116 : decode cX5_read 116 = .ok (.iaload, 1) := by decide +kernel
theorem dX5_read_117 : decode cX5_read 117 = .ok (.aload_n 0, 1) := by decide +kernel
theorem dX5_read_118 : decode cX5_read 118 = .ok (.getfield 37, 3) := by decide +kernel
theorem dX5_read_121 : decode cX5_read 121 = .ok (.iconst 4, 1) := by decide +kernel
theorem dX5_read_122 : decode cX5_read 122 = .ok (.iload_n 1, 1) := by decide +kernel
theorem dX5_read_123 : decode cX5_read 123 = .ok (.imul, 1) := by decide +kernel
theorem dX5_read_124 : decode cX5_read 124 = .ok (.iconst 3, 1) := by decide +kernel
theorem dX5_read_125 : decode cX5_read 125 = .ok (.iadd, 1) := by decide +kernel
theorem dX5_read_126 : decode cX5_read 126 = .ok (.iaload, 1) := by decide +kernel
theorem dX5_read_127 : decode cX5_read 127 = .ok (.invokevirtual 118, 3) := by decide +kernel
theorem dX5_read_130 : decode cX5_read 130 = .ok (.iinc 1 1, 3) := by decide +kernel
theorem dX5_read_133 : decode cX5_read 133 = .ok (.goto (-53), 3) := by decide +kernel
theorem dX5_read_136 : decode cX5_read 136 = .ok (.aload_n 0, 1) := by decide +kernel
theorem dX5_read_137 : decode cX5_read 137 = .ok (.iconst 0, 1) := by decide +kernel
theorem dX5_read_138 : decode cX5_read 138 = .ok (.putfield 144, 3) := by decide +kernel
theorem dX5_read_141 : decode cX5_read 141 = .ok (.aload_n 0, 1) := by decide +kernel
theorem dX5_read_142 : decode cX5_read 142 = .ok (.getfield 7, 3) := by decide +kernel
theorem dX5_read_145 : decode cX5_read 145 = .ok (.bipush 7, 2) := by decide +kernel
theorem dX5_read_147 : decode cX5_read 147 = .ok (.iaload, 1) := by decide +kernel
theorem dX5_read_148 : decode cX5_read 148 = .ok (.ireturn, 1) := by decide +kernel
theorem dX5_undo_0 : decode cX5_undo 0 = .ok (.aload_n 0, 1) := by decide +kernel
theorem dX5_undo_1 : decode cX5_undo 1 = .ok (.getfield 40, 3) := by decide +kernel
theorem dX5_undo_4 : decode cX5_undo 4 = .ok (.ifCond .ne 6, 3) := by decide +kernel
theorem dX5_undo_7 : decode cX5_undo 7 = .ok (.bipush (-5), 2) := by decide +kernel
theorem dX5_undo_9 : decode cX5_undo 9 = .ok (.ireturn, 1) := by decide +kernel
theorem dX5_undo_10 : decode cX5_undo 10 = .ok (.aload_n 0, 1) := by decide +kernel
theorem dX5_undo_11 : decode cX5_undo 11 = .ok (.dup, 1) := by decide +kernel
theorem dX5_undo_12 : decode cX5_undo 12 = .ok (.getfield 40, 3) := by decide +kernel
theorem dX5_undo_15 : decode cX5_undo 15 = .ok (.iconst 1, 1) := by decide +kernel
theorem dX5_undo_16 : decode cX5_undo 16 = .ok (.isub, 1) := by decide +kernel
theorem dX5_undo_17 : decode cX5_undo 17 = .ok (.putfield 40, 3) := by decide +kernel
theorem dX5_undo_20 : decode cX5_undo 20 = .ok (.iconst 0, 1) := by decide +kernel
theorem dX5_undo_21 : decode cX5_undo 21 = .ok (.istore_n 1, 1) := by decide +kernel
theorem dX5_undo_22 : decode cX5_undo 22 = .ok (.iload_n 1, 1) := by decide +kernel
theorem dX5_undo_23 : decode cX5_undo 23 = .ok (.bipush 56, 2) := by decide +kernel
theorem dX5_undo_25 : decode cX5_undo 25 = .ok (.if_icmp .ge 29, 3) := by decide +kernel
theorem dX5_undo_28 : decode cX5_undo 28 = .ok (.aload_n 0, 1) := by decide +kernel
theorem dX5_undo_29 : decode cX5_undo 29 = .ok (.getfield 7, 3) := by decide +kernel
theorem dX5_undo_32 : decode cX5_undo 32 = .ok (.iload_n 1, 1) := by decide +kernel
theorem dX5_undo_33 : decode cX5_undo 33 = .ok (.aload_n 0, 1) := by decide +kernel
theorem dX5_undo_34 : decode cX5_undo 34 = .ok (.getfield 16, 3) := by decide +kernel
theorem dX5_undo_37 : decode cX5_undo 37 = .ok (.bipush 56, 2) := by decide +kernel
theorem dX5_undo_39 : decode cX5_undo 39 = .ok (.aload_n 0, 1) := by decide +kernel
theorem dX5_undo_40 : decode cX5_undo 40 = .ok (.getfield 40, 3) := by decide +kernel
theorem dX5_undo_43 : decode cX5_undo 43 = .ok (.imul, 1) := by decide +kernel
theorem dX5_undo_44 : decode cX5_undo 44 = .ok (.iload_n 1, 1) := by decide +kernel
theorem dX5_undo_45 : decode cX5_undo 45 = .ok (.iadd, 1) := by decide +kernel
theorem dX5_undo_46 : decode cX5_undo 46 = .ok (.iaload, 1) := by decide +kernel
theorem dX5_undo_47 : decode cX5_undo 47 = .ok (.iastore, 1) := by decide +kernel
theorem dX5_undo_48 : decode cX5_undo 48 = .ok (.iinc 1 1, 3) := by decide +kernel
theorem dX5_undo_51 : decode cX5_undo 51 = .ok (.goto (-29), 3) := by decide +kernel
theorem dX5_undo_54 : decode cX5_undo 54 = .ok (.aload_n 0, 1) := by decide +kernel
theorem dX5_undo_55 : decode cX5_undo 55 = .ok (.getfield 40, 3) := by decide +kernel
theorem dX5_undo_58 : decode cX5_undo 58 = .ok (.ireturn, 1) := by decide +kernel
theorem dX5_isSlot_0 : decode cX5_isSlot 0 = .ok (.iload_n 0, 1) := by decide +kernel
theorem dX5_isSlot_1 : decode cX5_isSlot 1 = .ok (.ifCond .eq 8, 3) := by decide +kernel
theorem dX5_isSlot_4 : decode cX5_isSlot 4 = .ok (.iload_n 0, 1) := by decide +kernel
theorem dX5_isSlot_5 : decode cX5_isSlot 5 = .ok (.iconst 1, 1) := by decide +kernel
theorem dX5_isSlot_6 : decode cX5_isSlot 6 = .ok (.if_icmp .ne 7, 3) := by decide +kernel
theorem dX5_isSlot_9 : decode cX5_isSlot 9 = .ok (.iconst 1, 1) := by decide +kernel
theorem dX5_isSlot_10 : decode cX5_isSlot 10 = .ok (.goto 4, 3) := by decide +kernel
theorem dX5_isSlot_13 : decode cX5_isSlot 13 = .ok (.iconst 0, 1) := by decide +kernel
theorem dX5_isSlot_14 : decode cX5_isSlot 14 = .ok (.ireturn, 1) := by decide +kernel
set_option maxRecDepth 20000 in
theorem ggX5_save_X5_isSlot : GoodIn wsX5_save wsX5_isSlot := goodIn_r _ [7] (by decide +kernel) (by decide +kernel)
set_option maxRecDepth 20000 in
theorem gX5_save_X5_isSlot : GoodIn wsX5_save (va_wsS RX5 192 yX5_isSlot wsX5_isSlot) := goodIn_app (goodIn_of _ (by decide +kernel)) ggX5_save_X5_isSlot
theorem dX5_save_0 : decode cX5_save 0 = .ok (.iload_n 1, 1) := by decide +kernel
theorem dX5_save_1 : decode cX5_save 1 = .ok (.invokestatic 192, 3) := by decide +kernel
theorem dX5_save_4 : decode cX5_save 4 = .ok (.ifCond .ne 6, 3) := by decide +kernel
theorem dX5_save_7 : decode cX5_save 7 = .ok (.bipush (-2), 2) := by decide +kernel
theorem dX5_save_9 : decode cX5_save 9 = .ok (.ireturn, 1) := by decide +kernel
theorem dX5_save_10 : decode cX5_save 10 = .ok (.iconst 0, 1) := by decide +kernel
theorem dX5_save_11 : decode cX5_save 11 = .ok (.istore_n 2, 1) := by decide +kernel
theorem dX5_save_12 : decode cX5_save 12 = .ok (.iload_n 2, 1) := by decide +kernel
theorem dX5_save_13 : decode cX5_save 13 = .ok (.bipush 56, 2) := by decide +kernel
theorem dX5_save_15 : decode cX5_save 15 = .ok (.if_icmp .ge 26, 3) := by decide +kernel
theorem dX5_save_18 : decode cX5_save 18 = .ok (.aload_n 0, 1) := by decide +kernel
theorem dX5_save_19 : decode cX5_save 19 = .ok (.getfield 19, 3) := by decide +kernel
theorem dX5_save_22 : decode cX5_save 22 = .ok (.bipush 56, 2) := by decide +kernel
theorem dX5_save_24 : decode cX5_save 24 = .ok (.iload_n 1, 1) := by decide +kernel
theorem dX5_save_25 : decode cX5_save 25 = .ok (.imul, 1) := by decide +kernel
theorem dX5_save_26 : decode cX5_save 26 = .ok (.iload_n 2, 1) := by decide +kernel
theorem dX5_save_27 : decode cX5_save 27 = .ok (.iadd, 1) := by decide +kernel
theorem dX5_save_28 : decode cX5_save 28 = .ok (.aload_n 0, 1) := by decide +kernel
theorem dX5_save_29 : decode cX5_save 29 = .ok (.getfield 7, 3) := by decide +kernel
theorem dX5_save_32 : decode cX5_save 32 = .ok (.iload_n 2, 1) := by decide +kernel
theorem dX5_save_33 : decode cX5_save 33 = .ok (.iaload, 1) := by decide +kernel
theorem dX5_save_34 : decode cX5_save 34 = .ok (.iastore, 1) := by decide +kernel
theorem dX5_save_35 : decode cX5_save 35 = .ok (.iinc 2 1, 3) := by decide +kernel
theorem dX5_save_38 : decode cX5_save 38 = .ok (.goto (-26), 3) := by decide +kernel
theorem dX5_save_41 : decode cX5_save 41 = .ok (.aload_n 0, 1) := by decide +kernel
theorem dX5_save_42 : decode cX5_save 42 = .ok (.getfield 22, 3) := by decide +kernel
theorem dX5_save_45 : decode cX5_save 45 = .ok (.iload_n 1, 1) := by decide +kernel
theorem dX5_save_46 : decode cX5_save 46 = .ok (.iconst 1, 1) := by decide +kernel
theorem dX5_save_47 : decode cX5_save 47 = .ok (.iastore, 1) := by decide +kernel
theorem dX5_save_48 : decode cX5_save 48 = .ok (.aload_n 0, 1) := by decide +kernel
theorem dX5_save_49 : decode cX5_save 49 = .ok (.getfield 7, 3) := by decide +kernel
theorem dX5_save_52 : decode cX5_save 52 = .ok (.bipush 7, 2) := by decide +kernel
theorem dX5_save_54 : decode cX5_save 54 = .ok (.iaload, 1) := by decide +kernel
theorem dX5_save_55 : decode cX5_save 55 = .ok (.ireturn, 1) := by decide +kernel
set_option maxRecDepth 20000 in
theorem ggX5_restore_X5_isSlot : GoodIn wsX5_restore wsX5_isSlot := goodIn_r _ [7] (by decide +kernel) (by decide +kernel)
set_option maxRecDepth 20000 in
theorem gX5_restore_X5_isSlot : GoodIn wsX5_restore (va_wsS RX5 192 yX5_isSlot wsX5_isSlot) := goodIn_app (goodIn_of _ (by decide +kernel)) ggX5_restore_X5_isSlot
set_option maxRecDepth 20000 in
theorem ggX5_restore_X5_changes : GoodIn wsX5_restore wsX5_changes := goodIn_r _ [11, 12, 13, 2, 14, 15, 16, 17, 18, 19, 20, 21, 22, 23, 24, 25, 26, 27] (by decide +kernel) (by decide +kernel)
set_option maxRecDepth 20000 in
theorem gX5_restore_X5_changes : GoodIn wsX5_restore (wsV RX5 113 RX5 yX5_changes wsX5_changes) := goodIn_app (goodIn_of _ (by decide +kernel)) ggX5_restore_X5_changes
theorem dX5_restore_0 : decode cX5_restore 0 = .ok (.iload_n 1, 1) := by decide +kernel
theorem dX5_restore_1 : decode cX5_restore 1 = .ok (.invokestatic 192, 3) := by decide +kernel
theorem dX5_restore_4 : decode cX5_restore 4 = .ok (.ifCond .ne 6, 3) := by decide +kernel
theorem dX5_restore_7 : decode cX5_restore 7 = .ok (.bipush (-2), 2) := by decide +kernel
theorem dX5_restore_9 : decode cX5_restore 9 = .ok (.ireturn, 1) := by decide +kernel
theorem dX5_restore_10 : decode cX5_restore 10 = .ok (.aload_n 0, 1) := by decide +kernel
theorem dX5_restore_11 : decode cX5_restore 11 = .ok (.getfield 22, 3) := by decide +kernel
theorem dX5_restore_14 : decode cX5_restore 14 = .ok (.iload_n 1, 1) := by decide +kernel
theorem dX5_restore_15 : decode cX5_restore 15 = .ok (.iaload, 1) := by decide +kernel
theorem dX5_restore_16 : decode cX5_restore 16 = .ok (.ifCond .ne 6, 3) := by decide +kernel
theorem dX5_restore_19 : decode cX5_restore 19 = .ok (.bipush (-5), 2) := by decide +kernel
theorem dX5_restore_21 : decode cX5_restore 21 = .ok (.ireturn, 1) := by decide +kernel
theorem dX5_restore_22 : decode cX5_restore 22 = .ok (.aload_n 0, 1) := by decide +kernel
theorem dX5_restore_23 : decode cX5_restore 23 = .ok (.invokevirtual 113, 3) := by decide +kernel
theorem dX5_restore_26 : decode cX5_restore 26 = .ok (.iconst 0, 1) := by decide +kernel
theorem dX5_restore_27 : decode cX5_restore 27 = .ok (.istore_n 2, 1) := by decide +kernel
theorem dX5_restore_28 : decode cX5_restore 28 = .ok (.iload_n 2, 1) := by decide +kernel
theorem dX5_restore_29 : decode cX5_restore 29 = .ok (.bipush 56, 2) := by decide +kernel
theorem dX5_restore_31 : decode cX5_restore 31 = .ok (.if_icmp .ge 26, 3) := by decide +kernel
theorem dX5_restore_34 : decode cX5_restore 34 = .ok (.aload_n 0, 1) := by decide +kernel
theorem dX5_restore_35 : decode cX5_restore 35 = .ok (.getfield 7, 3) := by decide +kernel
theorem dX5_restore_38 : decode cX5_restore 38 = .ok (.iload_n 2, 1) := by decide +kernel
theorem dX5_restore_39 : decode cX5_restore 39 = .ok (.aload_n 0, 1) := by decide +kernel
theorem dX5_restore_40 : decode cX5_restore 40 = .ok (.getfield 19, 3) := by decide +kernel
theorem dX5_restore_43 : decode cX5_restore 43 = .ok (.bipush 56, 2) := by decide +kernel
theorem dX5_restore_45 : decode cX5_restore 45 = .ok (.iload_n 1, 1) := by decide +kernel
theorem dX5_restore_46 : decode cX5_restore 46 = .ok (.imul, 1) := by decide +kernel
theorem dX5_restore_47 : decode cX5_restore 47 = .ok (.iload_n 2, 1) := by decide +kernel
theorem dX5_restore_48 : decode cX5_restore 48 = .ok (.iadd, 1) := by decide +kernel
theorem dX5_restore_49 : decode cX5_restore 49 = .ok (.iaload, 1) := by decide +kernel
theorem dX5_restore_50 : decode cX5_restore 50 = .ok (.iastore, 1) := by decide +kernel
theorem dX5_restore_51 : decode cX5_restore 51 = .ok (.iinc 2 1, 3) := by decide +kernel
theorem dX5_restore_54 : decode cX5_restore 54 = .ok (.goto (-26), 3) := by decide +kernel
theorem dX5_restore_57 : decode cX5_restore 57 = .ok (.aload_n 0, 1) := by decide +kernel
theorem dX5_restore_58 : decode cX5_restore 58 = .ok (.getfield 7, 3) := by decide +kernel
theorem dX5_restore_61 : decode cX5_restore 61 = .ok (.bipush 7, 2) := by decide +kernel
theorem dX5_restore_63 : decode cX5_restore 63 = .ok (.iaload, 1) := by decide +kernel
theorem dX5_restore_64 : decode cX5_restore 64 = .ok (.ireturn, 1) := by decide +kernel
